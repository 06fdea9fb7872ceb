section
-- ===== PART A: goes FIRST, ahead of the names: the tables' words, and 'selects' of the private methods out of them =====
/-- a private method of a class that the tables say can be made, by its rows of tables_1 -/
def lw_okq (q : MethodName × Nat) : Prop := (q.1.cls ≠ "java/lang/invoke/MethodHandle" ∧ q.1.cls ≠ "java/lang/invoke/VarHandle") ∧ Cond.instantiable q.1.cls q.2 ∈ tables_1 ∧ Cond.privateMethod q.1 ∈ tables_1 ∧ Cond.instanceMethod q.1 ∈ tables_1
theorem lw_p0 : lw_okq (⟨"SoundSpeller$Reader", "takeWord", "()Z"⟩, 7) := ⟨⟨by decide +kernel, by decide +kernel⟩, List.mem_of_getElem? (i := 37) (by decide +kernel), List.mem_of_getElem? (i := 325) (by decide +kernel), List.mem_of_getElem? (i := 326) (by decide +kernel)⟩
theorem lw_p1 : lw_okq (⟨"SoundSpeller$Reader", "takeSign", "()Z"⟩, 7) := ⟨⟨by decide +kernel, by decide +kernel⟩, List.mem_of_getElem? (i := 37) (by decide +kernel), List.mem_of_getElem? (i := 346) (by decide +kernel), List.mem_of_getElem? (i := 347) (by decide +kernel)⟩
theorem lw_p2 : lw_okq (⟨"SoundSpeller$Reader", "takeSound", "()Z"⟩, 7) := ⟨⟨by decide +kernel, by decide +kernel⟩, List.mem_of_getElem? (i := 37) (by decide +kernel), List.mem_of_getElem? (i := 350) (by decide +kernel), List.mem_of_getElem? (i := 351) (by decide +kernel)⟩
theorem lw_p3 : lw_okq (⟨"SoundSpeller$Reader", "takeRule", "()Z"⟩, 7) := ⟨⟨by decide +kernel, by decide +kernel⟩, List.mem_of_getElem? (i := 37) (by decide +kernel), List.mem_of_getElem? (i := 354) (by decide +kernel), List.mem_of_getElem? (i := 355) (by decide +kernel)⟩
theorem lw_p4 : lw_okq (⟨"SoundSpeller$Reader", "takeSide", "()I"⟩, 7) := ⟨⟨by decide +kernel, by decide +kernel⟩, List.mem_of_getElem? (i := 37) (by decide +kernel), List.mem_of_getElem? (i := 358) (by decide +kernel), List.mem_of_getElem? (i := 359) (by decide +kernel)⟩
theorem lw_p5 : lw_okq (⟨"SoundSpeller$Book", "addRule", "(LSoundSpeller$Reader;)Z"⟩, 6) := ⟨⟨by decide +kernel, by decide +kernel⟩, List.mem_of_getElem? (i := 99) (by decide +kernel), List.mem_of_getElem? (i := 373) (by decide +kernel), List.mem_of_getElem? (i := 374) (by decide +kernel)⟩
theorem lw_p6 : lw_okq (⟨"SoundSpeller$Book", "addWord", "(LSoundSpeller$Reader;)Z"⟩, 6) := ⟨⟨by decide +kernel, by decide +kernel⟩, List.mem_of_getElem? (i := 99) (by decide +kernel), List.mem_of_getElem? (i := 394) (by decide +kernel), List.mem_of_getElem? (i := 395) (by decide +kernel)⟩
theorem lw_p7 : lw_okq (⟨"SoundSpeller$History", "dropOldest", "()V"⟩, 2) := ⟨⟨by decide +kernel, by decide +kernel⟩, List.mem_of_getElem? (i := 201) (by decide +kernel), List.mem_of_getElem? (i := 418) (by decide +kernel), List.mem_of_getElem? (i := 419) (by decide +kernel)⟩
theorem lw_p8 : lw_okq (⟨"SoundSpeller$Speller", "useRule", "(LSoundSpeller$Book;I)V"⟩, 4) := ⟨⟨by decide +kernel, by decide +kernel⟩, List.mem_of_getElem? (i := 73) (by decide +kernel), List.mem_of_getElem? (i := 467) (by decide +kernel), List.mem_of_getElem? (i := 468) (by decide +kernel)⟩
theorem lw_p9 : lw_okq (⟨"SoundSpeller$Speller", "addSign", "(LSoundSpeller$Book;I)V"⟩, 4) := ⟨⟨by decide +kernel, by decide +kernel⟩, List.mem_of_getElem? (i := 73) (by decide +kernel), List.mem_of_getElem? (i := 477) (by decide +kernel), List.mem_of_getElem? (i := 478) (by decide +kernel)⟩
theorem lw_p10 : lw_okq (⟨"SoundSpeller$Survey", "addUses", "(LSoundSpeller$Row;)V"⟩, 7) := ⟨⟨by decide +kernel, by decide +kernel⟩, List.mem_of_getElem? (i := 217) (by decide +kernel), List.mem_of_getElem? (i := 486) (by decide +kernel), List.mem_of_getElem? (i := 487) (by decide +kernel)⟩
theorem lw_p11 : lw_okq (⟨"SoundSpeller$Rows", "swap", "(II)V"⟩, 3) := ⟨⟨by decide +kernel, by decide +kernel⟩, List.mem_of_getElem? (i := 105) (by decide +kernel), List.mem_of_getElem? (i := 516) (by decide +kernel), List.mem_of_getElem? (i := 517) (by decide +kernel)⟩
theorem lw_p12 : lw_okq (⟨"SoundSpeller", "isToBeMarked", "(I)Z"⟩, 12) := ⟨⟨by decide +kernel, by decide +kernel⟩, List.mem_of_getElem? (i := 12) (by decide +kernel), List.mem_of_getElem? (i := 579) (by decide +kernel), List.mem_of_getElem? (i := 580) (by decide +kernel)⟩
theorem lw_p13 : lw_okq (⟨"SoundSpeller", "convertBack", "(Z)V"⟩, 12) := ⟨⟨by decide +kernel, by decide +kernel⟩, List.mem_of_getElem? (i := 12) (by decide +kernel), List.mem_of_getElem? (i := 609) (by decide +kernel), List.mem_of_getElem? (i := 610) (by decide +kernel)⟩
theorem lw_p14 : lw_okq (⟨"SoundSpeller", "convertThere", "()V"⟩, 12) := ⟨⟨by decide +kernel, by decide +kernel⟩, List.mem_of_getElem? (i := 12) (by decide +kernel), List.mem_of_getElem? (i := 617) (by decide +kernel), List.mem_of_getElem? (i := 618) (by decide +kernel)⟩
theorem lw_p15 : lw_okq (⟨"SoundSpellerModel", "faultOfEntries", "()I"⟩, 28) := ⟨⟨by decide +kernel, by decide +kernel⟩, List.mem_of_getElem? (i := 715) (by decide +kernel), List.mem_of_getElem? (i := 818) (by decide +kernel), List.mem_of_getElem? (i := 819) (by decide +kernel)⟩
def lw_privs_1 : List (MethodName × Nat) := [(⟨"SoundSpeller$Reader", "takeWord", "()Z"⟩, 7), (⟨"SoundSpeller$Reader", "takeSign", "()Z"⟩, 7), (⟨"SoundSpeller$Reader", "takeSound", "()Z"⟩, 7), (⟨"SoundSpeller$Reader", "takeRule", "()Z"⟩, 7), (⟨"SoundSpeller$Reader", "takeSide", "()I"⟩, 7), (⟨"SoundSpeller$Book", "addRule", "(LSoundSpeller$Reader;)Z"⟩, 6), (⟨"SoundSpeller$Book", "addWord", "(LSoundSpeller$Reader;)Z"⟩, 6), (⟨"SoundSpeller$History", "dropOldest", "()V"⟩, 2), (⟨"SoundSpeller$Speller", "useRule", "(LSoundSpeller$Book;I)V"⟩, 4), (⟨"SoundSpeller$Speller", "addSign", "(LSoundSpeller$Book;I)V"⟩, 4), (⟨"SoundSpeller$Survey", "addUses", "(LSoundSpeller$Row;)V"⟩, 7), (⟨"SoundSpeller$Rows", "swap", "(II)V"⟩, 3), (⟨"SoundSpeller", "isToBeMarked", "(I)Z"⟩, 12), (⟨"SoundSpeller", "convertBack", "(Z)V"⟩, 12), (⟨"SoundSpeller", "convertThere", "()V"⟩, 12), (⟨"SoundSpellerModel", "faultOfEntries", "()I"⟩, 28)]
theorem lw_r1 : ∀ q ∈ lw_privs_1, lw_okq q := List.forall_mem_cons.mpr ⟨lw_p0, List.forall_mem_cons.mpr ⟨lw_p1, List.forall_mem_cons.mpr ⟨lw_p2, List.forall_mem_cons.mpr ⟨lw_p3, List.forall_mem_cons.mpr ⟨lw_p4, List.forall_mem_cons.mpr ⟨lw_p5, List.forall_mem_cons.mpr ⟨lw_p6, List.forall_mem_cons.mpr ⟨lw_p7, List.forall_mem_cons.mpr ⟨lw_p8, List.forall_mem_cons.mpr ⟨lw_p9, List.forall_mem_cons.mpr ⟨lw_p10, List.forall_mem_cons.mpr ⟨lw_p11, List.forall_mem_cons.mpr ⟨lw_p12, List.forall_mem_cons.mpr ⟨lw_p13, List.forall_mem_cons.mpr ⟨lw_p14, List.forall_mem_cons.mpr ⟨lw_p15, fun _ h => absurd h List.not_mem_nil⟩⟩⟩⟩⟩⟩⟩⟩⟩⟩⟩⟩⟩⟩⟩⟩
theorem lw_p16 : lw_okq (⟨"SoundSpellerModel", "readsEntry", "(Z)Z"⟩, 28) := ⟨⟨by decide +kernel, by decide +kernel⟩, List.mem_of_getElem? (i := 715) (by decide +kernel), List.mem_of_getElem? (i := 822) (by decide +kernel), List.mem_of_getElem? (i := 823) (by decide +kernel)⟩
theorem lw_p17 : lw_okq (⟨"SoundSpellerModel", "takes", "(I)Z"⟩, 28) := ⟨⟨by decide +kernel, by decide +kernel⟩, List.mem_of_getElem? (i := 715) (by decide +kernel), List.mem_of_getElem? (i := 826) (by decide +kernel), List.mem_of_getElem? (i := 827) (by decide +kernel)⟩
theorem lw_p18 : lw_okq (⟨"SoundSpellerModel", "isHere", "(II)Z"⟩, 28) := ⟨⟨by decide +kernel, by decide +kernel⟩, List.mem_of_getElem? (i := 715) (by decide +kernel), List.mem_of_getElem? (i := 830) (by decide +kernel), List.mem_of_getElem? (i := 831) (by decide +kernel)⟩
theorem lw_p19 : lw_okq (⟨"SoundSpellerModel", "passes", "(I)I"⟩, 28) := ⟨⟨by decide +kernel, by decide +kernel⟩, List.mem_of_getElem? (i := 715) (by decide +kernel), List.mem_of_getElem? (i := 837) (by decide +kernel), List.mem_of_getElem? (i := 838) (by decide +kernel)⟩
theorem lw_p20 : lw_okq (⟨"SoundSpellerModel", "addsWord", "(III)V"⟩, 28) := ⟨⟨by decide +kernel, by decide +kernel⟩, List.mem_of_getElem? (i := 715) (by decide +kernel), List.mem_of_getElem? (i := 841) (by decide +kernel), List.mem_of_getElem? (i := 842) (by decide +kernel)⟩
theorem lw_p21 : lw_okq (⟨"SoundSpellerModel", "isBeyond", "(III)Z"⟩, 28) := ⟨⟨by decide +kernel, by decide +kernel⟩, List.mem_of_getElem? (i := 715) (by decide +kernel), List.mem_of_getElem? (i := 845) (by decide +kernel), List.mem_of_getElem? (i := 846) (by decide +kernel)⟩
theorem lw_p22 : lw_okq (⟨"SoundSpellerModel", "isAt", "(III)Z"⟩, 28) := ⟨⟨by decide +kernel, by decide +kernel⟩, List.mem_of_getElem? (i := 715) (by decide +kernel), List.mem_of_getElem? (i := 852) (by decide +kernel), List.mem_of_getElem? (i := 853) (by decide +kernel)⟩
theorem lw_p23 : lw_okq (⟨"SoundSpellerModel", "goesBeyond", "(III)V"⟩, 28) := ⟨⟨by decide +kernel, by decide +kernel⟩, List.mem_of_getElem? (i := 715) (by decide +kernel), List.mem_of_getElem? (i := 856) (by decide +kernel), List.mem_of_getElem? (i := 857) (by decide +kernel)⟩
theorem lw_p24 : lw_okq (⟨"SoundSpellerModel", "setsSign", "(III)V"⟩, 28) := ⟨⟨by decide +kernel, by decide +kernel⟩, List.mem_of_getElem? (i := 715) (by decide +kernel), List.mem_of_getElem? (i := 860) (by decide +kernel), List.mem_of_getElem? (i := 861) (by decide +kernel)⟩
theorem lw_p25 : lw_okq (⟨"SoundSpellerModel", "addsRule", "(IIII)V"⟩, 28) := ⟨⟨by decide +kernel, by decide +kernel⟩, List.mem_of_getElem? (i := 715) (by decide +kernel), List.mem_of_getElem? (i := 867) (by decide +kernel), List.mem_of_getElem? (i := 868) (by decide +kernel)⟩
theorem lw_p26 : lw_okq (⟨"SoundSpellerModel", "remember", "()V"⟩, 28) := ⟨⟨by decide +kernel, by decide +kernel⟩, List.mem_of_getElem? (i := 715) (by decide +kernel), List.mem_of_getElem? (i := 874) (by decide +kernel), List.mem_of_getElem? (i := 875) (by decide +kernel)⟩
theorem lw_p27 : lw_okq (⟨"SoundSpellerModel", "refused", "(I)I"⟩, 28) := ⟨⟨by decide +kernel, by decide +kernel⟩, List.mem_of_getElem? (i := 715) (by decide +kernel), List.mem_of_getElem? (i := 881) (by decide +kernel), List.mem_of_getElem? (i := 882) (by decide +kernel)⟩
theorem lw_p28 : lw_okq (⟨"SoundSpellerModel", "acted", "(I)I"⟩, 28) := ⟨⟨by decide +kernel, by decide +kernel⟩, List.mem_of_getElem? (i := 715) (by decide +kernel), List.mem_of_getElem? (i := 885) (by decide +kernel), List.mem_of_getElem? (i := 886) (by decide +kernel)⟩
theorem lw_p29 : lw_okq (⟨"SoundSpellerModel", "isRule", "(I)Z"⟩, 28) := ⟨⟨by decide +kernel, by decide +kernel⟩, List.mem_of_getElem? (i := 715) (by decide +kernel), List.mem_of_getElem? (i := 893) (by decide +kernel), List.mem_of_getElem? (i := 894) (by decide +kernel)⟩
theorem lw_p30 : lw_okq (⟨"SoundSpellerModel", "takesOut", "(IIII)V"⟩, 28) := ⟨⟨by decide +kernel, by decide +kernel⟩, List.mem_of_getElem? (i := 715) (by decide +kernel), List.mem_of_getElem? (i := 897) (by decide +kernel), List.mem_of_getElem? (i := 898) (by decide +kernel)⟩
theorem lw_p31 : lw_okq (⟨"SoundSpellerModel", "spells", "()V"⟩, 28) := ⟨⟨by decide +kernel, by decide +kernel⟩, List.mem_of_getElem? (i := 715) (by decide +kernel), List.mem_of_getElem? (i := 905) (by decide +kernel), List.mem_of_getElem? (i := 906) (by decide +kernel)⟩
def lw_privs_2 : List (MethodName × Nat) := [(⟨"SoundSpellerModel", "readsEntry", "(Z)Z"⟩, 28), (⟨"SoundSpellerModel", "takes", "(I)Z"⟩, 28), (⟨"SoundSpellerModel", "isHere", "(II)Z"⟩, 28), (⟨"SoundSpellerModel", "passes", "(I)I"⟩, 28), (⟨"SoundSpellerModel", "addsWord", "(III)V"⟩, 28), (⟨"SoundSpellerModel", "isBeyond", "(III)Z"⟩, 28), (⟨"SoundSpellerModel", "isAt", "(III)Z"⟩, 28), (⟨"SoundSpellerModel", "goesBeyond", "(III)V"⟩, 28), (⟨"SoundSpellerModel", "setsSign", "(III)V"⟩, 28), (⟨"SoundSpellerModel", "addsRule", "(IIII)V"⟩, 28), (⟨"SoundSpellerModel", "remember", "()V"⟩, 28), (⟨"SoundSpellerModel", "refused", "(I)I"⟩, 28), (⟨"SoundSpellerModel", "acted", "(I)I"⟩, 28), (⟨"SoundSpellerModel", "isRule", "(I)Z"⟩, 28), (⟨"SoundSpellerModel", "takesOut", "(IIII)V"⟩, 28), (⟨"SoundSpellerModel", "spells", "()V"⟩, 28)]
theorem lw_r2 : ∀ q ∈ lw_privs_2, lw_okq q := List.forall_mem_cons.mpr ⟨lw_p16, List.forall_mem_cons.mpr ⟨lw_p17, List.forall_mem_cons.mpr ⟨lw_p18, List.forall_mem_cons.mpr ⟨lw_p19, List.forall_mem_cons.mpr ⟨lw_p20, List.forall_mem_cons.mpr ⟨lw_p21, List.forall_mem_cons.mpr ⟨lw_p22, List.forall_mem_cons.mpr ⟨lw_p23, List.forall_mem_cons.mpr ⟨lw_p24, List.forall_mem_cons.mpr ⟨lw_p25, List.forall_mem_cons.mpr ⟨lw_p26, List.forall_mem_cons.mpr ⟨lw_p27, List.forall_mem_cons.mpr ⟨lw_p28, List.forall_mem_cons.mpr ⟨lw_p29, List.forall_mem_cons.mpr ⟨lw_p30, List.forall_mem_cons.mpr ⟨lw_p31, fun _ h => absurd h List.not_mem_nil⟩⟩⟩⟩⟩⟩⟩⟩⟩⟩⟩⟩⟩⟩⟩⟩
theorem lw_p32 : lw_okq (⟨"SoundSpellerModel", "lays", "(I)V"⟩, 28) := ⟨⟨by decide +kernel, by decide +kernel⟩, List.mem_of_getElem? (i := 715) (by decide +kernel), List.mem_of_getElem? (i := 909) (by decide +kernel), List.mem_of_getElem? (i := 910) (by decide +kernel)⟩
theorem lw_p33 : lw_okq (⟨"SoundSpellerModel", "writesAs", "(I)V"⟩, 28) := ⟨⟨by decide +kernel, by decide +kernel⟩, List.mem_of_getElem? (i := 715) (by decide +kernel), List.mem_of_getElem? (i := 913) (by decide +kernel), List.mem_of_getElem? (i := 914) (by decide +kernel)⟩
theorem lw_p34 : lw_okq (⟨"SoundSpellerModel", "writesItself", "()V"⟩, 28) := ⟨⟨by decide +kernel, by decide +kernel⟩, List.mem_of_getElem? (i := 715) (by decide +kernel), List.mem_of_getElem? (i := 917) (by decide +kernel), List.mem_of_getElem? (i := 918) (by decide +kernel)⟩
theorem lw_p35 : lw_okq (⟨"SoundSpellerModel", "writes", "(I)V"⟩, 28) := ⟨⟨by decide +kernel, by decide +kernel⟩, List.mem_of_getElem? (i := 715) (by decide +kernel), List.mem_of_getElem? (i := 921) (by decide +kernel), List.mem_of_getElem? (i := 922) (by decide +kernel)⟩
theorem lw_p36 : lw_okq (⟨"SoundSpellerModel", "findsSounds", "()V"⟩, 28) := ⟨⟨by decide +kernel, by decide +kernel⟩, List.mem_of_getElem? (i := 715) (by decide +kernel), List.mem_of_getElem? (i := 925) (by decide +kernel), List.mem_of_getElem? (i := 926) (by decide +kernel)⟩
theorem lw_p37 : lw_okq (⟨"SoundSpellerModel", "ruleAtPlace", "(I)I"⟩, 28) := ⟨⟨by decide +kernel, by decide +kernel⟩, List.mem_of_getElem? (i := 715) (by decide +kernel), List.mem_of_getElem? (i := 929) (by decide +kernel), List.mem_of_getElem? (i := 930) (by decide +kernel)⟩
theorem lw_p38 : lw_okq (⟨"SoundSpellerModel", "stands", "(II)Z"⟩, 28) := ⟨⟨by decide +kernel, by decide +kernel⟩, List.mem_of_getElem? (i := 715) (by decide +kernel), List.mem_of_getElem? (i := 933) (by decide +kernel), List.mem_of_getElem? (i := 934) (by decide +kernel)⟩
theorem lw_p39 : lw_okq (⟨"SoundSpellerModel", "holds", "(II)Z"⟩, 28) := ⟨⟨by decide +kernel, by decide +kernel⟩, List.mem_of_getElem? (i := 715) (by decide +kernel), List.mem_of_getElem? (i := 937) (by decide +kernel), List.mem_of_getElem? (i := 938) (by decide +kernel)⟩
theorem lw_p40 : lw_okq (⟨"SoundSpellerModel", "weight", "(I)I"⟩, 28) := ⟨⟨by decide +kernel, by decide +kernel⟩, List.mem_of_getElem? (i := 715) (by decide +kernel), List.mem_of_getElem? (i := 944) (by decide +kernel), List.mem_of_getElem? (i := 945) (by decide +kernel)⟩
theorem lw_p41 : lw_okq (⟨"SoundSpellerModel", "changedSpellings", "()I"⟩, 28) := ⟨⟨by decide +kernel, by decide +kernel⟩, List.mem_of_getElem? (i := 715) (by decide +kernel), List.mem_of_getElem? (i := 950) (by decide +kernel), List.mem_of_getElem? (i := 951) (by decide +kernel)⟩
theorem lw_p42 : lw_okq (⟨"SoundSpellerModel", "isWord", "(I)Z"⟩, 28) := ⟨⟨by decide +kernel, by decide +kernel⟩, List.mem_of_getElem? (i := 715) (by decide +kernel), List.mem_of_getElem? (i := 958) (by decide +kernel), List.mem_of_getElem? (i := 959) (by decide +kernel)⟩
theorem lw_p43 : lw_okq (⟨"SoundSpellerModel", "withSpelling", "(IZ)I"⟩, 28) := ⟨⟨by decide +kernel, by decide +kernel⟩, List.mem_of_getElem? (i := 715) (by decide +kernel), List.mem_of_getElem? (i := 971) (by decide +kernel), List.mem_of_getElem? (i := 972) (by decide +kernel)⟩
theorem lw_p44 : lw_okq (⟨"SoundSpellerModel", "areSame", "(II)Z"⟩, 28) := ⟨⟨by decide +kernel, by decide +kernel⟩, List.mem_of_getElem? (i := 715) (by decide +kernel), List.mem_of_getElem? (i := 975) (by decide +kernel), List.mem_of_getElem? (i := 976) (by decide +kernel)⟩
theorem lw_p45 : lw_okq (⟨"SoundSpellerModel", "faultOfWords", "(Z)I"⟩, 28) := ⟨⟨by decide +kernel, by decide +kernel⟩, List.mem_of_getElem? (i := 715) (by decide +kernel), List.mem_of_getElem? (i := 983) (by decide +kernel), List.mem_of_getElem? (i := 984) (by decide +kernel)⟩
theorem lw_p46 : lw_okq (⟨"SoundSpellerModel", "tells", "(I)V"⟩, 28) := ⟨⟨by decide +kernel, by decide +kernel⟩, List.mem_of_getElem? (i := 715) (by decide +kernel), List.mem_of_getElem? (i := 987) (by decide +kernel), List.mem_of_getElem? (i := 988) (by decide +kernel)⟩
theorem lw_p47 : lw_okq (⟨"SoundSpellerModel", "convertsBack", "(II)V"⟩, 28) := ⟨⟨by decide +kernel, by decide +kernel⟩, List.mem_of_getElem? (i := 715) (by decide +kernel), List.mem_of_getElem? (i := 991) (by decide +kernel), List.mem_of_getElem? (i := 992) (by decide +kernel)⟩
def lw_privs_3 : List (MethodName × Nat) := [(⟨"SoundSpellerModel", "lays", "(I)V"⟩, 28), (⟨"SoundSpellerModel", "writesAs", "(I)V"⟩, 28), (⟨"SoundSpellerModel", "writesItself", "()V"⟩, 28), (⟨"SoundSpellerModel", "writes", "(I)V"⟩, 28), (⟨"SoundSpellerModel", "findsSounds", "()V"⟩, 28), (⟨"SoundSpellerModel", "ruleAtPlace", "(I)I"⟩, 28), (⟨"SoundSpellerModel", "stands", "(II)Z"⟩, 28), (⟨"SoundSpellerModel", "holds", "(II)Z"⟩, 28), (⟨"SoundSpellerModel", "weight", "(I)I"⟩, 28), (⟨"SoundSpellerModel", "changedSpellings", "()I"⟩, 28), (⟨"SoundSpellerModel", "isWord", "(I)Z"⟩, 28), (⟨"SoundSpellerModel", "withSpelling", "(IZ)I"⟩, 28), (⟨"SoundSpellerModel", "areSame", "(II)Z"⟩, 28), (⟨"SoundSpellerModel", "faultOfWords", "(Z)I"⟩, 28), (⟨"SoundSpellerModel", "tells", "(I)V"⟩, 28), (⟨"SoundSpellerModel", "convertsBack", "(II)V"⟩, 28)]
theorem lw_r3 : ∀ q ∈ lw_privs_3, lw_okq q := List.forall_mem_cons.mpr ⟨lw_p32, List.forall_mem_cons.mpr ⟨lw_p33, List.forall_mem_cons.mpr ⟨lw_p34, List.forall_mem_cons.mpr ⟨lw_p35, List.forall_mem_cons.mpr ⟨lw_p36, List.forall_mem_cons.mpr ⟨lw_p37, List.forall_mem_cons.mpr ⟨lw_p38, List.forall_mem_cons.mpr ⟨lw_p39, List.forall_mem_cons.mpr ⟨lw_p40, List.forall_mem_cons.mpr ⟨lw_p41, List.forall_mem_cons.mpr ⟨lw_p42, List.forall_mem_cons.mpr ⟨lw_p43, List.forall_mem_cons.mpr ⟨lw_p44, List.forall_mem_cons.mpr ⟨lw_p45, List.forall_mem_cons.mpr ⟨lw_p46, List.forall_mem_cons.mpr ⟨lw_p47, fun _ h => absurd h List.not_mem_nil⟩⟩⟩⟩⟩⟩⟩⟩⟩⟩⟩⟩⟩⟩⟩⟩
theorem lw_p48 : lw_okq (⟨"SoundSpellerModel", "spelledSo", "(II)I"⟩, 28) := ⟨⟨by decide +kernel, by decide +kernel⟩, List.mem_of_getElem? (i := 715) (by decide +kernel), List.mem_of_getElem? (i := 995) (by decide +kernel), List.mem_of_getElem? (i := 996) (by decide +kernel)⟩
theorem lw_p49 : lw_okq (⟨"SoundSpellerModel", "converts", "(II)V"⟩, 28) := ⟨⟨by decide +kernel, by decide +kernel⟩, List.mem_of_getElem? (i := 715) (by decide +kernel), List.mem_of_getElem? (i := 999) (by decide +kernel), List.mem_of_getElem? (i := 1000) (by decide +kernel)⟩
theorem lw_p50 : lw_okq (⟨"SoundSpellerModel", "inBook", "(II)I"⟩, 28) := ⟨⟨by decide +kernel, by decide +kernel⟩, List.mem_of_getElem? (i := 715) (by decide +kernel), List.mem_of_getElem? (i := 1003) (by decide +kernel), List.mem_of_getElem? (i := 1004) (by decide +kernel)⟩
theorem lw_p51 : lw_okq (⟨"SoundSpellerModel", "uses", "()V"⟩, 28) := ⟨⟨by decide +kernel, by decide +kernel⟩, List.mem_of_getElem? (i := 715) (by decide +kernel), List.mem_of_getElem? (i := 1027) (by decide +kernel), List.mem_of_getElem? (i := 1028) (by decide +kernel)⟩
theorem lw_p52 : lw_okq (⟨"SoundSpellerModel", "usesNone", "()V"⟩, 28) := ⟨⟨by decide +kernel, by decide +kernel⟩, List.mem_of_getElem? (i := 715) (by decide +kernel), List.mem_of_getElem? (i := 1031) (by decide +kernel), List.mem_of_getElem? (i := 1032) (by decide +kernel)⟩
theorem lw_p53 : lw_okq (⟨"SoundSpellerModel", "colliding", "()I"⟩, 28) := ⟨⟨by decide +kernel, by decide +kernel⟩, List.mem_of_getElem? (i := 715) (by decide +kernel), List.mem_of_getElem? (i := 1062) (by decide +kernel), List.mem_of_getElem? (i := 1063) (by decide +kernel)⟩
theorem lw_p54 : lw_okq (⟨"SoundSpellerModel", "comeBack", "()I"⟩, 28) := ⟨⟨by decide +kernel, by decide +kernel⟩, List.mem_of_getElem? (i := 715) (by decide +kernel), List.mem_of_getElem? (i := 1070) (by decide +kernel), List.mem_of_getElem? (i := 1071) (by decide +kernel)⟩
theorem lw_p55 : lw_okq (⟨"SoundSpellerModel", "neverUsed", "()I"⟩, 28) := ⟨⟨by decide +kernel, by decide +kernel⟩, List.mem_of_getElem? (i := 715) (by decide +kernel), List.mem_of_getElem? (i := 1074) (by decide +kernel), List.mem_of_getElem? (i := 1075) (by decide +kernel)⟩
theorem lw_p56 : lw_okq (⟨"SoundSpellerModel", "lettersOfAll", "()I"⟩, 28) := ⟨⟨by decide +kernel, by decide +kernel⟩, List.mem_of_getElem? (i := 715) (by decide +kernel), List.mem_of_getElem? (i := 1078) (by decide +kernel), List.mem_of_getElem? (i := 1079) (by decide +kernel)⟩
theorem lw_p57 : lw_okq (⟨"SoundSpellerModel", "spellingsOfAll", "()I"⟩, 28) := ⟨⟨by decide +kernel, by decide +kernel⟩, List.mem_of_getElem? (i := 715) (by decide +kernel), List.mem_of_getElem? (i := 1082) (by decide +kernel), List.mem_of_getElem? (i := 1083) (by decide +kernel)⟩
theorem lw_p58 : lw_okq (⟨"SoundSpellerModel", "longSigns", "()I"⟩, 28) := ⟨⟨by decide +kernel, by decide +kernel⟩, List.mem_of_getElem? (i := 715) (by decide +kernel), List.mem_of_getElem? (i := 1086) (by decide +kernel), List.mem_of_getElem? (i := 1087) (by decide +kernel)⟩
def lw_privs_4 : List (MethodName × Nat) := [(⟨"SoundSpellerModel", "spelledSo", "(II)I"⟩, 28), (⟨"SoundSpellerModel", "converts", "(II)V"⟩, 28), (⟨"SoundSpellerModel", "inBook", "(II)I"⟩, 28), (⟨"SoundSpellerModel", "uses", "()V"⟩, 28), (⟨"SoundSpellerModel", "usesNone", "()V"⟩, 28), (⟨"SoundSpellerModel", "colliding", "()I"⟩, 28), (⟨"SoundSpellerModel", "comeBack", "()I"⟩, 28), (⟨"SoundSpellerModel", "neverUsed", "()I"⟩, 28), (⟨"SoundSpellerModel", "lettersOfAll", "()I"⟩, 28), (⟨"SoundSpellerModel", "spellingsOfAll", "()I"⟩, 28), (⟨"SoundSpellerModel", "longSigns", "()I"⟩, 28)]
theorem lw_r4 : ∀ q ∈ lw_privs_4, lw_okq q := List.forall_mem_cons.mpr ⟨lw_p48, List.forall_mem_cons.mpr ⟨lw_p49, List.forall_mem_cons.mpr ⟨lw_p50, List.forall_mem_cons.mpr ⟨lw_p51, List.forall_mem_cons.mpr ⟨lw_p52, List.forall_mem_cons.mpr ⟨lw_p53, List.forall_mem_cons.mpr ⟨lw_p54, List.forall_mem_cons.mpr ⟨lw_p55, List.forall_mem_cons.mpr ⟨lw_p56, List.forall_mem_cons.mpr ⟨lw_p57, List.forall_mem_cons.mpr ⟨lw_p58, fun _ h => absurd h List.not_mem_nil⟩⟩⟩⟩⟩⟩⟩⟩⟩⟩⟩
def lw_privs : List (MethodName × Nat) := lw_privs_1 ++ (lw_privs_2 ++ (lw_privs_3 ++ (lw_privs_4)))
def lw_tbl : List Cond := k2_sels lw_privs ++ tables_1
theorem lw_privs_ok : ∀ q ∈ lw_privs, lw_okq q := by
  show ∀ q ∈ lw_privs_1 ++ (lw_privs_2 ++ (lw_privs_3 ++ (lw_privs_4))), lw_okq q
  exact List.forall_mem_append.mpr ⟨lw_r1, List.forall_mem_append.mpr ⟨lw_r2, List.forall_mem_append.mpr ⟨lw_r3, lw_r4⟩⟩⟩
-- ===== end of PART A; then your names; then what follows =====
end
section
/-! ===== BEGIN words of one list among another's, by their places ===== -/
theorem goodIn_r {big : List Cond} (ws : List Cond) (ps : List Nat) (hp : ws = ps.filterMap (fun i => big[i]?)) (h : ws.all goodWord = true) : GoodIn big ws := by
  intro w hw
  have h1 := List.all_eq_true.mp h w hw
  rw [hp] at hw
  obtain ⟨i, -, hi⟩ := List.mem_filterMap.mp hw
  have hm : w ∈ big := by first | exact List.mem_of_getElem? hi | exact List.getElem?_mem hi
  exact ⟨hm, good_of_word h1⟩
theorem goodIn_app {big a b : List Cond} (ha : GoodIn big a) (hb : GoodIn big b) : GoodIn big (a ++ b) := fun w h => (List.mem_append.mp h).elim (ha w) (hb w)
theorem goodIn_ca {big a b : List Cond} {c : Cond} (ha : GoodIn big (c :: a)) (hb : GoodIn big b) : GoodIn big (c :: (a ++ b)) := fun w h => (List.mem_cons.mp h).elim (fun e => ha w (List.mem_cons.mpr (Or.inl e))) (fun h => (List.mem_append.mp h).elim (fun h => ha w (List.mem_cons.mpr (Or.inr h))) (hb w))
theorem goodIn_sub {big ws : List Cond} (hm : ∀ w ∈ ws, w ∈ big) (h : ws.all goodWord = true) : GoodIn big ws := fun w hw => ⟨hm w hw, good_of_word (List.all_eq_true.mp h w hw)⟩
/-! ===== END ===== -/

/-! ===== BEGIN printed: names, fields, word lists, decode rows ===== -/
def RX0 : String := "SoundSpeller$Book"
def TX0 : u_T := fun k => match k with
  | 0 => ("SoundSpeller$Book", "ruleLetters", "LSoundSpeller$Rows;", true)
  | 1 => ("SoundSpeller$Book", "ruleSounds", "LSoundSpeller$Row;", true)
  | 2 => ("SoundSpeller$Book", "ruleSides", "LSoundSpeller$Row;", true)
  | 3 => ("SoundSpeller$Book", "signs", "LSoundSpeller$Rows;", true)
  | 4 => ("SoundSpeller$Book", "letters", "LSoundSpeller$Rows;", true)
  | _ => ("SoundSpeller$Book", "kinds", "LSoundSpeller$Row;", true)
def tyX0 : Nat → FieldType := fun k => match k with
  | 0 => .object "SoundSpeller$Rows"
  | 1 => .object "SoundSpeller$Row"
  | 2 => .object "SoundSpeller$Row"
  | 3 => .object "SoundSpeller$Rows"
  | 4 => .object "SoundSpeller$Rows"
  | _ => .object "SoundSpeller$Row"
abbrev wsX00 : List Cond := u_ws RX0 TX0 6
theorem nmX0 : ∀ a, a < 6 → ∀ b, b < 6 → a ≠ b → (TX0 a).2.1 ≠ (TX0 b).2.1 := by decide +kernel
theorem tyX0_ok : ∀ k, k < 6 → parseFieldDescriptor (TX0 k).2.2.1 = some (tyX0 k) := by decide +kernel
abbrev cX0_init : ByteArray := prog_2_method_1_code
def yX0_init : MethodName := ⟨RX0, "<init>", "(II)V"⟩
abbrev cX0_copyFrom : ByteArray := prog_2_method_2_code
def yX0_copyFrom : MethodName := ⟨RX0, "copyFrom", "(LSoundSpeller$Book;)V"⟩
abbrev cX0_rules : ByteArray := prog_2_method_3_code
def yX0_rules : MethodName := ⟨RX0, "rules", "()I"⟩
abbrev cX0_words : ByteArray := prog_2_method_4_code
def yX0_words : MethodName := ⟨RX0, "words", "()I"⟩
abbrev cX0_hasRule : ByteArray := prog_2_method_5_code
def yX0_hasRule : MethodName := ⟨RX0, "hasRule", "(I)Z"⟩
abbrev cX0_hasWord : ByteArray := prog_2_method_6_code
def yX0_hasWord : MethodName := ⟨RX0, "hasWord", "(I)Z"⟩
abbrev cX0_addEntry : ByteArray := prog_2_method_7_code
def yX0_addEntry : MethodName := ⟨RX0, "addEntry", "(LSoundSpeller$Reader;)Z"⟩
abbrev cX0_addRule : ByteArray := prog_2_method_8_code
def yX0_addRule : MethodName := ⟨RX0, "addRule", "(LSoundSpeller$Reader;)Z"⟩
abbrev cX0_addWord : ByteArray := prog_2_method_9_code
def yX0_addWord : MethodName := ⟨RX0, "addWord", "(LSoundSpeller$Reader;)Z"⟩
abbrev cX0_dropRule : ByteArray := prog_2_method_10_code
def yX0_dropRule : MethodName := ⟨RX0, "dropRule", "(I)V"⟩
abbrev cX0_shiftRule : ByteArray := prog_2_method_11_code
def yX0_shiftRule : MethodName := ⟨RX0, "shiftRule", "(II)V"⟩
abbrev cX0_dropWord : ByteArray := prog_2_method_12_code
def yX0_dropWord : MethodName := ⟨RX0, "dropWord", "(I)V"⟩
abbrev cX0_longSigns : ByteArray := prog_2_method_13_code
def yX0_longSigns : MethodName := ⟨RX0, "longSigns", "()I"⟩
def RX1 : String := "SoundSpeller$History"
def TX1 : u_T := fun k => match k with
  | 0 => ("SoundSpeller$History", "states", "[LSoundSpeller$Book;", true)
  | _ => ("SoundSpeller$History", "size", "I", false)
def tyX1 : Nat → FieldType := fun k => match k with
  | 0 => .array (.object "SoundSpeller$Book")
  | _ => .int
abbrev wsX10 : List Cond := u_ws RX1 TX1 2
theorem nmX1 : ∀ a, a < 2 → ∀ b, b < 2 → a ≠ b → (TX1 a).2.1 ≠ (TX1 b).2.1 := by decide +kernel
theorem tyX1_ok : ∀ k, k < 2 → parseFieldDescriptor (TX1 k).2.2.1 = some (tyX1 k) := by decide +kernel
abbrev cX1_init : ByteArray := prog_3_method_1_code
def yX1_init : MethodName := ⟨RX1, "<init>", "()V"⟩
abbrev cX1_states : ByteArray := prog_3_method_2_code
def yX1_states : MethodName := ⟨RX1, "states", "()I"⟩
abbrev cX1_record : ByteArray := prog_3_method_3_code
def yX1_record : MethodName := ⟨RX1, "record", "(LSoundSpeller$Book;)V"⟩
abbrev cX1_dropOldest : ByteArray := prog_3_method_4_code
def yX1_dropOldest : MethodName := ⟨RX1, "dropOldest", "()V"⟩
abbrev cX1_bringBack : ByteArray := prog_3_method_5_code
def yX1_bringBack : MethodName := ⟨RX1, "bringBack", "(LSoundSpeller$Book;)V"⟩
def RX2 : String := "SoundSpeller$Reader"
def TX2 : u_T := fun k => match k with
  | 0 => ("SoundSpeller$Reader", "letters", "LSoundSpeller$Row;", true)
  | 1 => ("SoundSpeller$Reader", "text", "LSoundSpeller$Row;", true)
  | 2 => ("SoundSpeller$Reader", "place", "I", false)
  | 3 => ("SoundSpeller$Reader", "entry", "I", false)
  | 4 => ("SoundSpeller$Reader", "sound", "I", false)
  | 5 => ("SoundSpeller$Reader", "side", "I", false)
  | _ => ("SoundSpeller$Reader", "kind", "I", false)
def tyX2 : Nat → FieldType := fun k => match k with
  | 0 => .object "SoundSpeller$Row"
  | 1 => .object "SoundSpeller$Row"
  | 2 => .int
  | 3 => .int
  | 4 => .int
  | 5 => .int
  | _ => .int
abbrev wsX20 : List Cond := u_ws RX2 TX2 7
theorem nmX2 : ∀ a, a < 7 → ∀ b, b < 7 → a ≠ b → (TX2 a).2.1 ≠ (TX2 b).2.1 := by decide +kernel
theorem tyX2_ok : ∀ k, k < 7 → parseFieldDescriptor (TX2 k).2.2.1 = some (tyX2 k) := by decide +kernel
abbrev cX2_init : ByteArray := prog_4_method_1_code
def yX2_init : MethodName := ⟨RX2, "<init>", "(LSoundSpeller$Row;)V"⟩
abbrev cX2_begin : ByteArray := prog_4_method_2_code
def yX2_begin : MethodName := ⟨RX2, "begin", "()V"⟩
abbrev cX2_isAtEnd : ByteArray := prog_4_method_3_code
def yX2_isAtEnd : MethodName := ⟨RX2, "isAtEnd", "()Z"⟩
abbrev cX2_fault : ByteArray := prog_4_method_4_code
def yX2_fault : MethodName := ⟨RX2, "fault", "()I"⟩
abbrev cX2_take : ByteArray := prog_4_method_5_code
def yX2_take : MethodName := ⟨RX2, "take", "(I)Z"⟩
abbrev cX2_takeLetters : ByteArray := prog_4_method_6_code
def yX2_takeLetters : MethodName := ⟨RX2, "takeLetters", "(I)Z"⟩
abbrev cX2_takeEntry : ByteArray := prog_4_method_7_code
def yX2_takeEntry : MethodName := ⟨RX2, "takeEntry", "()Z"⟩
abbrev cX2_takeRule : ByteArray := prog_4_method_8_code
def yX2_takeRule : MethodName := ⟨RX2, "takeRule", "()Z"⟩
abbrev cX2_takeSound : ByteArray := prog_4_method_9_code
def yX2_takeSound : MethodName := ⟨RX2, "takeSound", "()Z"⟩
abbrev cX2_takeSide : ByteArray := prog_4_method_10_code
def yX2_takeSide : MethodName := ⟨RX2, "takeSide", "()I"⟩
abbrev cX2_sideOf : ByteArray := prog_4_method_11_code
def yX2_sideOf : MethodName := ⟨RX2, "sideOf", "(I)I"⟩
abbrev cX2_takeWord : ByteArray := prog_4_method_12_code
def yX2_takeWord : MethodName := ⟨RX2, "takeWord", "()Z"⟩
abbrev cX2_takeSign : ByteArray := prog_4_method_13_code
def yX2_takeSign : MethodName := ⟨RX2, "takeSign", "()Z"⟩
def RX3 : String := "SoundSpeller$Row"
def TX3 : u_T := fun k => match k with
  | 0 => ("SoundSpeller$Row", "cells", "[I", true)
  | _ => ("SoundSpeller$Row", "size", "I", false)
def tyX3 : Nat → FieldType := fun k => match k with
  | 0 => .array .int
  | _ => .int
abbrev wsX30 : List Cond := u_ws RX3 TX3 2
theorem nmX3 : ∀ a, a < 2 → ∀ b, b < 2 → a ≠ b → (TX3 a).2.1 ≠ (TX3 b).2.1 := by decide +kernel
theorem tyX3_ok : ∀ k, k < 2 → parseFieldDescriptor (TX3 k).2.2.1 = some (tyX3 k) := by decide +kernel
abbrev cX3_init : ByteArray := prog_5_method_1_code
def yX3_init : MethodName := ⟨RX3, "<init>", "(I)V"⟩
abbrev cX3_size : ByteArray := prog_5_method_2_code
def yX3_size : MethodName := ⟨RX3, "size", "()I"⟩
abbrev cX3_isFull : ByteArray := prog_5_method_3_code
def yX3_isFull : MethodName := ⟨RX3, "isFull", "()Z"⟩
abbrev cX3_get : ByteArray := prog_5_method_4_code
def yX3_get : MethodName := ⟨RX3, "get", "(I)I"⟩
abbrev cX3_set : ByteArray := prog_5_method_5_code
def yX3_set : MethodName := ⟨RX3, "set", "(II)V"⟩
abbrev cX3_add : ByteArray := prog_5_method_6_code
def yX3_add : MethodName := ⟨RX3, "add", "(I)V"⟩
abbrev cX3_addAll : ByteArray := prog_5_method_7_code
def yX3_addAll : MethodName := ⟨RX3, "addAll", "(LSoundSpeller$Row;)V"⟩
abbrev cX3_addMany : ByteArray := prog_5_method_8_code
def yX3_addMany : MethodName := ⟨RX3, "addMany", "(II)V"⟩
abbrev cX3_increase : ByteArray := prog_5_method_9_code
def yX3_increase : MethodName := ⟨RX3, "increase", "(I)V"⟩
abbrev cX3_clear : ByteArray := prog_5_method_10_code
def yX3_clear : MethodName := ⟨RX3, "clear", "()V"⟩
abbrev cX3_dropLast : ByteArray := prog_5_method_11_code
def yX3_dropLast : MethodName := ⟨RX3, "dropLast", "()V"⟩
abbrev cX3_copyFrom : ByteArray := prog_5_method_12_code
def yX3_copyFrom : MethodName := ⟨RX3, "copyFrom", "(LSoundSpeller$Row;)V"⟩
abbrev cX3_swap : ByteArray := prog_5_method_13_code
def yX3_swap : MethodName := ⟨RX3, "swap", "(II)V"⟩
abbrev cX3_move : ByteArray := prog_5_method_14_code
def yX3_move : MethodName := ⟨RX3, "move", "(II)V"⟩
abbrev cX3_remove : ByteArray := prog_5_method_15_code
def yX3_remove : MethodName := ⟨RX3, "remove", "(I)V"⟩
def RX4 : String := "SoundSpeller$Rows"
def TX4 : u_T := fun k => match k with
  | 0 => ("SoundSpeller$Rows", "width", "I", true)
  | 1 => ("SoundSpeller$Rows", "cells", "LSoundSpeller$Row;", true)
  | _ => ("SoundSpeller$Rows", "lengths", "LSoundSpeller$Row;", true)
def tyX4 : Nat → FieldType := fun k => match k with
  | 0 => .int
  | 1 => .object "SoundSpeller$Row"
  | _ => .object "SoundSpeller$Row"
abbrev wsX40 : List Cond := u_ws RX4 TX4 3
theorem nmX4 : ∀ a, a < 3 → ∀ b, b < 3 → a ≠ b → (TX4 a).2.1 ≠ (TX4 b).2.1 := by decide +kernel
theorem tyX4_ok : ∀ k, k < 3 → parseFieldDescriptor (TX4 k).2.2.1 = some (tyX4 k) := by decide +kernel
abbrev cX4_init : ByteArray := prog_6_method_1_code
def yX4_init : MethodName := ⟨RX4, "<init>", "(II)V"⟩
abbrev cX4_lines : ByteArray := prog_6_method_2_code
def yX4_lines : MethodName := ⟨RX4, "lines", "()I"⟩
abbrev cX4_has : ByteArray := prog_6_method_3_code
def yX4_has : MethodName := ⟨RX4, "has", "(I)Z"⟩
abbrev cX4_length : ByteArray := prog_6_method_4_code
def yX4_length : MethodName := ⟨RX4, "length", "(I)I"⟩
abbrev cX4_wholeLength : ByteArray := prog_6_method_5_code
def yX4_wholeLength : MethodName := ⟨RX4, "wholeLength", "()I"⟩
abbrev cX4_get : ByteArray := prog_6_method_6_code
def yX4_get : MethodName := ⟨RX4, "get", "(II)I"⟩
abbrev cX4_add : ByteArray := prog_6_method_7_code
def yX4_add : MethodName := ⟨RX4, "add", "(LSoundSpeller$Row;)V"⟩
abbrev cX4_put : ByteArray := prog_6_method_8_code
def yX4_put : MethodName := ⟨RX4, "put", "(ILSoundSpeller$Row;)V"⟩
abbrev cX4_putOne : ByteArray := prog_6_method_9_code
def yX4_putOne : MethodName := ⟨RX4, "putOne", "(II)V"⟩
abbrev cX4_copyTo : ByteArray := prog_6_method_10_code
def yX4_copyTo : MethodName := ⟨RX4, "copyTo", "(ILSoundSpeller$Row;)V"⟩
abbrev cX4_copyFrom : ByteArray := prog_6_method_11_code
def yX4_copyFrom : MethodName := ⟨RX4, "copyFrom", "(LSoundSpeller$Rows;)V"⟩
abbrev cX4_clear : ByteArray := prog_6_method_12_code
def yX4_clear : MethodName := ⟨RX4, "clear", "()V"⟩
abbrev cX4_isLike : ByteArray := prog_6_method_13_code
def yX4_isLike : MethodName := ⟨RX4, "isLike", "(ILSoundSpeller$Row;)Z"⟩
abbrev cX4_isLike_ : ByteArray := prog_6_method_14_code
def yX4_isLike_ : MethodName := ⟨RX4, "isLike", "(ILSoundSpeller$Rows;I)Z"⟩
abbrev cX4_find : ByteArray := prog_6_method_15_code
def yX4_find : MethodName := ⟨RX4, "find", "(LSoundSpeller$Row;)I"⟩
abbrev cX4_lowestLike : ByteArray := prog_6_method_16_code
def yX4_lowestLike : MethodName := ⟨RX4, "lowestLike", "(I)I"⟩
abbrev cX4_countLike : ByteArray := prog_6_method_17_code
def yX4_countLike : MethodName := ⟨RX4, "countLike", "(I)I"⟩
abbrev cX4_swap : ByteArray := prog_6_method_18_code
def yX4_swap : MethodName := ⟨RX4, "swap", "(II)V"⟩
abbrev cX4_move : ByteArray := prog_6_method_19_code
def yX4_move : MethodName := ⟨RX4, "move", "(II)V"⟩
abbrev cX4_remove : ByteArray := prog_6_method_20_code
def yX4_remove : MethodName := ⟨RX4, "remove", "(I)V"⟩
def RX5 : String := "SoundSpeller$Speller"
def TX5 : u_T := fun k => match k with
  | 0 => ("SoundSpeller$Speller", "sounds", "LSoundSpeller$Row;", true)
  | 1 => ("SoundSpeller$Speller", "rulesAt", "LSoundSpeller$Row;", true)
  | 2 => ("SoundSpeller$Speller", "rulesUsed", "LSoundSpeller$Row;", true)
  | _ => ("SoundSpeller$Speller", "spelling", "LSoundSpeller$Row;", true)
def tyX5 : Nat → FieldType := fun k => match k with
  | 0 => .object "SoundSpeller$Row"
  | 1 => .object "SoundSpeller$Row"
  | 2 => .object "SoundSpeller$Row"
  | _ => .object "SoundSpeller$Row"
abbrev wsX50 : List Cond := u_ws RX5 TX5 4
theorem nmX5 : ∀ a, a < 4 → ∀ b, b < 4 → a ≠ b → (TX5 a).2.1 ≠ (TX5 b).2.1 := by decide +kernel
theorem tyX5_ok : ∀ k, k < 4 → parseFieldDescriptor (TX5 k).2.2.1 = some (tyX5 k) := by decide +kernel
abbrev cX5_init : ByteArray := prog_7_method_1_code
def yX5_init : MethodName := ⟨RX5, "<init>", "()V"⟩
abbrev cX5_hear : ByteArray := prog_7_method_2_code
def yX5_hear : MethodName := ⟨RX5, "hear", "(LSoundSpeller$Book;LSoundSpeller$Row;)V"⟩
abbrev cX5_useRule : ByteArray := prog_7_method_3_code
def yX5_useRule : MethodName := ⟨RX5, "useRule", "(LSoundSpeller$Book;I)V"⟩
abbrev cX5_bestRule : ByteArray := prog_7_method_4_code
def yX5_bestRule : MethodName := ⟨RX5, "bestRule", "(LSoundSpeller$Book;LSoundSpeller$Row;I)I"⟩
abbrev cX5_holds : ByteArray := prog_7_method_5_code
def yX5_holds : MethodName := ⟨RX5, "holds", "(LSoundSpeller$Book;ILSoundSpeller$Row;I)Z"⟩
abbrev cX5_sideHolds : ByteArray := prog_7_method_6_code
def yX5_sideHolds : MethodName := ⟨RX5, "sideHolds", "(ILSoundSpeller$Row;II)Z"⟩
abbrev cX5_write : ByteArray := prog_7_method_7_code
def yX5_write : MethodName := ⟨RX5, "write", "(LSoundSpeller$Book;LSoundSpeller$Row;I)V"⟩
abbrev cX5_addSign : ByteArray := prog_7_method_8_code
def yX5_addSign : MethodName := ⟨RX5, "addSign", "(LSoundSpeller$Book;I)V"⟩
def RX6 : String := "SoundSpeller$Survey"
def TX6 : u_T := fun k => match k with
  | 0 => ("SoundSpeller$Survey", "sounds", "LSoundSpeller$Rows;", true)
  | 1 => ("SoundSpeller$Survey", "rulesAt", "LSoundSpeller$Rows;", true)
  | 2 => ("SoundSpeller$Survey", "spellings", "LSoundSpeller$Rows;", true)
  | 3 => ("SoundSpeller$Survey", "wordUses", "LSoundSpeller$Row;", true)
  | 4 => ("SoundSpeller$Survey", "ruleUses", "LSoundSpeller$Row;", true)
  | 5 => ("SoundSpeller$Survey", "speller", "LSoundSpeller$Speller;", true)
  | _ => ("SoundSpeller$Survey", "word", "LSoundSpeller$Row;", true)
def tyX6 : Nat → FieldType := fun k => match k with
  | 0 => .object "SoundSpeller$Rows"
  | 1 => .object "SoundSpeller$Rows"
  | 2 => .object "SoundSpeller$Rows"
  | 3 => .object "SoundSpeller$Row"
  | 4 => .object "SoundSpeller$Row"
  | 5 => .object "SoundSpeller$Speller"
  | _ => .object "SoundSpeller$Row"
abbrev wsX60 : List Cond := u_ws RX6 TX6 7
theorem nmX6 : ∀ a, a < 7 → ∀ b, b < 7 → a ≠ b → (TX6 a).2.1 ≠ (TX6 b).2.1 := by decide +kernel
theorem tyX6_ok : ∀ k, k < 7 → parseFieldDescriptor (TX6 k).2.2.1 = some (tyX6 k) := by decide +kernel
abbrev cX6_init : ByteArray := prog_8_method_1_code
def yX6_init : MethodName := ⟨RX6, "<init>", "()V"⟩
abbrev cX6_renew : ByteArray := prog_8_method_2_code
def yX6_renew : MethodName := ⟨RX6, "renew", "(LSoundSpeller$Book;)V"⟩
abbrev cX6_addUses : ByteArray := prog_8_method_3_code
def yX6_addUses : MethodName := ⟨RX6, "addUses", "(LSoundSpeller$Row;)V"⟩
abbrev cX6_comesBack : ByteArray := prog_8_method_4_code
def yX6_comesBack : MethodName := ⟨RX6, "comesBack", "(I)Z"⟩
abbrev cX6_comingBack : ByteArray := prog_8_method_5_code
def yX6_comingBack : MethodName := ⟨RX6, "comingBack", "()I"⟩
abbrev cX6_collisions : ByteArray := prog_8_method_6_code
def yX6_collisions : MethodName := ⟨RX6, "collisions", "()I"⟩
abbrev cX6_unusedRules : ByteArray := prog_8_method_7_code
def yX6_unusedRules : MethodName := ⟨RX6, "unusedRules", "()I"⟩
abbrev cX6_differences : ByteArray := prog_8_method_8_code
def yX6_differences : MethodName := ⟨RX6, "differences", "(LSoundSpeller$Survey;)I"⟩
def RX7 : String := "SoundSpeller"
def TX7 : u_T := fun k => match k with
  | 0 => ("SoundSpeller", "text", "LSoundSpeller$Row;", true)
  | 1 => ("SoundSpeller", "converted", "LSoundSpeller$Row;", true)
  | 2 => ("SoundSpeller", "conversion", "LSoundSpeller$Row;", true)
  | 3 => ("SoundSpeller", "reader", "LSoundSpeller$Reader;", true)
  | 4 => ("SoundSpeller", "speller", "LSoundSpeller$Speller;", true)
  | 5 => ("SoundSpeller", "book", "LSoundSpeller$Book;", true)
  | 6 => ("SoundSpeller", "draft", "LSoundSpeller$Book;", true)
  | 7 => ("SoundSpeller", "snapshot", "LSoundSpeller$Book;", true)
  | 8 => ("SoundSpeller", "hasSnapshot", "Z", false)
  | 9 => ("SoundSpeller", "history", "LSoundSpeller$History;", true)
  | 10 => ("SoundSpeller", "survey", "LSoundSpeller$Survey;", true)
  | _ => ("SoundSpeller", "trial", "LSoundSpeller$Survey;", true)
def tyX7 : Nat → FieldType := fun k => match k with
  | 0 => .object "SoundSpeller$Row"
  | 1 => .object "SoundSpeller$Row"
  | 2 => .object "SoundSpeller$Row"
  | 3 => .object "SoundSpeller$Reader"
  | 4 => .object "SoundSpeller$Speller"
  | 5 => .object "SoundSpeller$Book"
  | 6 => .object "SoundSpeller$Book"
  | 7 => .object "SoundSpeller$Book"
  | 8 => .boolean
  | 9 => .object "SoundSpeller$History"
  | 10 => .object "SoundSpeller$Survey"
  | _ => .object "SoundSpeller$Survey"
abbrev wsX70 : List Cond := u_ws RX7 TX7 12
theorem nmX7 : ∀ a, a < 12 → ∀ b, b < 12 → a ≠ b → (TX7 a).2.1 ≠ (TX7 b).2.1 := by decide +kernel
theorem tyX7_ok : ∀ k, k < 12 → parseFieldDescriptor (TX7 k).2.2.1 = some (tyX7 k) := by decide +kernel
abbrev cX7_init : ByteArray := prog_1_method_1_code
def yX7_init : MethodName := ⟨RX7, "<init>", "()V"⟩
abbrev cX7_readEntries : ByteArray := prog_1_method_2_code
def yX7_readEntries : MethodName := ⟨RX7, "readEntries", "()I"⟩
abbrev cX7_removeRule : ByteArray := prog_1_method_3_code
def yX7_removeRule : MethodName := ⟨RX7, "removeRule", "(I)I"⟩
abbrev cX7_moveRule : ByteArray := prog_1_method_4_code
def yX7_moveRule : MethodName := ⟨RX7, "moveRule", "(II)I"⟩
abbrev cX7_removeWord : ByteArray := prog_1_method_5_code
def yX7_removeWord : MethodName := ⟨RX7, "removeWord", "(I)I"⟩
abbrev cX7_setKind : ByteArray := prog_1_method_6_code
def yX7_setKind : MethodName := ⟨RX7, "setKind", "(II)I"⟩
abbrev cX7_markCollisions : ByteArray := prog_1_method_7_code
def yX7_markCollisions : MethodName := ⟨RX7, "markCollisions", "()I"⟩
abbrev cX7_isToBeMarked : ByteArray := prog_1_method_8_code
def yX7_isToBeMarked : MethodName := ⟨RX7, "isToBeMarked", "(I)Z"⟩
abbrev cX7_type : ByteArray := prog_1_method_9_code
def yX7_type : MethodName := ⟨RX7, "type", "(C)I"⟩
abbrev cX7_clearText : ByteArray := prog_1_method_10_code
def yX7_clearText : MethodName := ⟨RX7, "clearText", "()I"⟩
abbrev cX7_convert : ByteArray := prog_1_method_11_code
def yX7_convert : MethodName := ⟨RX7, "convert", "(Z)I"⟩
abbrev cX7_convertThere : ByteArray := prog_1_method_12_code
def yX7_convertThere : MethodName := ⟨RX7, "convertThere", "()V"⟩
abbrev cX7_convertBack : ByteArray := prog_1_method_13_code
def yX7_convertBack : MethodName := ⟨RX7, "convertBack", "(Z)V"⟩
abbrev cX7_takeResult : ByteArray := prog_1_method_14_code
def yX7_takeResult : MethodName := ⟨RX7, "takeResult", "()I"⟩
abbrev cX7_undo : ByteArray := prog_1_method_15_code
def yX7_undo : MethodName := ⟨RX7, "undo", "()I"⟩
abbrev cX7_keep : ByteArray := prog_1_method_16_code
def yX7_keep : MethodName := ⟨RX7, "keep", "()I"⟩
abbrev cX7_restore : ByteArray := prog_1_method_17_code
def yX7_restore : MethodName := ⟨RX7, "restore", "()I"⟩
abbrev cX7_rule : ByteArray := prog_1_method_18_code
def yX7_rule : MethodName := ⟨RX7, "rule", "(II)I"⟩
abbrev cX7_letterOf : ByteArray := prog_1_method_19_code
def yX7_letterOf : MethodName := ⟨RX7, "letterOf", "(II)I"⟩
abbrev cX7_sign : ByteArray := prog_1_method_20_code
def yX7_sign : MethodName := ⟨RX7, "sign", "(CI)I"⟩
abbrev cX7_word : ByteArray := prog_1_method_21_code
def yX7_word : MethodName := ⟨RX7, "word", "(II)I"⟩
abbrev cX7_at : ByteArray := prog_1_method_22_code
def yX7_at : MethodName := ⟨RX7, "at", "(III)I"⟩
abbrev cX7_result : ByteArray := prog_1_method_23_code
def yX7_result : MethodName := ⟨RX7, "result", "(I)I"⟩
abbrev cX7_collideWith : ByteArray := prog_1_method_24_code
def yX7_collideWith : MethodName := ⟨RX7, "collideWith", "(CC)I"⟩
abbrev cX7_count : ByteArray := prog_1_method_25_code
def yX7_count : MethodName := ⟨RX7, "count", "(I)I"⟩
abbrev cX7_isSmall : ByteArray := prog_1_method_26_code
def yX7_isSmall : MethodName := ⟨RX7, "isSmall", "(I)Z"⟩
abbrev cX7_isCapital : ByteArray := prog_1_method_27_code
def yX7_isCapital : MethodName := ⟨RX7, "isCapital", "(I)Z"⟩
abbrev cX7_isVowel : ByteArray := prog_1_method_28_code
def yX7_isVowel : MethodName := ⟨RX7, "isVowel", "(I)Z"⟩
def RX8 : String := "SoundSpellerModel"
def TX8 : u_T := fun k => match k with
  | 0 => ("SoundSpellerModel", "all", "[I", true)
  | 1 => ("SoundSpellerModel", "kept", "[I", true)
  | 2 => ("SoundSpellerModel", "history", "[I", true)
  | 3 => ("SoundSpellerModel", "historyLong", "I", false)
  | 4 => ("SoundSpellerModel", "snapshot", "[I", true)
  | 5 => ("SoundSpellerModel", "isTaken", "I", false)
  | 6 => ("SoundSpellerModel", "letters", "[I", true)
  | 7 => ("SoundSpellerModel", "size", "I", false)
  | 8 => ("SoundSpellerModel", "ruleFor", "[I", true)
  | 9 => ("SoundSpellerModel", "sounds", "[I", true)
  | 10 => ("SoundSpellerModel", "soundsLong", "I", false)
  | 11 => ("SoundSpellerModel", "usedTimes", "I", false)
  | 12 => ("SoundSpellerModel", "used", "[I", true)
  | 13 => ("SoundSpellerModel", "out", "[I", true)
  | 14 => ("SoundSpellerModel", "outLong", "I", false)
  | 15 => ("SoundSpellerModel", "spelling", "[I", true)
  | 16 => ("SoundSpellerModel", "spellingLong", "[I", true)
  | 17 => ("SoundSpellerModel", "text", "[I", true)
  | 18 => ("SoundSpellerModel", "textLong", "I", false)
  | 19 => ("SoundSpellerModel", "spot", "I", false)
  | 20 => ("SoundSpellerModel", "isTwice", "Z", false)
  | 21 => ("SoundSpellerModel", "isTooMany", "Z", false)
  | 22 => ("SoundSpellerModel", "more", "[I", true)
  | 23 => ("SoundSpellerModel", "manyMore", "I", false)
  | 24 => ("SoundSpellerModel", "had", "[I", true)
  | 25 => ("SoundSpellerModel", "hadLong", "[I", true)
  | 26 => ("SoundSpellerModel", "result", "[I", true)
  | _ => ("SoundSpellerModel", "resultLong", "I", false)
def tyX8 : Nat → FieldType := fun k => match k with
  | 0 => .array .int
  | 1 => .array .int
  | 2 => .array .int
  | 3 => .int
  | 4 => .array .int
  | 5 => .int
  | 6 => .array .int
  | 7 => .int
  | 8 => .array .int
  | 9 => .array .int
  | 10 => .int
  | 11 => .int
  | 12 => .array .int
  | 13 => .array .int
  | 14 => .int
  | 15 => .array .int
  | 16 => .array .int
  | 17 => .array .int
  | 18 => .int
  | 19 => .int
  | 20 => .boolean
  | 21 => .boolean
  | 22 => .array .int
  | 23 => .int
  | 24 => .array .int
  | 25 => .array .int
  | 26 => .array .int
  | _ => .int
abbrev wsX80 : List Cond := u_ws RX8 TX8 28
theorem nmX8 : ∀ a, a < 28 → ∀ b, b < 28 → a ≠ b → (TX8 a).2.1 ≠ (TX8 b).2.1 := by decide +kernel
theorem tyX8_ok : ∀ k, k < 28 → parseFieldDescriptor (TX8 k).2.2.1 = some (tyX8 k) := by decide +kernel
abbrev cX8_init : ByteArray := prog_10_method_1_code
def yX8_init : MethodName := ⟨RX8, "<init>", "()V"⟩
abbrev cX8_in : ByteArray := prog_10_method_3_code
def yX8_in : MethodName := ⟨RX8, "in", "(JJJ)Z"⟩
abbrev cX8_copy : ByteArray := prog_10_method_4_code
def yX8_copy : MethodName := ⟨RX8, "copy", "([I[I)V"⟩
abbrev cX8_remember : ByteArray := prog_10_method_5_code
def yX8_remember : MethodName := ⟨RX8, "remember", "()V"⟩
abbrev cX8_refused : ByteArray := prog_10_method_6_code
def yX8_refused : MethodName := ⟨RX8, "refused", "(I)I"⟩
abbrev cX8_acted : ByteArray := prog_10_method_7_code
def yX8_acted : MethodName := ⟨RX8, "acted", "(I)I"⟩
abbrev cX8_ruleAt : ByteArray := prog_10_method_8_code
def yX8_ruleAt : MethodName := ⟨RX8, "ruleAt", "(I)I"⟩
abbrev cX8_wordAt : ByteArray := prog_10_method_9_code
def yX8_wordAt : MethodName := ⟨RX8, "wordAt", "(I)I"⟩
abbrev cX8_isRule : ByteArray := prog_10_method_10_code
def yX8_isRule : MethodName := ⟨RX8, "isRule", "(I)Z"⟩
abbrev cX8_isWord : ByteArray := prog_10_method_11_code
def yX8_isWord : MethodName := ⟨RX8, "isWord", "(I)Z"⟩
abbrev cX8_isVowel : ByteArray := prog_10_method_12_code
def yX8_isVowel : MethodName := ⟨RX8, "isVowel", "(I)Z"⟩
abbrev cX8_stands : ByteArray := prog_10_method_13_code
def yX8_stands : MethodName := ⟨RX8, "stands", "(II)Z"⟩
abbrev cX8_holds : ByteArray := prog_10_method_14_code
def yX8_holds : MethodName := ⟨RX8, "holds", "(II)Z"⟩
abbrev cX8_weight : ByteArray := prog_10_method_15_code
def yX8_weight : MethodName := ⟨RX8, "weight", "(I)I"⟩
abbrev cX8_ruleAtPlace : ByteArray := prog_10_method_16_code
def yX8_ruleAtPlace : MethodName := ⟨RX8, "ruleAtPlace", "(I)I"⟩
abbrev cX8_findsSounds : ByteArray := prog_10_method_17_code
def yX8_findsSounds : MethodName := ⟨RX8, "findsSounds", "()V"⟩
abbrev cX8_lays : ByteArray := prog_10_method_18_code
def yX8_lays : MethodName := ⟨RX8, "lays", "(I)V"⟩
abbrev cX8_usesNone : ByteArray := prog_10_method_19_code
def yX8_usesNone : MethodName := ⟨RX8, "usesNone", "()V"⟩
abbrev cX8_uses : ByteArray := prog_10_method_20_code
def yX8_uses : MethodName := ⟨RX8, "uses", "()V"⟩
abbrev cX8_writes : ByteArray := prog_10_method_21_code
def yX8_writes : MethodName := ⟨RX8, "writes", "(I)V"⟩
abbrev cX8_writesItself : ByteArray := prog_10_method_22_code
def yX8_writesItself : MethodName := ⟨RX8, "writesItself", "()V"⟩
abbrev cX8_writesAs : ByteArray := prog_10_method_23_code
def yX8_writesAs : MethodName := ⟨RX8, "writesAs", "(I)V"⟩
abbrev cX8_spells : ByteArray := prog_10_method_24_code
def yX8_spells : MethodName := ⟨RX8, "spells", "()V"⟩
abbrev cX8_areSame : ByteArray := prog_10_method_25_code
def yX8_areSame : MethodName := ⟨RX8, "areSame", "(II)Z"⟩
abbrev cX8_withSpelling : ByteArray := prog_10_method_26_code
def yX8_withSpelling : MethodName := ⟨RX8, "withSpelling", "(IZ)I"⟩
abbrev cX8_colliding : ByteArray := prog_10_method_27_code
def yX8_colliding : MethodName := ⟨RX8, "colliding", "()I"⟩
abbrev cX8_type : ByteArray := prog_10_method_28_code
def yX8_type : MethodName := ⟨RX8, "type", "(C)I"⟩
abbrev cX8_clearText : ByteArray := prog_10_method_29_code
def yX8_clearText : MethodName := ⟨RX8, "clearText", "()I"⟩
abbrev cX8_isHere : ByteArray := prog_10_method_30_code
def yX8_isHere : MethodName := ⟨RX8, "isHere", "(II)Z"⟩
abbrev cX8_takes : ByteArray := prog_10_method_31_code
def yX8_takes : MethodName := ⟨RX8, "takes", "(I)Z"⟩
abbrev cX8_passes : ByteArray := prog_10_method_32_code
def yX8_passes : MethodName := ⟨RX8, "passes", "(I)I"⟩
abbrev cX8_sideOf : ByteArray := prog_10_method_33_code
def yX8_sideOf : MethodName := ⟨RX8, "sideOf", "(I)I"⟩
abbrev cX8_readsEntry : ByteArray := prog_10_method_34_code
def yX8_readsEntry : MethodName := ⟨RX8, "readsEntry", "(Z)Z"⟩
abbrev cX8_faultOfEntries : ByteArray := prog_10_method_35_code
def yX8_faultOfEntries : MethodName := ⟨RX8, "faultOfEntries", "()I"⟩
abbrev cX8_setsSign : ByteArray := prog_10_method_36_code
def yX8_setsSign : MethodName := ⟨RX8, "setsSign", "(III)V"⟩
abbrev cX8_isAt : ByteArray := prog_10_method_37_code
def yX8_isAt : MethodName := ⟨RX8, "isAt", "(III)Z"⟩
abbrev cX8_isBeyond : ByteArray := prog_10_method_38_code
def yX8_isBeyond : MethodName := ⟨RX8, "isBeyond", "(III)Z"⟩
abbrev cX8_goesBeyond : ByteArray := prog_10_method_39_code
def yX8_goesBeyond : MethodName := ⟨RX8, "goesBeyond", "(III)V"⟩
abbrev cX8_addsRule : ByteArray := prog_10_method_40_code
def yX8_addsRule : MethodName := ⟨RX8, "addsRule", "(IIII)V"⟩
abbrev cX8_addsWord : ByteArray := prog_10_method_41_code
def yX8_addsWord : MethodName := ⟨RX8, "addsWord", "(III)V"⟩
abbrev cX8_readEntries : ByteArray := prog_10_method_42_code
def yX8_readEntries : MethodName := ⟨RX8, "readEntries", "()I"⟩
abbrev cX8_takesOut : ByteArray := prog_10_method_43_code
def yX8_takesOut : MethodName := ⟨RX8, "takesOut", "(IIII)V"⟩
abbrev cX8_removeRule : ByteArray := prog_10_method_44_code
def yX8_removeRule : MethodName := ⟨RX8, "removeRule", "(I)I"⟩
abbrev cX8_changedSpellings : ByteArray := prog_10_method_45_code
def yX8_changedSpellings : MethodName := ⟨RX8, "changedSpellings", "()I"⟩
abbrev cX8_moveRule : ByteArray := prog_10_method_46_code
def yX8_moveRule : MethodName := ⟨RX8, "moveRule", "(II)I"⟩
abbrev cX8_removeWord : ByteArray := prog_10_method_47_code
def yX8_removeWord : MethodName := ⟨RX8, "removeWord", "(I)I"⟩
abbrev cX8_setKind : ByteArray := prog_10_method_48_code
def yX8_setKind : MethodName := ⟨RX8, "setKind", "(II)I"⟩
abbrev cX8_markCollisions : ByteArray := prog_10_method_49_code
def yX8_markCollisions : MethodName := ⟨RX8, "markCollisions", "()I"⟩
abbrev cX8_faultOfWords : ByteArray := prog_10_method_50_code
def yX8_faultOfWords : MethodName := ⟨RX8, "faultOfWords", "(Z)I"⟩
abbrev cX8_inBook : ByteArray := prog_10_method_51_code
def yX8_inBook : MethodName := ⟨RX8, "inBook", "(II)I"⟩
abbrev cX8_tells : ByteArray := prog_10_method_52_code
def yX8_tells : MethodName := ⟨RX8, "tells", "(I)V"⟩
abbrev cX8_converts : ByteArray := prog_10_method_53_code
def yX8_converts : MethodName := ⟨RX8, "converts", "(II)V"⟩
abbrev cX8_spelledSo : ByteArray := prog_10_method_54_code
def yX8_spelledSo : MethodName := ⟨RX8, "spelledSo", "(II)I"⟩
abbrev cX8_convertsBack : ByteArray := prog_10_method_55_code
def yX8_convertsBack : MethodName := ⟨RX8, "convertsBack", "(II)V"⟩
abbrev cX8_convert : ByteArray := prog_10_method_56_code
def yX8_convert : MethodName := ⟨RX8, "convert", "(Z)I"⟩
abbrev cX8_takeResult : ByteArray := prog_10_method_57_code
def yX8_takeResult : MethodName := ⟨RX8, "takeResult", "()I"⟩
abbrev cX8_undo : ByteArray := prog_10_method_58_code
def yX8_undo : MethodName := ⟨RX8, "undo", "()I"⟩
abbrev cX8_keep : ByteArray := prog_10_method_59_code
def yX8_keep : MethodName := ⟨RX8, "keep", "()I"⟩
abbrev cX8_restore : ByteArray := prog_10_method_60_code
def yX8_restore : MethodName := ⟨RX8, "restore", "()I"⟩
abbrev cX8_rule : ByteArray := prog_10_method_61_code
def yX8_rule : MethodName := ⟨RX8, "rule", "(II)I"⟩
abbrev cX8_letterOf : ByteArray := prog_10_method_62_code
def yX8_letterOf : MethodName := ⟨RX8, "letterOf", "(II)I"⟩
abbrev cX8_sign : ByteArray := prog_10_method_63_code
def yX8_sign : MethodName := ⟨RX8, "sign", "(CI)I"⟩
abbrev cX8_word : ByteArray := prog_10_method_64_code
def yX8_word : MethodName := ⟨RX8, "word", "(II)I"⟩
abbrev cX8_at : ByteArray := prog_10_method_65_code
def yX8_at : MethodName := ⟨RX8, "at", "(III)I"⟩
abbrev cX8_result : ByteArray := prog_10_method_66_code
def yX8_result : MethodName := ⟨RX8, "result", "(I)I"⟩
abbrev cX8_collideWith : ByteArray := prog_10_method_67_code
def yX8_collideWith : MethodName := ⟨RX8, "collideWith", "(CC)I"⟩
abbrev cX8_comeBack : ByteArray := prog_10_method_68_code
def yX8_comeBack : MethodName := ⟨RX8, "comeBack", "()I"⟩
abbrev cX8_neverUsed : ByteArray := prog_10_method_69_code
def yX8_neverUsed : MethodName := ⟨RX8, "neverUsed", "()I"⟩
abbrev cX8_lettersOfAll : ByteArray := prog_10_method_70_code
def yX8_lettersOfAll : MethodName := ⟨RX8, "lettersOfAll", "()I"⟩
abbrev cX8_spellingsOfAll : ByteArray := prog_10_method_71_code
def yX8_spellingsOfAll : MethodName := ⟨RX8, "spellingsOfAll", "()I"⟩
abbrev cX8_longSigns : ByteArray := prog_10_method_72_code
def yX8_longSigns : MethodName := ⟨RX8, "longSigns", "()I"⟩
abbrev cX8_count : ByteArray := prog_10_method_73_code
def yX8_count : MethodName := ⟨RX8, "count", "(I)I"⟩
def RJ9 : String := "java/lang/Math"
def TJ9 : u_T := fun k => match k with
  | _ => ("", "", "", false)
def tyJ9 : Nat → FieldType := fun k => match k with
  | _ => .int
abbrev wsJ90 : List Cond := u_ws RJ9 TJ9 0
theorem nmJ9 : ∀ a, a < 0 → ∀ b, b < 0 → a ≠ b → (TJ9 a).2.1 ≠ (TJ9 b).2.1 := by decide +kernel
theorem tyJ9_ok : ∀ k, k < 0 → parseFieldDescriptor (TJ9 k).2.2.1 = some (tyJ9 k) := by decide +kernel
abbrev cJ9_max_7cf53 : ByteArray := prog_11_method_65_code
def yJ9_max_7cf53 : MethodName := ⟨RJ9, "max", "(II)I"⟩
abbrev cJ9_min_7cf53 : ByteArray := prog_11_method_69_code
def yJ9_min_7cf53 : MethodName := ⟨RJ9, "min", "(II)I"⟩
def RL : String := "SoundSpellerLaw"
abbrev cL_law : ByteArray := code
def yL_law : MethodName := ⟨RL, "law", "([I)Z"⟩
def wsX3_init : List Cond := .code yX3_init cX3_init 2 none :: ([.methodLink RX3 3 objectInit, .instanceMethod objectInit, .code objectInit ⟨#[0xb1]⟩ 1 none, .methodLink RX3 9 Lib.Math.max.name, .static Lib.Math.max.name, .initialized "java/lang/Math", .code Lib.Math.max.name Lib.Math.max.code 2 (some .int), .arrayClass .int, .fieldLink RX3 15 "SoundSpeller$Row" "cells" "[I"] ++ wsX30)
def wsX3_add : List Cond := .code yX3_add cX3_add 2 none :: ([.fieldLink RX3 21 "SoundSpeller$Row" "size" "I", .fieldLink RX3 15 "SoundSpeller$Row" "cells" "[I"] ++ wsX30)
def wsX3_addMany : List Cond := .code yX3_addMany cX3_addMany 4 none :: ([.methodLink RX3 29 yX3_add, .instanceMethod yX3_add, .selects RX3 yX3_add yX3_add, .initialized RX3, .code yX3_add cX3_add 2 none, .fieldLink RX3 21 "SoundSpeller$Row" "size" "I", .fieldLink RX3 15 "SoundSpeller$Row" "cells" "[I"] ++ wsX30)
def wsX4_init_r1 : List Cond := [Cond.methodLink RX4 3 objectInit, Cond.instanceMethod objectInit, Cond.code objectInit ⟨#[0xb1]⟩ 1 none, Cond.fieldLink RX4 9 "SoundSpeller$Rows" "width" "I", Cond.classLink RX4 15 RX3, Cond.instantiable RX3 2, Cond.initialized RX3, Cond.fieldLink RX4 20 "SoundSpeller$Rows" "cells" "LSoundSpeller$Row;", Cond.fieldLink RX4 28 "SoundSpeller$Rows" "lengths" "LSoundSpeller$Row;", Cond.methodLink RX4 17 yX3_init, Cond.instanceMethod yX3_init, Cond.code yX3_init cX3_init 2 none, Cond.methodLink RX3 3 objectInit, Cond.methodLink RX3 9 Lib.Math.max.name, Cond.static Lib.Math.max.name, Cond.initialized "java/lang/Math", Cond.code Lib.Math.max.name Lib.Math.max.code 2 (some .int), Cond.arrayClass .int, Cond.fieldLink RX3 15 "SoundSpeller$Row" "cells" "[I", Cond.methodLink RX4 24 yX3_addMany, Cond.instanceMethod yX3_addMany, Cond.selects RX3 yX3_addMany yX3_addMany, Cond.code yX3_addMany cX3_addMany 4 none, Cond.methodLink RX3 29 yX3_add]
def wsX4_init_r2 : List Cond := [Cond.instanceMethod yX3_add, Cond.selects RX3 yX3_add yX3_add, Cond.code yX3_add cX3_add 2 none, Cond.fieldLink RX3 21 "SoundSpeller$Row" "size" "I"]
def wsX4_init : List Cond := .code yX4_init cX4_init 3 none :: ((wsX4_init_r1 ++ wsX4_init_r2) ++ wsX40 ++ wsX30)
def wsX3_clear : List Cond := .code yX3_clear cX3_clear 1 none :: ([.fieldLink RX3 21 "SoundSpeller$Row" "size" "I"] ++ wsX30)
def wsX3_isFull : List Cond := .code yX3_isFull cX3_isFull 1 (some .boolean) :: ([.fieldLink RX3 21 "SoundSpeller$Row" "size" "I", .fieldLink RX3 15 "SoundSpeller$Row" "cells" "[I"] ++ wsX30)
def wsX3_size : List Cond := .code yX3_size cX3_size 1 (some .int) :: ([.fieldLink RX3 21 "SoundSpeller$Row" "size" "I"] ++ wsX30)
def wsX4_has : List Cond := .code yX4_has cX4_has 2 (some .boolean) :: ([.fieldLink RX4 28 "SoundSpeller$Rows" "lengths" "LSoundSpeller$Row;", .methodLink RX4 31 yX3_size, .instanceMethod yX3_size, .selects RX3 yX3_size yX3_size, .initialized RX3, .code yX3_size cX3_size 1 (some .int), .fieldLink RX3 21 "SoundSpeller$Row" "size" "I"] ++ wsX40 ++ wsX30)
def wsX3_set : List Cond := .code yX3_set cX3_set 3 none :: ([.fieldLink RX3 21 "SoundSpeller$Row" "size" "I", .fieldLink RX3 15 "SoundSpeller$Row" "cells" "[I"] ++ wsX30)
def wsX3_get : List Cond := .code yX3_get cX3_get 2 (some .int) :: ([.fieldLink RX3 21 "SoundSpeller$Row" "size" "I", .fieldLink RX3 15 "SoundSpeller$Row" "cells" "[I"] ++ wsX30)
def wsX4_put_r1 : List Cond := [Cond.fieldLink RX4 9 "SoundSpeller$Rows" "width" "I", Cond.methodLink RX4 54 Lib.Math.min.name, Cond.static Lib.Math.min.name, Cond.initialized "java/lang/Math", Cond.code Lib.Math.min.name Lib.Math.min.code 2 (some .int), Cond.fieldLink RX4 28 "SoundSpeller$Rows" "lengths" "LSoundSpeller$Row;", Cond.fieldLink RX4 20 "SoundSpeller$Rows" "cells" "LSoundSpeller$Row;", Cond.methodLink RX4 50 yX4_has, Cond.instanceMethod yX4_has, Cond.selects RX4 yX4_has yX4_has, Cond.initialized RX4, Cond.code yX4_has cX4_has 2 (some .boolean), Cond.methodLink RX4 31 yX3_size, Cond.instanceMethod yX3_size, Cond.selects RX3 yX3_size yX3_size, Cond.initialized RX3, Cond.code yX3_size cX3_size 1 (some .int), Cond.fieldLink RX3 21 "SoundSpeller$Row" "size" "I", Cond.methodLink RX4 60 yX3_set, Cond.instanceMethod yX3_set, Cond.selects RX3 yX3_set yX3_set, Cond.code yX3_set cX3_set 3 none, Cond.fieldLink RX3 15 "SoundSpeller$Row" "cells" "[I", Cond.methodLink RX4 35 yX3_get]
def wsX4_put_r2 : List Cond := [Cond.instanceMethod yX3_get, Cond.selects RX3 yX3_get yX3_get, Cond.code yX3_get cX3_get 2 (some .int)]
def wsX4_put : List Cond := .code yX4_put cX4_put 5 none :: ((wsX4_put_r1 ++ wsX4_put_r2) ++ wsX40 ++ wsX30)
def wsX4_add_r1 : List Cond := [Cond.fieldLink RX4 28 "SoundSpeller$Rows" "lengths" "LSoundSpeller$Row;", Cond.methodLink RX4 39 yX3_isFull, Cond.instanceMethod yX3_isFull, Cond.selects RX3 yX3_isFull yX3_isFull, Cond.initialized RX3, Cond.code yX3_isFull cX3_isFull 1 (some .boolean), Cond.fieldLink RX3 21 "SoundSpeller$Row" "size" "I", Cond.fieldLink RX3 15 "SoundSpeller$Row" "cells" "[I", Cond.methodLink RX4 43 yX3_add, Cond.instanceMethod yX3_add, Cond.selects RX3 yX3_add yX3_add, Cond.code yX3_add cX3_add 2 none, Cond.methodLink RX4 31 yX3_size, Cond.instanceMethod yX3_size, Cond.selects RX3 yX3_size yX3_size, Cond.code yX3_size cX3_size 1 (some .int), Cond.methodLink RX4 46 yX4_put, Cond.instanceMethod yX4_put, Cond.selects RX4 yX4_put yX4_put, Cond.initialized RX4, Cond.code yX4_put cX4_put 5 none, Cond.fieldLink RX4 9 "SoundSpeller$Rows" "width" "I", Cond.methodLink RX4 54 Lib.Math.min.name, Cond.static Lib.Math.min.name]
def wsX4_add_r2 : List Cond := [Cond.initialized "java/lang/Math", Cond.code Lib.Math.min.name Lib.Math.min.code 2 (some .int), Cond.fieldLink RX4 20 "SoundSpeller$Rows" "cells" "LSoundSpeller$Row;", Cond.methodLink RX4 50 yX4_has, Cond.instanceMethod yX4_has, Cond.selects RX4 yX4_has yX4_has, Cond.code yX4_has cX4_has 2 (some .boolean), Cond.methodLink RX4 60 yX3_set, Cond.instanceMethod yX3_set, Cond.selects RX3 yX3_set yX3_set, Cond.code yX3_set cX3_set 3 none, Cond.methodLink RX4 35 yX3_get, Cond.instanceMethod yX3_get, Cond.selects RX3 yX3_get yX3_get, Cond.code yX3_get cX3_get 2 (some .int)]
def wsX4_add : List Cond := .code yX4_add cX4_add 2 none :: ((wsX4_add_r1 ++ wsX4_add_r2) ++ wsX40 ++ wsX30)
def wsX0_init_r1 : List Cond := [Cond.methodLink RX0 3 objectInit, Cond.instanceMethod objectInit, Cond.code objectInit ⟨#[0xb1]⟩ 1 none, Cond.classLink RX0 9 RX4, Cond.instantiable RX4 3, Cond.initialized RX4, Cond.fieldLink RX0 14 "SoundSpeller$Book" "ruleLetters" "LSoundSpeller$Rows;", Cond.classLink RX0 20 RX3, Cond.instantiable RX3 2, Cond.initialized RX3, Cond.fieldLink RX0 25 "SoundSpeller$Book" "ruleSounds" "LSoundSpeller$Row;", Cond.fieldLink RX0 29 "SoundSpeller$Book" "ruleSides" "LSoundSpeller$Row;", Cond.fieldLink RX0 32 "SoundSpeller$Book" "signs" "LSoundSpeller$Rows;", Cond.fieldLink RX0 35 "SoundSpeller$Book" "letters" "LSoundSpeller$Rows;", Cond.fieldLink RX0 38 "SoundSpeller$Book" "kinds" "LSoundSpeller$Row;", Cond.methodLink RX0 11 yX4_init, Cond.instanceMethod yX4_init, Cond.code yX4_init cX4_init 3 none, Cond.methodLink RX4 3 objectInit, Cond.fieldLink RX4 9 "SoundSpeller$Rows" "width" "I", Cond.classLink RX4 15 RX3, Cond.fieldLink RX4 20 "SoundSpeller$Rows" "cells" "LSoundSpeller$Row;", Cond.fieldLink RX4 28 "SoundSpeller$Rows" "lengths" "LSoundSpeller$Row;", Cond.methodLink RX4 17 yX3_init]
def wsX0_init_r2 : List Cond := [Cond.instanceMethod yX3_init, Cond.code yX3_init cX3_init 2 none, Cond.methodLink RX3 3 objectInit, Cond.methodLink RX3 9 Lib.Math.max.name, Cond.static Lib.Math.max.name, Cond.initialized "java/lang/Math", Cond.code Lib.Math.max.name Lib.Math.max.code 2 (some .int), Cond.arrayClass .int, Cond.fieldLink RX3 15 "SoundSpeller$Row" "cells" "[I", Cond.methodLink RX4 24 yX3_addMany, Cond.instanceMethod yX3_addMany, Cond.selects RX3 yX3_addMany yX3_addMany, Cond.code yX3_addMany cX3_addMany 4 none, Cond.methodLink RX3 29 yX3_add, Cond.instanceMethod yX3_add, Cond.selects RX3 yX3_add yX3_add, Cond.code yX3_add cX3_add 2 none, Cond.fieldLink RX3 21 "SoundSpeller$Row" "size" "I", Cond.methodLink RX0 22 yX3_init, Cond.methodLink RX0 41 yX3_clear, Cond.instanceMethod yX3_clear, Cond.selects RX3 yX3_clear yX3_clear, Cond.code yX3_clear cX3_clear 1 none, Cond.methodLink RX0 44 yX3_add]
def wsX0_init_r3 : List Cond := [Cond.methodLink RX0 47 yX4_add, Cond.instanceMethod yX4_add, Cond.selects RX4 yX4_add yX4_add, Cond.code yX4_add cX4_add 2 none, Cond.methodLink RX4 39 yX3_isFull, Cond.instanceMethod yX3_isFull, Cond.selects RX3 yX3_isFull yX3_isFull, Cond.code yX3_isFull cX3_isFull 1 (some .boolean), Cond.methodLink RX4 43 yX3_add, Cond.methodLink RX4 31 yX3_size, Cond.instanceMethod yX3_size, Cond.selects RX3 yX3_size yX3_size, Cond.code yX3_size cX3_size 1 (some .int), Cond.methodLink RX4 46 yX4_put, Cond.instanceMethod yX4_put, Cond.selects RX4 yX4_put yX4_put, Cond.code yX4_put cX4_put 5 none, Cond.methodLink RX4 54 Lib.Math.min.name, Cond.static Lib.Math.min.name, Cond.code Lib.Math.min.name Lib.Math.min.code 2 (some .int), Cond.methodLink RX4 50 yX4_has, Cond.instanceMethod yX4_has, Cond.selects RX4 yX4_has yX4_has, Cond.code yX4_has cX4_has 2 (some .boolean)]
def wsX0_init_r4 : List Cond := [Cond.methodLink RX4 60 yX3_set, Cond.instanceMethod yX3_set, Cond.selects RX3 yX3_set yX3_set, Cond.code yX3_set cX3_set 3 none, Cond.methodLink RX4 35 yX3_get, Cond.instanceMethod yX3_get, Cond.selects RX3 yX3_get yX3_get, Cond.code yX3_get cX3_get 2 (some .int)]
def wsX0_init : List Cond := .code yX0_init cX0_init 5 none :: ((wsX0_init_r1 ++ (wsX0_init_r2 ++ (wsX0_init_r3 ++ wsX0_init_r4))) ++ wsX40 ++ wsX00 ++ wsX30)
def wsX3_addAll : List Cond := .code yX3_addAll cX3_addAll 3 none :: ([.fieldLink RX3 21 "SoundSpeller$Row" "size" "I", .methodLink RX3 25 yX3_get, .instanceMethod yX3_get, .selects RX3 yX3_get yX3_get, .initialized RX3, .code yX3_get cX3_get 2 (some .int), .fieldLink RX3 15 "SoundSpeller$Row" "cells" "[I", .methodLink RX3 29 yX3_add, .instanceMethod yX3_add, .selects RX3 yX3_add yX3_add, .code yX3_add cX3_add 2 none] ++ wsX30)
def wsX3_copyFrom : List Cond := .code yX3_copyFrom cX3_copyFrom 2 none :: ([.methodLink RX3 37 yX3_clear, .instanceMethod yX3_clear, .selects RX3 yX3_clear yX3_clear, .initialized RX3, .code yX3_clear cX3_clear 1 none, .fieldLink RX3 21 "SoundSpeller$Row" "size" "I", .methodLink RX3 40 yX3_addAll, .instanceMethod yX3_addAll, .selects RX3 yX3_addAll yX3_addAll, .code yX3_addAll cX3_addAll 3 none, .methodLink RX3 25 yX3_get, .instanceMethod yX3_get, .selects RX3 yX3_get yX3_get, .code yX3_get cX3_get 2 (some .int), .fieldLink RX3 15 "SoundSpeller$Row" "cells" "[I", .methodLink RX3 29 yX3_add, .instanceMethod yX3_add, .selects RX3 yX3_add yX3_add, .code yX3_add cX3_add 2 none] ++ wsX30)
def wsX4_copyFrom_r1 : List Cond := [Cond.fieldLink RX4 28 "SoundSpeller$Rows" "lengths" "LSoundSpeller$Row;", Cond.fieldLink RX4 9 "SoundSpeller$Rows" "width" "I", Cond.fieldLink RX4 20 "SoundSpeller$Rows" "cells" "LSoundSpeller$Row;", Cond.methodLink RX4 68 yX3_copyFrom, Cond.instanceMethod yX3_copyFrom, Cond.selects RX3 yX3_copyFrom yX3_copyFrom, Cond.initialized RX3, Cond.code yX3_copyFrom cX3_copyFrom 2 none, Cond.methodLink RX3 37 yX3_clear, Cond.instanceMethod yX3_clear, Cond.selects RX3 yX3_clear yX3_clear, Cond.code yX3_clear cX3_clear 1 none, Cond.fieldLink RX3 21 "SoundSpeller$Row" "size" "I", Cond.methodLink RX3 40 yX3_addAll, Cond.instanceMethod yX3_addAll, Cond.selects RX3 yX3_addAll yX3_addAll, Cond.code yX3_addAll cX3_addAll 3 none, Cond.methodLink RX3 25 yX3_get, Cond.instanceMethod yX3_get, Cond.selects RX3 yX3_get yX3_get, Cond.code yX3_get cX3_get 2 (some .int), Cond.fieldLink RX3 15 "SoundSpeller$Row" "cells" "[I", Cond.methodLink RX3 29 yX3_add, Cond.instanceMethod yX3_add]
def wsX4_copyFrom_r2 : List Cond := [Cond.selects RX3 yX3_add yX3_add, Cond.code yX3_add cX3_add 2 none, Cond.methodLink RX4 31 yX3_size, Cond.instanceMethod yX3_size, Cond.selects RX3 yX3_size yX3_size, Cond.code yX3_size cX3_size 1 (some .int), Cond.methodLink RX4 35 yX3_get, Cond.methodLink RX4 60 yX3_set, Cond.instanceMethod yX3_set, Cond.selects RX3 yX3_set yX3_set, Cond.code yX3_set cX3_set 3 none]
def wsX4_copyFrom : List Cond := .code yX4_copyFrom cX4_copyFrom 3 none :: ((wsX4_copyFrom_r1 ++ wsX4_copyFrom_r2) ++ wsX40 ++ wsX30)
def wsX0_copyFrom_r1 : List Cond := [Cond.fieldLink RX0 14 "SoundSpeller$Book" "ruleLetters" "LSoundSpeller$Rows;", Cond.fieldLink RX0 25 "SoundSpeller$Book" "ruleSounds" "LSoundSpeller$Row;", Cond.fieldLink RX0 29 "SoundSpeller$Book" "ruleSides" "LSoundSpeller$Row;", Cond.fieldLink RX0 32 "SoundSpeller$Book" "signs" "LSoundSpeller$Rows;", Cond.fieldLink RX0 35 "SoundSpeller$Book" "letters" "LSoundSpeller$Rows;", Cond.fieldLink RX0 38 "SoundSpeller$Book" "kinds" "LSoundSpeller$Row;", Cond.methodLink RX0 50 yX4_copyFrom, Cond.instanceMethod yX4_copyFrom, Cond.selects RX4 yX4_copyFrom yX4_copyFrom, Cond.initialized RX4, Cond.code yX4_copyFrom cX4_copyFrom 3 none, Cond.fieldLink RX4 28 "SoundSpeller$Rows" "lengths" "LSoundSpeller$Row;", Cond.fieldLink RX4 9 "SoundSpeller$Rows" "width" "I", Cond.fieldLink RX4 20 "SoundSpeller$Rows" "cells" "LSoundSpeller$Row;", Cond.methodLink RX4 68 yX3_copyFrom, Cond.instanceMethod yX3_copyFrom, Cond.selects RX3 yX3_copyFrom yX3_copyFrom, Cond.initialized RX3, Cond.code yX3_copyFrom cX3_copyFrom 2 none, Cond.methodLink RX3 37 yX3_clear, Cond.instanceMethod yX3_clear, Cond.selects RX3 yX3_clear yX3_clear, Cond.code yX3_clear cX3_clear 1 none, Cond.fieldLink RX3 21 "SoundSpeller$Row" "size" "I"]
def wsX0_copyFrom_r2 : List Cond := [Cond.methodLink RX3 40 yX3_addAll, Cond.instanceMethod yX3_addAll, Cond.selects RX3 yX3_addAll yX3_addAll, Cond.code yX3_addAll cX3_addAll 3 none, Cond.methodLink RX3 25 yX3_get, Cond.instanceMethod yX3_get, Cond.selects RX3 yX3_get yX3_get, Cond.code yX3_get cX3_get 2 (some .int), Cond.fieldLink RX3 15 "SoundSpeller$Row" "cells" "[I", Cond.methodLink RX3 29 yX3_add, Cond.instanceMethod yX3_add, Cond.selects RX3 yX3_add yX3_add, Cond.code yX3_add cX3_add 2 none, Cond.methodLink RX4 31 yX3_size, Cond.instanceMethod yX3_size, Cond.selects RX3 yX3_size yX3_size, Cond.code yX3_size cX3_size 1 (some .int), Cond.methodLink RX4 35 yX3_get, Cond.methodLink RX4 60 yX3_set, Cond.instanceMethod yX3_set, Cond.selects RX3 yX3_set yX3_set, Cond.code yX3_set cX3_set 3 none, Cond.methodLink RX0 54 yX3_copyFrom]
def wsX0_copyFrom : List Cond := .code yX0_copyFrom cX0_copyFrom 2 none :: ((wsX0_copyFrom_r1 ++ wsX0_copyFrom_r2) ++ wsX00 ++ wsX40 ++ wsX30)
def wsX4_lines : List Cond := .code yX4_lines cX4_lines 1 (some .int) :: ([.fieldLink RX4 28 "SoundSpeller$Rows" "lengths" "LSoundSpeller$Row;", .methodLink RX4 31 yX3_size, .instanceMethod yX3_size, .selects RX3 yX3_size yX3_size, .initialized RX3, .code yX3_size cX3_size 1 (some .int), .fieldLink RX3 21 "SoundSpeller$Row" "size" "I"] ++ wsX40 ++ wsX30)
def wsX0_rules : List Cond := .code yX0_rules cX0_rules 1 (some .int) :: ([.fieldLink RX0 14 "SoundSpeller$Book" "ruleLetters" "LSoundSpeller$Rows;", .methodLink RX0 56 yX4_lines, .instanceMethod yX4_lines, .selects RX4 yX4_lines yX4_lines, .initialized RX4, .code yX4_lines cX4_lines 1 (some .int), .fieldLink RX4 28 "SoundSpeller$Rows" "lengths" "LSoundSpeller$Row;", .methodLink RX4 31 yX3_size, .instanceMethod yX3_size, .selects RX3 yX3_size yX3_size, .initialized RX3, .code yX3_size cX3_size 1 (some .int), .fieldLink RX3 21 "SoundSpeller$Row" "size" "I"] ++ wsX00 ++ wsX40 ++ wsX30)
def wsX0_words : List Cond := .code yX0_words cX0_words 1 (some .int) :: ([.fieldLink RX0 35 "SoundSpeller$Book" "letters" "LSoundSpeller$Rows;", .methodLink RX0 56 yX4_lines, .instanceMethod yX4_lines, .selects RX4 yX4_lines yX4_lines, .initialized RX4, .code yX4_lines cX4_lines 1 (some .int), .fieldLink RX4 28 "SoundSpeller$Rows" "lengths" "LSoundSpeller$Row;", .methodLink RX4 31 yX3_size, .instanceMethod yX3_size, .selects RX3 yX3_size yX3_size, .initialized RX3, .code yX3_size cX3_size 1 (some .int), .fieldLink RX3 21 "SoundSpeller$Row" "size" "I"] ++ wsX00 ++ wsX40 ++ wsX30)
def wsX0_hasRule : List Cond := .code yX0_hasRule cX0_hasRule 2 (some .boolean) :: ([.fieldLink RX0 14 "SoundSpeller$Book" "ruleLetters" "LSoundSpeller$Rows;", .methodLink RX0 60 yX4_has, .instanceMethod yX4_has, .selects RX4 yX4_has yX4_has, .initialized RX4, .code yX4_has cX4_has 2 (some .boolean), .fieldLink RX4 28 "SoundSpeller$Rows" "lengths" "LSoundSpeller$Row;", .methodLink RX4 31 yX3_size, .instanceMethod yX3_size, .selects RX3 yX3_size yX3_size, .initialized RX3, .code yX3_size cX3_size 1 (some .int), .fieldLink RX3 21 "SoundSpeller$Row" "size" "I"] ++ wsX00 ++ wsX40 ++ wsX30)
def wsX0_hasWord : List Cond := .code yX0_hasWord cX0_hasWord 2 (some .boolean) :: ([.fieldLink RX0 35 "SoundSpeller$Book" "letters" "LSoundSpeller$Rows;", .methodLink RX0 60 yX4_has, .instanceMethod yX4_has, .selects RX4 yX4_has yX4_has, .initialized RX4, .code yX4_has cX4_has 2 (some .boolean), .fieldLink RX4 28 "SoundSpeller$Rows" "lengths" "LSoundSpeller$Row;", .methodLink RX4 31 yX3_size, .instanceMethod yX3_size, .selects RX3 yX3_size yX3_size, .initialized RX3, .code yX3_size cX3_size 1 (some .int), .fieldLink RX3 21 "SoundSpeller$Row" "size" "I"] ++ wsX00 ++ wsX40 ++ wsX30)
def wsX4_get : List Cond := .code yX4_get cX4_get 4 (some .int) :: ([.fieldLink RX4 28 "SoundSpeller$Rows" "lengths" "LSoundSpeller$Row;", .fieldLink RX4 20 "SoundSpeller$Rows" "cells" "LSoundSpeller$Row;", .fieldLink RX4 9 "SoundSpeller$Rows" "width" "I", .methodLink RX4 35 yX3_get, .instanceMethod yX3_get, .selects RX3 yX3_get yX3_get, .initialized RX3, .code yX3_get cX3_get 2 (some .int), .fieldLink RX3 21 "SoundSpeller$Row" "size" "I", .fieldLink RX3 15 "SoundSpeller$Row" "cells" "[I"] ++ wsX40 ++ wsX30)
def wsX4_isLike : List Cond := .code yX4_isLike cX4_isLike 4 (some .boolean) :: ([.fieldLink RX4 28 "SoundSpeller$Rows" "lengths" "LSoundSpeller$Row;", .methodLink RX4 35 yX3_get, .instanceMethod yX3_get, .selects RX3 yX3_get yX3_get, .initialized RX3, .code yX3_get cX3_get 2 (some .int), .fieldLink RX3 21 "SoundSpeller$Row" "size" "I", .fieldLink RX3 15 "SoundSpeller$Row" "cells" "[I", .methodLink RX4 31 yX3_size, .instanceMethod yX3_size, .selects RX3 yX3_size yX3_size, .code yX3_size cX3_size 1 (some .int), .methodLink RX4 66 yX4_get, .instanceMethod yX4_get, .selects RX4 yX4_get yX4_get, .initialized RX4, .code yX4_get cX4_get 4 (some .int), .fieldLink RX4 20 "SoundSpeller$Rows" "cells" "LSoundSpeller$Row;", .fieldLink RX4 9 "SoundSpeller$Rows" "width" "I"] ++ wsX40 ++ wsX30)
def wsX0_addRule_r1 : List Cond := [Cond.fieldLink RX0 29 "SoundSpeller$Book" "ruleSides" "LSoundSpeller$Row;", Cond.fieldLink RX0 93 "SoundSpeller$Reader" "side" "I", Cond.fieldLink RX0 14 "SoundSpeller$Book" "ruleLetters" "LSoundSpeller$Rows;", Cond.fieldLink RX0 80 "SoundSpeller$Reader" "letters" "LSoundSpeller$Row;", Cond.fieldLink RX0 25 "SoundSpeller$Book" "ruleSounds" "LSoundSpeller$Row;", Cond.fieldLink RX0 77 "SoundSpeller$Reader" "sound" "I", Cond.methodLink RX0 86 yX0_rules, Cond.instanceMethod yX0_rules, Cond.selects RX0 yX0_rules yX0_rules, Cond.initialized RX0, Cond.code yX0_rules cX0_rules 1 (some .int), Cond.methodLink RX0 56 yX4_lines, Cond.instanceMethod yX4_lines, Cond.selects RX4 yX4_lines yX4_lines, Cond.initialized RX4, Cond.code yX4_lines cX4_lines 1 (some .int), Cond.fieldLink RX4 28 "SoundSpeller$Rows" "lengths" "LSoundSpeller$Row;", Cond.methodLink RX4 31 yX3_size, Cond.instanceMethod yX3_size, Cond.selects RX3 yX3_size yX3_size, Cond.initialized RX3, Cond.code yX3_size cX3_size 1 (some .int), Cond.fieldLink RX3 21 "SoundSpeller$Row" "size" "I", Cond.methodLink RX0 89 yX3_get]
def wsX0_addRule_r2 : List Cond := [Cond.instanceMethod yX3_get, Cond.selects RX3 yX3_get yX3_get, Cond.code yX3_get cX3_get 2 (some .int), Cond.fieldLink RX3 15 "SoundSpeller$Row" "cells" "[I", Cond.methodLink RX0 96 yX4_isLike, Cond.instanceMethod yX4_isLike, Cond.selects RX4 yX4_isLike yX4_isLike, Cond.code yX4_isLike cX4_isLike 4 (some .boolean), Cond.methodLink RX4 35 yX3_get, Cond.methodLink RX4 66 yX4_get, Cond.instanceMethod yX4_get, Cond.selects RX4 yX4_get yX4_get, Cond.code yX4_get cX4_get 4 (some .int), Cond.fieldLink RX4 20 "SoundSpeller$Rows" "cells" "LSoundSpeller$Row;", Cond.fieldLink RX4 9 "SoundSpeller$Rows" "width" "I", Cond.methodLink RX0 47 yX4_add, Cond.instanceMethod yX4_add, Cond.selects RX4 yX4_add yX4_add, Cond.code yX4_add cX4_add 2 none, Cond.methodLink RX4 39 yX3_isFull, Cond.instanceMethod yX3_isFull, Cond.selects RX3 yX3_isFull yX3_isFull, Cond.code yX3_isFull cX3_isFull 1 (some .boolean), Cond.methodLink RX4 43 yX3_add]
def wsX0_addRule_r3 : List Cond := [Cond.instanceMethod yX3_add, Cond.selects RX3 yX3_add yX3_add, Cond.code yX3_add cX3_add 2 none, Cond.methodLink RX4 46 yX4_put, Cond.instanceMethod yX4_put, Cond.selects RX4 yX4_put yX4_put, Cond.code yX4_put cX4_put 5 none, Cond.methodLink RX4 54 Lib.Math.min.name, Cond.static Lib.Math.min.name, Cond.initialized "java/lang/Math", Cond.code Lib.Math.min.name Lib.Math.min.code 2 (some .int), Cond.methodLink RX4 50 yX4_has, Cond.instanceMethod yX4_has, Cond.selects RX4 yX4_has yX4_has, Cond.code yX4_has cX4_has 2 (some .boolean), Cond.methodLink RX4 60 yX3_set, Cond.instanceMethod yX3_set, Cond.selects RX3 yX3_set yX3_set, Cond.code yX3_set cX3_set 3 none, Cond.methodLink RX0 44 yX3_add]
def wsX0_addRule : List Cond := .code yX0_addRule cX0_addRule 3 (some .boolean) :: ((wsX0_addRule_r1 ++ (wsX0_addRule_r2 ++ wsX0_addRule_r3)) ++ wsX00 ++ wsX20 ++ wsX40 ++ wsX30)
def wsX4_find : List Cond := .code yX4_find cX4_find 3 (some .int) :: ([.fieldLink RX4 28 "SoundSpeller$Rows" "lengths" "LSoundSpeller$Row;", .methodLink RX4 31 yX3_size, .instanceMethod yX3_size, .selects RX3 yX3_size yX3_size, .initialized RX3, .code yX3_size cX3_size 1 (some .int), .fieldLink RX3 21 "SoundSpeller$Row" "size" "I", .methodLink RX4 72 yX4_isLike, .instanceMethod yX4_isLike, .selects RX4 yX4_isLike yX4_isLike, .initialized RX4, .code yX4_isLike cX4_isLike 4 (some .boolean), .methodLink RX4 35 yX3_get, .instanceMethod yX3_get, .selects RX3 yX3_get yX3_get, .code yX3_get cX3_get 2 (some .int), .fieldLink RX3 15 "SoundSpeller$Row" "cells" "[I", .methodLink RX4 66 yX4_get, .instanceMethod yX4_get, .selects RX4 yX4_get yX4_get, .code yX4_get cX4_get 4 (some .int), .fieldLink RX4 20 "SoundSpeller$Rows" "cells" "LSoundSpeller$Row;", .fieldLink RX4 9 "SoundSpeller$Rows" "width" "I"] ++ wsX40 ++ wsX30)
def wsX0_addWord_r1 : List Cond := [Cond.fieldLink RX0 35 "SoundSpeller$Book" "letters" "LSoundSpeller$Rows;", Cond.fieldLink RX0 80 "SoundSpeller$Reader" "letters" "LSoundSpeller$Row;", Cond.fieldLink RX0 38 "SoundSpeller$Book" "kinds" "LSoundSpeller$Row;", Cond.fieldLink RX0 104 "SoundSpeller$Reader" "kind" "I", Cond.methodLink RX0 100 yX4_find, Cond.instanceMethod yX4_find, Cond.selects RX4 yX4_find yX4_find, Cond.initialized RX4, Cond.code yX4_find cX4_find 3 (some .int), Cond.fieldLink RX4 28 "SoundSpeller$Rows" "lengths" "LSoundSpeller$Row;", Cond.methodLink RX4 31 yX3_size, Cond.instanceMethod yX3_size, Cond.selects RX3 yX3_size yX3_size, Cond.initialized RX3, Cond.code yX3_size cX3_size 1 (some .int), Cond.fieldLink RX3 21 "SoundSpeller$Row" "size" "I", Cond.methodLink RX4 72 yX4_isLike, Cond.instanceMethod yX4_isLike, Cond.selects RX4 yX4_isLike yX4_isLike, Cond.code yX4_isLike cX4_isLike 4 (some .boolean), Cond.methodLink RX4 35 yX3_get, Cond.instanceMethod yX3_get, Cond.selects RX3 yX3_get yX3_get, Cond.code yX3_get cX3_get 2 (some .int)]
def wsX0_addWord_r2 : List Cond := [Cond.fieldLink RX3 15 "SoundSpeller$Row" "cells" "[I", Cond.methodLink RX4 66 yX4_get, Cond.instanceMethod yX4_get, Cond.selects RX4 yX4_get yX4_get, Cond.code yX4_get cX4_get 4 (some .int), Cond.fieldLink RX4 20 "SoundSpeller$Rows" "cells" "LSoundSpeller$Row;", Cond.fieldLink RX4 9 "SoundSpeller$Rows" "width" "I", Cond.methodLink RX0 47 yX4_add, Cond.instanceMethod yX4_add, Cond.selects RX4 yX4_add yX4_add, Cond.code yX4_add cX4_add 2 none, Cond.methodLink RX4 39 yX3_isFull, Cond.instanceMethod yX3_isFull, Cond.selects RX3 yX3_isFull yX3_isFull, Cond.code yX3_isFull cX3_isFull 1 (some .boolean), Cond.methodLink RX4 43 yX3_add, Cond.instanceMethod yX3_add, Cond.selects RX3 yX3_add yX3_add, Cond.code yX3_add cX3_add 2 none, Cond.methodLink RX4 46 yX4_put, Cond.instanceMethod yX4_put, Cond.selects RX4 yX4_put yX4_put, Cond.code yX4_put cX4_put 5 none, Cond.methodLink RX4 54 Lib.Math.min.name]
def wsX0_addWord_r3 : List Cond := [Cond.static Lib.Math.min.name, Cond.initialized "java/lang/Math", Cond.code Lib.Math.min.name Lib.Math.min.code 2 (some .int), Cond.methodLink RX4 50 yX4_has, Cond.instanceMethod yX4_has, Cond.selects RX4 yX4_has yX4_has, Cond.code yX4_has cX4_has 2 (some .boolean), Cond.methodLink RX4 60 yX3_set, Cond.instanceMethod yX3_set, Cond.selects RX3 yX3_set yX3_set, Cond.code yX3_set cX3_set 3 none, Cond.methodLink RX0 44 yX3_add]
def wsX0_addWord : List Cond := .code yX0_addWord cX0_addWord 2 (some .boolean) :: ((wsX0_addWord_r1 ++ (wsX0_addWord_r2 ++ wsX0_addWord_r3)) ++ wsX00 ++ wsX20 ++ wsX40 ++ wsX30)
def wsX0_addEntry_r1 : List Cond := [Cond.fieldLink RX0 64 "SoundSpeller$Reader" "entry" "I", Cond.fieldLink RX0 32 "SoundSpeller$Book" "signs" "LSoundSpeller$Rows;", Cond.fieldLink RX0 77 "SoundSpeller$Reader" "sound" "I", Cond.fieldLink RX0 80 "SoundSpeller$Reader" "letters" "LSoundSpeller$Row;", Cond.methodLink RX0 70 yX0_addRule, Cond.instanceMethod yX0_addRule, Cond.selects RX0 yX0_addRule yX0_addRule, Cond.initialized RX0, Cond.code yX0_addRule cX0_addRule 3 (some .boolean), Cond.fieldLink RX0 29 "SoundSpeller$Book" "ruleSides" "LSoundSpeller$Row;", Cond.fieldLink RX0 93 "SoundSpeller$Reader" "side" "I", Cond.fieldLink RX0 14 "SoundSpeller$Book" "ruleLetters" "LSoundSpeller$Rows;", Cond.fieldLink RX0 25 "SoundSpeller$Book" "ruleSounds" "LSoundSpeller$Row;", Cond.methodLink RX0 86 yX0_rules, Cond.instanceMethod yX0_rules, Cond.selects RX0 yX0_rules yX0_rules, Cond.code yX0_rules cX0_rules 1 (some .int), Cond.methodLink RX0 56 yX4_lines, Cond.instanceMethod yX4_lines, Cond.selects RX4 yX4_lines yX4_lines, Cond.initialized RX4, Cond.code yX4_lines cX4_lines 1 (some .int), Cond.fieldLink RX4 28 "SoundSpeller$Rows" "lengths" "LSoundSpeller$Row;", Cond.methodLink RX4 31 yX3_size]
def wsX0_addEntry_r2 : List Cond := [Cond.instanceMethod yX3_size, Cond.selects RX3 yX3_size yX3_size, Cond.initialized RX3, Cond.code yX3_size cX3_size 1 (some .int), Cond.fieldLink RX3 21 "SoundSpeller$Row" "size" "I", Cond.methodLink RX0 89 yX3_get, Cond.instanceMethod yX3_get, Cond.selects RX3 yX3_get yX3_get, Cond.code yX3_get cX3_get 2 (some .int), Cond.fieldLink RX3 15 "SoundSpeller$Row" "cells" "[I", Cond.methodLink RX0 96 yX4_isLike, Cond.instanceMethod yX4_isLike, Cond.selects RX4 yX4_isLike yX4_isLike, Cond.code yX4_isLike cX4_isLike 4 (some .boolean), Cond.methodLink RX4 35 yX3_get, Cond.methodLink RX4 66 yX4_get, Cond.instanceMethod yX4_get, Cond.selects RX4 yX4_get yX4_get, Cond.code yX4_get cX4_get 4 (some .int), Cond.fieldLink RX4 20 "SoundSpeller$Rows" "cells" "LSoundSpeller$Row;", Cond.fieldLink RX4 9 "SoundSpeller$Rows" "width" "I", Cond.methodLink RX0 47 yX4_add, Cond.instanceMethod yX4_add, Cond.selects RX4 yX4_add yX4_add]
def wsX0_addEntry_r3 : List Cond := [Cond.code yX4_add cX4_add 2 none, Cond.methodLink RX4 39 yX3_isFull, Cond.instanceMethod yX3_isFull, Cond.selects RX3 yX3_isFull yX3_isFull, Cond.code yX3_isFull cX3_isFull 1 (some .boolean), Cond.methodLink RX4 43 yX3_add, Cond.instanceMethod yX3_add, Cond.selects RX3 yX3_add yX3_add, Cond.code yX3_add cX3_add 2 none, Cond.methodLink RX4 46 yX4_put, Cond.instanceMethod yX4_put, Cond.selects RX4 yX4_put yX4_put, Cond.code yX4_put cX4_put 5 none, Cond.methodLink RX4 54 Lib.Math.min.name, Cond.static Lib.Math.min.name, Cond.initialized "java/lang/Math", Cond.code Lib.Math.min.name Lib.Math.min.code 2 (some .int), Cond.methodLink RX4 50 yX4_has, Cond.instanceMethod yX4_has, Cond.selects RX4 yX4_has yX4_has, Cond.code yX4_has cX4_has 2 (some .boolean), Cond.methodLink RX4 60 yX3_set, Cond.instanceMethod yX3_set, Cond.selects RX3 yX3_set yX3_set]
def wsX0_addEntry_r4 : List Cond := [Cond.code yX3_set cX3_set 3 none, Cond.methodLink RX0 44 yX3_add, Cond.methodLink RX0 74 yX0_addWord, Cond.instanceMethod yX0_addWord, Cond.selects RX0 yX0_addWord yX0_addWord, Cond.code yX0_addWord cX0_addWord 2 (some .boolean), Cond.fieldLink RX0 35 "SoundSpeller$Book" "letters" "LSoundSpeller$Rows;", Cond.fieldLink RX0 38 "SoundSpeller$Book" "kinds" "LSoundSpeller$Row;", Cond.fieldLink RX0 104 "SoundSpeller$Reader" "kind" "I", Cond.methodLink RX0 100 yX4_find, Cond.instanceMethod yX4_find, Cond.selects RX4 yX4_find yX4_find, Cond.code yX4_find cX4_find 3 (some .int), Cond.methodLink RX4 72 yX4_isLike, Cond.methodLink RX0 82 yX4_put]
def wsX0_addEntry : List Cond := .code yX0_addEntry cX0_addEntry 2 (some .boolean) :: ((wsX0_addEntry_r1 ++ (wsX0_addEntry_r2 ++ (wsX0_addEntry_r3 ++ wsX0_addEntry_r4))) ++ wsX20 ++ wsX00 ++ wsX40 ++ wsX30)
def wsX3_swap : List Cond := .code yX3_swap cX3_swap 4 none :: ([.methodLink RX3 25 yX3_get, .instanceMethod yX3_get, .selects RX3 yX3_get yX3_get, .initialized RX3, .code yX3_get cX3_get 2 (some .int), .fieldLink RX3 21 "SoundSpeller$Row" "size" "I", .fieldLink RX3 15 "SoundSpeller$Row" "cells" "[I", .methodLink RX3 33 yX3_set, .instanceMethod yX3_set, .selects RX3 yX3_set yX3_set, .code yX3_set cX3_set 3 none] ++ wsX30)
def wsX4_swap : List Cond := .code yX4_swap cX4_swap 4 none :: ([.fieldLink RX4 28 "SoundSpeller$Rows" "lengths" "LSoundSpeller$Row;", .fieldLink RX4 9 "SoundSpeller$Rows" "width" "I", .fieldLink RX4 20 "SoundSpeller$Rows" "cells" "LSoundSpeller$Row;", .methodLink RX4 79 yX3_swap, .instanceMethod yX3_swap, .selects RX3 yX3_swap yX3_swap, .initialized RX3, .code yX3_swap cX3_swap 4 none, .methodLink RX3 25 yX3_get, .instanceMethod yX3_get, .selects RX3 yX3_get yX3_get, .code yX3_get cX3_get 2 (some .int), .fieldLink RX3 21 "SoundSpeller$Row" "size" "I", .fieldLink RX3 15 "SoundSpeller$Row" "cells" "[I", .methodLink RX3 33 yX3_set, .instanceMethod yX3_set, .selects RX3 yX3_set yX3_set, .code yX3_set cX3_set 3 none] ++ wsX40 ++ wsX30)
def wsX4_move : List Cond := .code yX4_move cX4_move 4 none :: ([.methodLink RX4 82 yX4_swap, .instanceMethod yX4_swap, .selects RX4 yX4_swap yX4_swap, .initialized RX4, .code yX4_swap cX4_swap 4 none, .fieldLink RX4 28 "SoundSpeller$Rows" "lengths" "LSoundSpeller$Row;", .fieldLink RX4 9 "SoundSpeller$Rows" "width" "I", .fieldLink RX4 20 "SoundSpeller$Rows" "cells" "LSoundSpeller$Row;", .methodLink RX4 79 yX3_swap, .instanceMethod yX3_swap, .selects RX3 yX3_swap yX3_swap, .initialized RX3, .code yX3_swap cX3_swap 4 none, .methodLink RX3 25 yX3_get, .instanceMethod yX3_get, .selects RX3 yX3_get yX3_get, .code yX3_get cX3_get 2 (some .int), .fieldLink RX3 21 "SoundSpeller$Row" "size" "I", .fieldLink RX3 15 "SoundSpeller$Row" "cells" "[I", .methodLink RX3 33 yX3_set, .instanceMethod yX3_set, .selects RX3 yX3_set yX3_set, .code yX3_set cX3_set 3 none] ++ wsX40 ++ wsX30)
def wsX3_dropLast : List Cond := .code yX3_dropLast cX3_dropLast 1 none :: ([.fieldLink RX3 21 "SoundSpeller$Row" "size" "I", .methodLink RX3 9 Lib.Math.max.name, .static Lib.Math.max.name, .initialized "java/lang/Math", .code Lib.Math.max.name Lib.Math.max.code 2 (some .int)] ++ wsX30)
def wsX4_remove_r1 : List Cond := [Cond.fieldLink RX4 28 "SoundSpeller$Rows" "lengths" "LSoundSpeller$Row;", Cond.methodLink RX4 50 yX4_has, Cond.instanceMethod yX4_has, Cond.selects RX4 yX4_has yX4_has, Cond.initialized RX4, Cond.code yX4_has cX4_has 2 (some .boolean), Cond.methodLink RX4 31 yX3_size, Cond.instanceMethod yX3_size, Cond.selects RX3 yX3_size yX3_size, Cond.initialized RX3, Cond.code yX3_size cX3_size 1 (some .int), Cond.fieldLink RX3 21 "SoundSpeller$Row" "size" "I", Cond.methodLink RX4 83 yX4_move, Cond.instanceMethod yX4_move, Cond.selects RX4 yX4_move yX4_move, Cond.code yX4_move cX4_move 4 none, Cond.methodLink RX4 82 yX4_swap, Cond.instanceMethod yX4_swap, Cond.selects RX4 yX4_swap yX4_swap, Cond.code yX4_swap cX4_swap 4 none, Cond.fieldLink RX4 9 "SoundSpeller$Rows" "width" "I", Cond.fieldLink RX4 20 "SoundSpeller$Rows" "cells" "LSoundSpeller$Row;", Cond.methodLink RX4 79 yX3_swap, Cond.instanceMethod yX3_swap]
def wsX4_remove_r2 : List Cond := [Cond.selects RX3 yX3_swap yX3_swap, Cond.code yX3_swap cX3_swap 4 none, Cond.methodLink RX3 25 yX3_get, Cond.instanceMethod yX3_get, Cond.selects RX3 yX3_get yX3_get, Cond.code yX3_get cX3_get 2 (some .int), Cond.fieldLink RX3 15 "SoundSpeller$Row" "cells" "[I", Cond.methodLink RX3 33 yX3_set, Cond.instanceMethod yX3_set, Cond.selects RX3 yX3_set yX3_set, Cond.code yX3_set cX3_set 3 none, Cond.methodLink RX4 86 yX3_dropLast, Cond.instanceMethod yX3_dropLast, Cond.selects RX3 yX3_dropLast yX3_dropLast, Cond.code yX3_dropLast cX3_dropLast 1 none, Cond.methodLink RX3 9 Lib.Math.max.name, Cond.static Lib.Math.max.name, Cond.initialized "java/lang/Math", Cond.code Lib.Math.max.name Lib.Math.max.code 2 (some .int)]
def wsX4_remove : List Cond := .code yX4_remove cX4_remove 2 none :: ((wsX4_remove_r1 ++ wsX4_remove_r2) ++ wsX40 ++ wsX30)
def wsX3_move : List Cond := .code yX3_move cX3_move 4 none :: ([.methodLink RX3 44 yX3_swap, .instanceMethod yX3_swap, .selects RX3 yX3_swap yX3_swap, .initialized RX3, .code yX3_swap cX3_swap 4 none, .methodLink RX3 25 yX3_get, .instanceMethod yX3_get, .selects RX3 yX3_get yX3_get, .code yX3_get cX3_get 2 (some .int), .fieldLink RX3 21 "SoundSpeller$Row" "size" "I", .fieldLink RX3 15 "SoundSpeller$Row" "cells" "[I", .methodLink RX3 33 yX3_set, .instanceMethod yX3_set, .selects RX3 yX3_set yX3_set, .code yX3_set cX3_set 3 none] ++ wsX30)
def wsX3_remove_r1 : List Cond := [Cond.fieldLink RX3 21 "SoundSpeller$Row" "size" "I", Cond.methodLink RX3 47 yX3_move, Cond.instanceMethod yX3_move, Cond.selects RX3 yX3_move yX3_move, Cond.initialized RX3, Cond.code yX3_move cX3_move 4 none, Cond.methodLink RX3 44 yX3_swap, Cond.instanceMethod yX3_swap, Cond.selects RX3 yX3_swap yX3_swap, Cond.code yX3_swap cX3_swap 4 none, Cond.methodLink RX3 25 yX3_get, Cond.instanceMethod yX3_get, Cond.selects RX3 yX3_get yX3_get, Cond.code yX3_get cX3_get 2 (some .int), Cond.fieldLink RX3 15 "SoundSpeller$Row" "cells" "[I", Cond.methodLink RX3 33 yX3_set, Cond.instanceMethod yX3_set, Cond.selects RX3 yX3_set yX3_set, Cond.code yX3_set cX3_set 3 none, Cond.methodLink RX3 50 yX3_dropLast, Cond.instanceMethod yX3_dropLast, Cond.selects RX3 yX3_dropLast yX3_dropLast, Cond.code yX3_dropLast cX3_dropLast 1 none, Cond.methodLink RX3 9 Lib.Math.max.name]
def wsX3_remove_r2 : List Cond := [Cond.static Lib.Math.max.name, Cond.initialized "java/lang/Math", Cond.code Lib.Math.max.name Lib.Math.max.code 2 (some .int)]
def wsX3_remove : List Cond := .code yX3_remove cX3_remove 2 none :: ((wsX3_remove_r1 ++ wsX3_remove_r2) ++ wsX30)
def wsX0_dropRule_r1 : List Cond := [Cond.fieldLink RX0 14 "SoundSpeller$Book" "ruleLetters" "LSoundSpeller$Rows;", Cond.fieldLink RX0 25 "SoundSpeller$Book" "ruleSounds" "LSoundSpeller$Row;", Cond.fieldLink RX0 29 "SoundSpeller$Book" "ruleSides" "LSoundSpeller$Row;", Cond.methodLink RX0 107 yX4_remove, Cond.instanceMethod yX4_remove, Cond.selects RX4 yX4_remove yX4_remove, Cond.initialized RX4, Cond.code yX4_remove cX4_remove 2 none, Cond.fieldLink RX4 28 "SoundSpeller$Rows" "lengths" "LSoundSpeller$Row;", Cond.methodLink RX4 50 yX4_has, Cond.instanceMethod yX4_has, Cond.selects RX4 yX4_has yX4_has, Cond.code yX4_has cX4_has 2 (some .boolean), Cond.methodLink RX4 31 yX3_size, Cond.instanceMethod yX3_size, Cond.selects RX3 yX3_size yX3_size, Cond.initialized RX3, Cond.code yX3_size cX3_size 1 (some .int), Cond.fieldLink RX3 21 "SoundSpeller$Row" "size" "I", Cond.methodLink RX4 83 yX4_move, Cond.instanceMethod yX4_move, Cond.selects RX4 yX4_move yX4_move, Cond.code yX4_move cX4_move 4 none, Cond.methodLink RX4 82 yX4_swap]
def wsX0_dropRule_r2 : List Cond := [Cond.instanceMethod yX4_swap, Cond.selects RX4 yX4_swap yX4_swap, Cond.code yX4_swap cX4_swap 4 none, Cond.fieldLink RX4 9 "SoundSpeller$Rows" "width" "I", Cond.fieldLink RX4 20 "SoundSpeller$Rows" "cells" "LSoundSpeller$Row;", Cond.methodLink RX4 79 yX3_swap, Cond.instanceMethod yX3_swap, Cond.selects RX3 yX3_swap yX3_swap, Cond.code yX3_swap cX3_swap 4 none, Cond.methodLink RX3 25 yX3_get, Cond.instanceMethod yX3_get, Cond.selects RX3 yX3_get yX3_get, Cond.code yX3_get cX3_get 2 (some .int), Cond.fieldLink RX3 15 "SoundSpeller$Row" "cells" "[I", Cond.methodLink RX3 33 yX3_set, Cond.instanceMethod yX3_set, Cond.selects RX3 yX3_set yX3_set, Cond.code yX3_set cX3_set 3 none, Cond.methodLink RX4 86 yX3_dropLast, Cond.instanceMethod yX3_dropLast, Cond.selects RX3 yX3_dropLast yX3_dropLast, Cond.code yX3_dropLast cX3_dropLast 1 none, Cond.methodLink RX3 9 Lib.Math.max.name, Cond.static Lib.Math.max.name]
def wsX0_dropRule_r3 : List Cond := [Cond.initialized "java/lang/Math", Cond.code Lib.Math.max.name Lib.Math.max.code 2 (some .int), Cond.methodLink RX0 110 yX3_remove, Cond.instanceMethod yX3_remove, Cond.selects RX3 yX3_remove yX3_remove, Cond.code yX3_remove cX3_remove 2 none, Cond.methodLink RX3 47 yX3_move, Cond.instanceMethod yX3_move, Cond.selects RX3 yX3_move yX3_move, Cond.code yX3_move cX3_move 4 none, Cond.methodLink RX3 44 yX3_swap, Cond.methodLink RX3 50 yX3_dropLast]
def wsX0_dropRule : List Cond := .code yX0_dropRule cX0_dropRule 2 none :: ((wsX0_dropRule_r1 ++ (wsX0_dropRule_r2 ++ wsX0_dropRule_r3)) ++ wsX00 ++ wsX40 ++ wsX30)
def wsX0_shiftRule_r1 : List Cond := [Cond.fieldLink RX0 14 "SoundSpeller$Book" "ruleLetters" "LSoundSpeller$Rows;", Cond.fieldLink RX0 25 "SoundSpeller$Book" "ruleSounds" "LSoundSpeller$Row;", Cond.fieldLink RX0 29 "SoundSpeller$Book" "ruleSides" "LSoundSpeller$Row;", Cond.methodLink RX0 111 yX4_move, Cond.instanceMethod yX4_move, Cond.selects RX4 yX4_move yX4_move, Cond.initialized RX4, Cond.code yX4_move cX4_move 4 none, Cond.methodLink RX4 82 yX4_swap, Cond.instanceMethod yX4_swap, Cond.selects RX4 yX4_swap yX4_swap, Cond.code yX4_swap cX4_swap 4 none, Cond.fieldLink RX4 28 "SoundSpeller$Rows" "lengths" "LSoundSpeller$Row;", Cond.fieldLink RX4 9 "SoundSpeller$Rows" "width" "I", Cond.fieldLink RX4 20 "SoundSpeller$Rows" "cells" "LSoundSpeller$Row;", Cond.methodLink RX4 79 yX3_swap, Cond.instanceMethod yX3_swap, Cond.selects RX3 yX3_swap yX3_swap, Cond.initialized RX3, Cond.code yX3_swap cX3_swap 4 none, Cond.methodLink RX3 25 yX3_get, Cond.instanceMethod yX3_get, Cond.selects RX3 yX3_get yX3_get, Cond.code yX3_get cX3_get 2 (some .int)]
def wsX0_shiftRule_r2 : List Cond := [Cond.fieldLink RX3 21 "SoundSpeller$Row" "size" "I", Cond.fieldLink RX3 15 "SoundSpeller$Row" "cells" "[I", Cond.methodLink RX3 33 yX3_set, Cond.instanceMethod yX3_set, Cond.selects RX3 yX3_set yX3_set, Cond.code yX3_set cX3_set 3 none, Cond.methodLink RX0 114 yX3_move, Cond.instanceMethod yX3_move, Cond.selects RX3 yX3_move yX3_move, Cond.code yX3_move cX3_move 4 none, Cond.methodLink RX3 44 yX3_swap]
def wsX0_shiftRule : List Cond := .code yX0_shiftRule cX0_shiftRule 3 none :: ((wsX0_shiftRule_r1 ++ wsX0_shiftRule_r2) ++ wsX00 ++ wsX40 ++ wsX30)
def wsX0_dropWord_r1 : List Cond := [Cond.fieldLink RX0 35 "SoundSpeller$Book" "letters" "LSoundSpeller$Rows;", Cond.fieldLink RX0 38 "SoundSpeller$Book" "kinds" "LSoundSpeller$Row;", Cond.methodLink RX0 107 yX4_remove, Cond.instanceMethod yX4_remove, Cond.selects RX4 yX4_remove yX4_remove, Cond.initialized RX4, Cond.code yX4_remove cX4_remove 2 none, Cond.fieldLink RX4 28 "SoundSpeller$Rows" "lengths" "LSoundSpeller$Row;", Cond.methodLink RX4 50 yX4_has, Cond.instanceMethod yX4_has, Cond.selects RX4 yX4_has yX4_has, Cond.code yX4_has cX4_has 2 (some .boolean), Cond.methodLink RX4 31 yX3_size, Cond.instanceMethod yX3_size, Cond.selects RX3 yX3_size yX3_size, Cond.initialized RX3, Cond.code yX3_size cX3_size 1 (some .int), Cond.fieldLink RX3 21 "SoundSpeller$Row" "size" "I", Cond.methodLink RX4 83 yX4_move, Cond.instanceMethod yX4_move, Cond.selects RX4 yX4_move yX4_move, Cond.code yX4_move cX4_move 4 none, Cond.methodLink RX4 82 yX4_swap, Cond.instanceMethod yX4_swap]
def wsX0_dropWord_r2 : List Cond := [Cond.selects RX4 yX4_swap yX4_swap, Cond.code yX4_swap cX4_swap 4 none, Cond.fieldLink RX4 9 "SoundSpeller$Rows" "width" "I", Cond.fieldLink RX4 20 "SoundSpeller$Rows" "cells" "LSoundSpeller$Row;", Cond.methodLink RX4 79 yX3_swap, Cond.instanceMethod yX3_swap, Cond.selects RX3 yX3_swap yX3_swap, Cond.code yX3_swap cX3_swap 4 none, Cond.methodLink RX3 25 yX3_get, Cond.instanceMethod yX3_get, Cond.selects RX3 yX3_get yX3_get, Cond.code yX3_get cX3_get 2 (some .int), Cond.fieldLink RX3 15 "SoundSpeller$Row" "cells" "[I", Cond.methodLink RX3 33 yX3_set, Cond.instanceMethod yX3_set, Cond.selects RX3 yX3_set yX3_set, Cond.code yX3_set cX3_set 3 none, Cond.methodLink RX4 86 yX3_dropLast, Cond.instanceMethod yX3_dropLast, Cond.selects RX3 yX3_dropLast yX3_dropLast, Cond.code yX3_dropLast cX3_dropLast 1 none, Cond.methodLink RX3 9 Lib.Math.max.name, Cond.static Lib.Math.max.name, Cond.initialized "java/lang/Math"]
def wsX0_dropWord_r3 : List Cond := [Cond.code Lib.Math.max.name Lib.Math.max.code 2 (some .int), Cond.methodLink RX0 110 yX3_remove, Cond.instanceMethod yX3_remove, Cond.selects RX3 yX3_remove yX3_remove, Cond.code yX3_remove cX3_remove 2 none, Cond.methodLink RX3 47 yX3_move, Cond.instanceMethod yX3_move, Cond.selects RX3 yX3_move yX3_move, Cond.code yX3_move cX3_move 4 none, Cond.methodLink RX3 44 yX3_swap, Cond.methodLink RX3 50 yX3_dropLast]
def wsX0_dropWord : List Cond := .code yX0_dropWord cX0_dropWord 2 none :: ((wsX0_dropWord_r1 ++ (wsX0_dropWord_r2 ++ wsX0_dropWord_r3)) ++ wsX00 ++ wsX40 ++ wsX30)
def wsX4_length : List Cond := .code yX4_length cX4_length 2 (some .int) :: ([.fieldLink RX4 28 "SoundSpeller$Rows" "lengths" "LSoundSpeller$Row;", .methodLink RX4 35 yX3_get, .instanceMethod yX3_get, .selects RX3 yX3_get yX3_get, .initialized RX3, .code yX3_get cX3_get 2 (some .int), .fieldLink RX3 21 "SoundSpeller$Row" "size" "I", .fieldLink RX3 15 "SoundSpeller$Row" "cells" "[I"] ++ wsX40 ++ wsX30)
def wsX0_longSigns : List Cond := .code yX0_longSigns cX0_longSigns 3 (some .int) :: ([.fieldLink RX0 32 "SoundSpeller$Book" "signs" "LSoundSpeller$Rows;", .methodLink RX0 56 yX4_lines, .instanceMethod yX4_lines, .selects RX4 yX4_lines yX4_lines, .initialized RX4, .code yX4_lines cX4_lines 1 (some .int), .fieldLink RX4 28 "SoundSpeller$Rows" "lengths" "LSoundSpeller$Row;", .methodLink RX4 31 yX3_size, .instanceMethod yX3_size, .selects RX3 yX3_size yX3_size, .initialized RX3, .code yX3_size cX3_size 1 (some .int), .fieldLink RX3 21 "SoundSpeller$Row" "size" "I", .methodLink RX0 115 yX4_length, .instanceMethod yX4_length, .selects RX4 yX4_length yX4_length, .code yX4_length cX4_length 2 (some .int), .methodLink RX4 35 yX3_get, .instanceMethod yX3_get, .selects RX3 yX3_get yX3_get, .code yX3_get cX3_get 2 (some .int), .fieldLink RX3 15 "SoundSpeller$Row" "cells" "[I"] ++ wsX00 ++ wsX40 ++ wsX30)
def wsX1_init_r1 : List Cond := [Cond.methodLink RX1 3 objectInit, Cond.instanceMethod objectInit, Cond.code objectInit ⟨#[0xb1]⟩ 1 none, Cond.classLink RX1 9 RX0, Cond.fieldLink RX1 11 "SoundSpeller$History" "states" "[LSoundSpeller$Book;", Cond.instantiable RX0 6, Cond.initialized RX0, Cond.methodLink RX1 17 yX0_init, Cond.instanceMethod yX0_init, Cond.code yX0_init cX0_init 5 none, Cond.methodLink RX0 3 objectInit, Cond.classLink RX0 9 RX4, Cond.instantiable RX4 3, Cond.initialized RX4, Cond.fieldLink RX0 14 "SoundSpeller$Book" "ruleLetters" "LSoundSpeller$Rows;", Cond.classLink RX0 20 RX3, Cond.instantiable RX3 2, Cond.initialized RX3, Cond.fieldLink RX0 25 "SoundSpeller$Book" "ruleSounds" "LSoundSpeller$Row;", Cond.fieldLink RX0 29 "SoundSpeller$Book" "ruleSides" "LSoundSpeller$Row;", Cond.fieldLink RX0 32 "SoundSpeller$Book" "signs" "LSoundSpeller$Rows;", Cond.fieldLink RX0 35 "SoundSpeller$Book" "letters" "LSoundSpeller$Rows;", Cond.fieldLink RX0 38 "SoundSpeller$Book" "kinds" "LSoundSpeller$Row;", Cond.methodLink RX0 11 yX4_init]
def wsX1_init_r2 : List Cond := [Cond.instanceMethod yX4_init, Cond.code yX4_init cX4_init 3 none, Cond.methodLink RX4 3 objectInit, Cond.fieldLink RX4 9 "SoundSpeller$Rows" "width" "I", Cond.classLink RX4 15 RX3, Cond.fieldLink RX4 20 "SoundSpeller$Rows" "cells" "LSoundSpeller$Row;", Cond.fieldLink RX4 28 "SoundSpeller$Rows" "lengths" "LSoundSpeller$Row;", Cond.methodLink RX4 17 yX3_init, Cond.instanceMethod yX3_init, Cond.code yX3_init cX3_init 2 none, Cond.methodLink RX3 3 objectInit, Cond.methodLink RX3 9 Lib.Math.max.name, Cond.static Lib.Math.max.name, Cond.initialized "java/lang/Math", Cond.code Lib.Math.max.name Lib.Math.max.code 2 (some .int), Cond.arrayClass .int, Cond.fieldLink RX3 15 "SoundSpeller$Row" "cells" "[I", Cond.methodLink RX4 24 yX3_addMany, Cond.instanceMethod yX3_addMany, Cond.selects RX3 yX3_addMany yX3_addMany, Cond.code yX3_addMany cX3_addMany 4 none, Cond.methodLink RX3 29 yX3_add, Cond.instanceMethod yX3_add, Cond.selects RX3 yX3_add yX3_add]
def wsX1_init_r3 : List Cond := [Cond.code yX3_add cX3_add 2 none, Cond.fieldLink RX3 21 "SoundSpeller$Row" "size" "I", Cond.methodLink RX0 22 yX3_init, Cond.methodLink RX0 41 yX3_clear, Cond.instanceMethod yX3_clear, Cond.selects RX3 yX3_clear yX3_clear, Cond.code yX3_clear cX3_clear 1 none, Cond.methodLink RX0 44 yX3_add, Cond.methodLink RX0 47 yX4_add, Cond.instanceMethod yX4_add, Cond.selects RX4 yX4_add yX4_add, Cond.code yX4_add cX4_add 2 none, Cond.methodLink RX4 39 yX3_isFull, Cond.instanceMethod yX3_isFull, Cond.selects RX3 yX3_isFull yX3_isFull, Cond.code yX3_isFull cX3_isFull 1 (some .boolean), Cond.methodLink RX4 43 yX3_add, Cond.methodLink RX4 31 yX3_size, Cond.instanceMethod yX3_size, Cond.selects RX3 yX3_size yX3_size, Cond.code yX3_size cX3_size 1 (some .int), Cond.methodLink RX4 46 yX4_put, Cond.instanceMethod yX4_put, Cond.selects RX4 yX4_put yX4_put]
def wsX1_init_r4 : List Cond := [Cond.code yX4_put cX4_put 5 none, Cond.methodLink RX4 54 Lib.Math.min.name, Cond.static Lib.Math.min.name, Cond.code Lib.Math.min.name Lib.Math.min.code 2 (some .int), Cond.methodLink RX4 50 yX4_has, Cond.instanceMethod yX4_has, Cond.selects RX4 yX4_has yX4_has, Cond.code yX4_has cX4_has 2 (some .boolean), Cond.methodLink RX4 60 yX3_set, Cond.instanceMethod yX3_set, Cond.selects RX3 yX3_set yX3_set, Cond.code yX3_set cX3_set 3 none, Cond.methodLink RX4 35 yX3_get, Cond.instanceMethod yX3_get, Cond.selects RX3 yX3_get yX3_get, Cond.code yX3_get cX3_get 2 (some .int)]
def wsX1_init : List Cond := .code yX1_init cX1_init 2 none :: ((wsX1_init_r1 ++ (wsX1_init_r2 ++ (wsX1_init_r3 ++ wsX1_init_r4))) ++ wsX10 ++ wsX00 ++ wsX40 ++ wsX30)
def wsX1_states : List Cond := .code yX1_states cX1_states 1 (some .int) :: ([.fieldLink RX1 20 "SoundSpeller$History" "size" "I"] ++ wsX10)
def wsX1_dropOldest : List Cond := .code yX1_dropOldest cX1_dropOldest 3 none :: ([.fieldLink RX1 11 "SoundSpeller$History" "states" "[LSoundSpeller$Book;", .fieldLink RX1 20 "SoundSpeller$History" "size" "I", .methodLink RX1 31 Lib.Math.max.name, .static Lib.Math.max.name, .initialized "java/lang/Math", .code Lib.Math.max.name Lib.Math.max.code 2 (some .int)] ++ wsX10)
def wsX1_record_r1 : List Cond := [Cond.fieldLink RX1 20 "SoundSpeller$History" "size" "I", Cond.fieldLink RX1 11 "SoundSpeller$History" "states" "[LSoundSpeller$Book;", Cond.methodLink RX1 24 yX1_dropOldest, Cond.instanceMethod yX1_dropOldest, Cond.selects RX1 yX1_dropOldest yX1_dropOldest, Cond.initialized RX1, Cond.code yX1_dropOldest cX1_dropOldest 3 none, Cond.methodLink RX1 31 Lib.Math.max.name, Cond.static Lib.Math.max.name, Cond.initialized "java/lang/Math", Cond.code Lib.Math.max.name Lib.Math.max.code 2 (some .int), Cond.methodLink RX1 27 yX0_copyFrom, Cond.instanceMethod yX0_copyFrom, Cond.selects RX0 yX0_copyFrom yX0_copyFrom, Cond.initialized RX0, Cond.code yX0_copyFrom cX0_copyFrom 2 none, Cond.fieldLink RX0 14 "SoundSpeller$Book" "ruleLetters" "LSoundSpeller$Rows;", Cond.fieldLink RX0 25 "SoundSpeller$Book" "ruleSounds" "LSoundSpeller$Row;", Cond.fieldLink RX0 29 "SoundSpeller$Book" "ruleSides" "LSoundSpeller$Row;", Cond.fieldLink RX0 32 "SoundSpeller$Book" "signs" "LSoundSpeller$Rows;", Cond.fieldLink RX0 35 "SoundSpeller$Book" "letters" "LSoundSpeller$Rows;", Cond.fieldLink RX0 38 "SoundSpeller$Book" "kinds" "LSoundSpeller$Row;", Cond.methodLink RX0 50 yX4_copyFrom, Cond.instanceMethod yX4_copyFrom]
def wsX1_record_r2 : List Cond := [Cond.selects RX4 yX4_copyFrom yX4_copyFrom, Cond.initialized RX4, Cond.code yX4_copyFrom cX4_copyFrom 3 none, Cond.fieldLink RX4 28 "SoundSpeller$Rows" "lengths" "LSoundSpeller$Row;", Cond.fieldLink RX4 9 "SoundSpeller$Rows" "width" "I", Cond.fieldLink RX4 20 "SoundSpeller$Rows" "cells" "LSoundSpeller$Row;", Cond.methodLink RX4 68 yX3_copyFrom, Cond.instanceMethod yX3_copyFrom, Cond.selects RX3 yX3_copyFrom yX3_copyFrom, Cond.initialized RX3, Cond.code yX3_copyFrom cX3_copyFrom 2 none, Cond.methodLink RX3 37 yX3_clear, Cond.instanceMethod yX3_clear, Cond.selects RX3 yX3_clear yX3_clear, Cond.code yX3_clear cX3_clear 1 none, Cond.fieldLink RX3 21 "SoundSpeller$Row" "size" "I", Cond.methodLink RX3 40 yX3_addAll, Cond.instanceMethod yX3_addAll, Cond.selects RX3 yX3_addAll yX3_addAll, Cond.code yX3_addAll cX3_addAll 3 none, Cond.methodLink RX3 25 yX3_get, Cond.instanceMethod yX3_get, Cond.selects RX3 yX3_get yX3_get, Cond.code yX3_get cX3_get 2 (some .int)]
def wsX1_record_r3 : List Cond := [Cond.fieldLink RX3 15 "SoundSpeller$Row" "cells" "[I", Cond.methodLink RX3 29 yX3_add, Cond.instanceMethod yX3_add, Cond.selects RX3 yX3_add yX3_add, Cond.code yX3_add cX3_add 2 none, Cond.methodLink RX4 31 yX3_size, Cond.instanceMethod yX3_size, Cond.selects RX3 yX3_size yX3_size, Cond.code yX3_size cX3_size 1 (some .int), Cond.methodLink RX4 35 yX3_get, Cond.methodLink RX4 60 yX3_set, Cond.instanceMethod yX3_set, Cond.selects RX3 yX3_set yX3_set, Cond.code yX3_set cX3_set 3 none, Cond.methodLink RX0 54 yX3_copyFrom]
def wsX1_record : List Cond := .code yX1_record cX1_record 2 none :: ((wsX1_record_r1 ++ (wsX1_record_r2 ++ wsX1_record_r3)) ++ wsX10 ++ wsX00 ++ wsX40 ++ wsX30)
def wsX1_bringBack_r1 : List Cond := [Cond.fieldLink RX1 20 "SoundSpeller$History" "size" "I", Cond.fieldLink RX1 11 "SoundSpeller$History" "states" "[LSoundSpeller$Book;", Cond.methodLink RX1 27 yX0_copyFrom, Cond.instanceMethod yX0_copyFrom, Cond.selects RX0 yX0_copyFrom yX0_copyFrom, Cond.initialized RX0, Cond.code yX0_copyFrom cX0_copyFrom 2 none, Cond.fieldLink RX0 14 "SoundSpeller$Book" "ruleLetters" "LSoundSpeller$Rows;", Cond.fieldLink RX0 25 "SoundSpeller$Book" "ruleSounds" "LSoundSpeller$Row;", Cond.fieldLink RX0 29 "SoundSpeller$Book" "ruleSides" "LSoundSpeller$Row;", Cond.fieldLink RX0 32 "SoundSpeller$Book" "signs" "LSoundSpeller$Rows;", Cond.fieldLink RX0 35 "SoundSpeller$Book" "letters" "LSoundSpeller$Rows;", Cond.fieldLink RX0 38 "SoundSpeller$Book" "kinds" "LSoundSpeller$Row;", Cond.methodLink RX0 50 yX4_copyFrom, Cond.instanceMethod yX4_copyFrom, Cond.selects RX4 yX4_copyFrom yX4_copyFrom, Cond.initialized RX4, Cond.code yX4_copyFrom cX4_copyFrom 3 none, Cond.fieldLink RX4 28 "SoundSpeller$Rows" "lengths" "LSoundSpeller$Row;", Cond.fieldLink RX4 9 "SoundSpeller$Rows" "width" "I", Cond.fieldLink RX4 20 "SoundSpeller$Rows" "cells" "LSoundSpeller$Row;", Cond.methodLink RX4 68 yX3_copyFrom, Cond.instanceMethod yX3_copyFrom, Cond.selects RX3 yX3_copyFrom yX3_copyFrom]
def wsX1_bringBack_r2 : List Cond := [Cond.initialized RX3, Cond.code yX3_copyFrom cX3_copyFrom 2 none, Cond.methodLink RX3 37 yX3_clear, Cond.instanceMethod yX3_clear, Cond.selects RX3 yX3_clear yX3_clear, Cond.code yX3_clear cX3_clear 1 none, Cond.fieldLink RX3 21 "SoundSpeller$Row" "size" "I", Cond.methodLink RX3 40 yX3_addAll, Cond.instanceMethod yX3_addAll, Cond.selects RX3 yX3_addAll yX3_addAll, Cond.code yX3_addAll cX3_addAll 3 none, Cond.methodLink RX3 25 yX3_get, Cond.instanceMethod yX3_get, Cond.selects RX3 yX3_get yX3_get, Cond.code yX3_get cX3_get 2 (some .int), Cond.fieldLink RX3 15 "SoundSpeller$Row" "cells" "[I", Cond.methodLink RX3 29 yX3_add, Cond.instanceMethod yX3_add, Cond.selects RX3 yX3_add yX3_add, Cond.code yX3_add cX3_add 2 none, Cond.methodLink RX4 31 yX3_size, Cond.instanceMethod yX3_size, Cond.selects RX3 yX3_size yX3_size, Cond.code yX3_size cX3_size 1 (some .int)]
def wsX1_bringBack_r3 : List Cond := [Cond.methodLink RX4 35 yX3_get, Cond.methodLink RX4 60 yX3_set, Cond.instanceMethod yX3_set, Cond.selects RX3 yX3_set yX3_set, Cond.code yX3_set cX3_set 3 none, Cond.methodLink RX0 54 yX3_copyFrom]
def wsX1_bringBack : List Cond := .code yX1_bringBack cX1_bringBack 3 none :: ((wsX1_bringBack_r1 ++ (wsX1_bringBack_r2 ++ wsX1_bringBack_r3)) ++ wsX10 ++ wsX00 ++ wsX40 ++ wsX30)
def wsX2_init : List Cond := .code yX2_init cX2_init 2 none :: ([.methodLink RX2 3 objectInit, .instanceMethod objectInit, .code objectInit ⟨#[0xb1]⟩ 1 none, .classLink RX2 9 RX3, .instantiable RX3 2, .initialized RX3, .fieldLink RX2 14 "SoundSpeller$Reader" "letters" "LSoundSpeller$Row;", .fieldLink RX2 20 "SoundSpeller$Reader" "text" "LSoundSpeller$Row;", .methodLink RX2 11 yX3_init, .instanceMethod yX3_init, .code yX3_init cX3_init 2 none, .methodLink RX3 3 objectInit, .methodLink RX3 9 Lib.Math.max.name, .static Lib.Math.max.name, .initialized "java/lang/Math", .code Lib.Math.max.name Lib.Math.max.code 2 (some .int), .arrayClass .int, .fieldLink RX3 15 "SoundSpeller$Row" "cells" "[I"] ++ wsX30 ++ wsX20)
def wsX2_begin : List Cond := .code yX2_begin cX2_begin 1 none :: ([.fieldLink RX2 23 "SoundSpeller$Reader" "place" "I"] ++ wsX20)
def wsX2_isAtEnd : List Cond := .code yX2_isAtEnd cX2_isAtEnd 1 (some .boolean) :: ([.fieldLink RX2 23 "SoundSpeller$Reader" "place" "I", .fieldLink RX2 20 "SoundSpeller$Reader" "text" "LSoundSpeller$Row;", .methodLink RX2 27 yX3_size, .instanceMethod yX3_size, .selects RX3 yX3_size yX3_size, .initialized RX3, .code yX3_size cX3_size 1 (some .int), .fieldLink RX3 21 "SoundSpeller$Row" "size" "I"] ++ wsX20 ++ wsX30)
def wsX2_fault : List Cond := .code yX2_fault cX2_fault 1 (some .int) :: ([.fieldLink RX2 23 "SoundSpeller$Reader" "place" "I"] ++ wsX20)
def wsX2_take : List Cond := .code yX2_take cX2_take 3 (some .boolean) :: ([.fieldLink RX2 20 "SoundSpeller$Reader" "text" "LSoundSpeller$Row;", .fieldLink RX2 23 "SoundSpeller$Reader" "place" "I", .methodLink RX2 31 yX3_get, .instanceMethod yX3_get, .selects RX3 yX3_get yX3_get, .initialized RX3, .code yX3_get cX3_get 2 (some .int), .fieldLink RX3 21 "SoundSpeller$Row" "size" "I", .fieldLink RX3 15 "SoundSpeller$Row" "cells" "[I"] ++ wsX20 ++ wsX30)
def wsX7_isSmall : List Cond := .code yX7_isSmall cX7_isSmall 1 (some .boolean) :: ([])
def wsX2_takeLetters_r1 : List Cond := [Cond.fieldLink RX2 14 "SoundSpeller$Reader" "letters" "LSoundSpeller$Row;", Cond.fieldLink RX2 20 "SoundSpeller$Reader" "text" "LSoundSpeller$Row;", Cond.fieldLink RX2 23 "SoundSpeller$Reader" "place" "I", Cond.methodLink RX2 35 yX3_clear, Cond.instanceMethod yX3_clear, Cond.selects RX3 yX3_clear yX3_clear, Cond.initialized RX3, Cond.code yX3_clear cX3_clear 1 none, Cond.fieldLink RX3 21 "SoundSpeller$Row" "size" "I", Cond.methodLink RX2 31 yX3_get, Cond.instanceMethod yX3_get, Cond.selects RX3 yX3_get yX3_get, Cond.code yX3_get cX3_get 2 (some .int), Cond.fieldLink RX3 15 "SoundSpeller$Row" "cells" "[I", Cond.static yX7_isSmall, Cond.initialized RX7, Cond.code yX7_isSmall cX7_isSmall 1 (some .boolean), Cond.methodLink RX2 42 yX3_add, Cond.instanceMethod yX3_add, Cond.selects RX3 yX3_add yX3_add, Cond.code yX3_add cX3_add 2 none, Cond.methodLink RX2 27 yX3_size, Cond.instanceMethod yX3_size, Cond.selects RX3 yX3_size yX3_size]
def wsX2_takeLetters_r2 : List Cond := [Cond.code yX3_size cX3_size 1 (some .int)]
def wsX2_takeLetters : List Cond := .code yX2_takeLetters cX2_takeLetters 3 (some .boolean) :: ((wsX2_takeLetters_r1 ++ wsX2_takeLetters_r2) ++ wsX20 ++ wsX30)
def wsX2_takeWord_r1 : List Cond := [Cond.fieldLink RX2 58 "SoundSpeller$Reader" "entry" "I", Cond.fieldLink RX2 82 "SoundSpeller$Reader" "kind" "I", Cond.methodLink RX2 64 yX2_take, Cond.instanceMethod yX2_take, Cond.selects RX2 yX2_take yX2_take, Cond.initialized RX2, Cond.code yX2_take cX2_take 3 (some .boolean), Cond.fieldLink RX2 20 "SoundSpeller$Reader" "text" "LSoundSpeller$Row;", Cond.fieldLink RX2 23 "SoundSpeller$Reader" "place" "I", Cond.methodLink RX2 31 yX3_get, Cond.instanceMethod yX3_get, Cond.selects RX3 yX3_get yX3_get, Cond.initialized RX3, Cond.code yX3_get cX3_get 2 (some .int), Cond.fieldLink RX3 21 "SoundSpeller$Row" "size" "I", Cond.fieldLink RX3 15 "SoundSpeller$Row" "cells" "[I", Cond.methodLink RX2 61 yX2_takeLetters, Cond.instanceMethod yX2_takeLetters, Cond.selects RX2 yX2_takeLetters yX2_takeLetters, Cond.code yX2_takeLetters cX2_takeLetters 3 (some .boolean), Cond.fieldLink RX2 14 "SoundSpeller$Reader" "letters" "LSoundSpeller$Row;", Cond.methodLink RX2 35 yX3_clear, Cond.instanceMethod yX3_clear, Cond.selects RX3 yX3_clear yX3_clear]
def wsX2_takeWord_r2 : List Cond := [Cond.code yX3_clear cX3_clear 1 none, Cond.static yX7_isSmall, Cond.initialized RX7, Cond.code yX7_isSmall cX7_isSmall 1 (some .boolean), Cond.methodLink RX2 42 yX3_add, Cond.instanceMethod yX3_add, Cond.selects RX3 yX3_add yX3_add, Cond.code yX3_add cX3_add 2 none, Cond.methodLink RX2 27 yX3_size, Cond.instanceMethod yX3_size, Cond.selects RX3 yX3_size yX3_size, Cond.code yX3_size cX3_size 1 (some .int)]
def wsX2_takeWord : List Cond := .code yX2_takeWord cX2_takeWord 1 (some .boolean) :: ((wsX2_takeWord_r1 ++ wsX2_takeWord_r2) ++ wsX20 ++ wsX30)
def wsX7_isCapital : List Cond := .code yX7_isCapital cX7_isCapital 1 (some .boolean) :: ([])
def wsX2_takeSound : List Cond := .code yX2_takeSound cX2_takeSound 2 (some .boolean) :: ([.fieldLink RX2 20 "SoundSpeller$Reader" "text" "LSoundSpeller$Row;", .fieldLink RX2 23 "SoundSpeller$Reader" "place" "I", .fieldLink RX2 76 "SoundSpeller$Reader" "sound" "I", .methodLink RX2 31 yX3_get, .instanceMethod yX3_get, .selects RX3 yX3_get yX3_get, .initialized RX3, .code yX3_get cX3_get 2 (some .int), .fieldLink RX3 21 "SoundSpeller$Row" "size" "I", .fieldLink RX3 15 "SoundSpeller$Row" "cells" "[I", .static yX7_isCapital, .initialized RX7, .code yX7_isCapital cX7_isCapital 1 (some .boolean)] ++ wsX20 ++ wsX30)
def wsX2_takeSign_r1 : List Cond := [Cond.fieldLink RX2 58 "SoundSpeller$Reader" "entry" "I", Cond.methodLink RX2 67 yX2_takeSound, Cond.instanceMethod yX2_takeSound, Cond.selects RX2 yX2_takeSound yX2_takeSound, Cond.initialized RX2, Cond.code yX2_takeSound cX2_takeSound 2 (some .boolean), Cond.fieldLink RX2 20 "SoundSpeller$Reader" "text" "LSoundSpeller$Row;", Cond.fieldLink RX2 23 "SoundSpeller$Reader" "place" "I", Cond.fieldLink RX2 76 "SoundSpeller$Reader" "sound" "I", Cond.methodLink RX2 31 yX3_get, Cond.instanceMethod yX3_get, Cond.selects RX3 yX3_get yX3_get, Cond.initialized RX3, Cond.code yX3_get cX3_get 2 (some .int), Cond.fieldLink RX3 21 "SoundSpeller$Row" "size" "I", Cond.fieldLink RX3 15 "SoundSpeller$Row" "cells" "[I", Cond.static yX7_isCapital, Cond.initialized RX7, Cond.code yX7_isCapital cX7_isCapital 1 (some .boolean), Cond.methodLink RX2 64 yX2_take, Cond.instanceMethod yX2_take, Cond.selects RX2 yX2_take yX2_take, Cond.code yX2_take cX2_take 3 (some .boolean), Cond.methodLink RX2 61 yX2_takeLetters]
def wsX2_takeSign_r2 : List Cond := [Cond.instanceMethod yX2_takeLetters, Cond.selects RX2 yX2_takeLetters yX2_takeLetters, Cond.code yX2_takeLetters cX2_takeLetters 3 (some .boolean), Cond.fieldLink RX2 14 "SoundSpeller$Reader" "letters" "LSoundSpeller$Row;", Cond.methodLink RX2 35 yX3_clear, Cond.instanceMethod yX3_clear, Cond.selects RX3 yX3_clear yX3_clear, Cond.code yX3_clear cX3_clear 1 none, Cond.static yX7_isSmall, Cond.code yX7_isSmall cX7_isSmall 1 (some .boolean), Cond.methodLink RX2 42 yX3_add, Cond.instanceMethod yX3_add, Cond.selects RX3 yX3_add yX3_add, Cond.code yX3_add cX3_add 2 none, Cond.methodLink RX2 27 yX3_size, Cond.instanceMethod yX3_size, Cond.selects RX3 yX3_size yX3_size, Cond.code yX3_size cX3_size 1 (some .int)]
def wsX2_takeSign : List Cond := .code yX2_takeSign cX2_takeSign 1 (some .boolean) :: ((wsX2_takeSign_r1 ++ wsX2_takeSign_r2) ++ wsX20 ++ wsX30)
def wsX2_sideOf : List Cond := .code yX2_sideOf cX2_sideOf 1 (some .int) :: ([])
def wsX2_takeSide : List Cond := .code yX2_takeSide cX2_takeSide 2 (some .int) :: ([.fieldLink RX2 20 "SoundSpeller$Reader" "text" "LSoundSpeller$Row;", .fieldLink RX2 23 "SoundSpeller$Reader" "place" "I", .methodLink RX2 31 yX3_get, .instanceMethod yX3_get, .selects RX3 yX3_get yX3_get, .initialized RX3, .code yX3_get cX3_get 2 (some .int), .fieldLink RX3 21 "SoundSpeller$Row" "size" "I", .fieldLink RX3 15 "SoundSpeller$Row" "cells" "[I", .methodLink RX2 79 yX2_sideOf, .static yX2_sideOf, .initialized RX2, .code yX2_sideOf cX2_sideOf 1 (some .int)] ++ wsX20 ++ wsX30)
def wsX2_takeRule_r1 : List Cond := [Cond.fieldLink RX2 58 "SoundSpeller$Reader" "entry" "I", Cond.fieldLink RX2 73 "SoundSpeller$Reader" "side" "I", Cond.methodLink RX2 61 yX2_takeLetters, Cond.instanceMethod yX2_takeLetters, Cond.selects RX2 yX2_takeLetters yX2_takeLetters, Cond.initialized RX2, Cond.code yX2_takeLetters cX2_takeLetters 3 (some .boolean), Cond.fieldLink RX2 14 "SoundSpeller$Reader" "letters" "LSoundSpeller$Row;", Cond.fieldLink RX2 20 "SoundSpeller$Reader" "text" "LSoundSpeller$Row;", Cond.fieldLink RX2 23 "SoundSpeller$Reader" "place" "I", Cond.methodLink RX2 35 yX3_clear, Cond.instanceMethod yX3_clear, Cond.selects RX3 yX3_clear yX3_clear, Cond.initialized RX3, Cond.code yX3_clear cX3_clear 1 none, Cond.fieldLink RX3 21 "SoundSpeller$Row" "size" "I", Cond.methodLink RX2 31 yX3_get, Cond.instanceMethod yX3_get, Cond.selects RX3 yX3_get yX3_get, Cond.code yX3_get cX3_get 2 (some .int), Cond.fieldLink RX3 15 "SoundSpeller$Row" "cells" "[I", Cond.static yX7_isSmall, Cond.initialized RX7, Cond.code yX7_isSmall cX7_isSmall 1 (some .boolean)]
def wsX2_takeRule_r2 : List Cond := [Cond.methodLink RX2 42 yX3_add, Cond.instanceMethod yX3_add, Cond.selects RX3 yX3_add yX3_add, Cond.code yX3_add cX3_add 2 none, Cond.methodLink RX2 27 yX3_size, Cond.instanceMethod yX3_size, Cond.selects RX3 yX3_size yX3_size, Cond.code yX3_size cX3_size 1 (some .int), Cond.methodLink RX2 64 yX2_take, Cond.instanceMethod yX2_take, Cond.selects RX2 yX2_take yX2_take, Cond.code yX2_take cX2_take 3 (some .boolean), Cond.methodLink RX2 67 yX2_takeSound, Cond.instanceMethod yX2_takeSound, Cond.selects RX2 yX2_takeSound yX2_takeSound, Cond.code yX2_takeSound cX2_takeSound 2 (some .boolean), Cond.fieldLink RX2 76 "SoundSpeller$Reader" "sound" "I", Cond.static yX7_isCapital, Cond.code yX7_isCapital cX7_isCapital 1 (some .boolean), Cond.methodLink RX2 70 yX2_takeSide, Cond.instanceMethod yX2_takeSide, Cond.selects RX2 yX2_takeSide yX2_takeSide, Cond.code yX2_takeSide cX2_takeSide 2 (some .int), Cond.methodLink RX2 79 yX2_sideOf]
def wsX2_takeRule_r3 : List Cond := [Cond.static yX2_sideOf, Cond.code yX2_sideOf cX2_sideOf 1 (some .int)]
def wsX2_takeRule : List Cond := .code yX2_takeRule cX2_takeRule 1 (some .boolean) :: ((wsX2_takeRule_r1 ++ (wsX2_takeRule_r2 ++ wsX2_takeRule_r3)) ++ wsX20 ++ wsX30)
def wsX2_takeEntry_r1 : List Cond := [Cond.fieldLink RX2 20 "SoundSpeller$Reader" "text" "LSoundSpeller$Row;", Cond.fieldLink RX2 23 "SoundSpeller$Reader" "place" "I", Cond.methodLink RX2 31 yX3_get, Cond.instanceMethod yX3_get, Cond.selects RX3 yX3_get yX3_get, Cond.initialized RX3, Cond.code yX3_get cX3_get 2 (some .int), Cond.fieldLink RX3 21 "SoundSpeller$Row" "size" "I", Cond.fieldLink RX3 15 "SoundSpeller$Row" "cells" "[I", Cond.methodLink RX2 45 yX2_takeWord, Cond.instanceMethod yX2_takeWord, Cond.selects RX2 yX2_takeWord yX2_takeWord, Cond.initialized RX2, Cond.code yX2_takeWord cX2_takeWord 1 (some .boolean), Cond.fieldLink RX2 58 "SoundSpeller$Reader" "entry" "I", Cond.fieldLink RX2 82 "SoundSpeller$Reader" "kind" "I", Cond.methodLink RX2 64 yX2_take, Cond.instanceMethod yX2_take, Cond.selects RX2 yX2_take yX2_take, Cond.code yX2_take cX2_take 3 (some .boolean), Cond.methodLink RX2 61 yX2_takeLetters, Cond.instanceMethod yX2_takeLetters, Cond.selects RX2 yX2_takeLetters yX2_takeLetters, Cond.code yX2_takeLetters cX2_takeLetters 3 (some .boolean)]
def wsX2_takeEntry_r2 : List Cond := [Cond.fieldLink RX2 14 "SoundSpeller$Reader" "letters" "LSoundSpeller$Row;", Cond.methodLink RX2 35 yX3_clear, Cond.instanceMethod yX3_clear, Cond.selects RX3 yX3_clear yX3_clear, Cond.code yX3_clear cX3_clear 1 none, Cond.static yX7_isSmall, Cond.initialized RX7, Cond.code yX7_isSmall cX7_isSmall 1 (some .boolean), Cond.methodLink RX2 42 yX3_add, Cond.instanceMethod yX3_add, Cond.selects RX3 yX3_add yX3_add, Cond.code yX3_add cX3_add 2 none, Cond.methodLink RX2 27 yX3_size, Cond.instanceMethod yX3_size, Cond.selects RX3 yX3_size yX3_size, Cond.code yX3_size cX3_size 1 (some .int), Cond.static yX7_isCapital, Cond.code yX7_isCapital cX7_isCapital 1 (some .boolean), Cond.methodLink RX2 52 yX2_takeSign, Cond.instanceMethod yX2_takeSign, Cond.selects RX2 yX2_takeSign yX2_takeSign, Cond.code yX2_takeSign cX2_takeSign 1 (some .boolean), Cond.methodLink RX2 67 yX2_takeSound, Cond.instanceMethod yX2_takeSound]
def wsX2_takeEntry_r3 : List Cond := [Cond.selects RX2 yX2_takeSound yX2_takeSound, Cond.code yX2_takeSound cX2_takeSound 2 (some .boolean), Cond.fieldLink RX2 76 "SoundSpeller$Reader" "sound" "I", Cond.methodLink RX2 55 yX2_takeRule, Cond.instanceMethod yX2_takeRule, Cond.selects RX2 yX2_takeRule yX2_takeRule, Cond.code yX2_takeRule cX2_takeRule 1 (some .boolean), Cond.fieldLink RX2 73 "SoundSpeller$Reader" "side" "I", Cond.methodLink RX2 70 yX2_takeSide, Cond.instanceMethod yX2_takeSide, Cond.selects RX2 yX2_takeSide yX2_takeSide, Cond.code yX2_takeSide cX2_takeSide 2 (some .int), Cond.methodLink RX2 79 yX2_sideOf, Cond.static yX2_sideOf, Cond.code yX2_sideOf cX2_sideOf 1 (some .int)]
def wsX2_takeEntry : List Cond := .code yX2_takeEntry cX2_takeEntry 2 (some .boolean) :: ((wsX2_takeEntry_r1 ++ (wsX2_takeEntry_r2 ++ wsX2_takeEntry_r3)) ++ wsX20 ++ wsX30)
def wsX3_increase : List Cond := .code yX3_increase cX3_increase 2 none :: ([.methodLink RX3 25 yX3_get, .instanceMethod yX3_get, .selects RX3 yX3_get yX3_get, .initialized RX3, .code yX3_get cX3_get 2 (some .int), .fieldLink RX3 21 "SoundSpeller$Row" "size" "I", .fieldLink RX3 15 "SoundSpeller$Row" "cells" "[I", .methodLink RX3 33 yX3_set, .instanceMethod yX3_set, .selects RX3 yX3_set yX3_set, .code yX3_set cX3_set 3 none] ++ wsX30)
def wsX4_wholeLength : List Cond := .code yX4_wholeLength cX4_wholeLength 3 (some .int) :: ([.fieldLink RX4 28 "SoundSpeller$Rows" "lengths" "LSoundSpeller$Row;", .methodLink RX4 31 yX3_size, .instanceMethod yX3_size, .selects RX3 yX3_size yX3_size, .initialized RX3, .code yX3_size cX3_size 1 (some .int), .fieldLink RX3 21 "SoundSpeller$Row" "size" "I", .methodLink RX4 35 yX3_get, .instanceMethod yX3_get, .selects RX3 yX3_get yX3_get, .code yX3_get cX3_get 2 (some .int), .fieldLink RX3 15 "SoundSpeller$Row" "cells" "[I"] ++ wsX40 ++ wsX30)
def wsX4_putOne : List Cond := .code yX4_putOne cX4_putOne 3 none :: ([.fieldLink RX4 9 "SoundSpeller$Rows" "width" "I", .fieldLink RX4 28 "SoundSpeller$Rows" "lengths" "LSoundSpeller$Row;", .fieldLink RX4 20 "SoundSpeller$Rows" "cells" "LSoundSpeller$Row;", .methodLink RX4 50 yX4_has, .instanceMethod yX4_has, .selects RX4 yX4_has yX4_has, .initialized RX4, .code yX4_has cX4_has 2 (some .boolean), .methodLink RX4 31 yX3_size, .instanceMethod yX3_size, .selects RX3 yX3_size yX3_size, .initialized RX3, .code yX3_size cX3_size 1 (some .int), .fieldLink RX3 21 "SoundSpeller$Row" "size" "I", .methodLink RX4 60 yX3_set, .instanceMethod yX3_set, .selects RX3 yX3_set yX3_set, .code yX3_set cX3_set 3 none, .fieldLink RX3 15 "SoundSpeller$Row" "cells" "[I"] ++ wsX40 ++ wsX30)
def wsX4_copyTo : List Cond := .code yX4_copyTo cX4_copyTo 4 none :: ([.fieldLink RX4 28 "SoundSpeller$Rows" "lengths" "LSoundSpeller$Row;", .methodLink RX4 63 yX3_clear, .instanceMethod yX3_clear, .selects RX3 yX3_clear yX3_clear, .initialized RX3, .code yX3_clear cX3_clear 1 none, .fieldLink RX3 21 "SoundSpeller$Row" "size" "I", .methodLink RX4 35 yX3_get, .instanceMethod yX3_get, .selects RX3 yX3_get yX3_get, .code yX3_get cX3_get 2 (some .int), .fieldLink RX3 15 "SoundSpeller$Row" "cells" "[I", .methodLink RX4 66 yX4_get, .instanceMethod yX4_get, .selects RX4 yX4_get yX4_get, .initialized RX4, .code yX4_get cX4_get 4 (some .int), .fieldLink RX4 20 "SoundSpeller$Rows" "cells" "LSoundSpeller$Row;", .fieldLink RX4 9 "SoundSpeller$Rows" "width" "I", .methodLink RX4 43 yX3_add, .instanceMethod yX3_add, .selects RX3 yX3_add yX3_add, .code yX3_add cX3_add 2 none] ++ wsX40 ++ wsX30)
def wsX4_clear : List Cond := .code yX4_clear cX4_clear 1 none :: ([.fieldLink RX4 28 "SoundSpeller$Rows" "lengths" "LSoundSpeller$Row;", .methodLink RX4 63 yX3_clear, .instanceMethod yX3_clear, .selects RX3 yX3_clear yX3_clear, .initialized RX3, .code yX3_clear cX3_clear 1 none, .fieldLink RX3 21 "SoundSpeller$Row" "size" "I"] ++ wsX40 ++ wsX30)
def wsX4_isLike_ : List Cond := .code yX4_isLike_ cX4_isLike_ 5 (some .boolean) :: ([.fieldLink RX4 28 "SoundSpeller$Rows" "lengths" "LSoundSpeller$Row;", .methodLink RX4 35 yX3_get, .instanceMethod yX3_get, .selects RX3 yX3_get yX3_get, .initialized RX3, .code yX3_get cX3_get 2 (some .int), .fieldLink RX3 21 "SoundSpeller$Row" "size" "I", .fieldLink RX3 15 "SoundSpeller$Row" "cells" "[I", .methodLink RX4 66 yX4_get, .instanceMethod yX4_get, .selects RX4 yX4_get yX4_get, .initialized RX4, .code yX4_get cX4_get 4 (some .int), .fieldLink RX4 20 "SoundSpeller$Rows" "cells" "LSoundSpeller$Row;", .fieldLink RX4 9 "SoundSpeller$Rows" "width" "I"] ++ wsX40 ++ wsX30)
def wsX4_lowestLike : List Cond := .code yX4_lowestLike cX4_lowestLike 3 (some .int) :: ([.methodLink RX4 76 yX4_isLike_, .instanceMethod yX4_isLike_, .selects RX4 yX4_isLike_ yX4_isLike_, .initialized RX4, .code yX4_isLike_ cX4_isLike_ 5 (some .boolean), .fieldLink RX4 28 "SoundSpeller$Rows" "lengths" "LSoundSpeller$Row;", .methodLink RX4 35 yX3_get, .instanceMethod yX3_get, .selects RX3 yX3_get yX3_get, .initialized RX3, .code yX3_get cX3_get 2 (some .int), .fieldLink RX3 21 "SoundSpeller$Row" "size" "I", .fieldLink RX3 15 "SoundSpeller$Row" "cells" "[I", .methodLink RX4 66 yX4_get, .instanceMethod yX4_get, .selects RX4 yX4_get yX4_get, .code yX4_get cX4_get 4 (some .int), .fieldLink RX4 20 "SoundSpeller$Rows" "cells" "LSoundSpeller$Row;", .fieldLink RX4 9 "SoundSpeller$Rows" "width" "I"] ++ wsX40 ++ wsX30)
def wsX4_countLike : List Cond := .code yX4_countLike cX4_countLike 4 (some .int) :: ([.fieldLink RX4 28 "SoundSpeller$Rows" "lengths" "LSoundSpeller$Row;", .methodLink RX4 31 yX3_size, .instanceMethod yX3_size, .selects RX3 yX3_size yX3_size, .initialized RX3, .code yX3_size cX3_size 1 (some .int), .fieldLink RX3 21 "SoundSpeller$Row" "size" "I", .methodLink RX4 76 yX4_isLike_, .instanceMethod yX4_isLike_, .selects RX4 yX4_isLike_ yX4_isLike_, .initialized RX4, .code yX4_isLike_ cX4_isLike_ 5 (some .boolean), .methodLink RX4 35 yX3_get, .instanceMethod yX3_get, .selects RX3 yX3_get yX3_get, .code yX3_get cX3_get 2 (some .int), .fieldLink RX3 15 "SoundSpeller$Row" "cells" "[I", .methodLink RX4 66 yX4_get, .instanceMethod yX4_get, .selects RX4 yX4_get yX4_get, .code yX4_get cX4_get 4 (some .int), .fieldLink RX4 20 "SoundSpeller$Rows" "cells" "LSoundSpeller$Row;", .fieldLink RX4 9 "SoundSpeller$Rows" "width" "I"] ++ wsX40 ++ wsX30)
def wsX5_init : List Cond := .code yX5_init cX5_init 1 none :: ([.methodLink RX5 3 objectInit, .instanceMethod objectInit, .code objectInit ⟨#[0xb1]⟩ 1 none, .classLink RX5 9 RX3, .instantiable RX3 2, .initialized RX3, .fieldLink RX5 14 "SoundSpeller$Speller" "sounds" "LSoundSpeller$Row;", .fieldLink RX5 20 "SoundSpeller$Speller" "rulesAt" "LSoundSpeller$Row;", .fieldLink RX5 23 "SoundSpeller$Speller" "rulesUsed" "LSoundSpeller$Row;", .fieldLink RX5 26 "SoundSpeller$Speller" "spelling" "LSoundSpeller$Row;", .methodLink RX5 11 yX3_init, .instanceMethod yX3_init, .code yX3_init cX3_init 2 none, .methodLink RX3 3 objectInit, .methodLink RX3 9 Lib.Math.max.name, .static Lib.Math.max.name, .initialized "java/lang/Math", .code Lib.Math.max.name Lib.Math.max.code 2 (some .int), .arrayClass .int, .fieldLink RX3 15 "SoundSpeller$Row" "cells" "[I"] ++ wsX30 ++ wsX50)
def wsX7_isVowel : List Cond := .code yX7_isVowel cX7_isVowel 1 (some .boolean) :: ([])
def wsX5_sideHolds : List Cond := .code yX5_sideHolds cX5_sideHolds 4 (some .boolean) :: ([.methodLink RX5 32 yX3_size, .instanceMethod yX3_size, .selects RX3 yX3_size yX3_size, .initialized RX3, .code yX3_size cX3_size 1 (some .int), .fieldLink RX3 21 "SoundSpeller$Row" "size" "I", .methodLink RX5 40 yX3_get, .instanceMethod yX3_get, .selects RX3 yX3_get yX3_get, .code yX3_get cX3_get 2 (some .int), .fieldLink RX3 15 "SoundSpeller$Row" "cells" "[I", .static yX7_isVowel, .initialized RX7, .code yX7_isVowel cX7_isVowel 1 (some .boolean)] ++ wsX30)
def wsX5_holds_r1 : List Cond := [Cond.fieldLink RX5 51 "SoundSpeller$Book" "ruleLetters" "LSoundSpeller$Rows;", Cond.fieldLink RX5 72 "SoundSpeller$Book" "ruleSides" "LSoundSpeller$Row;", Cond.methodLink RX5 57 yX4_length, Cond.instanceMethod yX4_length, Cond.selects RX4 yX4_length yX4_length, Cond.initialized RX4, Cond.code yX4_length cX4_length 2 (some .int), Cond.fieldLink RX4 28 "SoundSpeller$Rows" "lengths" "LSoundSpeller$Row;", Cond.methodLink RX4 35 yX3_get, Cond.instanceMethod yX3_get, Cond.selects RX3 yX3_get yX3_get, Cond.initialized RX3, Cond.code yX3_get cX3_get 2 (some .int), Cond.fieldLink RX3 21 "SoundSpeller$Row" "size" "I", Cond.fieldLink RX3 15 "SoundSpeller$Row" "cells" "[I", Cond.methodLink RX5 79 yX4_get, Cond.instanceMethod yX4_get, Cond.selects RX4 yX4_get yX4_get, Cond.code yX4_get cX4_get 4 (some .int), Cond.fieldLink RX4 20 "SoundSpeller$Rows" "cells" "LSoundSpeller$Row;", Cond.fieldLink RX4 9 "SoundSpeller$Rows" "width" "I", Cond.methodLink RX5 40 yX3_get, Cond.methodLink RX5 82 yX5_sideHolds, Cond.static yX5_sideHolds]
def wsX5_holds_r2 : List Cond := [Cond.initialized RX5, Cond.code yX5_sideHolds cX5_sideHolds 4 (some .boolean), Cond.methodLink RX5 32 yX3_size, Cond.instanceMethod yX3_size, Cond.selects RX3 yX3_size yX3_size, Cond.code yX3_size cX3_size 1 (some .int), Cond.static yX7_isVowel, Cond.initialized RX7, Cond.code yX7_isVowel cX7_isVowel 1 (some .boolean)]
def wsX5_holds : List Cond := .code yX5_holds cX5_holds 6 (some .boolean) :: ((wsX5_holds_r1 ++ wsX5_holds_r2) ++ wsX00 ++ wsX40 ++ wsX30)
def wsX5_bestRule_r1 : List Cond := [Cond.fieldLink RX5 51 "SoundSpeller$Book" "ruleLetters" "LSoundSpeller$Rows;", Cond.fieldLink RX5 72 "SoundSpeller$Book" "ruleSides" "LSoundSpeller$Row;", Cond.methodLink RX5 69 yX0_rules, Cond.instanceMethod yX0_rules, Cond.selects RX0 yX0_rules yX0_rules, Cond.initialized RX0, Cond.code yX0_rules cX0_rules 1 (some .int), Cond.fieldLink RX0 14 "SoundSpeller$Book" "ruleLetters" "LSoundSpeller$Rows;", Cond.methodLink RX0 56 yX4_lines, Cond.instanceMethod yX4_lines, Cond.selects RX4 yX4_lines yX4_lines, Cond.initialized RX4, Cond.code yX4_lines cX4_lines 1 (some .int), Cond.fieldLink RX4 28 "SoundSpeller$Rows" "lengths" "LSoundSpeller$Row;", Cond.methodLink RX4 31 yX3_size, Cond.instanceMethod yX3_size, Cond.selects RX3 yX3_size yX3_size, Cond.initialized RX3, Cond.code yX3_size cX3_size 1 (some .int), Cond.fieldLink RX3 21 "SoundSpeller$Row" "size" "I", Cond.methodLink RX5 57 yX4_length, Cond.instanceMethod yX4_length, Cond.selects RX4 yX4_length yX4_length, Cond.code yX4_length cX4_length 2 (some .int)]
def wsX5_bestRule_r2 : List Cond := [Cond.methodLink RX4 35 yX3_get, Cond.instanceMethod yX3_get, Cond.selects RX3 yX3_get yX3_get, Cond.code yX3_get cX3_get 2 (some .int), Cond.fieldLink RX3 15 "SoundSpeller$Row" "cells" "[I", Cond.methodLink RX5 40 yX3_get, Cond.methodLink RX5 75 yX5_holds, Cond.static yX5_holds, Cond.initialized RX5, Cond.code yX5_holds cX5_holds 6 (some .boolean), Cond.methodLink RX5 79 yX4_get, Cond.instanceMethod yX4_get, Cond.selects RX4 yX4_get yX4_get, Cond.code yX4_get cX4_get 4 (some .int), Cond.fieldLink RX4 20 "SoundSpeller$Rows" "cells" "LSoundSpeller$Row;", Cond.fieldLink RX4 9 "SoundSpeller$Rows" "width" "I", Cond.methodLink RX5 82 yX5_sideHolds, Cond.static yX5_sideHolds, Cond.code yX5_sideHolds cX5_sideHolds 4 (some .boolean), Cond.methodLink RX5 32 yX3_size, Cond.static yX7_isVowel, Cond.initialized RX7, Cond.code yX7_isVowel cX7_isVowel 1 (some .boolean)]
def wsX5_bestRule : List Cond := .code yX5_bestRule cX5_bestRule 7 (some .int) :: ((wsX5_bestRule_r1 ++ wsX5_bestRule_r2) ++ wsX00 ++ wsX40 ++ wsX30)
def wsX5_useRule_r1 : List Cond := [Cond.fieldLink RX5 62 "SoundSpeller$Book" "ruleSounds" "LSoundSpeller$Row;", Cond.fieldLink RX5 14 "SoundSpeller$Speller" "sounds" "LSoundSpeller$Row;", Cond.fieldLink RX5 23 "SoundSpeller$Speller" "rulesUsed" "LSoundSpeller$Row;", Cond.fieldLink RX5 20 "SoundSpeller$Speller" "rulesAt" "LSoundSpeller$Row;", Cond.fieldLink RX5 51 "SoundSpeller$Book" "ruleLetters" "LSoundSpeller$Rows;", Cond.methodLink RX5 40 yX3_get, Cond.instanceMethod yX3_get, Cond.selects RX3 yX3_get yX3_get, Cond.initialized RX3, Cond.code yX3_get cX3_get 2 (some .int), Cond.fieldLink RX3 21 "SoundSpeller$Row" "size" "I", Cond.fieldLink RX3 15 "SoundSpeller$Row" "cells" "[I", Cond.methodLink RX5 44 yX3_add, Cond.instanceMethod yX3_add, Cond.selects RX3 yX3_add yX3_add, Cond.code yX3_add cX3_add 2 none, Cond.methodLink RX5 57 yX4_length, Cond.instanceMethod yX4_length, Cond.selects RX4 yX4_length yX4_length, Cond.initialized RX4, Cond.code yX4_length cX4_length 2 (some .int), Cond.fieldLink RX4 28 "SoundSpeller$Rows" "lengths" "LSoundSpeller$Row;", Cond.methodLink RX4 35 yX3_get, Cond.methodLink RX5 65 yX3_addMany]
def wsX5_useRule_r2 : List Cond := [Cond.instanceMethod yX3_addMany, Cond.selects RX3 yX3_addMany yX3_addMany, Cond.code yX3_addMany cX3_addMany 4 none, Cond.methodLink RX3 29 yX3_add]
def wsX5_useRule : List Cond := .code yX5_useRule cX5_useRule 4 none :: ((wsX5_useRule_r1 ++ wsX5_useRule_r2) ++ wsX00 ++ wsX50 ++ wsX30 ++ wsX40)
def wsX5_hear_r1 : List Cond := [Cond.fieldLink RX5 14 "SoundSpeller$Speller" "sounds" "LSoundSpeller$Row;", Cond.fieldLink RX5 20 "SoundSpeller$Speller" "rulesAt" "LSoundSpeller$Row;", Cond.fieldLink RX5 23 "SoundSpeller$Speller" "rulesUsed" "LSoundSpeller$Row;", Cond.fieldLink RX5 51 "SoundSpeller$Book" "ruleLetters" "LSoundSpeller$Rows;", Cond.methodLink RX5 29 yX3_clear, Cond.instanceMethod yX3_clear, Cond.selects RX3 yX3_clear yX3_clear, Cond.initialized RX3, Cond.code yX3_clear cX3_clear 1 none, Cond.fieldLink RX3 21 "SoundSpeller$Row" "size" "I", Cond.methodLink RX5 32 yX3_size, Cond.instanceMethod yX3_size, Cond.selects RX3 yX3_size yX3_size, Cond.code yX3_size cX3_size 1 (some .int), Cond.methodLink RX5 36 yX5_bestRule, Cond.static yX5_bestRule, Cond.initialized RX5, Cond.code yX5_bestRule cX5_bestRule 7 (some .int), Cond.fieldLink RX5 72 "SoundSpeller$Book" "ruleSides" "LSoundSpeller$Row;", Cond.methodLink RX5 69 yX0_rules, Cond.instanceMethod yX0_rules, Cond.selects RX0 yX0_rules yX0_rules, Cond.initialized RX0, Cond.code yX0_rules cX0_rules 1 (some .int)]
def wsX5_hear_r2 : List Cond := [Cond.fieldLink RX0 14 "SoundSpeller$Book" "ruleLetters" "LSoundSpeller$Rows;", Cond.methodLink RX0 56 yX4_lines, Cond.instanceMethod yX4_lines, Cond.selects RX4 yX4_lines yX4_lines, Cond.initialized RX4, Cond.code yX4_lines cX4_lines 1 (some .int), Cond.fieldLink RX4 28 "SoundSpeller$Rows" "lengths" "LSoundSpeller$Row;", Cond.methodLink RX4 31 yX3_size, Cond.methodLink RX5 57 yX4_length, Cond.instanceMethod yX4_length, Cond.selects RX4 yX4_length yX4_length, Cond.code yX4_length cX4_length 2 (some .int), Cond.methodLink RX4 35 yX3_get, Cond.instanceMethod yX3_get, Cond.selects RX3 yX3_get yX3_get, Cond.code yX3_get cX3_get 2 (some .int), Cond.fieldLink RX3 15 "SoundSpeller$Row" "cells" "[I", Cond.methodLink RX5 40 yX3_get, Cond.methodLink RX5 75 yX5_holds, Cond.static yX5_holds, Cond.code yX5_holds cX5_holds 6 (some .boolean), Cond.methodLink RX5 79 yX4_get, Cond.instanceMethod yX4_get, Cond.selects RX4 yX4_get yX4_get]
def wsX5_hear_r3 : List Cond := [Cond.code yX4_get cX4_get 4 (some .int), Cond.fieldLink RX4 20 "SoundSpeller$Rows" "cells" "LSoundSpeller$Row;", Cond.fieldLink RX4 9 "SoundSpeller$Rows" "width" "I", Cond.methodLink RX5 82 yX5_sideHolds, Cond.static yX5_sideHolds, Cond.code yX5_sideHolds cX5_sideHolds 4 (some .boolean), Cond.static yX7_isVowel, Cond.initialized RX7, Cond.code yX7_isVowel cX7_isVowel 1 (some .boolean), Cond.methodLink RX5 44 yX3_add, Cond.instanceMethod yX3_add, Cond.selects RX3 yX3_add yX3_add, Cond.code yX3_add cX3_add 2 none, Cond.methodLink RX5 47 yX5_useRule, Cond.instanceMethod yX5_useRule, Cond.selects RX5 yX5_useRule yX5_useRule, Cond.code yX5_useRule cX5_useRule 4 none, Cond.fieldLink RX5 62 "SoundSpeller$Book" "ruleSounds" "LSoundSpeller$Row;", Cond.methodLink RX5 65 yX3_addMany, Cond.instanceMethod yX3_addMany, Cond.selects RX3 yX3_addMany yX3_addMany, Cond.code yX3_addMany cX3_addMany 4 none, Cond.methodLink RX3 29 yX3_add]
def wsX5_hear : List Cond := .code yX5_hear cX5_hear 6 none :: ((wsX5_hear_r1 ++ (wsX5_hear_r2 ++ wsX5_hear_r3)) ++ wsX50 ++ wsX00 ++ wsX30 ++ wsX40)
def wsX5_addSign_r1 : List Cond := [Cond.fieldLink RX5 100 "SoundSpeller$Book" "signs" "LSoundSpeller$Rows;", Cond.fieldLink RX5 26 "SoundSpeller$Speller" "spelling" "LSoundSpeller$Row;", Cond.static yX7_isCapital, Cond.initialized RX7, Cond.code yX7_isCapital cX7_isCapital 1 (some .boolean), Cond.methodLink RX5 57 yX4_length, Cond.instanceMethod yX4_length, Cond.selects RX4 yX4_length yX4_length, Cond.initialized RX4, Cond.code yX4_length cX4_length 2 (some .int), Cond.fieldLink RX4 28 "SoundSpeller$Rows" "lengths" "LSoundSpeller$Row;", Cond.methodLink RX4 35 yX3_get, Cond.instanceMethod yX3_get, Cond.selects RX3 yX3_get yX3_get, Cond.initialized RX3, Cond.code yX3_get cX3_get 2 (some .int), Cond.fieldLink RX3 21 "SoundSpeller$Row" "size" "I", Cond.fieldLink RX3 15 "SoundSpeller$Row" "cells" "[I", Cond.methodLink RX5 79 yX4_get, Cond.instanceMethod yX4_get, Cond.selects RX4 yX4_get yX4_get, Cond.code yX4_get cX4_get 4 (some .int), Cond.fieldLink RX4 20 "SoundSpeller$Rows" "cells" "LSoundSpeller$Row;", Cond.fieldLink RX4 9 "SoundSpeller$Rows" "width" "I"]
def wsX5_addSign_r2 : List Cond := [Cond.methodLink RX5 44 yX3_add, Cond.instanceMethod yX3_add, Cond.selects RX3 yX3_add yX3_add, Cond.code yX3_add cX3_add 2 none]
def wsX5_addSign : List Cond := .code yX5_addSign cX5_addSign 4 none :: ((wsX5_addSign_r1 ++ wsX5_addSign_r2) ++ wsX00 ++ wsX50 ++ wsX40 ++ wsX30)
def wsX5_write_r1 : List Cond := [Cond.fieldLink RX5 26 "SoundSpeller$Speller" "spelling" "LSoundSpeller$Row;", Cond.fieldLink RX5 14 "SoundSpeller$Speller" "sounds" "LSoundSpeller$Row;", Cond.methodLink RX5 29 yX3_clear, Cond.instanceMethod yX3_clear, Cond.selects RX3 yX3_clear yX3_clear, Cond.initialized RX3, Cond.code yX3_clear cX3_clear 1 none, Cond.fieldLink RX3 21 "SoundSpeller$Row" "size" "I", Cond.methodLink RX5 32 yX3_size, Cond.instanceMethod yX3_size, Cond.selects RX3 yX3_size yX3_size, Cond.code yX3_size cX3_size 1 (some .int), Cond.methodLink RX5 40 yX3_get, Cond.instanceMethod yX3_get, Cond.selects RX3 yX3_get yX3_get, Cond.code yX3_get cX3_get 2 (some .int), Cond.fieldLink RX3 15 "SoundSpeller$Row" "cells" "[I", Cond.methodLink RX5 90 yX5_addSign, Cond.instanceMethod yX5_addSign, Cond.selects RX5 yX5_addSign yX5_addSign, Cond.initialized RX5, Cond.code yX5_addSign cX5_addSign 4 none, Cond.fieldLink RX5 100 "SoundSpeller$Book" "signs" "LSoundSpeller$Rows;", Cond.static yX7_isCapital]
def wsX5_write_r2 : List Cond := [Cond.initialized RX7, Cond.code yX7_isCapital cX7_isCapital 1 (some .boolean), Cond.methodLink RX5 57 yX4_length, Cond.instanceMethod yX4_length, Cond.selects RX4 yX4_length yX4_length, Cond.initialized RX4, Cond.code yX4_length cX4_length 2 (some .int), Cond.fieldLink RX4 28 "SoundSpeller$Rows" "lengths" "LSoundSpeller$Row;", Cond.methodLink RX4 35 yX3_get, Cond.methodLink RX5 79 yX4_get, Cond.instanceMethod yX4_get, Cond.selects RX4 yX4_get yX4_get, Cond.code yX4_get cX4_get 4 (some .int), Cond.fieldLink RX4 20 "SoundSpeller$Rows" "cells" "LSoundSpeller$Row;", Cond.fieldLink RX4 9 "SoundSpeller$Rows" "width" "I", Cond.methodLink RX5 44 yX3_add, Cond.instanceMethod yX3_add, Cond.selects RX3 yX3_add yX3_add, Cond.code yX3_add cX3_add 2 none, Cond.methodLink RX5 93 yX3_addAll, Cond.instanceMethod yX3_addAll, Cond.selects RX3 yX3_addAll yX3_addAll, Cond.code yX3_addAll cX3_addAll 3 none, Cond.methodLink RX3 25 yX3_get]
def wsX5_write_r3 : List Cond := [Cond.methodLink RX3 29 yX3_add]
def wsX5_write : List Cond := .code yX5_write cX5_write 5 none :: ((wsX5_write_r1 ++ (wsX5_write_r2 ++ wsX5_write_r3)) ++ wsX50 ++ wsX30 ++ wsX00 ++ wsX40)
def wsX6_init_r1 : List Cond := [Cond.methodLink RX6 3 objectInit, Cond.instanceMethod objectInit, Cond.code objectInit ⟨#[0xb1]⟩ 1 none, Cond.classLink RX6 9 RX4, Cond.instantiable RX4 3, Cond.initialized RX4, Cond.fieldLink RX6 14 "SoundSpeller$Survey" "sounds" "LSoundSpeller$Rows;", Cond.fieldLink RX6 20 "SoundSpeller$Survey" "rulesAt" "LSoundSpeller$Rows;", Cond.fieldLink RX6 23 "SoundSpeller$Survey" "spellings" "LSoundSpeller$Rows;", Cond.classLink RX6 26 RX3, Cond.instantiable RX3 2, Cond.initialized RX3, Cond.fieldLink RX6 31 "SoundSpeller$Survey" "wordUses" "LSoundSpeller$Row;", Cond.fieldLink RX6 35 "SoundSpeller$Survey" "ruleUses" "LSoundSpeller$Row;", Cond.classLink RX6 38 RX5, Cond.instantiable RX5 4, Cond.initialized RX5, Cond.fieldLink RX6 41 "SoundSpeller$Survey" "speller" "LSoundSpeller$Speller;", Cond.fieldLink RX6 45 "SoundSpeller$Survey" "word" "LSoundSpeller$Row;", Cond.methodLink RX6 11 yX4_init, Cond.instanceMethod yX4_init, Cond.code yX4_init cX4_init 3 none, Cond.methodLink RX4 3 objectInit, Cond.fieldLink RX4 9 "SoundSpeller$Rows" "width" "I"]
def wsX6_init_r2 : List Cond := [Cond.classLink RX4 15 RX3, Cond.fieldLink RX4 20 "SoundSpeller$Rows" "cells" "LSoundSpeller$Row;", Cond.fieldLink RX4 28 "SoundSpeller$Rows" "lengths" "LSoundSpeller$Row;", Cond.methodLink RX4 17 yX3_init, Cond.instanceMethod yX3_init, Cond.code yX3_init cX3_init 2 none, Cond.methodLink RX3 3 objectInit, Cond.methodLink RX3 9 Lib.Math.max.name, Cond.static Lib.Math.max.name, Cond.initialized "java/lang/Math", Cond.code Lib.Math.max.name Lib.Math.max.code 2 (some .int), Cond.arrayClass .int, Cond.fieldLink RX3 15 "SoundSpeller$Row" "cells" "[I", Cond.methodLink RX4 24 yX3_addMany, Cond.instanceMethod yX3_addMany, Cond.selects RX3 yX3_addMany yX3_addMany, Cond.code yX3_addMany cX3_addMany 4 none, Cond.methodLink RX3 29 yX3_add, Cond.instanceMethod yX3_add, Cond.selects RX3 yX3_add yX3_add, Cond.code yX3_add cX3_add 2 none, Cond.fieldLink RX3 21 "SoundSpeller$Row" "size" "I", Cond.methodLink RX6 28 yX3_init, Cond.instanceMethod yX5_init]
def wsX6_init_r3 : List Cond := [Cond.code yX5_init cX5_init 1 none, Cond.methodLink RX5 3 objectInit, Cond.classLink RX5 9 RX3, Cond.fieldLink RX5 14 "SoundSpeller$Speller" "sounds" "LSoundSpeller$Row;", Cond.fieldLink RX5 20 "SoundSpeller$Speller" "rulesAt" "LSoundSpeller$Row;", Cond.fieldLink RX5 23 "SoundSpeller$Speller" "rulesUsed" "LSoundSpeller$Row;", Cond.fieldLink RX5 26 "SoundSpeller$Speller" "spelling" "LSoundSpeller$Row;", Cond.methodLink RX5 11 yX3_init]
def wsX6_init : List Cond := .code yX6_init cX6_init 1 none :: ((wsX6_init_r1 ++ (wsX6_init_r2 ++ wsX6_init_r3)) ++ wsX40 ++ wsX60 ++ wsX30 ++ wsX50)
def wsX6_addUses : List Cond := .code yX6_addUses cX6_addUses 3 none :: ([.fieldLink RX6 35 "SoundSpeller$Survey" "ruleUses" "LSoundSpeller$Row;", .methodLink RX6 100 yX3_size, .instanceMethod yX3_size, .selects RX3 yX3_size yX3_size, .initialized RX3, .code yX3_size cX3_size 1 (some .int), .fieldLink RX3 21 "SoundSpeller$Row" "size" "I", .methodLink RX6 78 yX3_get, .instanceMethod yX3_get, .selects RX3 yX3_get yX3_get, .code yX3_get cX3_get 2 (some .int), .fieldLink RX3 15 "SoundSpeller$Row" "cells" "[I", .methodLink RX6 108 yX3_increase, .instanceMethod yX3_increase, .selects RX3 yX3_increase yX3_increase, .code yX3_increase cX3_increase 2 none, .methodLink RX3 25 yX3_get, .methodLink RX3 33 yX3_set, .instanceMethod yX3_set, .selects RX3 yX3_set yX3_set, .code yX3_set cX3_set 3 none] ++ wsX60 ++ wsX30)
def wsX6_renew_r1 : List Cond := [Cond.fieldLink RX6 14 "SoundSpeller$Survey" "sounds" "LSoundSpeller$Rows;", Cond.fieldLink RX6 20 "SoundSpeller$Survey" "rulesAt" "LSoundSpeller$Rows;", Cond.fieldLink RX6 23 "SoundSpeller$Survey" "spellings" "LSoundSpeller$Rows;", Cond.fieldLink RX6 31 "SoundSpeller$Survey" "wordUses" "LSoundSpeller$Row;", Cond.fieldLink RX6 35 "SoundSpeller$Survey" "ruleUses" "LSoundSpeller$Row;", Cond.fieldLink RX6 64 "SoundSpeller$Book" "letters" "LSoundSpeller$Rows;", Cond.fieldLink RX6 45 "SoundSpeller$Survey" "word" "LSoundSpeller$Row;", Cond.fieldLink RX6 41 "SoundSpeller$Survey" "speller" "LSoundSpeller$Speller;", Cond.fieldLink RX6 75 "SoundSpeller$Book" "kinds" "LSoundSpeller$Row;", Cond.fieldLink RX6 86 "SoundSpeller$Speller" "sounds" "LSoundSpeller$Row;", Cond.fieldLink RX6 92 "SoundSpeller$Speller" "rulesAt" "LSoundSpeller$Row;", Cond.fieldLink RX6 94 "SoundSpeller$Speller" "spelling" "LSoundSpeller$Row;", Cond.fieldLink RX6 97 "SoundSpeller$Speller" "rulesUsed" "LSoundSpeller$Row;", Cond.methodLink RX6 48 yX4_clear, Cond.instanceMethod yX4_clear, Cond.selects RX4 yX4_clear yX4_clear, Cond.initialized RX4, Cond.code yX4_clear cX4_clear 1 none, Cond.fieldLink RX4 28 "SoundSpeller$Rows" "lengths" "LSoundSpeller$Row;", Cond.methodLink RX4 63 yX3_clear, Cond.instanceMethod yX3_clear, Cond.selects RX3 yX3_clear yX3_clear, Cond.initialized RX3, Cond.code yX3_clear cX3_clear 1 none]
def wsX6_renew_r2 : List Cond := [Cond.fieldLink RX3 21 "SoundSpeller$Row" "size" "I", Cond.methodLink RX6 51 yX3_clear, Cond.methodLink RX6 52 yX0_rules, Cond.instanceMethod yX0_rules, Cond.selects RX0 yX0_rules yX0_rules, Cond.initialized RX0, Cond.code yX0_rules cX0_rules 1 (some .int), Cond.fieldLink RX0 14 "SoundSpeller$Book" "ruleLetters" "LSoundSpeller$Rows;", Cond.methodLink RX0 56 yX4_lines, Cond.instanceMethod yX4_lines, Cond.selects RX4 yX4_lines yX4_lines, Cond.code yX4_lines cX4_lines 1 (some .int), Cond.methodLink RX4 31 yX3_size, Cond.instanceMethod yX3_size, Cond.selects RX3 yX3_size yX3_size, Cond.code yX3_size cX3_size 1 (some .int), Cond.methodLink RX6 58 yX3_addMany, Cond.instanceMethod yX3_addMany, Cond.selects RX3 yX3_addMany yX3_addMany, Cond.code yX3_addMany cX3_addMany 4 none, Cond.methodLink RX3 29 yX3_add, Cond.instanceMethod yX3_add, Cond.selects RX3 yX3_add yX3_add, Cond.code yX3_add cX3_add 2 none]
def wsX6_renew_r3 : List Cond := [Cond.fieldLink RX3 15 "SoundSpeller$Row" "cells" "[I", Cond.methodLink RX6 61 yX0_words, Cond.instanceMethod yX0_words, Cond.selects RX0 yX0_words yX0_words, Cond.code yX0_words cX0_words 1 (some .int), Cond.fieldLink RX0 35 "SoundSpeller$Book" "letters" "LSoundSpeller$Rows;", Cond.methodLink RX6 67 yX4_copyTo, Cond.instanceMethod yX4_copyTo, Cond.selects RX4 yX4_copyTo yX4_copyTo, Cond.code yX4_copyTo cX4_copyTo 4 none, Cond.methodLink RX4 35 yX3_get, Cond.instanceMethod yX3_get, Cond.selects RX3 yX3_get yX3_get, Cond.code yX3_get cX3_get 2 (some .int), Cond.methodLink RX4 66 yX4_get, Cond.instanceMethod yX4_get, Cond.selects RX4 yX4_get yX4_get, Cond.code yX4_get cX4_get 4 (some .int), Cond.fieldLink RX4 20 "SoundSpeller$Rows" "cells" "LSoundSpeller$Row;", Cond.fieldLink RX4 9 "SoundSpeller$Rows" "width" "I", Cond.methodLink RX4 43 yX3_add, Cond.methodLink RX6 71 yX5_hear, Cond.instanceMethod yX5_hear, Cond.selects RX5 yX5_hear yX5_hear]
def wsX6_renew_r4 : List Cond := [Cond.initialized RX5, Cond.code yX5_hear cX5_hear 6 none, Cond.fieldLink RX5 14 "SoundSpeller$Speller" "sounds" "LSoundSpeller$Row;", Cond.fieldLink RX5 20 "SoundSpeller$Speller" "rulesAt" "LSoundSpeller$Row;", Cond.fieldLink RX5 23 "SoundSpeller$Speller" "rulesUsed" "LSoundSpeller$Row;", Cond.fieldLink RX5 51 "SoundSpeller$Book" "ruleLetters" "LSoundSpeller$Rows;", Cond.methodLink RX5 29 yX3_clear, Cond.methodLink RX5 32 yX3_size, Cond.methodLink RX5 36 yX5_bestRule, Cond.static yX5_bestRule, Cond.code yX5_bestRule cX5_bestRule 7 (some .int), Cond.fieldLink RX5 72 "SoundSpeller$Book" "ruleSides" "LSoundSpeller$Row;", Cond.methodLink RX5 69 yX0_rules, Cond.methodLink RX5 57 yX4_length, Cond.instanceMethod yX4_length, Cond.selects RX4 yX4_length yX4_length, Cond.code yX4_length cX4_length 2 (some .int), Cond.methodLink RX5 40 yX3_get, Cond.methodLink RX5 75 yX5_holds, Cond.static yX5_holds, Cond.code yX5_holds cX5_holds 6 (some .boolean), Cond.methodLink RX5 79 yX4_get, Cond.methodLink RX5 82 yX5_sideHolds, Cond.static yX5_sideHolds]
def wsX6_renew_r5 : List Cond := [Cond.code yX5_sideHolds cX5_sideHolds 4 (some .boolean), Cond.static yX7_isVowel, Cond.initialized RX7, Cond.code yX7_isVowel cX7_isVowel 1 (some .boolean), Cond.methodLink RX5 44 yX3_add, Cond.methodLink RX5 47 yX5_useRule, Cond.instanceMethod yX5_useRule, Cond.selects RX5 yX5_useRule yX5_useRule, Cond.code yX5_useRule cX5_useRule 4 none, Cond.fieldLink RX5 62 "SoundSpeller$Book" "ruleSounds" "LSoundSpeller$Row;", Cond.methodLink RX5 65 yX3_addMany, Cond.methodLink RX6 78 yX3_get, Cond.methodLink RX6 82 yX5_write, Cond.instanceMethod yX5_write, Cond.selects RX5 yX5_write yX5_write, Cond.code yX5_write cX5_write 5 none, Cond.fieldLink RX5 26 "SoundSpeller$Speller" "spelling" "LSoundSpeller$Row;", Cond.methodLink RX5 90 yX5_addSign, Cond.instanceMethod yX5_addSign, Cond.selects RX5 yX5_addSign yX5_addSign, Cond.code yX5_addSign cX5_addSign 4 none, Cond.fieldLink RX5 100 "SoundSpeller$Book" "signs" "LSoundSpeller$Rows;", Cond.static yX7_isCapital, Cond.code yX7_isCapital cX7_isCapital 1 (some .boolean)]
def wsX6_renew_r6 : List Cond := [Cond.methodLink RX5 93 yX3_addAll, Cond.instanceMethod yX3_addAll, Cond.selects RX3 yX3_addAll yX3_addAll, Cond.code yX3_addAll cX3_addAll 3 none, Cond.methodLink RX3 25 yX3_get, Cond.methodLink RX6 88 yX4_add, Cond.instanceMethod yX4_add, Cond.selects RX4 yX4_add yX4_add, Cond.code yX4_add cX4_add 2 none, Cond.methodLink RX4 39 yX3_isFull, Cond.instanceMethod yX3_isFull, Cond.selects RX3 yX3_isFull yX3_isFull, Cond.code yX3_isFull cX3_isFull 1 (some .boolean), Cond.methodLink RX4 46 yX4_put, Cond.instanceMethod yX4_put, Cond.selects RX4 yX4_put yX4_put, Cond.code yX4_put cX4_put 5 none, Cond.methodLink RX4 54 Lib.Math.min.name, Cond.static Lib.Math.min.name, Cond.initialized "java/lang/Math", Cond.code Lib.Math.min.name Lib.Math.min.code 2 (some .int), Cond.methodLink RX4 50 yX4_has, Cond.instanceMethod yX4_has, Cond.selects RX4 yX4_has yX4_has]
def wsX6_renew_r7 : List Cond := [Cond.code yX4_has cX4_has 2 (some .boolean), Cond.methodLink RX4 60 yX3_set, Cond.instanceMethod yX3_set, Cond.selects RX3 yX3_set yX3_set, Cond.code yX3_set cX3_set 3 none, Cond.methodLink RX6 100 yX3_size, Cond.methodLink RX6 103 yX3_add, Cond.methodLink RX6 105 yX6_addUses, Cond.instanceMethod yX6_addUses, Cond.selects RX6 yX6_addUses yX6_addUses, Cond.initialized RX6, Cond.code yX6_addUses cX6_addUses 3 none, Cond.methodLink RX6 108 yX3_increase, Cond.instanceMethod yX3_increase, Cond.selects RX3 yX3_increase yX3_increase, Cond.code yX3_increase cX3_increase 2 none, Cond.methodLink RX3 33 yX3_set]
def wsX6_renew : List Cond := .code yX6_renew cX6_renew 3 none :: ((wsX6_renew_r1 ++ (wsX6_renew_r2 ++ (wsX6_renew_r3 ++ (wsX6_renew_r4 ++ (wsX6_renew_r5 ++ (wsX6_renew_r6 ++ wsX6_renew_r7)))))) ++ wsX60 ++ wsX00 ++ wsX50 ++ wsX40 ++ wsX30)
def wsX6_comesBack : List Cond := .code yX6_comesBack cX6_comesBack 2 (some .boolean) :: ([.fieldLink RX6 23 "SoundSpeller$Survey" "spellings" "LSoundSpeller$Rows;", .methodLink RX6 111 yX4_lowestLike, .instanceMethod yX4_lowestLike, .selects RX4 yX4_lowestLike yX4_lowestLike, .initialized RX4, .code yX4_lowestLike cX4_lowestLike 3 (some .int), .methodLink RX4 76 yX4_isLike_, .instanceMethod yX4_isLike_, .selects RX4 yX4_isLike_ yX4_isLike_, .code yX4_isLike_ cX4_isLike_ 5 (some .boolean), .fieldLink RX4 28 "SoundSpeller$Rows" "lengths" "LSoundSpeller$Row;", .methodLink RX4 35 yX3_get, .instanceMethod yX3_get, .selects RX3 yX3_get yX3_get, .initialized RX3, .code yX3_get cX3_get 2 (some .int), .fieldLink RX3 21 "SoundSpeller$Row" "size" "I", .fieldLink RX3 15 "SoundSpeller$Row" "cells" "[I", .methodLink RX4 66 yX4_get, .instanceMethod yX4_get, .selects RX4 yX4_get yX4_get, .code yX4_get cX4_get 4 (some .int), .fieldLink RX4 20 "SoundSpeller$Rows" "cells" "LSoundSpeller$Row;", .fieldLink RX4 9 "SoundSpeller$Rows" "width" "I"] ++ wsX60 ++ wsX40 ++ wsX30)
def wsX6_comingBack_r1 : List Cond := [Cond.fieldLink RX6 23 "SoundSpeller$Survey" "spellings" "LSoundSpeller$Rows;", Cond.methodLink RX6 114 yX4_lines, Cond.instanceMethod yX4_lines, Cond.selects RX4 yX4_lines yX4_lines, Cond.initialized RX4, Cond.code yX4_lines cX4_lines 1 (some .int), Cond.fieldLink RX4 28 "SoundSpeller$Rows" "lengths" "LSoundSpeller$Row;", Cond.methodLink RX4 31 yX3_size, Cond.instanceMethod yX3_size, Cond.selects RX3 yX3_size yX3_size, Cond.initialized RX3, Cond.code yX3_size cX3_size 1 (some .int), Cond.fieldLink RX3 21 "SoundSpeller$Row" "size" "I", Cond.methodLink RX6 117 yX6_comesBack, Cond.instanceMethod yX6_comesBack, Cond.selects RX6 yX6_comesBack yX6_comesBack, Cond.initialized RX6, Cond.code yX6_comesBack cX6_comesBack 2 (some .boolean), Cond.methodLink RX6 111 yX4_lowestLike, Cond.instanceMethod yX4_lowestLike, Cond.selects RX4 yX4_lowestLike yX4_lowestLike, Cond.code yX4_lowestLike cX4_lowestLike 3 (some .int), Cond.methodLink RX4 76 yX4_isLike_, Cond.instanceMethod yX4_isLike_]
def wsX6_comingBack_r2 : List Cond := [Cond.selects RX4 yX4_isLike_ yX4_isLike_, Cond.code yX4_isLike_ cX4_isLike_ 5 (some .boolean), Cond.methodLink RX4 35 yX3_get, Cond.instanceMethod yX3_get, Cond.selects RX3 yX3_get yX3_get, Cond.code yX3_get cX3_get 2 (some .int), Cond.fieldLink RX3 15 "SoundSpeller$Row" "cells" "[I", Cond.methodLink RX4 66 yX4_get, Cond.instanceMethod yX4_get, Cond.selects RX4 yX4_get yX4_get, Cond.code yX4_get cX4_get 4 (some .int), Cond.fieldLink RX4 20 "SoundSpeller$Rows" "cells" "LSoundSpeller$Row;", Cond.fieldLink RX4 9 "SoundSpeller$Rows" "width" "I"]
def wsX6_comingBack : List Cond := .code yX6_comingBack cX6_comingBack 3 (some .int) :: ((wsX6_comingBack_r1 ++ wsX6_comingBack_r2) ++ wsX60 ++ wsX40 ++ wsX30)
def wsX6_collisions_r1 : List Cond := [Cond.fieldLink RX6 23 "SoundSpeller$Survey" "spellings" "LSoundSpeller$Rows;", Cond.methodLink RX6 114 yX4_lines, Cond.instanceMethod yX4_lines, Cond.selects RX4 yX4_lines yX4_lines, Cond.initialized RX4, Cond.code yX4_lines cX4_lines 1 (some .int), Cond.fieldLink RX4 28 "SoundSpeller$Rows" "lengths" "LSoundSpeller$Row;", Cond.methodLink RX4 31 yX3_size, Cond.instanceMethod yX3_size, Cond.selects RX3 yX3_size yX3_size, Cond.initialized RX3, Cond.code yX3_size cX3_size 1 (some .int), Cond.fieldLink RX3 21 "SoundSpeller$Row" "size" "I", Cond.methodLink RX6 121 yX4_countLike, Cond.instanceMethod yX4_countLike, Cond.selects RX4 yX4_countLike yX4_countLike, Cond.code yX4_countLike cX4_countLike 4 (some .int), Cond.methodLink RX4 76 yX4_isLike_, Cond.instanceMethod yX4_isLike_, Cond.selects RX4 yX4_isLike_ yX4_isLike_, Cond.code yX4_isLike_ cX4_isLike_ 5 (some .boolean), Cond.methodLink RX4 35 yX3_get, Cond.instanceMethod yX3_get, Cond.selects RX3 yX3_get yX3_get]
def wsX6_collisions_r2 : List Cond := [Cond.code yX3_get cX3_get 2 (some .int), Cond.fieldLink RX3 15 "SoundSpeller$Row" "cells" "[I", Cond.methodLink RX4 66 yX4_get, Cond.instanceMethod yX4_get, Cond.selects RX4 yX4_get yX4_get, Cond.code yX4_get cX4_get 4 (some .int), Cond.fieldLink RX4 20 "SoundSpeller$Rows" "cells" "LSoundSpeller$Row;", Cond.fieldLink RX4 9 "SoundSpeller$Rows" "width" "I"]
def wsX6_collisions : List Cond := .code yX6_collisions cX6_collisions 3 (some .int) :: ((wsX6_collisions_r1 ++ wsX6_collisions_r2) ++ wsX60 ++ wsX40 ++ wsX30)
def wsX6_unusedRules : List Cond := .code yX6_unusedRules cX6_unusedRules 3 (some .int) :: ([.fieldLink RX6 35 "SoundSpeller$Survey" "ruleUses" "LSoundSpeller$Row;", .methodLink RX6 100 yX3_size, .instanceMethod yX3_size, .selects RX3 yX3_size yX3_size, .initialized RX3, .code yX3_size cX3_size 1 (some .int), .fieldLink RX3 21 "SoundSpeller$Row" "size" "I", .methodLink RX6 78 yX3_get, .instanceMethod yX3_get, .selects RX3 yX3_get yX3_get, .code yX3_get cX3_get 2 (some .int), .fieldLink RX3 15 "SoundSpeller$Row" "cells" "[I"] ++ wsX60 ++ wsX30)
def wsX6_differences_r1 : List Cond := [Cond.fieldLink RX6 23 "SoundSpeller$Survey" "spellings" "LSoundSpeller$Rows;", Cond.methodLink RX6 114 yX4_lines, Cond.instanceMethod yX4_lines, Cond.selects RX4 yX4_lines yX4_lines, Cond.initialized RX4, Cond.code yX4_lines cX4_lines 1 (some .int), Cond.fieldLink RX4 28 "SoundSpeller$Rows" "lengths" "LSoundSpeller$Row;", Cond.methodLink RX4 31 yX3_size, Cond.instanceMethod yX3_size, Cond.selects RX3 yX3_size yX3_size, Cond.initialized RX3, Cond.code yX3_size cX3_size 1 (some .int), Cond.fieldLink RX3 21 "SoundSpeller$Row" "size" "I", Cond.methodLink RX6 124 yX4_isLike_, Cond.instanceMethod yX4_isLike_, Cond.selects RX4 yX4_isLike_ yX4_isLike_, Cond.code yX4_isLike_ cX4_isLike_ 5 (some .boolean), Cond.methodLink RX4 35 yX3_get, Cond.instanceMethod yX3_get, Cond.selects RX3 yX3_get yX3_get, Cond.code yX3_get cX3_get 2 (some .int), Cond.fieldLink RX3 15 "SoundSpeller$Row" "cells" "[I", Cond.methodLink RX4 66 yX4_get, Cond.instanceMethod yX4_get]
def wsX6_differences_r2 : List Cond := [Cond.selects RX4 yX4_get yX4_get, Cond.code yX4_get cX4_get 4 (some .int), Cond.fieldLink RX4 20 "SoundSpeller$Rows" "cells" "LSoundSpeller$Row;", Cond.fieldLink RX4 9 "SoundSpeller$Rows" "width" "I"]
def wsX6_differences : List Cond := .code yX6_differences cX6_differences 4 (some .int) :: ((wsX6_differences_r1 ++ wsX6_differences_r2) ++ wsX60 ++ wsX40 ++ wsX30)
def wsX7_init_r1 : List Cond := [Cond.methodLink RX7 1 objectInit, Cond.instanceMethod objectInit, Cond.code objectInit ⟨#[0xb1]⟩ 1 none, Cond.classLink RX7 7 RX3, Cond.instantiable RX3 2, Cond.initialized RX3, Cond.fieldLink RX7 14 "SoundSpeller" "text" "LSoundSpeller$Row;", Cond.fieldLink RX7 18 "SoundSpeller" "converted" "LSoundSpeller$Row;", Cond.fieldLink RX7 21 "SoundSpeller" "conversion" "LSoundSpeller$Row;", Cond.classLink RX7 24 RX2, Cond.instantiable RX2 7, Cond.initialized RX2, Cond.fieldLink RX7 29 "SoundSpeller" "reader" "LSoundSpeller$Reader;", Cond.classLink RX7 33 RX5, Cond.instantiable RX5 4, Cond.initialized RX5, Cond.fieldLink RX7 36 "SoundSpeller" "speller" "LSoundSpeller$Speller;", Cond.classLink RX7 40 RX0, Cond.instantiable RX0 6, Cond.initialized RX0, Cond.fieldLink RX7 45 "SoundSpeller" "book" "LSoundSpeller$Book;", Cond.fieldLink RX7 49 "SoundSpeller" "draft" "LSoundSpeller$Book;", Cond.fieldLink RX7 52 "SoundSpeller" "snapshot" "LSoundSpeller$Book;", Cond.classLink RX7 55 RX1]
def wsX7_init_r2 : List Cond := [Cond.instantiable RX1 2, Cond.initialized RX1, Cond.fieldLink RX7 58 "SoundSpeller" "history" "LSoundSpeller$History;", Cond.classLink RX7 62 RX6, Cond.instantiable RX6 7, Cond.initialized RX6, Cond.fieldLink RX7 65 "SoundSpeller" "survey" "LSoundSpeller$Survey;", Cond.fieldLink RX7 69 "SoundSpeller" "trial" "LSoundSpeller$Survey;", Cond.methodLink RX7 11 yX3_init, Cond.instanceMethod yX3_init, Cond.code yX3_init cX3_init 2 none, Cond.methodLink RX3 3 objectInit, Cond.methodLink RX3 9 Lib.Math.max.name, Cond.static Lib.Math.max.name, Cond.initialized "java/lang/Math", Cond.code Lib.Math.max.name Lib.Math.max.code 2 (some .int), Cond.arrayClass .int, Cond.fieldLink RX3 15 "SoundSpeller$Row" "cells" "[I", Cond.methodLink RX7 26 yX2_init, Cond.instanceMethod yX2_init, Cond.code yX2_init cX2_init 2 none, Cond.methodLink RX2 3 objectInit, Cond.classLink RX2 9 RX3, Cond.fieldLink RX2 14 "SoundSpeller$Reader" "letters" "LSoundSpeller$Row;"]
def wsX7_init_r3 : List Cond := [Cond.fieldLink RX2 20 "SoundSpeller$Reader" "text" "LSoundSpeller$Row;", Cond.methodLink RX2 11 yX3_init, Cond.instanceMethod yX5_init, Cond.code yX5_init cX5_init 1 none, Cond.methodLink RX5 3 objectInit, Cond.classLink RX5 9 RX3, Cond.fieldLink RX5 14 "SoundSpeller$Speller" "sounds" "LSoundSpeller$Row;", Cond.fieldLink RX5 20 "SoundSpeller$Speller" "rulesAt" "LSoundSpeller$Row;", Cond.fieldLink RX5 23 "SoundSpeller$Speller" "rulesUsed" "LSoundSpeller$Row;", Cond.fieldLink RX5 26 "SoundSpeller$Speller" "spelling" "LSoundSpeller$Row;", Cond.methodLink RX5 11 yX3_init, Cond.methodLink RX7 42 yX0_init, Cond.instanceMethod yX0_init, Cond.code yX0_init cX0_init 5 none, Cond.methodLink RX0 3 objectInit, Cond.classLink RX0 9 RX4, Cond.instantiable RX4 3, Cond.initialized RX4, Cond.fieldLink RX0 14 "SoundSpeller$Book" "ruleLetters" "LSoundSpeller$Rows;", Cond.classLink RX0 20 RX3, Cond.fieldLink RX0 25 "SoundSpeller$Book" "ruleSounds" "LSoundSpeller$Row;", Cond.fieldLink RX0 29 "SoundSpeller$Book" "ruleSides" "LSoundSpeller$Row;", Cond.fieldLink RX0 32 "SoundSpeller$Book" "signs" "LSoundSpeller$Rows;", Cond.fieldLink RX0 35 "SoundSpeller$Book" "letters" "LSoundSpeller$Rows;"]
def wsX7_init_r4 : List Cond := [Cond.fieldLink RX0 38 "SoundSpeller$Book" "kinds" "LSoundSpeller$Row;", Cond.methodLink RX0 11 yX4_init, Cond.instanceMethod yX4_init, Cond.code yX4_init cX4_init 3 none, Cond.methodLink RX4 3 objectInit, Cond.fieldLink RX4 9 "SoundSpeller$Rows" "width" "I", Cond.classLink RX4 15 RX3, Cond.fieldLink RX4 20 "SoundSpeller$Rows" "cells" "LSoundSpeller$Row;", Cond.fieldLink RX4 28 "SoundSpeller$Rows" "lengths" "LSoundSpeller$Row;", Cond.methodLink RX4 17 yX3_init, Cond.methodLink RX4 24 yX3_addMany, Cond.instanceMethod yX3_addMany, Cond.selects RX3 yX3_addMany yX3_addMany, Cond.code yX3_addMany cX3_addMany 4 none, Cond.methodLink RX3 29 yX3_add, Cond.instanceMethod yX3_add, Cond.selects RX3 yX3_add yX3_add, Cond.code yX3_add cX3_add 2 none, Cond.fieldLink RX3 21 "SoundSpeller$Row" "size" "I", Cond.methodLink RX0 22 yX3_init, Cond.methodLink RX0 41 yX3_clear, Cond.instanceMethod yX3_clear, Cond.selects RX3 yX3_clear yX3_clear, Cond.code yX3_clear cX3_clear 1 none]
def wsX7_init_r5 : List Cond := [Cond.methodLink RX0 44 yX3_add, Cond.methodLink RX0 47 yX4_add, Cond.instanceMethod yX4_add, Cond.selects RX4 yX4_add yX4_add, Cond.code yX4_add cX4_add 2 none, Cond.methodLink RX4 39 yX3_isFull, Cond.instanceMethod yX3_isFull, Cond.selects RX3 yX3_isFull yX3_isFull, Cond.code yX3_isFull cX3_isFull 1 (some .boolean), Cond.methodLink RX4 43 yX3_add, Cond.methodLink RX4 31 yX3_size, Cond.instanceMethod yX3_size, Cond.selects RX3 yX3_size yX3_size, Cond.code yX3_size cX3_size 1 (some .int), Cond.methodLink RX4 46 yX4_put, Cond.instanceMethod yX4_put, Cond.selects RX4 yX4_put yX4_put, Cond.code yX4_put cX4_put 5 none, Cond.methodLink RX4 54 Lib.Math.min.name, Cond.static Lib.Math.min.name, Cond.code Lib.Math.min.name Lib.Math.min.code 2 (some .int), Cond.methodLink RX4 50 yX4_has, Cond.instanceMethod yX4_has, Cond.selects RX4 yX4_has yX4_has]
def wsX7_init_r6 : List Cond := [Cond.code yX4_has cX4_has 2 (some .boolean), Cond.methodLink RX4 60 yX3_set, Cond.instanceMethod yX3_set, Cond.selects RX3 yX3_set yX3_set, Cond.code yX3_set cX3_set 3 none, Cond.methodLink RX4 35 yX3_get, Cond.instanceMethod yX3_get, Cond.selects RX3 yX3_get yX3_get, Cond.code yX3_get cX3_get 2 (some .int), Cond.methodLink RX7 57 yX1_init, Cond.instanceMethod yX1_init, Cond.code yX1_init cX1_init 2 none, Cond.methodLink RX1 3 objectInit, Cond.classLink RX1 9 RX0, Cond.fieldLink RX1 11 "SoundSpeller$History" "states" "[LSoundSpeller$Book;", Cond.methodLink RX1 17 yX0_init, Cond.instanceMethod yX6_init, Cond.code yX6_init cX6_init 1 none, Cond.methodLink RX6 3 objectInit, Cond.classLink RX6 9 RX4, Cond.fieldLink RX6 14 "SoundSpeller$Survey" "sounds" "LSoundSpeller$Rows;", Cond.fieldLink RX6 20 "SoundSpeller$Survey" "rulesAt" "LSoundSpeller$Rows;", Cond.fieldLink RX6 23 "SoundSpeller$Survey" "spellings" "LSoundSpeller$Rows;", Cond.classLink RX6 26 RX3]
def wsX7_init_r7 : List Cond := [Cond.fieldLink RX6 31 "SoundSpeller$Survey" "wordUses" "LSoundSpeller$Row;", Cond.fieldLink RX6 35 "SoundSpeller$Survey" "ruleUses" "LSoundSpeller$Row;", Cond.classLink RX6 38 RX5, Cond.fieldLink RX6 41 "SoundSpeller$Survey" "speller" "LSoundSpeller$Speller;", Cond.fieldLink RX6 45 "SoundSpeller$Survey" "word" "LSoundSpeller$Row;", Cond.methodLink RX6 11 yX4_init, Cond.methodLink RX6 28 yX3_init]
def wsX7_init : List Cond := .code yX7_init cX7_init 1 none :: ((wsX7_init_r1 ++ (wsX7_init_r2 ++ (wsX7_init_r3 ++ (wsX7_init_r4 ++ (wsX7_init_r5 ++ (wsX7_init_r6 ++ wsX7_init_r7)))))) ++ wsX30 ++ wsX70 ++ wsX20 ++ wsX50 ++ wsX00 ++ wsX10 ++ wsX60 ++ wsX40)
def wsX7_readEntries_r1 : List Cond := [Cond.fieldLink RX7 49 "SoundSpeller" "draft" "LSoundSpeller$Book;", Cond.fieldLink RX7 45 "SoundSpeller" "book" "LSoundSpeller$Book;", Cond.fieldLink RX7 29 "SoundSpeller" "reader" "LSoundSpeller$Reader;", Cond.fieldLink RX7 58 "SoundSpeller" "history" "LSoundSpeller$History;", Cond.fieldLink RX7 65 "SoundSpeller" "survey" "LSoundSpeller$Survey;", Cond.methodLink RX7 72 yX0_copyFrom, Cond.instanceMethod yX0_copyFrom, Cond.selects RX0 yX0_copyFrom yX0_copyFrom, Cond.initialized RX0, Cond.code yX0_copyFrom cX0_copyFrom 2 none, Cond.fieldLink RX0 14 "SoundSpeller$Book" "ruleLetters" "LSoundSpeller$Rows;", Cond.fieldLink RX0 25 "SoundSpeller$Book" "ruleSounds" "LSoundSpeller$Row;", Cond.fieldLink RX0 29 "SoundSpeller$Book" "ruleSides" "LSoundSpeller$Row;", Cond.fieldLink RX0 32 "SoundSpeller$Book" "signs" "LSoundSpeller$Rows;", Cond.fieldLink RX0 35 "SoundSpeller$Book" "letters" "LSoundSpeller$Rows;", Cond.fieldLink RX0 38 "SoundSpeller$Book" "kinds" "LSoundSpeller$Row;", Cond.methodLink RX0 50 yX4_copyFrom, Cond.instanceMethod yX4_copyFrom, Cond.selects RX4 yX4_copyFrom yX4_copyFrom, Cond.initialized RX4, Cond.code yX4_copyFrom cX4_copyFrom 3 none, Cond.fieldLink RX4 28 "SoundSpeller$Rows" "lengths" "LSoundSpeller$Row;", Cond.fieldLink RX4 9 "SoundSpeller$Rows" "width" "I", Cond.fieldLink RX4 20 "SoundSpeller$Rows" "cells" "LSoundSpeller$Row;"]
def wsX7_readEntries_r2 : List Cond := [Cond.methodLink RX4 68 yX3_copyFrom, Cond.instanceMethod yX3_copyFrom, Cond.selects RX3 yX3_copyFrom yX3_copyFrom, Cond.initialized RX3, Cond.code yX3_copyFrom cX3_copyFrom 2 none, Cond.methodLink RX3 37 yX3_clear, Cond.instanceMethod yX3_clear, Cond.selects RX3 yX3_clear yX3_clear, Cond.code yX3_clear cX3_clear 1 none, Cond.fieldLink RX3 21 "SoundSpeller$Row" "size" "I", Cond.methodLink RX3 40 yX3_addAll, Cond.instanceMethod yX3_addAll, Cond.selects RX3 yX3_addAll yX3_addAll, Cond.code yX3_addAll cX3_addAll 3 none, Cond.methodLink RX3 25 yX3_get, Cond.instanceMethod yX3_get, Cond.selects RX3 yX3_get yX3_get, Cond.code yX3_get cX3_get 2 (some .int), Cond.fieldLink RX3 15 "SoundSpeller$Row" "cells" "[I", Cond.methodLink RX3 29 yX3_add, Cond.instanceMethod yX3_add, Cond.selects RX3 yX3_add yX3_add, Cond.code yX3_add cX3_add 2 none, Cond.methodLink RX4 31 yX3_size]
def wsX7_readEntries_r3 : List Cond := [Cond.instanceMethod yX3_size, Cond.selects RX3 yX3_size yX3_size, Cond.code yX3_size cX3_size 1 (some .int), Cond.methodLink RX4 35 yX3_get, Cond.methodLink RX4 60 yX3_set, Cond.instanceMethod yX3_set, Cond.selects RX3 yX3_set yX3_set, Cond.code yX3_set cX3_set 3 none, Cond.methodLink RX0 54 yX3_copyFrom, Cond.methodLink RX7 76 yX2_begin, Cond.instanceMethod yX2_begin, Cond.selects RX2 yX2_begin yX2_begin, Cond.initialized RX2, Cond.code yX2_begin cX2_begin 1 none, Cond.fieldLink RX2 23 "SoundSpeller$Reader" "place" "I", Cond.methodLink RX7 79 yX2_takeEntry, Cond.instanceMethod yX2_takeEntry, Cond.selects RX2 yX2_takeEntry yX2_takeEntry, Cond.code yX2_takeEntry cX2_takeEntry 2 (some .boolean), Cond.fieldLink RX2 20 "SoundSpeller$Reader" "text" "LSoundSpeller$Row;", Cond.methodLink RX2 31 yX3_get, Cond.methodLink RX2 45 yX2_takeWord, Cond.instanceMethod yX2_takeWord, Cond.selects RX2 yX2_takeWord yX2_takeWord]
def wsX7_readEntries_r4 : List Cond := [Cond.code yX2_takeWord cX2_takeWord 1 (some .boolean), Cond.fieldLink RX2 58 "SoundSpeller$Reader" "entry" "I", Cond.fieldLink RX2 82 "SoundSpeller$Reader" "kind" "I", Cond.methodLink RX2 64 yX2_take, Cond.instanceMethod yX2_take, Cond.selects RX2 yX2_take yX2_take, Cond.code yX2_take cX2_take 3 (some .boolean), Cond.methodLink RX2 61 yX2_takeLetters, Cond.instanceMethod yX2_takeLetters, Cond.selects RX2 yX2_takeLetters yX2_takeLetters, Cond.code yX2_takeLetters cX2_takeLetters 3 (some .boolean), Cond.fieldLink RX2 14 "SoundSpeller$Reader" "letters" "LSoundSpeller$Row;", Cond.methodLink RX2 35 yX3_clear, Cond.static yX7_isSmall, Cond.initialized RX7, Cond.code yX7_isSmall cX7_isSmall 1 (some .boolean), Cond.methodLink RX2 42 yX3_add, Cond.methodLink RX2 27 yX3_size, Cond.static yX7_isCapital, Cond.code yX7_isCapital cX7_isCapital 1 (some .boolean), Cond.methodLink RX2 52 yX2_takeSign, Cond.instanceMethod yX2_takeSign, Cond.selects RX2 yX2_takeSign yX2_takeSign, Cond.code yX2_takeSign cX2_takeSign 1 (some .boolean)]
def wsX7_readEntries_r5 : List Cond := [Cond.methodLink RX2 67 yX2_takeSound, Cond.instanceMethod yX2_takeSound, Cond.selects RX2 yX2_takeSound yX2_takeSound, Cond.code yX2_takeSound cX2_takeSound 2 (some .boolean), Cond.fieldLink RX2 76 "SoundSpeller$Reader" "sound" "I", Cond.methodLink RX2 55 yX2_takeRule, Cond.instanceMethod yX2_takeRule, Cond.selects RX2 yX2_takeRule yX2_takeRule, Cond.code yX2_takeRule cX2_takeRule 1 (some .boolean), Cond.fieldLink RX2 73 "SoundSpeller$Reader" "side" "I", Cond.methodLink RX2 70 yX2_takeSide, Cond.instanceMethod yX2_takeSide, Cond.selects RX2 yX2_takeSide yX2_takeSide, Cond.code yX2_takeSide cX2_takeSide 2 (some .int), Cond.methodLink RX2 79 yX2_sideOf, Cond.static yX2_sideOf, Cond.code yX2_sideOf cX2_sideOf 1 (some .int), Cond.methodLink RX7 83 yX2_fault, Cond.instanceMethod yX2_fault, Cond.selects RX2 yX2_fault yX2_fault, Cond.code yX2_fault cX2_fault 1 (some .int), Cond.methodLink RX7 87 yX0_addEntry, Cond.instanceMethod yX0_addEntry, Cond.selects RX0 yX0_addEntry yX0_addEntry]
def wsX7_readEntries_r6 : List Cond := [Cond.code yX0_addEntry cX0_addEntry 2 (some .boolean), Cond.fieldLink RX0 64 "SoundSpeller$Reader" "entry" "I", Cond.fieldLink RX0 77 "SoundSpeller$Reader" "sound" "I", Cond.fieldLink RX0 80 "SoundSpeller$Reader" "letters" "LSoundSpeller$Row;", Cond.methodLink RX0 70 yX0_addRule, Cond.instanceMethod yX0_addRule, Cond.selects RX0 yX0_addRule yX0_addRule, Cond.code yX0_addRule cX0_addRule 3 (some .boolean), Cond.fieldLink RX0 93 "SoundSpeller$Reader" "side" "I", Cond.methodLink RX0 86 yX0_rules, Cond.instanceMethod yX0_rules, Cond.selects RX0 yX0_rules yX0_rules, Cond.code yX0_rules cX0_rules 1 (some .int), Cond.methodLink RX0 56 yX4_lines, Cond.instanceMethod yX4_lines, Cond.selects RX4 yX4_lines yX4_lines, Cond.code yX4_lines cX4_lines 1 (some .int), Cond.methodLink RX0 89 yX3_get, Cond.methodLink RX0 96 yX4_isLike, Cond.instanceMethod yX4_isLike, Cond.selects RX4 yX4_isLike yX4_isLike, Cond.code yX4_isLike cX4_isLike 4 (some .boolean), Cond.methodLink RX4 66 yX4_get, Cond.instanceMethod yX4_get]
def wsX7_readEntries_r7 : List Cond := [Cond.selects RX4 yX4_get yX4_get, Cond.code yX4_get cX4_get 4 (some .int), Cond.methodLink RX0 47 yX4_add, Cond.instanceMethod yX4_add, Cond.selects RX4 yX4_add yX4_add, Cond.code yX4_add cX4_add 2 none, Cond.methodLink RX4 39 yX3_isFull, Cond.instanceMethod yX3_isFull, Cond.selects RX3 yX3_isFull yX3_isFull, Cond.code yX3_isFull cX3_isFull 1 (some .boolean), Cond.methodLink RX4 43 yX3_add, Cond.methodLink RX4 46 yX4_put, Cond.instanceMethod yX4_put, Cond.selects RX4 yX4_put yX4_put, Cond.code yX4_put cX4_put 5 none, Cond.methodLink RX4 54 Lib.Math.min.name, Cond.static Lib.Math.min.name, Cond.initialized "java/lang/Math", Cond.code Lib.Math.min.name Lib.Math.min.code 2 (some .int), Cond.methodLink RX4 50 yX4_has, Cond.instanceMethod yX4_has, Cond.selects RX4 yX4_has yX4_has, Cond.code yX4_has cX4_has 2 (some .boolean), Cond.methodLink RX0 44 yX3_add]
def wsX7_readEntries_r8 : List Cond := [Cond.methodLink RX0 74 yX0_addWord, Cond.instanceMethod yX0_addWord, Cond.selects RX0 yX0_addWord yX0_addWord, Cond.code yX0_addWord cX0_addWord 2 (some .boolean), Cond.fieldLink RX0 104 "SoundSpeller$Reader" "kind" "I", Cond.methodLink RX0 100 yX4_find, Cond.instanceMethod yX4_find, Cond.selects RX4 yX4_find yX4_find, Cond.code yX4_find cX4_find 3 (some .int), Cond.methodLink RX4 72 yX4_isLike, Cond.methodLink RX0 82 yX4_put, Cond.methodLink RX7 91 yX2_take, Cond.methodLink RX7 95 yX2_isAtEnd, Cond.instanceMethod yX2_isAtEnd, Cond.selects RX2 yX2_isAtEnd yX2_isAtEnd, Cond.code yX2_isAtEnd cX2_isAtEnd 1 (some .boolean), Cond.methodLink RX7 98 yX0_rules, Cond.methodLink RX7 101 yX0_words, Cond.instanceMethod yX0_words, Cond.selects RX0 yX0_words yX0_words, Cond.code yX0_words cX0_words 1 (some .int), Cond.methodLink RX7 104 yX1_record, Cond.instanceMethod yX1_record, Cond.selects RX1 yX1_record yX1_record]
def wsX7_readEntries_r9 : List Cond := [Cond.initialized RX1, Cond.code yX1_record cX1_record 2 none, Cond.fieldLink RX1 20 "SoundSpeller$History" "size" "I", Cond.fieldLink RX1 11 "SoundSpeller$History" "states" "[LSoundSpeller$Book;", Cond.methodLink RX1 24 yX1_dropOldest, Cond.instanceMethod yX1_dropOldest, Cond.selects RX1 yX1_dropOldest yX1_dropOldest, Cond.code yX1_dropOldest cX1_dropOldest 3 none, Cond.methodLink RX1 31 Lib.Math.max.name, Cond.static Lib.Math.max.name, Cond.code Lib.Math.max.name Lib.Math.max.code 2 (some .int), Cond.methodLink RX1 27 yX0_copyFrom, Cond.methodLink RX7 107 yX6_renew, Cond.instanceMethod yX6_renew, Cond.selects RX6 yX6_renew yX6_renew, Cond.initialized RX6, Cond.code yX6_renew cX6_renew 3 none, Cond.fieldLink RX6 14 "SoundSpeller$Survey" "sounds" "LSoundSpeller$Rows;", Cond.fieldLink RX6 20 "SoundSpeller$Survey" "rulesAt" "LSoundSpeller$Rows;", Cond.fieldLink RX6 23 "SoundSpeller$Survey" "spellings" "LSoundSpeller$Rows;", Cond.fieldLink RX6 31 "SoundSpeller$Survey" "wordUses" "LSoundSpeller$Row;", Cond.fieldLink RX6 35 "SoundSpeller$Survey" "ruleUses" "LSoundSpeller$Row;", Cond.fieldLink RX6 64 "SoundSpeller$Book" "letters" "LSoundSpeller$Rows;", Cond.fieldLink RX6 45 "SoundSpeller$Survey" "word" "LSoundSpeller$Row;"]
def wsX7_readEntries_r10 : List Cond := [Cond.fieldLink RX6 41 "SoundSpeller$Survey" "speller" "LSoundSpeller$Speller;", Cond.fieldLink RX6 75 "SoundSpeller$Book" "kinds" "LSoundSpeller$Row;", Cond.fieldLink RX6 86 "SoundSpeller$Speller" "sounds" "LSoundSpeller$Row;", Cond.fieldLink RX6 92 "SoundSpeller$Speller" "rulesAt" "LSoundSpeller$Row;", Cond.fieldLink RX6 94 "SoundSpeller$Speller" "spelling" "LSoundSpeller$Row;", Cond.fieldLink RX6 97 "SoundSpeller$Speller" "rulesUsed" "LSoundSpeller$Row;", Cond.methodLink RX6 48 yX4_clear, Cond.instanceMethod yX4_clear, Cond.selects RX4 yX4_clear yX4_clear, Cond.code yX4_clear cX4_clear 1 none, Cond.methodLink RX4 63 yX3_clear, Cond.methodLink RX6 51 yX3_clear, Cond.methodLink RX6 52 yX0_rules, Cond.methodLink RX6 58 yX3_addMany, Cond.instanceMethod yX3_addMany, Cond.selects RX3 yX3_addMany yX3_addMany, Cond.code yX3_addMany cX3_addMany 4 none, Cond.methodLink RX6 61 yX0_words, Cond.methodLink RX6 67 yX4_copyTo, Cond.instanceMethod yX4_copyTo, Cond.selects RX4 yX4_copyTo yX4_copyTo, Cond.code yX4_copyTo cX4_copyTo 4 none, Cond.methodLink RX6 71 yX5_hear, Cond.instanceMethod yX5_hear]
def wsX7_readEntries_r11 : List Cond := [Cond.selects RX5 yX5_hear yX5_hear, Cond.initialized RX5, Cond.code yX5_hear cX5_hear 6 none, Cond.fieldLink RX5 14 "SoundSpeller$Speller" "sounds" "LSoundSpeller$Row;", Cond.fieldLink RX5 20 "SoundSpeller$Speller" "rulesAt" "LSoundSpeller$Row;", Cond.fieldLink RX5 23 "SoundSpeller$Speller" "rulesUsed" "LSoundSpeller$Row;", Cond.fieldLink RX5 51 "SoundSpeller$Book" "ruleLetters" "LSoundSpeller$Rows;", Cond.methodLink RX5 29 yX3_clear, Cond.methodLink RX5 32 yX3_size, Cond.methodLink RX5 36 yX5_bestRule, Cond.static yX5_bestRule, Cond.code yX5_bestRule cX5_bestRule 7 (some .int), Cond.fieldLink RX5 72 "SoundSpeller$Book" "ruleSides" "LSoundSpeller$Row;", Cond.methodLink RX5 69 yX0_rules, Cond.methodLink RX5 57 yX4_length, Cond.instanceMethod yX4_length, Cond.selects RX4 yX4_length yX4_length, Cond.code yX4_length cX4_length 2 (some .int), Cond.methodLink RX5 40 yX3_get, Cond.methodLink RX5 75 yX5_holds, Cond.static yX5_holds, Cond.code yX5_holds cX5_holds 6 (some .boolean), Cond.methodLink RX5 79 yX4_get, Cond.methodLink RX5 82 yX5_sideHolds]
def wsX7_readEntries_r12 : List Cond := [Cond.static yX5_sideHolds, Cond.code yX5_sideHolds cX5_sideHolds 4 (some .boolean), Cond.static yX7_isVowel, Cond.code yX7_isVowel cX7_isVowel 1 (some .boolean), Cond.methodLink RX5 44 yX3_add, Cond.methodLink RX5 47 yX5_useRule, Cond.instanceMethod yX5_useRule, Cond.selects RX5 yX5_useRule yX5_useRule, Cond.code yX5_useRule cX5_useRule 4 none, Cond.fieldLink RX5 62 "SoundSpeller$Book" "ruleSounds" "LSoundSpeller$Row;", Cond.methodLink RX5 65 yX3_addMany, Cond.methodLink RX6 78 yX3_get, Cond.methodLink RX6 82 yX5_write, Cond.instanceMethod yX5_write, Cond.selects RX5 yX5_write yX5_write, Cond.code yX5_write cX5_write 5 none, Cond.fieldLink RX5 26 "SoundSpeller$Speller" "spelling" "LSoundSpeller$Row;", Cond.methodLink RX5 90 yX5_addSign, Cond.instanceMethod yX5_addSign, Cond.selects RX5 yX5_addSign yX5_addSign, Cond.code yX5_addSign cX5_addSign 4 none, Cond.fieldLink RX5 100 "SoundSpeller$Book" "signs" "LSoundSpeller$Rows;", Cond.methodLink RX5 93 yX3_addAll, Cond.methodLink RX6 88 yX4_add]
def wsX7_readEntries_r13 : List Cond := [Cond.methodLink RX6 100 yX3_size, Cond.methodLink RX6 103 yX3_add, Cond.methodLink RX6 105 yX6_addUses, Cond.instanceMethod yX6_addUses, Cond.selects RX6 yX6_addUses yX6_addUses, Cond.code yX6_addUses cX6_addUses 3 none, Cond.methodLink RX6 108 yX3_increase, Cond.instanceMethod yX3_increase, Cond.selects RX3 yX3_increase yX3_increase, Cond.code yX3_increase cX3_increase 2 none, Cond.methodLink RX3 33 yX3_set]
def wsX7_readEntries : List Cond := .code yX7_readEntries cX7_readEntries 4 (some .int) :: ((wsX7_readEntries_r1 ++ (wsX7_readEntries_r2 ++ (wsX7_readEntries_r3 ++ (wsX7_readEntries_r4 ++ (wsX7_readEntries_r5 ++ (wsX7_readEntries_r6 ++ (wsX7_readEntries_r7 ++ (wsX7_readEntries_r8 ++ (wsX7_readEntries_r9 ++ (wsX7_readEntries_r10 ++ (wsX7_readEntries_r11 ++ (wsX7_readEntries_r12 ++ wsX7_readEntries_r13)))))))))))) ++ wsX70 ++ wsX00 ++ wsX40 ++ wsX30 ++ wsX20 ++ wsX10 ++ wsX60 ++ wsX50)
def wsX7_removeRule_r1 : List Cond := [Cond.fieldLink RX7 45 "SoundSpeller" "book" "LSoundSpeller$Book;", Cond.fieldLink RX7 58 "SoundSpeller" "history" "LSoundSpeller$History;", Cond.fieldLink RX7 65 "SoundSpeller" "survey" "LSoundSpeller$Survey;", Cond.methodLink RX7 110 yX0_hasRule, Cond.instanceMethod yX0_hasRule, Cond.selects RX0 yX0_hasRule yX0_hasRule, Cond.initialized RX0, Cond.code yX0_hasRule cX0_hasRule 2 (some .boolean), Cond.fieldLink RX0 14 "SoundSpeller$Book" "ruleLetters" "LSoundSpeller$Rows;", Cond.methodLink RX0 60 yX4_has, Cond.instanceMethod yX4_has, Cond.selects RX4 yX4_has yX4_has, Cond.initialized RX4, Cond.code yX4_has cX4_has 2 (some .boolean), Cond.fieldLink RX4 28 "SoundSpeller$Rows" "lengths" "LSoundSpeller$Row;", Cond.methodLink RX4 31 yX3_size, Cond.instanceMethod yX3_size, Cond.selects RX3 yX3_size yX3_size, Cond.initialized RX3, Cond.code yX3_size cX3_size 1 (some .int), Cond.fieldLink RX3 21 "SoundSpeller$Row" "size" "I", Cond.methodLink RX7 104 yX1_record, Cond.instanceMethod yX1_record, Cond.selects RX1 yX1_record yX1_record]
def wsX7_removeRule_r2 : List Cond := [Cond.initialized RX1, Cond.code yX1_record cX1_record 2 none, Cond.fieldLink RX1 20 "SoundSpeller$History" "size" "I", Cond.fieldLink RX1 11 "SoundSpeller$History" "states" "[LSoundSpeller$Book;", Cond.methodLink RX1 24 yX1_dropOldest, Cond.instanceMethod yX1_dropOldest, Cond.selects RX1 yX1_dropOldest yX1_dropOldest, Cond.code yX1_dropOldest cX1_dropOldest 3 none, Cond.methodLink RX1 31 Lib.Math.max.name, Cond.static Lib.Math.max.name, Cond.initialized "java/lang/Math", Cond.code Lib.Math.max.name Lib.Math.max.code 2 (some .int), Cond.methodLink RX1 27 yX0_copyFrom, Cond.instanceMethod yX0_copyFrom, Cond.selects RX0 yX0_copyFrom yX0_copyFrom, Cond.code yX0_copyFrom cX0_copyFrom 2 none, Cond.fieldLink RX0 25 "SoundSpeller$Book" "ruleSounds" "LSoundSpeller$Row;", Cond.fieldLink RX0 29 "SoundSpeller$Book" "ruleSides" "LSoundSpeller$Row;", Cond.fieldLink RX0 32 "SoundSpeller$Book" "signs" "LSoundSpeller$Rows;", Cond.fieldLink RX0 35 "SoundSpeller$Book" "letters" "LSoundSpeller$Rows;", Cond.fieldLink RX0 38 "SoundSpeller$Book" "kinds" "LSoundSpeller$Row;", Cond.methodLink RX0 50 yX4_copyFrom, Cond.instanceMethod yX4_copyFrom, Cond.selects RX4 yX4_copyFrom yX4_copyFrom]
def wsX7_removeRule_r3 : List Cond := [Cond.code yX4_copyFrom cX4_copyFrom 3 none, Cond.fieldLink RX4 9 "SoundSpeller$Rows" "width" "I", Cond.fieldLink RX4 20 "SoundSpeller$Rows" "cells" "LSoundSpeller$Row;", Cond.methodLink RX4 68 yX3_copyFrom, Cond.instanceMethod yX3_copyFrom, Cond.selects RX3 yX3_copyFrom yX3_copyFrom, Cond.code yX3_copyFrom cX3_copyFrom 2 none, Cond.methodLink RX3 37 yX3_clear, Cond.instanceMethod yX3_clear, Cond.selects RX3 yX3_clear yX3_clear, Cond.code yX3_clear cX3_clear 1 none, Cond.methodLink RX3 40 yX3_addAll, Cond.instanceMethod yX3_addAll, Cond.selects RX3 yX3_addAll yX3_addAll, Cond.code yX3_addAll cX3_addAll 3 none, Cond.methodLink RX3 25 yX3_get, Cond.instanceMethod yX3_get, Cond.selects RX3 yX3_get yX3_get, Cond.code yX3_get cX3_get 2 (some .int), Cond.fieldLink RX3 15 "SoundSpeller$Row" "cells" "[I", Cond.methodLink RX3 29 yX3_add, Cond.instanceMethod yX3_add, Cond.selects RX3 yX3_add yX3_add, Cond.code yX3_add cX3_add 2 none]
def wsX7_removeRule_r4 : List Cond := [Cond.methodLink RX4 35 yX3_get, Cond.methodLink RX4 60 yX3_set, Cond.instanceMethod yX3_set, Cond.selects RX3 yX3_set yX3_set, Cond.code yX3_set cX3_set 3 none, Cond.methodLink RX0 54 yX3_copyFrom, Cond.methodLink RX7 113 yX0_dropRule, Cond.instanceMethod yX0_dropRule, Cond.selects RX0 yX0_dropRule yX0_dropRule, Cond.code yX0_dropRule cX0_dropRule 2 none, Cond.methodLink RX0 107 yX4_remove, Cond.instanceMethod yX4_remove, Cond.selects RX4 yX4_remove yX4_remove, Cond.code yX4_remove cX4_remove 2 none, Cond.methodLink RX4 50 yX4_has, Cond.methodLink RX4 83 yX4_move, Cond.instanceMethod yX4_move, Cond.selects RX4 yX4_move yX4_move, Cond.code yX4_move cX4_move 4 none, Cond.methodLink RX4 82 yX4_swap, Cond.instanceMethod yX4_swap, Cond.selects RX4 yX4_swap yX4_swap, Cond.code yX4_swap cX4_swap 4 none, Cond.methodLink RX4 79 yX3_swap]
def wsX7_removeRule_r5 : List Cond := [Cond.instanceMethod yX3_swap, Cond.selects RX3 yX3_swap yX3_swap, Cond.code yX3_swap cX3_swap 4 none, Cond.methodLink RX3 33 yX3_set, Cond.methodLink RX4 86 yX3_dropLast, Cond.instanceMethod yX3_dropLast, Cond.selects RX3 yX3_dropLast yX3_dropLast, Cond.code yX3_dropLast cX3_dropLast 1 none, Cond.methodLink RX3 9 Lib.Math.max.name, Cond.methodLink RX0 110 yX3_remove, Cond.instanceMethod yX3_remove, Cond.selects RX3 yX3_remove yX3_remove, Cond.code yX3_remove cX3_remove 2 none, Cond.methodLink RX3 47 yX3_move, Cond.instanceMethod yX3_move, Cond.selects RX3 yX3_move yX3_move, Cond.code yX3_move cX3_move 4 none, Cond.methodLink RX3 44 yX3_swap, Cond.methodLink RX3 50 yX3_dropLast, Cond.methodLink RX7 107 yX6_renew, Cond.instanceMethod yX6_renew, Cond.selects RX6 yX6_renew yX6_renew, Cond.initialized RX6, Cond.code yX6_renew cX6_renew 3 none]
def wsX7_removeRule_r6 : List Cond := [Cond.fieldLink RX6 14 "SoundSpeller$Survey" "sounds" "LSoundSpeller$Rows;", Cond.fieldLink RX6 20 "SoundSpeller$Survey" "rulesAt" "LSoundSpeller$Rows;", Cond.fieldLink RX6 23 "SoundSpeller$Survey" "spellings" "LSoundSpeller$Rows;", Cond.fieldLink RX6 31 "SoundSpeller$Survey" "wordUses" "LSoundSpeller$Row;", Cond.fieldLink RX6 35 "SoundSpeller$Survey" "ruleUses" "LSoundSpeller$Row;", Cond.fieldLink RX6 64 "SoundSpeller$Book" "letters" "LSoundSpeller$Rows;", Cond.fieldLink RX6 45 "SoundSpeller$Survey" "word" "LSoundSpeller$Row;", Cond.fieldLink RX6 41 "SoundSpeller$Survey" "speller" "LSoundSpeller$Speller;", Cond.fieldLink RX6 75 "SoundSpeller$Book" "kinds" "LSoundSpeller$Row;", Cond.fieldLink RX6 86 "SoundSpeller$Speller" "sounds" "LSoundSpeller$Row;", Cond.fieldLink RX6 92 "SoundSpeller$Speller" "rulesAt" "LSoundSpeller$Row;", Cond.fieldLink RX6 94 "SoundSpeller$Speller" "spelling" "LSoundSpeller$Row;", Cond.fieldLink RX6 97 "SoundSpeller$Speller" "rulesUsed" "LSoundSpeller$Row;", Cond.methodLink RX6 48 yX4_clear, Cond.instanceMethod yX4_clear, Cond.selects RX4 yX4_clear yX4_clear, Cond.code yX4_clear cX4_clear 1 none, Cond.methodLink RX4 63 yX3_clear, Cond.methodLink RX6 51 yX3_clear, Cond.methodLink RX6 52 yX0_rules, Cond.instanceMethod yX0_rules, Cond.selects RX0 yX0_rules yX0_rules, Cond.code yX0_rules cX0_rules 1 (some .int), Cond.methodLink RX0 56 yX4_lines]
def wsX7_removeRule_r7 : List Cond := [Cond.instanceMethod yX4_lines, Cond.selects RX4 yX4_lines yX4_lines, Cond.code yX4_lines cX4_lines 1 (some .int), Cond.methodLink RX6 58 yX3_addMany, Cond.instanceMethod yX3_addMany, Cond.selects RX3 yX3_addMany yX3_addMany, Cond.code yX3_addMany cX3_addMany 4 none, Cond.methodLink RX6 61 yX0_words, Cond.instanceMethod yX0_words, Cond.selects RX0 yX0_words yX0_words, Cond.code yX0_words cX0_words 1 (some .int), Cond.methodLink RX6 67 yX4_copyTo, Cond.instanceMethod yX4_copyTo, Cond.selects RX4 yX4_copyTo yX4_copyTo, Cond.code yX4_copyTo cX4_copyTo 4 none, Cond.methodLink RX4 66 yX4_get, Cond.instanceMethod yX4_get, Cond.selects RX4 yX4_get yX4_get, Cond.code yX4_get cX4_get 4 (some .int), Cond.methodLink RX4 43 yX3_add, Cond.methodLink RX6 71 yX5_hear, Cond.instanceMethod yX5_hear, Cond.selects RX5 yX5_hear yX5_hear, Cond.initialized RX5]
def wsX7_removeRule_r8 : List Cond := [Cond.code yX5_hear cX5_hear 6 none, Cond.fieldLink RX5 14 "SoundSpeller$Speller" "sounds" "LSoundSpeller$Row;", Cond.fieldLink RX5 20 "SoundSpeller$Speller" "rulesAt" "LSoundSpeller$Row;", Cond.fieldLink RX5 23 "SoundSpeller$Speller" "rulesUsed" "LSoundSpeller$Row;", Cond.fieldLink RX5 51 "SoundSpeller$Book" "ruleLetters" "LSoundSpeller$Rows;", Cond.methodLink RX5 29 yX3_clear, Cond.methodLink RX5 32 yX3_size, Cond.methodLink RX5 36 yX5_bestRule, Cond.static yX5_bestRule, Cond.code yX5_bestRule cX5_bestRule 7 (some .int), Cond.fieldLink RX5 72 "SoundSpeller$Book" "ruleSides" "LSoundSpeller$Row;", Cond.methodLink RX5 69 yX0_rules, Cond.methodLink RX5 57 yX4_length, Cond.instanceMethod yX4_length, Cond.selects RX4 yX4_length yX4_length, Cond.code yX4_length cX4_length 2 (some .int), Cond.methodLink RX5 40 yX3_get, Cond.methodLink RX5 75 yX5_holds, Cond.static yX5_holds, Cond.code yX5_holds cX5_holds 6 (some .boolean), Cond.methodLink RX5 79 yX4_get, Cond.methodLink RX5 82 yX5_sideHolds, Cond.static yX5_sideHolds, Cond.code yX5_sideHolds cX5_sideHolds 4 (some .boolean)]
def wsX7_removeRule_r9 : List Cond := [Cond.static yX7_isVowel, Cond.initialized RX7, Cond.code yX7_isVowel cX7_isVowel 1 (some .boolean), Cond.methodLink RX5 44 yX3_add, Cond.methodLink RX5 47 yX5_useRule, Cond.instanceMethod yX5_useRule, Cond.selects RX5 yX5_useRule yX5_useRule, Cond.code yX5_useRule cX5_useRule 4 none, Cond.fieldLink RX5 62 "SoundSpeller$Book" "ruleSounds" "LSoundSpeller$Row;", Cond.methodLink RX5 65 yX3_addMany, Cond.methodLink RX6 78 yX3_get, Cond.methodLink RX6 82 yX5_write, Cond.instanceMethod yX5_write, Cond.selects RX5 yX5_write yX5_write, Cond.code yX5_write cX5_write 5 none, Cond.fieldLink RX5 26 "SoundSpeller$Speller" "spelling" "LSoundSpeller$Row;", Cond.methodLink RX5 90 yX5_addSign, Cond.instanceMethod yX5_addSign, Cond.selects RX5 yX5_addSign yX5_addSign, Cond.code yX5_addSign cX5_addSign 4 none, Cond.fieldLink RX5 100 "SoundSpeller$Book" "signs" "LSoundSpeller$Rows;", Cond.static yX7_isCapital, Cond.code yX7_isCapital cX7_isCapital 1 (some .boolean), Cond.methodLink RX5 93 yX3_addAll]
def wsX7_removeRule_r10 : List Cond := [Cond.methodLink RX6 88 yX4_add, Cond.instanceMethod yX4_add, Cond.selects RX4 yX4_add yX4_add, Cond.code yX4_add cX4_add 2 none, Cond.methodLink RX4 39 yX3_isFull, Cond.instanceMethod yX3_isFull, Cond.selects RX3 yX3_isFull yX3_isFull, Cond.code yX3_isFull cX3_isFull 1 (some .boolean), Cond.methodLink RX4 46 yX4_put, Cond.instanceMethod yX4_put, Cond.selects RX4 yX4_put yX4_put, Cond.code yX4_put cX4_put 5 none, Cond.methodLink RX4 54 Lib.Math.min.name, Cond.static Lib.Math.min.name, Cond.code Lib.Math.min.name Lib.Math.min.code 2 (some .int), Cond.methodLink RX6 100 yX3_size, Cond.methodLink RX6 103 yX3_add, Cond.methodLink RX6 105 yX6_addUses, Cond.instanceMethod yX6_addUses, Cond.selects RX6 yX6_addUses yX6_addUses, Cond.code yX6_addUses cX6_addUses 3 none, Cond.methodLink RX6 108 yX3_increase, Cond.instanceMethod yX3_increase, Cond.selects RX3 yX3_increase yX3_increase]
def wsX7_removeRule_r11 : List Cond := [Cond.code yX3_increase cX3_increase 2 none, Cond.methodLink RX7 98 yX0_rules]
def wsX7_removeRule : List Cond := .code yX7_removeRule cX7_removeRule 2 (some .int) :: ((wsX7_removeRule_r1 ++ (wsX7_removeRule_r2 ++ (wsX7_removeRule_r3 ++ (wsX7_removeRule_r4 ++ (wsX7_removeRule_r5 ++ (wsX7_removeRule_r6 ++ (wsX7_removeRule_r7 ++ (wsX7_removeRule_r8 ++ (wsX7_removeRule_r9 ++ (wsX7_removeRule_r10 ++ wsX7_removeRule_r11)))))))))) ++ wsX70 ++ wsX00 ++ wsX40 ++ wsX30 ++ wsX10 ++ wsX60 ++ wsX50)
def wsX7_moveRule_r1 : List Cond := [Cond.fieldLink RX7 45 "SoundSpeller" "book" "LSoundSpeller$Book;", Cond.fieldLink RX7 58 "SoundSpeller" "history" "LSoundSpeller$History;", Cond.fieldLink RX7 69 "SoundSpeller" "trial" "LSoundSpeller$Survey;", Cond.fieldLink RX7 65 "SoundSpeller" "survey" "LSoundSpeller$Survey;", Cond.methodLink RX7 110 yX0_hasRule, Cond.instanceMethod yX0_hasRule, Cond.selects RX0 yX0_hasRule yX0_hasRule, Cond.initialized RX0, Cond.code yX0_hasRule cX0_hasRule 2 (some .boolean), Cond.fieldLink RX0 14 "SoundSpeller$Book" "ruleLetters" "LSoundSpeller$Rows;", Cond.methodLink RX0 60 yX4_has, Cond.instanceMethod yX4_has, Cond.selects RX4 yX4_has yX4_has, Cond.initialized RX4, Cond.code yX4_has cX4_has 2 (some .boolean), Cond.fieldLink RX4 28 "SoundSpeller$Rows" "lengths" "LSoundSpeller$Row;", Cond.methodLink RX4 31 yX3_size, Cond.instanceMethod yX3_size, Cond.selects RX3 yX3_size yX3_size, Cond.initialized RX3, Cond.code yX3_size cX3_size 1 (some .int), Cond.fieldLink RX3 21 "SoundSpeller$Row" "size" "I", Cond.methodLink RX7 104 yX1_record, Cond.instanceMethod yX1_record]
def wsX7_moveRule_r2 : List Cond := [Cond.selects RX1 yX1_record yX1_record, Cond.initialized RX1, Cond.code yX1_record cX1_record 2 none, Cond.fieldLink RX1 20 "SoundSpeller$History" "size" "I", Cond.fieldLink RX1 11 "SoundSpeller$History" "states" "[LSoundSpeller$Book;", Cond.methodLink RX1 24 yX1_dropOldest, Cond.instanceMethod yX1_dropOldest, Cond.selects RX1 yX1_dropOldest yX1_dropOldest, Cond.code yX1_dropOldest cX1_dropOldest 3 none, Cond.methodLink RX1 31 Lib.Math.max.name, Cond.static Lib.Math.max.name, Cond.initialized "java/lang/Math", Cond.code Lib.Math.max.name Lib.Math.max.code 2 (some .int), Cond.methodLink RX1 27 yX0_copyFrom, Cond.instanceMethod yX0_copyFrom, Cond.selects RX0 yX0_copyFrom yX0_copyFrom, Cond.code yX0_copyFrom cX0_copyFrom 2 none, Cond.fieldLink RX0 25 "SoundSpeller$Book" "ruleSounds" "LSoundSpeller$Row;", Cond.fieldLink RX0 29 "SoundSpeller$Book" "ruleSides" "LSoundSpeller$Row;", Cond.fieldLink RX0 32 "SoundSpeller$Book" "signs" "LSoundSpeller$Rows;", Cond.fieldLink RX0 35 "SoundSpeller$Book" "letters" "LSoundSpeller$Rows;", Cond.fieldLink RX0 38 "SoundSpeller$Book" "kinds" "LSoundSpeller$Row;", Cond.methodLink RX0 50 yX4_copyFrom, Cond.instanceMethod yX4_copyFrom]
def wsX7_moveRule_r3 : List Cond := [Cond.selects RX4 yX4_copyFrom yX4_copyFrom, Cond.code yX4_copyFrom cX4_copyFrom 3 none, Cond.fieldLink RX4 9 "SoundSpeller$Rows" "width" "I", Cond.fieldLink RX4 20 "SoundSpeller$Rows" "cells" "LSoundSpeller$Row;", Cond.methodLink RX4 68 yX3_copyFrom, Cond.instanceMethod yX3_copyFrom, Cond.selects RX3 yX3_copyFrom yX3_copyFrom, Cond.code yX3_copyFrom cX3_copyFrom 2 none, Cond.methodLink RX3 37 yX3_clear, Cond.instanceMethod yX3_clear, Cond.selects RX3 yX3_clear yX3_clear, Cond.code yX3_clear cX3_clear 1 none, Cond.methodLink RX3 40 yX3_addAll, Cond.instanceMethod yX3_addAll, Cond.selects RX3 yX3_addAll yX3_addAll, Cond.code yX3_addAll cX3_addAll 3 none, Cond.methodLink RX3 25 yX3_get, Cond.instanceMethod yX3_get, Cond.selects RX3 yX3_get yX3_get, Cond.code yX3_get cX3_get 2 (some .int), Cond.fieldLink RX3 15 "SoundSpeller$Row" "cells" "[I", Cond.methodLink RX3 29 yX3_add, Cond.instanceMethod yX3_add, Cond.selects RX3 yX3_add yX3_add]
def wsX7_moveRule_r4 : List Cond := [Cond.code yX3_add cX3_add 2 none, Cond.methodLink RX4 35 yX3_get, Cond.methodLink RX4 60 yX3_set, Cond.instanceMethod yX3_set, Cond.selects RX3 yX3_set yX3_set, Cond.code yX3_set cX3_set 3 none, Cond.methodLink RX0 54 yX3_copyFrom, Cond.methodLink RX7 107 yX6_renew, Cond.instanceMethod yX6_renew, Cond.selects RX6 yX6_renew yX6_renew, Cond.initialized RX6, Cond.code yX6_renew cX6_renew 3 none, Cond.fieldLink RX6 14 "SoundSpeller$Survey" "sounds" "LSoundSpeller$Rows;", Cond.fieldLink RX6 20 "SoundSpeller$Survey" "rulesAt" "LSoundSpeller$Rows;", Cond.fieldLink RX6 23 "SoundSpeller$Survey" "spellings" "LSoundSpeller$Rows;", Cond.fieldLink RX6 31 "SoundSpeller$Survey" "wordUses" "LSoundSpeller$Row;", Cond.fieldLink RX6 35 "SoundSpeller$Survey" "ruleUses" "LSoundSpeller$Row;", Cond.fieldLink RX6 64 "SoundSpeller$Book" "letters" "LSoundSpeller$Rows;", Cond.fieldLink RX6 45 "SoundSpeller$Survey" "word" "LSoundSpeller$Row;", Cond.fieldLink RX6 41 "SoundSpeller$Survey" "speller" "LSoundSpeller$Speller;", Cond.fieldLink RX6 75 "SoundSpeller$Book" "kinds" "LSoundSpeller$Row;", Cond.fieldLink RX6 86 "SoundSpeller$Speller" "sounds" "LSoundSpeller$Row;", Cond.fieldLink RX6 92 "SoundSpeller$Speller" "rulesAt" "LSoundSpeller$Row;", Cond.fieldLink RX6 94 "SoundSpeller$Speller" "spelling" "LSoundSpeller$Row;"]
def wsX7_moveRule_r5 : List Cond := [Cond.fieldLink RX6 97 "SoundSpeller$Speller" "rulesUsed" "LSoundSpeller$Row;", Cond.methodLink RX6 48 yX4_clear, Cond.instanceMethod yX4_clear, Cond.selects RX4 yX4_clear yX4_clear, Cond.code yX4_clear cX4_clear 1 none, Cond.methodLink RX4 63 yX3_clear, Cond.methodLink RX6 51 yX3_clear, Cond.methodLink RX6 52 yX0_rules, Cond.instanceMethod yX0_rules, Cond.selects RX0 yX0_rules yX0_rules, Cond.code yX0_rules cX0_rules 1 (some .int), Cond.methodLink RX0 56 yX4_lines, Cond.instanceMethod yX4_lines, Cond.selects RX4 yX4_lines yX4_lines, Cond.code yX4_lines cX4_lines 1 (some .int), Cond.methodLink RX6 58 yX3_addMany, Cond.instanceMethod yX3_addMany, Cond.selects RX3 yX3_addMany yX3_addMany, Cond.code yX3_addMany cX3_addMany 4 none, Cond.methodLink RX6 61 yX0_words, Cond.instanceMethod yX0_words, Cond.selects RX0 yX0_words yX0_words, Cond.code yX0_words cX0_words 1 (some .int), Cond.methodLink RX6 67 yX4_copyTo]
def wsX7_moveRule_r6 : List Cond := [Cond.instanceMethod yX4_copyTo, Cond.selects RX4 yX4_copyTo yX4_copyTo, Cond.code yX4_copyTo cX4_copyTo 4 none, Cond.methodLink RX4 66 yX4_get, Cond.instanceMethod yX4_get, Cond.selects RX4 yX4_get yX4_get, Cond.code yX4_get cX4_get 4 (some .int), Cond.methodLink RX4 43 yX3_add, Cond.methodLink RX6 71 yX5_hear, Cond.instanceMethod yX5_hear, Cond.selects RX5 yX5_hear yX5_hear, Cond.initialized RX5, Cond.code yX5_hear cX5_hear 6 none, Cond.fieldLink RX5 14 "SoundSpeller$Speller" "sounds" "LSoundSpeller$Row;", Cond.fieldLink RX5 20 "SoundSpeller$Speller" "rulesAt" "LSoundSpeller$Row;", Cond.fieldLink RX5 23 "SoundSpeller$Speller" "rulesUsed" "LSoundSpeller$Row;", Cond.fieldLink RX5 51 "SoundSpeller$Book" "ruleLetters" "LSoundSpeller$Rows;", Cond.methodLink RX5 29 yX3_clear, Cond.methodLink RX5 32 yX3_size, Cond.methodLink RX5 36 yX5_bestRule, Cond.static yX5_bestRule, Cond.code yX5_bestRule cX5_bestRule 7 (some .int), Cond.fieldLink RX5 72 "SoundSpeller$Book" "ruleSides" "LSoundSpeller$Row;", Cond.methodLink RX5 69 yX0_rules]
def wsX7_moveRule_r7 : List Cond := [Cond.methodLink RX5 57 yX4_length, Cond.instanceMethod yX4_length, Cond.selects RX4 yX4_length yX4_length, Cond.code yX4_length cX4_length 2 (some .int), Cond.methodLink RX5 40 yX3_get, Cond.methodLink RX5 75 yX5_holds, Cond.static yX5_holds, Cond.code yX5_holds cX5_holds 6 (some .boolean), Cond.methodLink RX5 79 yX4_get, Cond.methodLink RX5 82 yX5_sideHolds, Cond.static yX5_sideHolds, Cond.code yX5_sideHolds cX5_sideHolds 4 (some .boolean), Cond.static yX7_isVowel, Cond.initialized RX7, Cond.code yX7_isVowel cX7_isVowel 1 (some .boolean), Cond.methodLink RX5 44 yX3_add, Cond.methodLink RX5 47 yX5_useRule, Cond.instanceMethod yX5_useRule, Cond.selects RX5 yX5_useRule yX5_useRule, Cond.code yX5_useRule cX5_useRule 4 none, Cond.fieldLink RX5 62 "SoundSpeller$Book" "ruleSounds" "LSoundSpeller$Row;", Cond.methodLink RX5 65 yX3_addMany, Cond.methodLink RX6 78 yX3_get, Cond.methodLink RX6 82 yX5_write]
def wsX7_moveRule_r8 : List Cond := [Cond.instanceMethod yX5_write, Cond.selects RX5 yX5_write yX5_write, Cond.code yX5_write cX5_write 5 none, Cond.fieldLink RX5 26 "SoundSpeller$Speller" "spelling" "LSoundSpeller$Row;", Cond.methodLink RX5 90 yX5_addSign, Cond.instanceMethod yX5_addSign, Cond.selects RX5 yX5_addSign yX5_addSign, Cond.code yX5_addSign cX5_addSign 4 none, Cond.fieldLink RX5 100 "SoundSpeller$Book" "signs" "LSoundSpeller$Rows;", Cond.static yX7_isCapital, Cond.code yX7_isCapital cX7_isCapital 1 (some .boolean), Cond.methodLink RX5 93 yX3_addAll, Cond.methodLink RX6 88 yX4_add, Cond.instanceMethod yX4_add, Cond.selects RX4 yX4_add yX4_add, Cond.code yX4_add cX4_add 2 none, Cond.methodLink RX4 39 yX3_isFull, Cond.instanceMethod yX3_isFull, Cond.selects RX3 yX3_isFull yX3_isFull, Cond.code yX3_isFull cX3_isFull 1 (some .boolean), Cond.methodLink RX4 46 yX4_put, Cond.instanceMethod yX4_put, Cond.selects RX4 yX4_put yX4_put, Cond.code yX4_put cX4_put 5 none]
def wsX7_moveRule_r9 : List Cond := [Cond.methodLink RX4 54 Lib.Math.min.name, Cond.static Lib.Math.min.name, Cond.code Lib.Math.min.name Lib.Math.min.code 2 (some .int), Cond.methodLink RX4 50 yX4_has, Cond.methodLink RX6 100 yX3_size, Cond.methodLink RX6 103 yX3_add, Cond.methodLink RX6 105 yX6_addUses, Cond.instanceMethod yX6_addUses, Cond.selects RX6 yX6_addUses yX6_addUses, Cond.code yX6_addUses cX6_addUses 3 none, Cond.methodLink RX6 108 yX3_increase, Cond.instanceMethod yX3_increase, Cond.selects RX3 yX3_increase yX3_increase, Cond.code yX3_increase cX3_increase 2 none, Cond.methodLink RX3 33 yX3_set, Cond.methodLink RX7 116 yX0_shiftRule, Cond.instanceMethod yX0_shiftRule, Cond.selects RX0 yX0_shiftRule yX0_shiftRule, Cond.code yX0_shiftRule cX0_shiftRule 3 none, Cond.methodLink RX0 111 yX4_move, Cond.instanceMethod yX4_move, Cond.selects RX4 yX4_move yX4_move, Cond.code yX4_move cX4_move 4 none, Cond.methodLink RX4 82 yX4_swap]
def wsX7_moveRule_r10 : List Cond := [Cond.instanceMethod yX4_swap, Cond.selects RX4 yX4_swap yX4_swap, Cond.code yX4_swap cX4_swap 4 none, Cond.methodLink RX4 79 yX3_swap, Cond.instanceMethod yX3_swap, Cond.selects RX3 yX3_swap yX3_swap, Cond.code yX3_swap cX3_swap 4 none, Cond.methodLink RX0 114 yX3_move, Cond.instanceMethod yX3_move, Cond.selects RX3 yX3_move yX3_move, Cond.code yX3_move cX3_move 4 none, Cond.methodLink RX3 44 yX3_swap, Cond.methodLink RX7 119 yX6_differences, Cond.instanceMethod yX6_differences, Cond.selects RX6 yX6_differences yX6_differences, Cond.code yX6_differences cX6_differences 4 (some .int), Cond.methodLink RX6 114 yX4_lines, Cond.methodLink RX6 124 yX4_isLike_, Cond.instanceMethod yX4_isLike_, Cond.selects RX4 yX4_isLike_ yX4_isLike_, Cond.code yX4_isLike_ cX4_isLike_ 5 (some .boolean)]
def wsX7_moveRule : List Cond := .code yX7_moveRule cX7_moveRule 3 (some .int) :: ((wsX7_moveRule_r1 ++ (wsX7_moveRule_r2 ++ (wsX7_moveRule_r3 ++ (wsX7_moveRule_r4 ++ (wsX7_moveRule_r5 ++ (wsX7_moveRule_r6 ++ (wsX7_moveRule_r7 ++ (wsX7_moveRule_r8 ++ (wsX7_moveRule_r9 ++ wsX7_moveRule_r10))))))))) ++ wsX70 ++ wsX00 ++ wsX40 ++ wsX30 ++ wsX10 ++ wsX60 ++ wsX50)
def wsX7_removeWord_r1 : List Cond := [Cond.fieldLink RX7 45 "SoundSpeller" "book" "LSoundSpeller$Book;", Cond.fieldLink RX7 58 "SoundSpeller" "history" "LSoundSpeller$History;", Cond.fieldLink RX7 65 "SoundSpeller" "survey" "LSoundSpeller$Survey;", Cond.methodLink RX7 123 yX0_hasWord, Cond.instanceMethod yX0_hasWord, Cond.selects RX0 yX0_hasWord yX0_hasWord, Cond.initialized RX0, Cond.code yX0_hasWord cX0_hasWord 2 (some .boolean), Cond.fieldLink RX0 35 "SoundSpeller$Book" "letters" "LSoundSpeller$Rows;", Cond.methodLink RX0 60 yX4_has, Cond.instanceMethod yX4_has, Cond.selects RX4 yX4_has yX4_has, Cond.initialized RX4, Cond.code yX4_has cX4_has 2 (some .boolean), Cond.fieldLink RX4 28 "SoundSpeller$Rows" "lengths" "LSoundSpeller$Row;", Cond.methodLink RX4 31 yX3_size, Cond.instanceMethod yX3_size, Cond.selects RX3 yX3_size yX3_size, Cond.initialized RX3, Cond.code yX3_size cX3_size 1 (some .int), Cond.fieldLink RX3 21 "SoundSpeller$Row" "size" "I", Cond.methodLink RX7 104 yX1_record, Cond.instanceMethod yX1_record, Cond.selects RX1 yX1_record yX1_record]
def wsX7_removeWord_r2 : List Cond := [Cond.initialized RX1, Cond.code yX1_record cX1_record 2 none, Cond.fieldLink RX1 20 "SoundSpeller$History" "size" "I", Cond.fieldLink RX1 11 "SoundSpeller$History" "states" "[LSoundSpeller$Book;", Cond.methodLink RX1 24 yX1_dropOldest, Cond.instanceMethod yX1_dropOldest, Cond.selects RX1 yX1_dropOldest yX1_dropOldest, Cond.code yX1_dropOldest cX1_dropOldest 3 none, Cond.methodLink RX1 31 Lib.Math.max.name, Cond.static Lib.Math.max.name, Cond.initialized "java/lang/Math", Cond.code Lib.Math.max.name Lib.Math.max.code 2 (some .int), Cond.methodLink RX1 27 yX0_copyFrom, Cond.instanceMethod yX0_copyFrom, Cond.selects RX0 yX0_copyFrom yX0_copyFrom, Cond.code yX0_copyFrom cX0_copyFrom 2 none, Cond.fieldLink RX0 14 "SoundSpeller$Book" "ruleLetters" "LSoundSpeller$Rows;", Cond.fieldLink RX0 25 "SoundSpeller$Book" "ruleSounds" "LSoundSpeller$Row;", Cond.fieldLink RX0 29 "SoundSpeller$Book" "ruleSides" "LSoundSpeller$Row;", Cond.fieldLink RX0 32 "SoundSpeller$Book" "signs" "LSoundSpeller$Rows;", Cond.fieldLink RX0 38 "SoundSpeller$Book" "kinds" "LSoundSpeller$Row;", Cond.methodLink RX0 50 yX4_copyFrom, Cond.instanceMethod yX4_copyFrom, Cond.selects RX4 yX4_copyFrom yX4_copyFrom]
def wsX7_removeWord_r3 : List Cond := [Cond.code yX4_copyFrom cX4_copyFrom 3 none, Cond.fieldLink RX4 9 "SoundSpeller$Rows" "width" "I", Cond.fieldLink RX4 20 "SoundSpeller$Rows" "cells" "LSoundSpeller$Row;", Cond.methodLink RX4 68 yX3_copyFrom, Cond.instanceMethod yX3_copyFrom, Cond.selects RX3 yX3_copyFrom yX3_copyFrom, Cond.code yX3_copyFrom cX3_copyFrom 2 none, Cond.methodLink RX3 37 yX3_clear, Cond.instanceMethod yX3_clear, Cond.selects RX3 yX3_clear yX3_clear, Cond.code yX3_clear cX3_clear 1 none, Cond.methodLink RX3 40 yX3_addAll, Cond.instanceMethod yX3_addAll, Cond.selects RX3 yX3_addAll yX3_addAll, Cond.code yX3_addAll cX3_addAll 3 none, Cond.methodLink RX3 25 yX3_get, Cond.instanceMethod yX3_get, Cond.selects RX3 yX3_get yX3_get, Cond.code yX3_get cX3_get 2 (some .int), Cond.fieldLink RX3 15 "SoundSpeller$Row" "cells" "[I", Cond.methodLink RX3 29 yX3_add, Cond.instanceMethod yX3_add, Cond.selects RX3 yX3_add yX3_add, Cond.code yX3_add cX3_add 2 none]
def wsX7_removeWord_r4 : List Cond := [Cond.methodLink RX4 35 yX3_get, Cond.methodLink RX4 60 yX3_set, Cond.instanceMethod yX3_set, Cond.selects RX3 yX3_set yX3_set, Cond.code yX3_set cX3_set 3 none, Cond.methodLink RX0 54 yX3_copyFrom, Cond.methodLink RX7 126 yX0_dropWord, Cond.instanceMethod yX0_dropWord, Cond.selects RX0 yX0_dropWord yX0_dropWord, Cond.code yX0_dropWord cX0_dropWord 2 none, Cond.methodLink RX0 107 yX4_remove, Cond.instanceMethod yX4_remove, Cond.selects RX4 yX4_remove yX4_remove, Cond.code yX4_remove cX4_remove 2 none, Cond.methodLink RX4 50 yX4_has, Cond.methodLink RX4 83 yX4_move, Cond.instanceMethod yX4_move, Cond.selects RX4 yX4_move yX4_move, Cond.code yX4_move cX4_move 4 none, Cond.methodLink RX4 82 yX4_swap, Cond.instanceMethod yX4_swap, Cond.selects RX4 yX4_swap yX4_swap, Cond.code yX4_swap cX4_swap 4 none, Cond.methodLink RX4 79 yX3_swap]
def wsX7_removeWord_r5 : List Cond := [Cond.instanceMethod yX3_swap, Cond.selects RX3 yX3_swap yX3_swap, Cond.code yX3_swap cX3_swap 4 none, Cond.methodLink RX3 33 yX3_set, Cond.methodLink RX4 86 yX3_dropLast, Cond.instanceMethod yX3_dropLast, Cond.selects RX3 yX3_dropLast yX3_dropLast, Cond.code yX3_dropLast cX3_dropLast 1 none, Cond.methodLink RX3 9 Lib.Math.max.name, Cond.methodLink RX0 110 yX3_remove, Cond.instanceMethod yX3_remove, Cond.selects RX3 yX3_remove yX3_remove, Cond.code yX3_remove cX3_remove 2 none, Cond.methodLink RX3 47 yX3_move, Cond.instanceMethod yX3_move, Cond.selects RX3 yX3_move yX3_move, Cond.code yX3_move cX3_move 4 none, Cond.methodLink RX3 44 yX3_swap, Cond.methodLink RX3 50 yX3_dropLast, Cond.methodLink RX7 107 yX6_renew, Cond.instanceMethod yX6_renew, Cond.selects RX6 yX6_renew yX6_renew, Cond.initialized RX6, Cond.code yX6_renew cX6_renew 3 none]
def wsX7_removeWord_r6 : List Cond := [Cond.fieldLink RX6 14 "SoundSpeller$Survey" "sounds" "LSoundSpeller$Rows;", Cond.fieldLink RX6 20 "SoundSpeller$Survey" "rulesAt" "LSoundSpeller$Rows;", Cond.fieldLink RX6 23 "SoundSpeller$Survey" "spellings" "LSoundSpeller$Rows;", Cond.fieldLink RX6 31 "SoundSpeller$Survey" "wordUses" "LSoundSpeller$Row;", Cond.fieldLink RX6 35 "SoundSpeller$Survey" "ruleUses" "LSoundSpeller$Row;", Cond.fieldLink RX6 64 "SoundSpeller$Book" "letters" "LSoundSpeller$Rows;", Cond.fieldLink RX6 45 "SoundSpeller$Survey" "word" "LSoundSpeller$Row;", Cond.fieldLink RX6 41 "SoundSpeller$Survey" "speller" "LSoundSpeller$Speller;", Cond.fieldLink RX6 75 "SoundSpeller$Book" "kinds" "LSoundSpeller$Row;", Cond.fieldLink RX6 86 "SoundSpeller$Speller" "sounds" "LSoundSpeller$Row;", Cond.fieldLink RX6 92 "SoundSpeller$Speller" "rulesAt" "LSoundSpeller$Row;", Cond.fieldLink RX6 94 "SoundSpeller$Speller" "spelling" "LSoundSpeller$Row;", Cond.fieldLink RX6 97 "SoundSpeller$Speller" "rulesUsed" "LSoundSpeller$Row;", Cond.methodLink RX6 48 yX4_clear, Cond.instanceMethod yX4_clear, Cond.selects RX4 yX4_clear yX4_clear, Cond.code yX4_clear cX4_clear 1 none, Cond.methodLink RX4 63 yX3_clear, Cond.methodLink RX6 51 yX3_clear, Cond.methodLink RX6 52 yX0_rules, Cond.instanceMethod yX0_rules, Cond.selects RX0 yX0_rules yX0_rules, Cond.code yX0_rules cX0_rules 1 (some .int), Cond.methodLink RX0 56 yX4_lines]
def wsX7_removeWord_r7 : List Cond := [Cond.instanceMethod yX4_lines, Cond.selects RX4 yX4_lines yX4_lines, Cond.code yX4_lines cX4_lines 1 (some .int), Cond.methodLink RX6 58 yX3_addMany, Cond.instanceMethod yX3_addMany, Cond.selects RX3 yX3_addMany yX3_addMany, Cond.code yX3_addMany cX3_addMany 4 none, Cond.methodLink RX6 61 yX0_words, Cond.instanceMethod yX0_words, Cond.selects RX0 yX0_words yX0_words, Cond.code yX0_words cX0_words 1 (some .int), Cond.methodLink RX6 67 yX4_copyTo, Cond.instanceMethod yX4_copyTo, Cond.selects RX4 yX4_copyTo yX4_copyTo, Cond.code yX4_copyTo cX4_copyTo 4 none, Cond.methodLink RX4 66 yX4_get, Cond.instanceMethod yX4_get, Cond.selects RX4 yX4_get yX4_get, Cond.code yX4_get cX4_get 4 (some .int), Cond.methodLink RX4 43 yX3_add, Cond.methodLink RX6 71 yX5_hear, Cond.instanceMethod yX5_hear, Cond.selects RX5 yX5_hear yX5_hear, Cond.initialized RX5]
def wsX7_removeWord_r8 : List Cond := [Cond.code yX5_hear cX5_hear 6 none, Cond.fieldLink RX5 14 "SoundSpeller$Speller" "sounds" "LSoundSpeller$Row;", Cond.fieldLink RX5 20 "SoundSpeller$Speller" "rulesAt" "LSoundSpeller$Row;", Cond.fieldLink RX5 23 "SoundSpeller$Speller" "rulesUsed" "LSoundSpeller$Row;", Cond.fieldLink RX5 51 "SoundSpeller$Book" "ruleLetters" "LSoundSpeller$Rows;", Cond.methodLink RX5 29 yX3_clear, Cond.methodLink RX5 32 yX3_size, Cond.methodLink RX5 36 yX5_bestRule, Cond.static yX5_bestRule, Cond.code yX5_bestRule cX5_bestRule 7 (some .int), Cond.fieldLink RX5 72 "SoundSpeller$Book" "ruleSides" "LSoundSpeller$Row;", Cond.methodLink RX5 69 yX0_rules, Cond.methodLink RX5 57 yX4_length, Cond.instanceMethod yX4_length, Cond.selects RX4 yX4_length yX4_length, Cond.code yX4_length cX4_length 2 (some .int), Cond.methodLink RX5 40 yX3_get, Cond.methodLink RX5 75 yX5_holds, Cond.static yX5_holds, Cond.code yX5_holds cX5_holds 6 (some .boolean), Cond.methodLink RX5 79 yX4_get, Cond.methodLink RX5 82 yX5_sideHolds, Cond.static yX5_sideHolds, Cond.code yX5_sideHolds cX5_sideHolds 4 (some .boolean)]
def wsX7_removeWord_r9 : List Cond := [Cond.static yX7_isVowel, Cond.initialized RX7, Cond.code yX7_isVowel cX7_isVowel 1 (some .boolean), Cond.methodLink RX5 44 yX3_add, Cond.methodLink RX5 47 yX5_useRule, Cond.instanceMethod yX5_useRule, Cond.selects RX5 yX5_useRule yX5_useRule, Cond.code yX5_useRule cX5_useRule 4 none, Cond.fieldLink RX5 62 "SoundSpeller$Book" "ruleSounds" "LSoundSpeller$Row;", Cond.methodLink RX5 65 yX3_addMany, Cond.methodLink RX6 78 yX3_get, Cond.methodLink RX6 82 yX5_write, Cond.instanceMethod yX5_write, Cond.selects RX5 yX5_write yX5_write, Cond.code yX5_write cX5_write 5 none, Cond.fieldLink RX5 26 "SoundSpeller$Speller" "spelling" "LSoundSpeller$Row;", Cond.methodLink RX5 90 yX5_addSign, Cond.instanceMethod yX5_addSign, Cond.selects RX5 yX5_addSign yX5_addSign, Cond.code yX5_addSign cX5_addSign 4 none, Cond.fieldLink RX5 100 "SoundSpeller$Book" "signs" "LSoundSpeller$Rows;", Cond.static yX7_isCapital, Cond.code yX7_isCapital cX7_isCapital 1 (some .boolean), Cond.methodLink RX5 93 yX3_addAll]
def wsX7_removeWord_r10 : List Cond := [Cond.methodLink RX6 88 yX4_add, Cond.instanceMethod yX4_add, Cond.selects RX4 yX4_add yX4_add, Cond.code yX4_add cX4_add 2 none, Cond.methodLink RX4 39 yX3_isFull, Cond.instanceMethod yX3_isFull, Cond.selects RX3 yX3_isFull yX3_isFull, Cond.code yX3_isFull cX3_isFull 1 (some .boolean), Cond.methodLink RX4 46 yX4_put, Cond.instanceMethod yX4_put, Cond.selects RX4 yX4_put yX4_put, Cond.code yX4_put cX4_put 5 none, Cond.methodLink RX4 54 Lib.Math.min.name, Cond.static Lib.Math.min.name, Cond.code Lib.Math.min.name Lib.Math.min.code 2 (some .int), Cond.methodLink RX6 100 yX3_size, Cond.methodLink RX6 103 yX3_add, Cond.methodLink RX6 105 yX6_addUses, Cond.instanceMethod yX6_addUses, Cond.selects RX6 yX6_addUses yX6_addUses, Cond.code yX6_addUses cX6_addUses 3 none, Cond.methodLink RX6 108 yX3_increase, Cond.instanceMethod yX3_increase, Cond.selects RX3 yX3_increase yX3_increase]
def wsX7_removeWord_r11 : List Cond := [Cond.code yX3_increase cX3_increase 2 none, Cond.methodLink RX7 101 yX0_words]
def wsX7_removeWord : List Cond := .code yX7_removeWord cX7_removeWord 2 (some .int) :: ((wsX7_removeWord_r1 ++ (wsX7_removeWord_r2 ++ (wsX7_removeWord_r3 ++ (wsX7_removeWord_r4 ++ (wsX7_removeWord_r5 ++ (wsX7_removeWord_r6 ++ (wsX7_removeWord_r7 ++ (wsX7_removeWord_r8 ++ (wsX7_removeWord_r9 ++ (wsX7_removeWord_r10 ++ wsX7_removeWord_r11)))))))))) ++ wsX70 ++ wsX00 ++ wsX40 ++ wsX30 ++ wsX10 ++ wsX60 ++ wsX50)
def wsX7_setKind_r1 : List Cond := [Cond.fieldLink RX7 45 "SoundSpeller" "book" "LSoundSpeller$Book;", Cond.fieldLink RX7 129 "SoundSpeller$Book" "kinds" "LSoundSpeller$Row;", Cond.fieldLink RX7 58 "SoundSpeller" "history" "LSoundSpeller$History;", Cond.fieldLink RX7 65 "SoundSpeller" "survey" "LSoundSpeller$Survey;", Cond.methodLink RX7 123 yX0_hasWord, Cond.instanceMethod yX0_hasWord, Cond.selects RX0 yX0_hasWord yX0_hasWord, Cond.initialized RX0, Cond.code yX0_hasWord cX0_hasWord 2 (some .boolean), Cond.fieldLink RX0 35 "SoundSpeller$Book" "letters" "LSoundSpeller$Rows;", Cond.methodLink RX0 60 yX4_has, Cond.instanceMethod yX4_has, Cond.selects RX4 yX4_has yX4_has, Cond.initialized RX4, Cond.code yX4_has cX4_has 2 (some .boolean), Cond.fieldLink RX4 28 "SoundSpeller$Rows" "lengths" "LSoundSpeller$Row;", Cond.methodLink RX4 31 yX3_size, Cond.instanceMethod yX3_size, Cond.selects RX3 yX3_size yX3_size, Cond.initialized RX3, Cond.code yX3_size cX3_size 1 (some .int), Cond.fieldLink RX3 21 "SoundSpeller$Row" "size" "I", Cond.methodLink RX7 132 yX3_get, Cond.instanceMethod yX3_get]
def wsX7_setKind_r2 : List Cond := [Cond.selects RX3 yX3_get yX3_get, Cond.code yX3_get cX3_get 2 (some .int), Cond.fieldLink RX3 15 "SoundSpeller$Row" "cells" "[I", Cond.methodLink RX7 104 yX1_record, Cond.instanceMethod yX1_record, Cond.selects RX1 yX1_record yX1_record, Cond.initialized RX1, Cond.code yX1_record cX1_record 2 none, Cond.fieldLink RX1 20 "SoundSpeller$History" "size" "I", Cond.fieldLink RX1 11 "SoundSpeller$History" "states" "[LSoundSpeller$Book;", Cond.methodLink RX1 24 yX1_dropOldest, Cond.instanceMethod yX1_dropOldest, Cond.selects RX1 yX1_dropOldest yX1_dropOldest, Cond.code yX1_dropOldest cX1_dropOldest 3 none, Cond.methodLink RX1 31 Lib.Math.max.name, Cond.static Lib.Math.max.name, Cond.initialized "java/lang/Math", Cond.code Lib.Math.max.name Lib.Math.max.code 2 (some .int), Cond.methodLink RX1 27 yX0_copyFrom, Cond.instanceMethod yX0_copyFrom, Cond.selects RX0 yX0_copyFrom yX0_copyFrom, Cond.code yX0_copyFrom cX0_copyFrom 2 none, Cond.fieldLink RX0 14 "SoundSpeller$Book" "ruleLetters" "LSoundSpeller$Rows;", Cond.fieldLink RX0 25 "SoundSpeller$Book" "ruleSounds" "LSoundSpeller$Row;"]
def wsX7_setKind_r3 : List Cond := [Cond.fieldLink RX0 29 "SoundSpeller$Book" "ruleSides" "LSoundSpeller$Row;", Cond.fieldLink RX0 32 "SoundSpeller$Book" "signs" "LSoundSpeller$Rows;", Cond.fieldLink RX0 38 "SoundSpeller$Book" "kinds" "LSoundSpeller$Row;", Cond.methodLink RX0 50 yX4_copyFrom, Cond.instanceMethod yX4_copyFrom, Cond.selects RX4 yX4_copyFrom yX4_copyFrom, Cond.code yX4_copyFrom cX4_copyFrom 3 none, Cond.fieldLink RX4 9 "SoundSpeller$Rows" "width" "I", Cond.fieldLink RX4 20 "SoundSpeller$Rows" "cells" "LSoundSpeller$Row;", Cond.methodLink RX4 68 yX3_copyFrom, Cond.instanceMethod yX3_copyFrom, Cond.selects RX3 yX3_copyFrom yX3_copyFrom, Cond.code yX3_copyFrom cX3_copyFrom 2 none, Cond.methodLink RX3 37 yX3_clear, Cond.instanceMethod yX3_clear, Cond.selects RX3 yX3_clear yX3_clear, Cond.code yX3_clear cX3_clear 1 none, Cond.methodLink RX3 40 yX3_addAll, Cond.instanceMethod yX3_addAll, Cond.selects RX3 yX3_addAll yX3_addAll, Cond.code yX3_addAll cX3_addAll 3 none, Cond.methodLink RX3 25 yX3_get, Cond.methodLink RX3 29 yX3_add, Cond.instanceMethod yX3_add]
def wsX7_setKind_r4 : List Cond := [Cond.selects RX3 yX3_add yX3_add, Cond.code yX3_add cX3_add 2 none, Cond.methodLink RX4 35 yX3_get, Cond.methodLink RX4 60 yX3_set, Cond.instanceMethod yX3_set, Cond.selects RX3 yX3_set yX3_set, Cond.code yX3_set cX3_set 3 none, Cond.methodLink RX0 54 yX3_copyFrom, Cond.methodLink RX7 136 yX3_set, Cond.methodLink RX7 107 yX6_renew, Cond.instanceMethod yX6_renew, Cond.selects RX6 yX6_renew yX6_renew, Cond.initialized RX6, Cond.code yX6_renew cX6_renew 3 none, Cond.fieldLink RX6 14 "SoundSpeller$Survey" "sounds" "LSoundSpeller$Rows;", Cond.fieldLink RX6 20 "SoundSpeller$Survey" "rulesAt" "LSoundSpeller$Rows;", Cond.fieldLink RX6 23 "SoundSpeller$Survey" "spellings" "LSoundSpeller$Rows;", Cond.fieldLink RX6 31 "SoundSpeller$Survey" "wordUses" "LSoundSpeller$Row;", Cond.fieldLink RX6 35 "SoundSpeller$Survey" "ruleUses" "LSoundSpeller$Row;", Cond.fieldLink RX6 64 "SoundSpeller$Book" "letters" "LSoundSpeller$Rows;", Cond.fieldLink RX6 45 "SoundSpeller$Survey" "word" "LSoundSpeller$Row;", Cond.fieldLink RX6 41 "SoundSpeller$Survey" "speller" "LSoundSpeller$Speller;", Cond.fieldLink RX6 75 "SoundSpeller$Book" "kinds" "LSoundSpeller$Row;", Cond.fieldLink RX6 86 "SoundSpeller$Speller" "sounds" "LSoundSpeller$Row;"]
def wsX7_setKind_r5 : List Cond := [Cond.fieldLink RX6 92 "SoundSpeller$Speller" "rulesAt" "LSoundSpeller$Row;", Cond.fieldLink RX6 94 "SoundSpeller$Speller" "spelling" "LSoundSpeller$Row;", Cond.fieldLink RX6 97 "SoundSpeller$Speller" "rulesUsed" "LSoundSpeller$Row;", Cond.methodLink RX6 48 yX4_clear, Cond.instanceMethod yX4_clear, Cond.selects RX4 yX4_clear yX4_clear, Cond.code yX4_clear cX4_clear 1 none, Cond.methodLink RX4 63 yX3_clear, Cond.methodLink RX6 51 yX3_clear, Cond.methodLink RX6 52 yX0_rules, Cond.instanceMethod yX0_rules, Cond.selects RX0 yX0_rules yX0_rules, Cond.code yX0_rules cX0_rules 1 (some .int), Cond.methodLink RX0 56 yX4_lines, Cond.instanceMethod yX4_lines, Cond.selects RX4 yX4_lines yX4_lines, Cond.code yX4_lines cX4_lines 1 (some .int), Cond.methodLink RX6 58 yX3_addMany, Cond.instanceMethod yX3_addMany, Cond.selects RX3 yX3_addMany yX3_addMany, Cond.code yX3_addMany cX3_addMany 4 none, Cond.methodLink RX6 61 yX0_words, Cond.instanceMethod yX0_words, Cond.selects RX0 yX0_words yX0_words]
def wsX7_setKind_r6 : List Cond := [Cond.code yX0_words cX0_words 1 (some .int), Cond.methodLink RX6 67 yX4_copyTo, Cond.instanceMethod yX4_copyTo, Cond.selects RX4 yX4_copyTo yX4_copyTo, Cond.code yX4_copyTo cX4_copyTo 4 none, Cond.methodLink RX4 66 yX4_get, Cond.instanceMethod yX4_get, Cond.selects RX4 yX4_get yX4_get, Cond.code yX4_get cX4_get 4 (some .int), Cond.methodLink RX4 43 yX3_add, Cond.methodLink RX6 71 yX5_hear, Cond.instanceMethod yX5_hear, Cond.selects RX5 yX5_hear yX5_hear, Cond.initialized RX5, Cond.code yX5_hear cX5_hear 6 none, Cond.fieldLink RX5 14 "SoundSpeller$Speller" "sounds" "LSoundSpeller$Row;", Cond.fieldLink RX5 20 "SoundSpeller$Speller" "rulesAt" "LSoundSpeller$Row;", Cond.fieldLink RX5 23 "SoundSpeller$Speller" "rulesUsed" "LSoundSpeller$Row;", Cond.fieldLink RX5 51 "SoundSpeller$Book" "ruleLetters" "LSoundSpeller$Rows;", Cond.methodLink RX5 29 yX3_clear, Cond.methodLink RX5 32 yX3_size, Cond.methodLink RX5 36 yX5_bestRule, Cond.static yX5_bestRule, Cond.code yX5_bestRule cX5_bestRule 7 (some .int)]
def wsX7_setKind_r7 : List Cond := [Cond.fieldLink RX5 72 "SoundSpeller$Book" "ruleSides" "LSoundSpeller$Row;", Cond.methodLink RX5 69 yX0_rules, Cond.methodLink RX5 57 yX4_length, Cond.instanceMethod yX4_length, Cond.selects RX4 yX4_length yX4_length, Cond.code yX4_length cX4_length 2 (some .int), Cond.methodLink RX5 40 yX3_get, Cond.methodLink RX5 75 yX5_holds, Cond.static yX5_holds, Cond.code yX5_holds cX5_holds 6 (some .boolean), Cond.methodLink RX5 79 yX4_get, Cond.methodLink RX5 82 yX5_sideHolds, Cond.static yX5_sideHolds, Cond.code yX5_sideHolds cX5_sideHolds 4 (some .boolean), Cond.static yX7_isVowel, Cond.initialized RX7, Cond.code yX7_isVowel cX7_isVowel 1 (some .boolean), Cond.methodLink RX5 44 yX3_add, Cond.methodLink RX5 47 yX5_useRule, Cond.instanceMethod yX5_useRule, Cond.selects RX5 yX5_useRule yX5_useRule, Cond.code yX5_useRule cX5_useRule 4 none, Cond.fieldLink RX5 62 "SoundSpeller$Book" "ruleSounds" "LSoundSpeller$Row;", Cond.methodLink RX5 65 yX3_addMany]
def wsX7_setKind_r8 : List Cond := [Cond.methodLink RX6 78 yX3_get, Cond.methodLink RX6 82 yX5_write, Cond.instanceMethod yX5_write, Cond.selects RX5 yX5_write yX5_write, Cond.code yX5_write cX5_write 5 none, Cond.fieldLink RX5 26 "SoundSpeller$Speller" "spelling" "LSoundSpeller$Row;", Cond.methodLink RX5 90 yX5_addSign, Cond.instanceMethod yX5_addSign, Cond.selects RX5 yX5_addSign yX5_addSign, Cond.code yX5_addSign cX5_addSign 4 none, Cond.fieldLink RX5 100 "SoundSpeller$Book" "signs" "LSoundSpeller$Rows;", Cond.static yX7_isCapital, Cond.code yX7_isCapital cX7_isCapital 1 (some .boolean), Cond.methodLink RX5 93 yX3_addAll, Cond.methodLink RX6 88 yX4_add, Cond.instanceMethod yX4_add, Cond.selects RX4 yX4_add yX4_add, Cond.code yX4_add cX4_add 2 none, Cond.methodLink RX4 39 yX3_isFull, Cond.instanceMethod yX3_isFull, Cond.selects RX3 yX3_isFull yX3_isFull, Cond.code yX3_isFull cX3_isFull 1 (some .boolean), Cond.methodLink RX4 46 yX4_put, Cond.instanceMethod yX4_put]
def wsX7_setKind_r9 : List Cond := [Cond.selects RX4 yX4_put yX4_put, Cond.code yX4_put cX4_put 5 none, Cond.methodLink RX4 54 Lib.Math.min.name, Cond.static Lib.Math.min.name, Cond.code Lib.Math.min.name Lib.Math.min.code 2 (some .int), Cond.methodLink RX4 50 yX4_has, Cond.methodLink RX6 100 yX3_size, Cond.methodLink RX6 103 yX3_add, Cond.methodLink RX6 105 yX6_addUses, Cond.instanceMethod yX6_addUses, Cond.selects RX6 yX6_addUses yX6_addUses, Cond.code yX6_addUses cX6_addUses 3 none, Cond.methodLink RX6 108 yX3_increase, Cond.instanceMethod yX3_increase, Cond.selects RX3 yX3_increase yX3_increase, Cond.code yX3_increase cX3_increase 2 none, Cond.methodLink RX3 33 yX3_set]
def wsX7_setKind : List Cond := .code yX7_setKind cX7_setKind 4 (some .int) :: ((wsX7_setKind_r1 ++ (wsX7_setKind_r2 ++ (wsX7_setKind_r3 ++ (wsX7_setKind_r4 ++ (wsX7_setKind_r5 ++ (wsX7_setKind_r6 ++ (wsX7_setKind_r7 ++ (wsX7_setKind_r8 ++ wsX7_setKind_r9)))))))) ++ wsX70 ++ wsX00 ++ wsX40 ++ wsX30 ++ wsX10 ++ wsX60 ++ wsX50)
def wsX7_isToBeMarked_r1 : List Cond := [Cond.fieldLink RX7 45 "SoundSpeller" "book" "LSoundSpeller$Book;", Cond.fieldLink RX7 129 "SoundSpeller$Book" "kinds" "LSoundSpeller$Row;", Cond.fieldLink RX7 65 "SoundSpeller" "survey" "LSoundSpeller$Survey;", Cond.methodLink RX7 132 yX3_get, Cond.instanceMethod yX3_get, Cond.selects RX3 yX3_get yX3_get, Cond.initialized RX3, Cond.code yX3_get cX3_get 2 (some .int), Cond.fieldLink RX3 21 "SoundSpeller$Row" "size" "I", Cond.fieldLink RX3 15 "SoundSpeller$Row" "cells" "[I", Cond.methodLink RX7 142 yX6_comesBack, Cond.instanceMethod yX6_comesBack, Cond.selects RX6 yX6_comesBack yX6_comesBack, Cond.initialized RX6, Cond.code yX6_comesBack cX6_comesBack 2 (some .boolean), Cond.fieldLink RX6 23 "SoundSpeller$Survey" "spellings" "LSoundSpeller$Rows;", Cond.methodLink RX6 111 yX4_lowestLike, Cond.instanceMethod yX4_lowestLike, Cond.selects RX4 yX4_lowestLike yX4_lowestLike, Cond.initialized RX4, Cond.code yX4_lowestLike cX4_lowestLike 3 (some .int), Cond.methodLink RX4 76 yX4_isLike_, Cond.instanceMethod yX4_isLike_, Cond.selects RX4 yX4_isLike_ yX4_isLike_]
def wsX7_isToBeMarked_r2 : List Cond := [Cond.code yX4_isLike_ cX4_isLike_ 5 (some .boolean), Cond.fieldLink RX4 28 "SoundSpeller$Rows" "lengths" "LSoundSpeller$Row;", Cond.methodLink RX4 35 yX3_get, Cond.methodLink RX4 66 yX4_get, Cond.instanceMethod yX4_get, Cond.selects RX4 yX4_get yX4_get, Cond.code yX4_get cX4_get 4 (some .int), Cond.fieldLink RX4 20 "SoundSpeller$Rows" "cells" "LSoundSpeller$Row;", Cond.fieldLink RX4 9 "SoundSpeller$Rows" "width" "I"]
def wsX7_isToBeMarked : List Cond := .code yX7_isToBeMarked cX7_isToBeMarked 2 (some .boolean) :: ((wsX7_isToBeMarked_r1 ++ wsX7_isToBeMarked_r2) ++ wsX70 ++ wsX00 ++ wsX30 ++ wsX60 ++ wsX40)
def wsX7_markCollisions_r1 : List Cond := [Cond.fieldLink RX7 45 "SoundSpeller" "book" "LSoundSpeller$Book;", Cond.fieldLink RX7 58 "SoundSpeller" "history" "LSoundSpeller$History;", Cond.fieldLink RX7 129 "SoundSpeller$Book" "kinds" "LSoundSpeller$Row;", Cond.fieldLink RX7 65 "SoundSpeller" "survey" "LSoundSpeller$Survey;", Cond.methodLink RX7 101 yX0_words, Cond.instanceMethod yX0_words, Cond.selects RX0 yX0_words yX0_words, Cond.initialized RX0, Cond.code yX0_words cX0_words 1 (some .int), Cond.fieldLink RX0 35 "SoundSpeller$Book" "letters" "LSoundSpeller$Rows;", Cond.methodLink RX0 56 yX4_lines, Cond.instanceMethod yX4_lines, Cond.selects RX4 yX4_lines yX4_lines, Cond.initialized RX4, Cond.code yX4_lines cX4_lines 1 (some .int), Cond.fieldLink RX4 28 "SoundSpeller$Rows" "lengths" "LSoundSpeller$Row;", Cond.methodLink RX4 31 yX3_size, Cond.instanceMethod yX3_size, Cond.selects RX3 yX3_size yX3_size, Cond.initialized RX3, Cond.code yX3_size cX3_size 1 (some .int), Cond.fieldLink RX3 21 "SoundSpeller$Row" "size" "I", Cond.methodLink RX7 139 yX7_isToBeMarked, Cond.instanceMethod yX7_isToBeMarked]
def wsX7_markCollisions_r2 : List Cond := [Cond.selects RX7 yX7_isToBeMarked yX7_isToBeMarked, Cond.initialized RX7, Cond.code yX7_isToBeMarked cX7_isToBeMarked 2 (some .boolean), Cond.methodLink RX7 132 yX3_get, Cond.instanceMethod yX3_get, Cond.selects RX3 yX3_get yX3_get, Cond.code yX3_get cX3_get 2 (some .int), Cond.fieldLink RX3 15 "SoundSpeller$Row" "cells" "[I", Cond.methodLink RX7 142 yX6_comesBack, Cond.instanceMethod yX6_comesBack, Cond.selects RX6 yX6_comesBack yX6_comesBack, Cond.initialized RX6, Cond.code yX6_comesBack cX6_comesBack 2 (some .boolean), Cond.fieldLink RX6 23 "SoundSpeller$Survey" "spellings" "LSoundSpeller$Rows;", Cond.methodLink RX6 111 yX4_lowestLike, Cond.instanceMethod yX4_lowestLike, Cond.selects RX4 yX4_lowestLike yX4_lowestLike, Cond.code yX4_lowestLike cX4_lowestLike 3 (some .int), Cond.methodLink RX4 76 yX4_isLike_, Cond.instanceMethod yX4_isLike_, Cond.selects RX4 yX4_isLike_ yX4_isLike_, Cond.code yX4_isLike_ cX4_isLike_ 5 (some .boolean), Cond.methodLink RX4 35 yX3_get, Cond.methodLink RX4 66 yX4_get]
def wsX7_markCollisions_r3 : List Cond := [Cond.instanceMethod yX4_get, Cond.selects RX4 yX4_get yX4_get, Cond.code yX4_get cX4_get 4 (some .int), Cond.fieldLink RX4 20 "SoundSpeller$Rows" "cells" "LSoundSpeller$Row;", Cond.fieldLink RX4 9 "SoundSpeller$Rows" "width" "I", Cond.methodLink RX7 104 yX1_record, Cond.instanceMethod yX1_record, Cond.selects RX1 yX1_record yX1_record, Cond.initialized RX1, Cond.code yX1_record cX1_record 2 none, Cond.fieldLink RX1 20 "SoundSpeller$History" "size" "I", Cond.fieldLink RX1 11 "SoundSpeller$History" "states" "[LSoundSpeller$Book;", Cond.methodLink RX1 24 yX1_dropOldest, Cond.instanceMethod yX1_dropOldest, Cond.selects RX1 yX1_dropOldest yX1_dropOldest, Cond.code yX1_dropOldest cX1_dropOldest 3 none, Cond.methodLink RX1 31 Lib.Math.max.name, Cond.static Lib.Math.max.name, Cond.initialized "java/lang/Math", Cond.code Lib.Math.max.name Lib.Math.max.code 2 (some .int), Cond.methodLink RX1 27 yX0_copyFrom, Cond.instanceMethod yX0_copyFrom, Cond.selects RX0 yX0_copyFrom yX0_copyFrom, Cond.code yX0_copyFrom cX0_copyFrom 2 none]
def wsX7_markCollisions_r4 : List Cond := [Cond.fieldLink RX0 14 "SoundSpeller$Book" "ruleLetters" "LSoundSpeller$Rows;", Cond.fieldLink RX0 25 "SoundSpeller$Book" "ruleSounds" "LSoundSpeller$Row;", Cond.fieldLink RX0 29 "SoundSpeller$Book" "ruleSides" "LSoundSpeller$Row;", Cond.fieldLink RX0 32 "SoundSpeller$Book" "signs" "LSoundSpeller$Rows;", Cond.fieldLink RX0 38 "SoundSpeller$Book" "kinds" "LSoundSpeller$Row;", Cond.methodLink RX0 50 yX4_copyFrom, Cond.instanceMethod yX4_copyFrom, Cond.selects RX4 yX4_copyFrom yX4_copyFrom, Cond.code yX4_copyFrom cX4_copyFrom 3 none, Cond.methodLink RX4 68 yX3_copyFrom, Cond.instanceMethod yX3_copyFrom, Cond.selects RX3 yX3_copyFrom yX3_copyFrom, Cond.code yX3_copyFrom cX3_copyFrom 2 none, Cond.methodLink RX3 37 yX3_clear, Cond.instanceMethod yX3_clear, Cond.selects RX3 yX3_clear yX3_clear, Cond.code yX3_clear cX3_clear 1 none, Cond.methodLink RX3 40 yX3_addAll, Cond.instanceMethod yX3_addAll, Cond.selects RX3 yX3_addAll yX3_addAll, Cond.code yX3_addAll cX3_addAll 3 none, Cond.methodLink RX3 25 yX3_get, Cond.methodLink RX3 29 yX3_add, Cond.instanceMethod yX3_add]
def wsX7_markCollisions_r5 : List Cond := [Cond.selects RX3 yX3_add yX3_add, Cond.code yX3_add cX3_add 2 none, Cond.methodLink RX4 60 yX3_set, Cond.instanceMethod yX3_set, Cond.selects RX3 yX3_set yX3_set, Cond.code yX3_set cX3_set 3 none, Cond.methodLink RX0 54 yX3_copyFrom, Cond.methodLink RX7 136 yX3_set, Cond.methodLink RX7 107 yX6_renew, Cond.instanceMethod yX6_renew, Cond.selects RX6 yX6_renew yX6_renew, Cond.code yX6_renew cX6_renew 3 none, Cond.fieldLink RX6 14 "SoundSpeller$Survey" "sounds" "LSoundSpeller$Rows;", Cond.fieldLink RX6 20 "SoundSpeller$Survey" "rulesAt" "LSoundSpeller$Rows;", Cond.fieldLink RX6 31 "SoundSpeller$Survey" "wordUses" "LSoundSpeller$Row;", Cond.fieldLink RX6 35 "SoundSpeller$Survey" "ruleUses" "LSoundSpeller$Row;", Cond.fieldLink RX6 64 "SoundSpeller$Book" "letters" "LSoundSpeller$Rows;", Cond.fieldLink RX6 45 "SoundSpeller$Survey" "word" "LSoundSpeller$Row;", Cond.fieldLink RX6 41 "SoundSpeller$Survey" "speller" "LSoundSpeller$Speller;", Cond.fieldLink RX6 75 "SoundSpeller$Book" "kinds" "LSoundSpeller$Row;", Cond.fieldLink RX6 86 "SoundSpeller$Speller" "sounds" "LSoundSpeller$Row;", Cond.fieldLink RX6 92 "SoundSpeller$Speller" "rulesAt" "LSoundSpeller$Row;", Cond.fieldLink RX6 94 "SoundSpeller$Speller" "spelling" "LSoundSpeller$Row;", Cond.fieldLink RX6 97 "SoundSpeller$Speller" "rulesUsed" "LSoundSpeller$Row;"]
def wsX7_markCollisions_r6 : List Cond := [Cond.methodLink RX6 48 yX4_clear, Cond.instanceMethod yX4_clear, Cond.selects RX4 yX4_clear yX4_clear, Cond.code yX4_clear cX4_clear 1 none, Cond.methodLink RX4 63 yX3_clear, Cond.methodLink RX6 51 yX3_clear, Cond.methodLink RX6 52 yX0_rules, Cond.instanceMethod yX0_rules, Cond.selects RX0 yX0_rules yX0_rules, Cond.code yX0_rules cX0_rules 1 (some .int), Cond.methodLink RX6 58 yX3_addMany, Cond.instanceMethod yX3_addMany, Cond.selects RX3 yX3_addMany yX3_addMany, Cond.code yX3_addMany cX3_addMany 4 none, Cond.methodLink RX6 61 yX0_words, Cond.methodLink RX6 67 yX4_copyTo, Cond.instanceMethod yX4_copyTo, Cond.selects RX4 yX4_copyTo yX4_copyTo, Cond.code yX4_copyTo cX4_copyTo 4 none, Cond.methodLink RX4 43 yX3_add, Cond.methodLink RX6 71 yX5_hear, Cond.instanceMethod yX5_hear, Cond.selects RX5 yX5_hear yX5_hear, Cond.initialized RX5]
def wsX7_markCollisions_r7 : List Cond := [Cond.code yX5_hear cX5_hear 6 none, Cond.fieldLink RX5 14 "SoundSpeller$Speller" "sounds" "LSoundSpeller$Row;", Cond.fieldLink RX5 20 "SoundSpeller$Speller" "rulesAt" "LSoundSpeller$Row;", Cond.fieldLink RX5 23 "SoundSpeller$Speller" "rulesUsed" "LSoundSpeller$Row;", Cond.fieldLink RX5 51 "SoundSpeller$Book" "ruleLetters" "LSoundSpeller$Rows;", Cond.methodLink RX5 29 yX3_clear, Cond.methodLink RX5 32 yX3_size, Cond.methodLink RX5 36 yX5_bestRule, Cond.static yX5_bestRule, Cond.code yX5_bestRule cX5_bestRule 7 (some .int), Cond.fieldLink RX5 72 "SoundSpeller$Book" "ruleSides" "LSoundSpeller$Row;", Cond.methodLink RX5 69 yX0_rules, Cond.methodLink RX5 57 yX4_length, Cond.instanceMethod yX4_length, Cond.selects RX4 yX4_length yX4_length, Cond.code yX4_length cX4_length 2 (some .int), Cond.methodLink RX5 40 yX3_get, Cond.methodLink RX5 75 yX5_holds, Cond.static yX5_holds, Cond.code yX5_holds cX5_holds 6 (some .boolean), Cond.methodLink RX5 79 yX4_get, Cond.methodLink RX5 82 yX5_sideHolds, Cond.static yX5_sideHolds, Cond.code yX5_sideHolds cX5_sideHolds 4 (some .boolean)]
def wsX7_markCollisions_r8 : List Cond := [Cond.static yX7_isVowel, Cond.code yX7_isVowel cX7_isVowel 1 (some .boolean), Cond.methodLink RX5 44 yX3_add, Cond.methodLink RX5 47 yX5_useRule, Cond.instanceMethod yX5_useRule, Cond.selects RX5 yX5_useRule yX5_useRule, Cond.code yX5_useRule cX5_useRule 4 none, Cond.fieldLink RX5 62 "SoundSpeller$Book" "ruleSounds" "LSoundSpeller$Row;", Cond.methodLink RX5 65 yX3_addMany, Cond.methodLink RX6 78 yX3_get, Cond.methodLink RX6 82 yX5_write, Cond.instanceMethod yX5_write, Cond.selects RX5 yX5_write yX5_write, Cond.code yX5_write cX5_write 5 none, Cond.fieldLink RX5 26 "SoundSpeller$Speller" "spelling" "LSoundSpeller$Row;", Cond.methodLink RX5 90 yX5_addSign, Cond.instanceMethod yX5_addSign, Cond.selects RX5 yX5_addSign yX5_addSign, Cond.code yX5_addSign cX5_addSign 4 none, Cond.fieldLink RX5 100 "SoundSpeller$Book" "signs" "LSoundSpeller$Rows;", Cond.static yX7_isCapital, Cond.code yX7_isCapital cX7_isCapital 1 (some .boolean), Cond.methodLink RX5 93 yX3_addAll, Cond.methodLink RX6 88 yX4_add]
def wsX7_markCollisions_r9 : List Cond := [Cond.instanceMethod yX4_add, Cond.selects RX4 yX4_add yX4_add, Cond.code yX4_add cX4_add 2 none, Cond.methodLink RX4 39 yX3_isFull, Cond.instanceMethod yX3_isFull, Cond.selects RX3 yX3_isFull yX3_isFull, Cond.code yX3_isFull cX3_isFull 1 (some .boolean), Cond.methodLink RX4 46 yX4_put, Cond.instanceMethod yX4_put, Cond.selects RX4 yX4_put yX4_put, Cond.code yX4_put cX4_put 5 none, Cond.methodLink RX4 54 Lib.Math.min.name, Cond.static Lib.Math.min.name, Cond.code Lib.Math.min.name Lib.Math.min.code 2 (some .int), Cond.methodLink RX4 50 yX4_has, Cond.instanceMethod yX4_has, Cond.selects RX4 yX4_has yX4_has, Cond.code yX4_has cX4_has 2 (some .boolean), Cond.methodLink RX6 100 yX3_size, Cond.methodLink RX6 103 yX3_add, Cond.methodLink RX6 105 yX6_addUses, Cond.instanceMethod yX6_addUses, Cond.selects RX6 yX6_addUses yX6_addUses, Cond.code yX6_addUses cX6_addUses 3 none]
def wsX7_markCollisions_r10 : List Cond := [Cond.methodLink RX6 108 yX3_increase, Cond.instanceMethod yX3_increase, Cond.selects RX3 yX3_increase yX3_increase, Cond.code yX3_increase cX3_increase 2 none, Cond.methodLink RX3 33 yX3_set]
def wsX7_markCollisions : List Cond := .code yX7_markCollisions cX7_markCollisions 3 (some .int) :: ((wsX7_markCollisions_r1 ++ (wsX7_markCollisions_r2 ++ (wsX7_markCollisions_r3 ++ (wsX7_markCollisions_r4 ++ (wsX7_markCollisions_r5 ++ (wsX7_markCollisions_r6 ++ (wsX7_markCollisions_r7 ++ (wsX7_markCollisions_r8 ++ (wsX7_markCollisions_r9 ++ wsX7_markCollisions_r10))))))))) ++ wsX70 ++ wsX00 ++ wsX40 ++ wsX30 ++ wsX60 ++ wsX10 ++ wsX50)
def wsX7_type : List Cond := .code yX7_type cX7_type 2 (some .int) :: ([.fieldLink RX7 14 "SoundSpeller" "text" "LSoundSpeller$Row;", .methodLink RX7 145 yX3_isFull, .instanceMethod yX3_isFull, .selects RX3 yX3_isFull yX3_isFull, .initialized RX3, .code yX3_isFull cX3_isFull 1 (some .boolean), .fieldLink RX3 21 "SoundSpeller$Row" "size" "I", .fieldLink RX3 15 "SoundSpeller$Row" "cells" "[I", .methodLink RX7 148 yX3_add, .instanceMethod yX3_add, .selects RX3 yX3_add yX3_add, .code yX3_add cX3_add 2 none, .methodLink RX7 151 yX3_size, .instanceMethod yX3_size, .selects RX3 yX3_size yX3_size, .code yX3_size cX3_size 1 (some .int)] ++ wsX70 ++ wsX30)
def wsX7_clearText : List Cond := .code yX7_clearText cX7_clearText 2 (some .int) :: ([.fieldLink RX7 14 "SoundSpeller" "text" "LSoundSpeller$Row;", .methodLink RX7 151 yX3_size, .instanceMethod yX3_size, .selects RX3 yX3_size yX3_size, .initialized RX3, .code yX3_size cX3_size 1 (some .int), .fieldLink RX3 21 "SoundSpeller$Row" "size" "I", .methodLink RX7 154 yX3_clear, .instanceMethod yX3_clear, .selects RX3 yX3_clear yX3_clear, .code yX3_clear cX3_clear 1 none] ++ wsX70 ++ wsX30)
def wsX7_convertBack_r1 : List Cond := [Cond.fieldLink RX7 29 "SoundSpeller" "reader" "LSoundSpeller$Reader;", Cond.fieldLink RX7 173 "SoundSpeller$Reader" "letters" "LSoundSpeller$Row;", Cond.fieldLink RX7 65 "SoundSpeller" "survey" "LSoundSpeller$Survey;", Cond.fieldLink RX7 195 "SoundSpeller$Survey" "spellings" "LSoundSpeller$Rows;", Cond.fieldLink RX7 45 "SoundSpeller" "book" "LSoundSpeller$Book;", Cond.fieldLink RX7 169 "SoundSpeller$Book" "letters" "LSoundSpeller$Rows;", Cond.fieldLink RX7 21 "SoundSpeller" "conversion" "LSoundSpeller$Row;", Cond.methodLink RX7 148 yX3_add, Cond.instanceMethod yX3_add, Cond.selects RX3 yX3_add yX3_add, Cond.initialized RX3, Cond.code yX3_add cX3_add 2 none, Cond.fieldLink RX3 21 "SoundSpeller$Row" "size" "I", Cond.fieldLink RX3 15 "SoundSpeller$Row" "cells" "[I", Cond.methodLink RX7 175 yX4_find, Cond.instanceMethod yX4_find, Cond.selects RX4 yX4_find yX4_find, Cond.initialized RX4, Cond.code yX4_find cX4_find 3 (some .int), Cond.fieldLink RX4 28 "SoundSpeller$Rows" "lengths" "LSoundSpeller$Row;", Cond.methodLink RX4 31 yX3_size, Cond.instanceMethod yX3_size, Cond.selects RX3 yX3_size yX3_size, Cond.code yX3_size cX3_size 1 (some .int)]
def wsX7_convertBack_r2 : List Cond := [Cond.methodLink RX4 72 yX4_isLike, Cond.instanceMethod yX4_isLike, Cond.selects RX4 yX4_isLike yX4_isLike, Cond.code yX4_isLike cX4_isLike 4 (some .boolean), Cond.methodLink RX4 35 yX3_get, Cond.instanceMethod yX3_get, Cond.selects RX3 yX3_get yX3_get, Cond.code yX3_get cX3_get 2 (some .int), Cond.methodLink RX4 66 yX4_get, Cond.instanceMethod yX4_get, Cond.selects RX4 yX4_get yX4_get, Cond.code yX4_get cX4_get 4 (some .int), Cond.fieldLink RX4 20 "SoundSpeller$Rows" "cells" "LSoundSpeller$Row;", Cond.fieldLink RX4 9 "SoundSpeller$Rows" "width" "I", Cond.methodLink RX7 198 yX4_copyTo, Cond.instanceMethod yX4_copyTo, Cond.selects RX4 yX4_copyTo yX4_copyTo, Cond.code yX4_copyTo cX4_copyTo 4 none, Cond.methodLink RX4 63 yX3_clear, Cond.instanceMethod yX3_clear, Cond.selects RX3 yX3_clear yX3_clear, Cond.code yX3_clear cX3_clear 1 none, Cond.methodLink RX4 43 yX3_add, Cond.methodLink RX7 202 yX3_dropLast]
def wsX7_convertBack_r3 : List Cond := [Cond.instanceMethod yX3_dropLast, Cond.selects RX3 yX3_dropLast yX3_dropLast, Cond.code yX3_dropLast cX3_dropLast 1 none, Cond.methodLink RX3 9 Lib.Math.max.name, Cond.static Lib.Math.max.name, Cond.initialized "java/lang/Math", Cond.code Lib.Math.max.name Lib.Math.max.code 2 (some .int), Cond.methodLink RX7 192 yX3_addAll, Cond.instanceMethod yX3_addAll, Cond.selects RX3 yX3_addAll yX3_addAll, Cond.code yX3_addAll cX3_addAll 3 none, Cond.methodLink RX3 25 yX3_get, Cond.methodLink RX3 29 yX3_add]
def wsX7_convertBack : List Cond := .code yX7_convertBack cX7_convertBack 3 none :: ((wsX7_convertBack_r1 ++ (wsX7_convertBack_r2 ++ wsX7_convertBack_r3)) ++ wsX70 ++ wsX20 ++ wsX60 ++ wsX00 ++ wsX30 ++ wsX40)
def wsX7_convertThere_r1 : List Cond := [Cond.fieldLink RX7 45 "SoundSpeller" "book" "LSoundSpeller$Book;", Cond.fieldLink RX7 169 "SoundSpeller$Book" "letters" "LSoundSpeller$Rows;", Cond.fieldLink RX7 29 "SoundSpeller" "reader" "LSoundSpeller$Reader;", Cond.fieldLink RX7 173 "SoundSpeller$Reader" "letters" "LSoundSpeller$Row;", Cond.fieldLink RX7 129 "SoundSpeller$Book" "kinds" "LSoundSpeller$Row;", Cond.fieldLink RX7 36 "SoundSpeller" "speller" "LSoundSpeller$Speller;", Cond.fieldLink RX7 21 "SoundSpeller" "conversion" "LSoundSpeller$Row;", Cond.fieldLink RX7 189 "SoundSpeller$Speller" "spelling" "LSoundSpeller$Row;", Cond.methodLink RX7 175 yX4_find, Cond.instanceMethod yX4_find, Cond.selects RX4 yX4_find yX4_find, Cond.initialized RX4, Cond.code yX4_find cX4_find 3 (some .int), Cond.fieldLink RX4 28 "SoundSpeller$Rows" "lengths" "LSoundSpeller$Row;", Cond.methodLink RX4 31 yX3_size, Cond.instanceMethod yX3_size, Cond.selects RX3 yX3_size yX3_size, Cond.initialized RX3, Cond.code yX3_size cX3_size 1 (some .int), Cond.fieldLink RX3 21 "SoundSpeller$Row" "size" "I", Cond.methodLink RX4 72 yX4_isLike, Cond.instanceMethod yX4_isLike, Cond.selects RX4 yX4_isLike yX4_isLike, Cond.code yX4_isLike cX4_isLike 4 (some .boolean)]
def wsX7_convertThere_r2 : List Cond := [Cond.methodLink RX4 35 yX3_get, Cond.instanceMethod yX3_get, Cond.selects RX3 yX3_get yX3_get, Cond.code yX3_get cX3_get 2 (some .int), Cond.fieldLink RX3 15 "SoundSpeller$Row" "cells" "[I", Cond.methodLink RX4 66 yX4_get, Cond.instanceMethod yX4_get, Cond.selects RX4 yX4_get yX4_get, Cond.code yX4_get cX4_get 4 (some .int), Cond.fieldLink RX4 20 "SoundSpeller$Rows" "cells" "LSoundSpeller$Row;", Cond.fieldLink RX4 9 "SoundSpeller$Rows" "width" "I", Cond.methodLink RX7 132 yX3_get, Cond.methodLink RX7 181 yX5_hear, Cond.instanceMethod yX5_hear, Cond.selects RX5 yX5_hear yX5_hear, Cond.initialized RX5, Cond.code yX5_hear cX5_hear 6 none, Cond.fieldLink RX5 14 "SoundSpeller$Speller" "sounds" "LSoundSpeller$Row;", Cond.fieldLink RX5 20 "SoundSpeller$Speller" "rulesAt" "LSoundSpeller$Row;", Cond.fieldLink RX5 23 "SoundSpeller$Speller" "rulesUsed" "LSoundSpeller$Row;", Cond.fieldLink RX5 51 "SoundSpeller$Book" "ruleLetters" "LSoundSpeller$Rows;", Cond.methodLink RX5 29 yX3_clear, Cond.instanceMethod yX3_clear, Cond.selects RX3 yX3_clear yX3_clear]
def wsX7_convertThere_r3 : List Cond := [Cond.code yX3_clear cX3_clear 1 none, Cond.methodLink RX5 32 yX3_size, Cond.methodLink RX5 36 yX5_bestRule, Cond.static yX5_bestRule, Cond.code yX5_bestRule cX5_bestRule 7 (some .int), Cond.fieldLink RX5 72 "SoundSpeller$Book" "ruleSides" "LSoundSpeller$Row;", Cond.methodLink RX5 69 yX0_rules, Cond.instanceMethod yX0_rules, Cond.selects RX0 yX0_rules yX0_rules, Cond.initialized RX0, Cond.code yX0_rules cX0_rules 1 (some .int), Cond.fieldLink RX0 14 "SoundSpeller$Book" "ruleLetters" "LSoundSpeller$Rows;", Cond.methodLink RX0 56 yX4_lines, Cond.instanceMethod yX4_lines, Cond.selects RX4 yX4_lines yX4_lines, Cond.code yX4_lines cX4_lines 1 (some .int), Cond.methodLink RX5 57 yX4_length, Cond.instanceMethod yX4_length, Cond.selects RX4 yX4_length yX4_length, Cond.code yX4_length cX4_length 2 (some .int), Cond.methodLink RX5 40 yX3_get, Cond.methodLink RX5 75 yX5_holds, Cond.static yX5_holds, Cond.code yX5_holds cX5_holds 6 (some .boolean)]
def wsX7_convertThere_r4 : List Cond := [Cond.methodLink RX5 79 yX4_get, Cond.methodLink RX5 82 yX5_sideHolds, Cond.static yX5_sideHolds, Cond.code yX5_sideHolds cX5_sideHolds 4 (some .boolean), Cond.static yX7_isVowel, Cond.initialized RX7, Cond.code yX7_isVowel cX7_isVowel 1 (some .boolean), Cond.methodLink RX5 44 yX3_add, Cond.instanceMethod yX3_add, Cond.selects RX3 yX3_add yX3_add, Cond.code yX3_add cX3_add 2 none, Cond.methodLink RX5 47 yX5_useRule, Cond.instanceMethod yX5_useRule, Cond.selects RX5 yX5_useRule yX5_useRule, Cond.code yX5_useRule cX5_useRule 4 none, Cond.fieldLink RX5 62 "SoundSpeller$Book" "ruleSounds" "LSoundSpeller$Row;", Cond.methodLink RX5 65 yX3_addMany, Cond.instanceMethod yX3_addMany, Cond.selects RX3 yX3_addMany yX3_addMany, Cond.code yX3_addMany cX3_addMany 4 none, Cond.methodLink RX3 29 yX3_add, Cond.methodLink RX7 185 yX5_write, Cond.instanceMethod yX5_write, Cond.selects RX5 yX5_write yX5_write]
def wsX7_convertThere_r5 : List Cond := [Cond.code yX5_write cX5_write 5 none, Cond.fieldLink RX5 26 "SoundSpeller$Speller" "spelling" "LSoundSpeller$Row;", Cond.methodLink RX5 90 yX5_addSign, Cond.instanceMethod yX5_addSign, Cond.selects RX5 yX5_addSign yX5_addSign, Cond.code yX5_addSign cX5_addSign 4 none, Cond.fieldLink RX5 100 "SoundSpeller$Book" "signs" "LSoundSpeller$Rows;", Cond.static yX7_isCapital, Cond.code yX7_isCapital cX7_isCapital 1 (some .boolean), Cond.methodLink RX5 93 yX3_addAll, Cond.instanceMethod yX3_addAll, Cond.selects RX3 yX3_addAll yX3_addAll, Cond.code yX3_addAll cX3_addAll 3 none, Cond.methodLink RX3 25 yX3_get, Cond.methodLink RX7 192 yX3_addAll]
def wsX7_convertThere : List Cond := .code yX7_convertThere cX7_convertThere 3 none :: ((wsX7_convertThere_r1 ++ (wsX7_convertThere_r2 ++ (wsX7_convertThere_r3 ++ (wsX7_convertThere_r4 ++ wsX7_convertThere_r5)))) ++ wsX70 ++ wsX00 ++ wsX20 ++ wsX50 ++ wsX40 ++ wsX30)
def wsX7_convert_r1 : List Cond := [Cond.fieldLink RX7 21 "SoundSpeller" "conversion" "LSoundSpeller$Row;", Cond.fieldLink RX7 29 "SoundSpeller" "reader" "LSoundSpeller$Reader;", Cond.fieldLink RX7 18 "SoundSpeller" "converted" "LSoundSpeller$Row;", Cond.methodLink RX7 154 yX3_clear, Cond.instanceMethod yX3_clear, Cond.selects RX3 yX3_clear yX3_clear, Cond.initialized RX3, Cond.code yX3_clear cX3_clear 1 none, Cond.fieldLink RX3 21 "SoundSpeller$Row" "size" "I", Cond.methodLink RX7 76 yX2_begin, Cond.instanceMethod yX2_begin, Cond.selects RX2 yX2_begin yX2_begin, Cond.initialized RX2, Cond.code yX2_begin cX2_begin 1 none, Cond.fieldLink RX2 23 "SoundSpeller$Reader" "place" "I", Cond.methodLink RX7 157 yX2_takeLetters, Cond.instanceMethod yX2_takeLetters, Cond.selects RX2 yX2_takeLetters yX2_takeLetters, Cond.code yX2_takeLetters cX2_takeLetters 3 (some .boolean), Cond.fieldLink RX2 14 "SoundSpeller$Reader" "letters" "LSoundSpeller$Row;", Cond.fieldLink RX2 20 "SoundSpeller$Reader" "text" "LSoundSpeller$Row;", Cond.methodLink RX2 35 yX3_clear, Cond.methodLink RX2 31 yX3_get, Cond.instanceMethod yX3_get]
def wsX7_convert_r2 : List Cond := [Cond.selects RX3 yX3_get yX3_get, Cond.code yX3_get cX3_get 2 (some .int), Cond.fieldLink RX3 15 "SoundSpeller$Row" "cells" "[I", Cond.static yX7_isSmall, Cond.initialized RX7, Cond.code yX7_isSmall cX7_isSmall 1 (some .boolean), Cond.methodLink RX2 42 yX3_add, Cond.instanceMethod yX3_add, Cond.selects RX3 yX3_add yX3_add, Cond.code yX3_add cX3_add 2 none, Cond.methodLink RX2 27 yX3_size, Cond.instanceMethod yX3_size, Cond.selects RX3 yX3_size yX3_size, Cond.code yX3_size cX3_size 1 (some .int), Cond.methodLink RX7 83 yX2_fault, Cond.instanceMethod yX2_fault, Cond.selects RX2 yX2_fault yX2_fault, Cond.code yX2_fault cX2_fault 1 (some .int), Cond.methodLink RX7 91 yX2_take, Cond.instanceMethod yX2_take, Cond.selects RX2 yX2_take yX2_take, Cond.code yX2_take cX2_take 3 (some .boolean), Cond.methodLink RX7 160 yX7_convertBack, Cond.instanceMethod yX7_convertBack]
def wsX7_convert_r3 : List Cond := [Cond.selects RX7 yX7_convertBack yX7_convertBack, Cond.code yX7_convertBack cX7_convertBack 3 none, Cond.fieldLink RX7 173 "SoundSpeller$Reader" "letters" "LSoundSpeller$Row;", Cond.fieldLink RX7 65 "SoundSpeller" "survey" "LSoundSpeller$Survey;", Cond.fieldLink RX7 195 "SoundSpeller$Survey" "spellings" "LSoundSpeller$Rows;", Cond.fieldLink RX7 45 "SoundSpeller" "book" "LSoundSpeller$Book;", Cond.fieldLink RX7 169 "SoundSpeller$Book" "letters" "LSoundSpeller$Rows;", Cond.methodLink RX7 148 yX3_add, Cond.methodLink RX7 175 yX4_find, Cond.instanceMethod yX4_find, Cond.selects RX4 yX4_find yX4_find, Cond.initialized RX4, Cond.code yX4_find cX4_find 3 (some .int), Cond.fieldLink RX4 28 "SoundSpeller$Rows" "lengths" "LSoundSpeller$Row;", Cond.methodLink RX4 31 yX3_size, Cond.methodLink RX4 72 yX4_isLike, Cond.instanceMethod yX4_isLike, Cond.selects RX4 yX4_isLike yX4_isLike, Cond.code yX4_isLike cX4_isLike 4 (some .boolean), Cond.methodLink RX4 35 yX3_get, Cond.methodLink RX4 66 yX4_get, Cond.instanceMethod yX4_get, Cond.selects RX4 yX4_get yX4_get, Cond.code yX4_get cX4_get 4 (some .int)]
def wsX7_convert_r4 : List Cond := [Cond.fieldLink RX4 20 "SoundSpeller$Rows" "cells" "LSoundSpeller$Row;", Cond.fieldLink RX4 9 "SoundSpeller$Rows" "width" "I", Cond.methodLink RX7 198 yX4_copyTo, Cond.instanceMethod yX4_copyTo, Cond.selects RX4 yX4_copyTo yX4_copyTo, Cond.code yX4_copyTo cX4_copyTo 4 none, Cond.methodLink RX4 63 yX3_clear, Cond.methodLink RX4 43 yX3_add, Cond.methodLink RX7 202 yX3_dropLast, Cond.instanceMethod yX3_dropLast, Cond.selects RX3 yX3_dropLast yX3_dropLast, Cond.code yX3_dropLast cX3_dropLast 1 none, Cond.methodLink RX3 9 Lib.Math.max.name, Cond.static Lib.Math.max.name, Cond.initialized "java/lang/Math", Cond.code Lib.Math.max.name Lib.Math.max.code 2 (some .int), Cond.methodLink RX7 192 yX3_addAll, Cond.instanceMethod yX3_addAll, Cond.selects RX3 yX3_addAll yX3_addAll, Cond.code yX3_addAll cX3_addAll 3 none, Cond.methodLink RX3 25 yX3_get, Cond.methodLink RX3 29 yX3_add, Cond.methodLink RX7 164 yX7_convertThere, Cond.instanceMethod yX7_convertThere]
def wsX7_convert_r5 : List Cond := [Cond.selects RX7 yX7_convertThere yX7_convertThere, Cond.code yX7_convertThere cX7_convertThere 3 none, Cond.fieldLink RX7 129 "SoundSpeller$Book" "kinds" "LSoundSpeller$Row;", Cond.fieldLink RX7 36 "SoundSpeller" "speller" "LSoundSpeller$Speller;", Cond.fieldLink RX7 189 "SoundSpeller$Speller" "spelling" "LSoundSpeller$Row;", Cond.methodLink RX7 132 yX3_get, Cond.methodLink RX7 181 yX5_hear, Cond.instanceMethod yX5_hear, Cond.selects RX5 yX5_hear yX5_hear, Cond.initialized RX5, Cond.code yX5_hear cX5_hear 6 none, Cond.fieldLink RX5 14 "SoundSpeller$Speller" "sounds" "LSoundSpeller$Row;", Cond.fieldLink RX5 20 "SoundSpeller$Speller" "rulesAt" "LSoundSpeller$Row;", Cond.fieldLink RX5 23 "SoundSpeller$Speller" "rulesUsed" "LSoundSpeller$Row;", Cond.fieldLink RX5 51 "SoundSpeller$Book" "ruleLetters" "LSoundSpeller$Rows;", Cond.methodLink RX5 29 yX3_clear, Cond.methodLink RX5 32 yX3_size, Cond.methodLink RX5 36 yX5_bestRule, Cond.static yX5_bestRule, Cond.code yX5_bestRule cX5_bestRule 7 (some .int), Cond.fieldLink RX5 72 "SoundSpeller$Book" "ruleSides" "LSoundSpeller$Row;", Cond.methodLink RX5 69 yX0_rules, Cond.instanceMethod yX0_rules, Cond.selects RX0 yX0_rules yX0_rules]
def wsX7_convert_r6 : List Cond := [Cond.initialized RX0, Cond.code yX0_rules cX0_rules 1 (some .int), Cond.fieldLink RX0 14 "SoundSpeller$Book" "ruleLetters" "LSoundSpeller$Rows;", Cond.methodLink RX0 56 yX4_lines, Cond.instanceMethod yX4_lines, Cond.selects RX4 yX4_lines yX4_lines, Cond.code yX4_lines cX4_lines 1 (some .int), Cond.methodLink RX5 57 yX4_length, Cond.instanceMethod yX4_length, Cond.selects RX4 yX4_length yX4_length, Cond.code yX4_length cX4_length 2 (some .int), Cond.methodLink RX5 40 yX3_get, Cond.methodLink RX5 75 yX5_holds, Cond.static yX5_holds, Cond.code yX5_holds cX5_holds 6 (some .boolean), Cond.methodLink RX5 79 yX4_get, Cond.methodLink RX5 82 yX5_sideHolds, Cond.static yX5_sideHolds, Cond.code yX5_sideHolds cX5_sideHolds 4 (some .boolean), Cond.static yX7_isVowel, Cond.code yX7_isVowel cX7_isVowel 1 (some .boolean), Cond.methodLink RX5 44 yX3_add, Cond.methodLink RX5 47 yX5_useRule, Cond.instanceMethod yX5_useRule]
def wsX7_convert_r7 : List Cond := [Cond.selects RX5 yX5_useRule yX5_useRule, Cond.code yX5_useRule cX5_useRule 4 none, Cond.fieldLink RX5 62 "SoundSpeller$Book" "ruleSounds" "LSoundSpeller$Row;", Cond.methodLink RX5 65 yX3_addMany, Cond.instanceMethod yX3_addMany, Cond.selects RX3 yX3_addMany yX3_addMany, Cond.code yX3_addMany cX3_addMany 4 none, Cond.methodLink RX7 185 yX5_write, Cond.instanceMethod yX5_write, Cond.selects RX5 yX5_write yX5_write, Cond.code yX5_write cX5_write 5 none, Cond.fieldLink RX5 26 "SoundSpeller$Speller" "spelling" "LSoundSpeller$Row;", Cond.methodLink RX5 90 yX5_addSign, Cond.instanceMethod yX5_addSign, Cond.selects RX5 yX5_addSign yX5_addSign, Cond.code yX5_addSign cX5_addSign 4 none, Cond.fieldLink RX5 100 "SoundSpeller$Book" "signs" "LSoundSpeller$Rows;", Cond.static yX7_isCapital, Cond.code yX7_isCapital cX7_isCapital 1 (some .boolean), Cond.methodLink RX5 93 yX3_addAll, Cond.methodLink RX7 95 yX2_isAtEnd, Cond.instanceMethod yX2_isAtEnd, Cond.selects RX2 yX2_isAtEnd yX2_isAtEnd, Cond.code yX2_isAtEnd cX2_isAtEnd 1 (some .boolean)]
def wsX7_convert_r8 : List Cond := [Cond.methodLink RX7 167 yX3_copyFrom, Cond.instanceMethod yX3_copyFrom, Cond.selects RX3 yX3_copyFrom yX3_copyFrom, Cond.code yX3_copyFrom cX3_copyFrom 2 none, Cond.methodLink RX3 37 yX3_clear, Cond.methodLink RX3 40 yX3_addAll, Cond.methodLink RX7 151 yX3_size]
def wsX7_convert : List Cond := .code yX7_convert cX7_convert 4 (some .int) :: ((wsX7_convert_r1 ++ (wsX7_convert_r2 ++ (wsX7_convert_r3 ++ (wsX7_convert_r4 ++ (wsX7_convert_r5 ++ (wsX7_convert_r6 ++ (wsX7_convert_r7 ++ wsX7_convert_r8))))))) ++ wsX70 ++ wsX30 ++ wsX20 ++ wsX60 ++ wsX00 ++ wsX40 ++ wsX50)
def wsX7_takeResult_r1 : List Cond := [Cond.fieldLink RX7 18 "SoundSpeller" "converted" "LSoundSpeller$Row;", Cond.fieldLink RX7 14 "SoundSpeller" "text" "LSoundSpeller$Row;", Cond.methodLink RX7 151 yX3_size, Cond.instanceMethod yX3_size, Cond.selects RX3 yX3_size yX3_size, Cond.initialized RX3, Cond.code yX3_size cX3_size 1 (some .int), Cond.fieldLink RX3 21 "SoundSpeller$Row" "size" "I", Cond.methodLink RX7 167 yX3_copyFrom, Cond.instanceMethod yX3_copyFrom, Cond.selects RX3 yX3_copyFrom yX3_copyFrom, Cond.code yX3_copyFrom cX3_copyFrom 2 none, Cond.methodLink RX3 37 yX3_clear, Cond.instanceMethod yX3_clear, Cond.selects RX3 yX3_clear yX3_clear, Cond.code yX3_clear cX3_clear 1 none, Cond.methodLink RX3 40 yX3_addAll, Cond.instanceMethod yX3_addAll, Cond.selects RX3 yX3_addAll yX3_addAll, Cond.code yX3_addAll cX3_addAll 3 none, Cond.methodLink RX3 25 yX3_get, Cond.instanceMethod yX3_get, Cond.selects RX3 yX3_get yX3_get, Cond.code yX3_get cX3_get 2 (some .int)]
def wsX7_takeResult_r2 : List Cond := [Cond.fieldLink RX3 15 "SoundSpeller$Row" "cells" "[I", Cond.methodLink RX3 29 yX3_add, Cond.instanceMethod yX3_add, Cond.selects RX3 yX3_add yX3_add, Cond.code yX3_add cX3_add 2 none]
def wsX7_takeResult : List Cond := .code yX7_takeResult cX7_takeResult 1 (some .int) :: ((wsX7_takeResult_r1 ++ wsX7_takeResult_r2) ++ wsX70 ++ wsX30)
def wsX7_undo_r1 : List Cond := [Cond.fieldLink RX7 58 "SoundSpeller" "history" "LSoundSpeller$History;", Cond.fieldLink RX7 45 "SoundSpeller" "book" "LSoundSpeller$Book;", Cond.fieldLink RX7 65 "SoundSpeller" "survey" "LSoundSpeller$Survey;", Cond.methodLink RX7 205 yX1_states, Cond.instanceMethod yX1_states, Cond.selects RX1 yX1_states yX1_states, Cond.initialized RX1, Cond.code yX1_states cX1_states 1 (some .int), Cond.fieldLink RX1 20 "SoundSpeller$History" "size" "I", Cond.methodLink RX7 208 yX1_bringBack, Cond.instanceMethod yX1_bringBack, Cond.selects RX1 yX1_bringBack yX1_bringBack, Cond.code yX1_bringBack cX1_bringBack 3 none, Cond.fieldLink RX1 11 "SoundSpeller$History" "states" "[LSoundSpeller$Book;", Cond.methodLink RX1 27 yX0_copyFrom, Cond.instanceMethod yX0_copyFrom, Cond.selects RX0 yX0_copyFrom yX0_copyFrom, Cond.initialized RX0, Cond.code yX0_copyFrom cX0_copyFrom 2 none, Cond.fieldLink RX0 14 "SoundSpeller$Book" "ruleLetters" "LSoundSpeller$Rows;", Cond.fieldLink RX0 25 "SoundSpeller$Book" "ruleSounds" "LSoundSpeller$Row;", Cond.fieldLink RX0 29 "SoundSpeller$Book" "ruleSides" "LSoundSpeller$Row;", Cond.fieldLink RX0 32 "SoundSpeller$Book" "signs" "LSoundSpeller$Rows;", Cond.fieldLink RX0 35 "SoundSpeller$Book" "letters" "LSoundSpeller$Rows;"]
def wsX7_undo_r2 : List Cond := [Cond.fieldLink RX0 38 "SoundSpeller$Book" "kinds" "LSoundSpeller$Row;", Cond.methodLink RX0 50 yX4_copyFrom, Cond.instanceMethod yX4_copyFrom, Cond.selects RX4 yX4_copyFrom yX4_copyFrom, Cond.initialized RX4, Cond.code yX4_copyFrom cX4_copyFrom 3 none, Cond.fieldLink RX4 28 "SoundSpeller$Rows" "lengths" "LSoundSpeller$Row;", Cond.fieldLink RX4 9 "SoundSpeller$Rows" "width" "I", Cond.fieldLink RX4 20 "SoundSpeller$Rows" "cells" "LSoundSpeller$Row;", Cond.methodLink RX4 68 yX3_copyFrom, Cond.instanceMethod yX3_copyFrom, Cond.selects RX3 yX3_copyFrom yX3_copyFrom, Cond.initialized RX3, Cond.code yX3_copyFrom cX3_copyFrom 2 none, Cond.methodLink RX3 37 yX3_clear, Cond.instanceMethod yX3_clear, Cond.selects RX3 yX3_clear yX3_clear, Cond.code yX3_clear cX3_clear 1 none, Cond.fieldLink RX3 21 "SoundSpeller$Row" "size" "I", Cond.methodLink RX3 40 yX3_addAll, Cond.instanceMethod yX3_addAll, Cond.selects RX3 yX3_addAll yX3_addAll, Cond.code yX3_addAll cX3_addAll 3 none, Cond.methodLink RX3 25 yX3_get]
def wsX7_undo_r3 : List Cond := [Cond.instanceMethod yX3_get, Cond.selects RX3 yX3_get yX3_get, Cond.code yX3_get cX3_get 2 (some .int), Cond.fieldLink RX3 15 "SoundSpeller$Row" "cells" "[I", Cond.methodLink RX3 29 yX3_add, Cond.instanceMethod yX3_add, Cond.selects RX3 yX3_add yX3_add, Cond.code yX3_add cX3_add 2 none, Cond.methodLink RX4 31 yX3_size, Cond.instanceMethod yX3_size, Cond.selects RX3 yX3_size yX3_size, Cond.code yX3_size cX3_size 1 (some .int), Cond.methodLink RX4 35 yX3_get, Cond.methodLink RX4 60 yX3_set, Cond.instanceMethod yX3_set, Cond.selects RX3 yX3_set yX3_set, Cond.code yX3_set cX3_set 3 none, Cond.methodLink RX0 54 yX3_copyFrom, Cond.methodLink RX7 107 yX6_renew, Cond.instanceMethod yX6_renew, Cond.selects RX6 yX6_renew yX6_renew, Cond.initialized RX6, Cond.code yX6_renew cX6_renew 3 none, Cond.fieldLink RX6 14 "SoundSpeller$Survey" "sounds" "LSoundSpeller$Rows;"]
def wsX7_undo_r4 : List Cond := [Cond.fieldLink RX6 20 "SoundSpeller$Survey" "rulesAt" "LSoundSpeller$Rows;", Cond.fieldLink RX6 23 "SoundSpeller$Survey" "spellings" "LSoundSpeller$Rows;", Cond.fieldLink RX6 31 "SoundSpeller$Survey" "wordUses" "LSoundSpeller$Row;", Cond.fieldLink RX6 35 "SoundSpeller$Survey" "ruleUses" "LSoundSpeller$Row;", Cond.fieldLink RX6 64 "SoundSpeller$Book" "letters" "LSoundSpeller$Rows;", Cond.fieldLink RX6 45 "SoundSpeller$Survey" "word" "LSoundSpeller$Row;", Cond.fieldLink RX6 41 "SoundSpeller$Survey" "speller" "LSoundSpeller$Speller;", Cond.fieldLink RX6 75 "SoundSpeller$Book" "kinds" "LSoundSpeller$Row;", Cond.fieldLink RX6 86 "SoundSpeller$Speller" "sounds" "LSoundSpeller$Row;", Cond.fieldLink RX6 92 "SoundSpeller$Speller" "rulesAt" "LSoundSpeller$Row;", Cond.fieldLink RX6 94 "SoundSpeller$Speller" "spelling" "LSoundSpeller$Row;", Cond.fieldLink RX6 97 "SoundSpeller$Speller" "rulesUsed" "LSoundSpeller$Row;", Cond.methodLink RX6 48 yX4_clear, Cond.instanceMethod yX4_clear, Cond.selects RX4 yX4_clear yX4_clear, Cond.code yX4_clear cX4_clear 1 none, Cond.methodLink RX4 63 yX3_clear, Cond.methodLink RX6 51 yX3_clear, Cond.methodLink RX6 52 yX0_rules, Cond.instanceMethod yX0_rules, Cond.selects RX0 yX0_rules yX0_rules, Cond.code yX0_rules cX0_rules 1 (some .int), Cond.methodLink RX0 56 yX4_lines, Cond.instanceMethod yX4_lines]
def wsX7_undo_r5 : List Cond := [Cond.selects RX4 yX4_lines yX4_lines, Cond.code yX4_lines cX4_lines 1 (some .int), Cond.methodLink RX6 58 yX3_addMany, Cond.instanceMethod yX3_addMany, Cond.selects RX3 yX3_addMany yX3_addMany, Cond.code yX3_addMany cX3_addMany 4 none, Cond.methodLink RX6 61 yX0_words, Cond.instanceMethod yX0_words, Cond.selects RX0 yX0_words yX0_words, Cond.code yX0_words cX0_words 1 (some .int), Cond.methodLink RX6 67 yX4_copyTo, Cond.instanceMethod yX4_copyTo, Cond.selects RX4 yX4_copyTo yX4_copyTo, Cond.code yX4_copyTo cX4_copyTo 4 none, Cond.methodLink RX4 66 yX4_get, Cond.instanceMethod yX4_get, Cond.selects RX4 yX4_get yX4_get, Cond.code yX4_get cX4_get 4 (some .int), Cond.methodLink RX4 43 yX3_add, Cond.methodLink RX6 71 yX5_hear, Cond.instanceMethod yX5_hear, Cond.selects RX5 yX5_hear yX5_hear, Cond.initialized RX5, Cond.code yX5_hear cX5_hear 6 none]
def wsX7_undo_r6 : List Cond := [Cond.fieldLink RX5 14 "SoundSpeller$Speller" "sounds" "LSoundSpeller$Row;", Cond.fieldLink RX5 20 "SoundSpeller$Speller" "rulesAt" "LSoundSpeller$Row;", Cond.fieldLink RX5 23 "SoundSpeller$Speller" "rulesUsed" "LSoundSpeller$Row;", Cond.fieldLink RX5 51 "SoundSpeller$Book" "ruleLetters" "LSoundSpeller$Rows;", Cond.methodLink RX5 29 yX3_clear, Cond.methodLink RX5 32 yX3_size, Cond.methodLink RX5 36 yX5_bestRule, Cond.static yX5_bestRule, Cond.code yX5_bestRule cX5_bestRule 7 (some .int), Cond.fieldLink RX5 72 "SoundSpeller$Book" "ruleSides" "LSoundSpeller$Row;", Cond.methodLink RX5 69 yX0_rules, Cond.methodLink RX5 57 yX4_length, Cond.instanceMethod yX4_length, Cond.selects RX4 yX4_length yX4_length, Cond.code yX4_length cX4_length 2 (some .int), Cond.methodLink RX5 40 yX3_get, Cond.methodLink RX5 75 yX5_holds, Cond.static yX5_holds, Cond.code yX5_holds cX5_holds 6 (some .boolean), Cond.methodLink RX5 79 yX4_get, Cond.methodLink RX5 82 yX5_sideHolds, Cond.static yX5_sideHolds, Cond.code yX5_sideHolds cX5_sideHolds 4 (some .boolean), Cond.static yX7_isVowel]
def wsX7_undo_r7 : List Cond := [Cond.initialized RX7, Cond.code yX7_isVowel cX7_isVowel 1 (some .boolean), Cond.methodLink RX5 44 yX3_add, Cond.methodLink RX5 47 yX5_useRule, Cond.instanceMethod yX5_useRule, Cond.selects RX5 yX5_useRule yX5_useRule, Cond.code yX5_useRule cX5_useRule 4 none, Cond.fieldLink RX5 62 "SoundSpeller$Book" "ruleSounds" "LSoundSpeller$Row;", Cond.methodLink RX5 65 yX3_addMany, Cond.methodLink RX6 78 yX3_get, Cond.methodLink RX6 82 yX5_write, Cond.instanceMethod yX5_write, Cond.selects RX5 yX5_write yX5_write, Cond.code yX5_write cX5_write 5 none, Cond.fieldLink RX5 26 "SoundSpeller$Speller" "spelling" "LSoundSpeller$Row;", Cond.methodLink RX5 90 yX5_addSign, Cond.instanceMethod yX5_addSign, Cond.selects RX5 yX5_addSign yX5_addSign, Cond.code yX5_addSign cX5_addSign 4 none, Cond.fieldLink RX5 100 "SoundSpeller$Book" "signs" "LSoundSpeller$Rows;", Cond.static yX7_isCapital, Cond.code yX7_isCapital cX7_isCapital 1 (some .boolean), Cond.methodLink RX5 93 yX3_addAll, Cond.methodLink RX6 88 yX4_add]
def wsX7_undo_r8 : List Cond := [Cond.instanceMethod yX4_add, Cond.selects RX4 yX4_add yX4_add, Cond.code yX4_add cX4_add 2 none, Cond.methodLink RX4 39 yX3_isFull, Cond.instanceMethod yX3_isFull, Cond.selects RX3 yX3_isFull yX3_isFull, Cond.code yX3_isFull cX3_isFull 1 (some .boolean), Cond.methodLink RX4 46 yX4_put, Cond.instanceMethod yX4_put, Cond.selects RX4 yX4_put yX4_put, Cond.code yX4_put cX4_put 5 none, Cond.methodLink RX4 54 Lib.Math.min.name, Cond.static Lib.Math.min.name, Cond.initialized "java/lang/Math", Cond.code Lib.Math.min.name Lib.Math.min.code 2 (some .int), Cond.methodLink RX4 50 yX4_has, Cond.instanceMethod yX4_has, Cond.selects RX4 yX4_has yX4_has, Cond.code yX4_has cX4_has 2 (some .boolean), Cond.methodLink RX6 100 yX3_size, Cond.methodLink RX6 103 yX3_add, Cond.methodLink RX6 105 yX6_addUses, Cond.instanceMethod yX6_addUses, Cond.selects RX6 yX6_addUses yX6_addUses]
def wsX7_undo_r9 : List Cond := [Cond.code yX6_addUses cX6_addUses 3 none, Cond.methodLink RX6 108 yX3_increase, Cond.instanceMethod yX3_increase, Cond.selects RX3 yX3_increase yX3_increase, Cond.code yX3_increase cX3_increase 2 none, Cond.methodLink RX3 33 yX3_set]
def wsX7_undo : List Cond := .code yX7_undo cX7_undo 1 (some .int) :: ((wsX7_undo_r1 ++ (wsX7_undo_r2 ++ (wsX7_undo_r3 ++ (wsX7_undo_r4 ++ (wsX7_undo_r5 ++ (wsX7_undo_r6 ++ (wsX7_undo_r7 ++ (wsX7_undo_r8 ++ wsX7_undo_r9)))))))) ++ wsX70 ++ wsX10 ++ wsX00 ++ wsX40 ++ wsX30 ++ wsX60 ++ wsX50)
def wsX7_keep_r1 : List Cond := [Cond.fieldLink RX7 52 "SoundSpeller" "snapshot" "LSoundSpeller$Book;", Cond.fieldLink RX7 45 "SoundSpeller" "book" "LSoundSpeller$Book;", Cond.fieldLink RX7 211 "SoundSpeller" "hasSnapshot" "Z", Cond.methodLink RX7 72 yX0_copyFrom, Cond.instanceMethod yX0_copyFrom, Cond.selects RX0 yX0_copyFrom yX0_copyFrom, Cond.initialized RX0, Cond.code yX0_copyFrom cX0_copyFrom 2 none, Cond.fieldLink RX0 14 "SoundSpeller$Book" "ruleLetters" "LSoundSpeller$Rows;", Cond.fieldLink RX0 25 "SoundSpeller$Book" "ruleSounds" "LSoundSpeller$Row;", Cond.fieldLink RX0 29 "SoundSpeller$Book" "ruleSides" "LSoundSpeller$Row;", Cond.fieldLink RX0 32 "SoundSpeller$Book" "signs" "LSoundSpeller$Rows;", Cond.fieldLink RX0 35 "SoundSpeller$Book" "letters" "LSoundSpeller$Rows;", Cond.fieldLink RX0 38 "SoundSpeller$Book" "kinds" "LSoundSpeller$Row;", Cond.methodLink RX0 50 yX4_copyFrom, Cond.instanceMethod yX4_copyFrom, Cond.selects RX4 yX4_copyFrom yX4_copyFrom, Cond.initialized RX4, Cond.code yX4_copyFrom cX4_copyFrom 3 none, Cond.fieldLink RX4 28 "SoundSpeller$Rows" "lengths" "LSoundSpeller$Row;", Cond.fieldLink RX4 9 "SoundSpeller$Rows" "width" "I", Cond.fieldLink RX4 20 "SoundSpeller$Rows" "cells" "LSoundSpeller$Row;", Cond.methodLink RX4 68 yX3_copyFrom, Cond.instanceMethod yX3_copyFrom]
def wsX7_keep_r2 : List Cond := [Cond.selects RX3 yX3_copyFrom yX3_copyFrom, Cond.initialized RX3, Cond.code yX3_copyFrom cX3_copyFrom 2 none, Cond.methodLink RX3 37 yX3_clear, Cond.instanceMethod yX3_clear, Cond.selects RX3 yX3_clear yX3_clear, Cond.code yX3_clear cX3_clear 1 none, Cond.fieldLink RX3 21 "SoundSpeller$Row" "size" "I", Cond.methodLink RX3 40 yX3_addAll, Cond.instanceMethod yX3_addAll, Cond.selects RX3 yX3_addAll yX3_addAll, Cond.code yX3_addAll cX3_addAll 3 none, Cond.methodLink RX3 25 yX3_get, Cond.instanceMethod yX3_get, Cond.selects RX3 yX3_get yX3_get, Cond.code yX3_get cX3_get 2 (some .int), Cond.fieldLink RX3 15 "SoundSpeller$Row" "cells" "[I", Cond.methodLink RX3 29 yX3_add, Cond.instanceMethod yX3_add, Cond.selects RX3 yX3_add yX3_add, Cond.code yX3_add cX3_add 2 none, Cond.methodLink RX4 31 yX3_size, Cond.instanceMethod yX3_size, Cond.selects RX3 yX3_size yX3_size]
def wsX7_keep_r3 : List Cond := [Cond.code yX3_size cX3_size 1 (some .int), Cond.methodLink RX4 35 yX3_get, Cond.methodLink RX4 60 yX3_set, Cond.instanceMethod yX3_set, Cond.selects RX3 yX3_set yX3_set, Cond.code yX3_set cX3_set 3 none, Cond.methodLink RX0 54 yX3_copyFrom, Cond.methodLink RX7 101 yX0_words, Cond.instanceMethod yX0_words, Cond.selects RX0 yX0_words yX0_words, Cond.code yX0_words cX0_words 1 (some .int), Cond.methodLink RX0 56 yX4_lines, Cond.instanceMethod yX4_lines, Cond.selects RX4 yX4_lines yX4_lines, Cond.code yX4_lines cX4_lines 1 (some .int)]
def wsX7_keep : List Cond := .code yX7_keep cX7_keep 1 (some .int) :: ((wsX7_keep_r1 ++ (wsX7_keep_r2 ++ wsX7_keep_r3)) ++ wsX70 ++ wsX00 ++ wsX40 ++ wsX30)
def wsX7_restore_r1 : List Cond := [Cond.fieldLink RX7 211 "SoundSpeller" "hasSnapshot" "Z", Cond.fieldLink RX7 58 "SoundSpeller" "history" "LSoundSpeller$History;", Cond.fieldLink RX7 45 "SoundSpeller" "book" "LSoundSpeller$Book;", Cond.fieldLink RX7 52 "SoundSpeller" "snapshot" "LSoundSpeller$Book;", Cond.fieldLink RX7 65 "SoundSpeller" "survey" "LSoundSpeller$Survey;", Cond.methodLink RX7 104 yX1_record, Cond.instanceMethod yX1_record, Cond.selects RX1 yX1_record yX1_record, Cond.initialized RX1, Cond.code yX1_record cX1_record 2 none, Cond.fieldLink RX1 20 "SoundSpeller$History" "size" "I", Cond.fieldLink RX1 11 "SoundSpeller$History" "states" "[LSoundSpeller$Book;", Cond.methodLink RX1 24 yX1_dropOldest, Cond.instanceMethod yX1_dropOldest, Cond.selects RX1 yX1_dropOldest yX1_dropOldest, Cond.code yX1_dropOldest cX1_dropOldest 3 none, Cond.methodLink RX1 31 Lib.Math.max.name, Cond.static Lib.Math.max.name, Cond.initialized "java/lang/Math", Cond.code Lib.Math.max.name Lib.Math.max.code 2 (some .int), Cond.methodLink RX1 27 yX0_copyFrom, Cond.instanceMethod yX0_copyFrom, Cond.selects RX0 yX0_copyFrom yX0_copyFrom, Cond.initialized RX0]
def wsX7_restore_r2 : List Cond := [Cond.code yX0_copyFrom cX0_copyFrom 2 none, Cond.fieldLink RX0 14 "SoundSpeller$Book" "ruleLetters" "LSoundSpeller$Rows;", Cond.fieldLink RX0 25 "SoundSpeller$Book" "ruleSounds" "LSoundSpeller$Row;", Cond.fieldLink RX0 29 "SoundSpeller$Book" "ruleSides" "LSoundSpeller$Row;", Cond.fieldLink RX0 32 "SoundSpeller$Book" "signs" "LSoundSpeller$Rows;", Cond.fieldLink RX0 35 "SoundSpeller$Book" "letters" "LSoundSpeller$Rows;", Cond.fieldLink RX0 38 "SoundSpeller$Book" "kinds" "LSoundSpeller$Row;", Cond.methodLink RX0 50 yX4_copyFrom, Cond.instanceMethod yX4_copyFrom, Cond.selects RX4 yX4_copyFrom yX4_copyFrom, Cond.initialized RX4, Cond.code yX4_copyFrom cX4_copyFrom 3 none, Cond.fieldLink RX4 28 "SoundSpeller$Rows" "lengths" "LSoundSpeller$Row;", Cond.fieldLink RX4 9 "SoundSpeller$Rows" "width" "I", Cond.fieldLink RX4 20 "SoundSpeller$Rows" "cells" "LSoundSpeller$Row;", Cond.methodLink RX4 68 yX3_copyFrom, Cond.instanceMethod yX3_copyFrom, Cond.selects RX3 yX3_copyFrom yX3_copyFrom, Cond.initialized RX3, Cond.code yX3_copyFrom cX3_copyFrom 2 none, Cond.methodLink RX3 37 yX3_clear, Cond.instanceMethod yX3_clear, Cond.selects RX3 yX3_clear yX3_clear, Cond.code yX3_clear cX3_clear 1 none]
def wsX7_restore_r3 : List Cond := [Cond.fieldLink RX3 21 "SoundSpeller$Row" "size" "I", Cond.methodLink RX3 40 yX3_addAll, Cond.instanceMethod yX3_addAll, Cond.selects RX3 yX3_addAll yX3_addAll, Cond.code yX3_addAll cX3_addAll 3 none, Cond.methodLink RX3 25 yX3_get, Cond.instanceMethod yX3_get, Cond.selects RX3 yX3_get yX3_get, Cond.code yX3_get cX3_get 2 (some .int), Cond.fieldLink RX3 15 "SoundSpeller$Row" "cells" "[I", Cond.methodLink RX3 29 yX3_add, Cond.instanceMethod yX3_add, Cond.selects RX3 yX3_add yX3_add, Cond.code yX3_add cX3_add 2 none, Cond.methodLink RX4 31 yX3_size, Cond.instanceMethod yX3_size, Cond.selects RX3 yX3_size yX3_size, Cond.code yX3_size cX3_size 1 (some .int), Cond.methodLink RX4 35 yX3_get, Cond.methodLink RX4 60 yX3_set, Cond.instanceMethod yX3_set, Cond.selects RX3 yX3_set yX3_set, Cond.code yX3_set cX3_set 3 none, Cond.methodLink RX0 54 yX3_copyFrom]
def wsX7_restore_r4 : List Cond := [Cond.methodLink RX7 72 yX0_copyFrom, Cond.methodLink RX7 107 yX6_renew, Cond.instanceMethod yX6_renew, Cond.selects RX6 yX6_renew yX6_renew, Cond.initialized RX6, Cond.code yX6_renew cX6_renew 3 none, Cond.fieldLink RX6 14 "SoundSpeller$Survey" "sounds" "LSoundSpeller$Rows;", Cond.fieldLink RX6 20 "SoundSpeller$Survey" "rulesAt" "LSoundSpeller$Rows;", Cond.fieldLink RX6 23 "SoundSpeller$Survey" "spellings" "LSoundSpeller$Rows;", Cond.fieldLink RX6 31 "SoundSpeller$Survey" "wordUses" "LSoundSpeller$Row;", Cond.fieldLink RX6 35 "SoundSpeller$Survey" "ruleUses" "LSoundSpeller$Row;", Cond.fieldLink RX6 64 "SoundSpeller$Book" "letters" "LSoundSpeller$Rows;", Cond.fieldLink RX6 45 "SoundSpeller$Survey" "word" "LSoundSpeller$Row;", Cond.fieldLink RX6 41 "SoundSpeller$Survey" "speller" "LSoundSpeller$Speller;", Cond.fieldLink RX6 75 "SoundSpeller$Book" "kinds" "LSoundSpeller$Row;", Cond.fieldLink RX6 86 "SoundSpeller$Speller" "sounds" "LSoundSpeller$Row;", Cond.fieldLink RX6 92 "SoundSpeller$Speller" "rulesAt" "LSoundSpeller$Row;", Cond.fieldLink RX6 94 "SoundSpeller$Speller" "spelling" "LSoundSpeller$Row;", Cond.fieldLink RX6 97 "SoundSpeller$Speller" "rulesUsed" "LSoundSpeller$Row;", Cond.methodLink RX6 48 yX4_clear, Cond.instanceMethod yX4_clear, Cond.selects RX4 yX4_clear yX4_clear, Cond.code yX4_clear cX4_clear 1 none, Cond.methodLink RX4 63 yX3_clear]
def wsX7_restore_r5 : List Cond := [Cond.methodLink RX6 51 yX3_clear, Cond.methodLink RX6 52 yX0_rules, Cond.instanceMethod yX0_rules, Cond.selects RX0 yX0_rules yX0_rules, Cond.code yX0_rules cX0_rules 1 (some .int), Cond.methodLink RX0 56 yX4_lines, Cond.instanceMethod yX4_lines, Cond.selects RX4 yX4_lines yX4_lines, Cond.code yX4_lines cX4_lines 1 (some .int), Cond.methodLink RX6 58 yX3_addMany, Cond.instanceMethod yX3_addMany, Cond.selects RX3 yX3_addMany yX3_addMany, Cond.code yX3_addMany cX3_addMany 4 none, Cond.methodLink RX6 61 yX0_words, Cond.instanceMethod yX0_words, Cond.selects RX0 yX0_words yX0_words, Cond.code yX0_words cX0_words 1 (some .int), Cond.methodLink RX6 67 yX4_copyTo, Cond.instanceMethod yX4_copyTo, Cond.selects RX4 yX4_copyTo yX4_copyTo, Cond.code yX4_copyTo cX4_copyTo 4 none, Cond.methodLink RX4 66 yX4_get, Cond.instanceMethod yX4_get, Cond.selects RX4 yX4_get yX4_get]
def wsX7_restore_r6 : List Cond := [Cond.code yX4_get cX4_get 4 (some .int), Cond.methodLink RX4 43 yX3_add, Cond.methodLink RX6 71 yX5_hear, Cond.instanceMethod yX5_hear, Cond.selects RX5 yX5_hear yX5_hear, Cond.initialized RX5, Cond.code yX5_hear cX5_hear 6 none, Cond.fieldLink RX5 14 "SoundSpeller$Speller" "sounds" "LSoundSpeller$Row;", Cond.fieldLink RX5 20 "SoundSpeller$Speller" "rulesAt" "LSoundSpeller$Row;", Cond.fieldLink RX5 23 "SoundSpeller$Speller" "rulesUsed" "LSoundSpeller$Row;", Cond.fieldLink RX5 51 "SoundSpeller$Book" "ruleLetters" "LSoundSpeller$Rows;", Cond.methodLink RX5 29 yX3_clear, Cond.methodLink RX5 32 yX3_size, Cond.methodLink RX5 36 yX5_bestRule, Cond.static yX5_bestRule, Cond.code yX5_bestRule cX5_bestRule 7 (some .int), Cond.fieldLink RX5 72 "SoundSpeller$Book" "ruleSides" "LSoundSpeller$Row;", Cond.methodLink RX5 69 yX0_rules, Cond.methodLink RX5 57 yX4_length, Cond.instanceMethod yX4_length, Cond.selects RX4 yX4_length yX4_length, Cond.code yX4_length cX4_length 2 (some .int), Cond.methodLink RX5 40 yX3_get, Cond.methodLink RX5 75 yX5_holds]
def wsX7_restore_r7 : List Cond := [Cond.static yX5_holds, Cond.code yX5_holds cX5_holds 6 (some .boolean), Cond.methodLink RX5 79 yX4_get, Cond.methodLink RX5 82 yX5_sideHolds, Cond.static yX5_sideHolds, Cond.code yX5_sideHolds cX5_sideHolds 4 (some .boolean), Cond.static yX7_isVowel, Cond.initialized RX7, Cond.code yX7_isVowel cX7_isVowel 1 (some .boolean), Cond.methodLink RX5 44 yX3_add, Cond.methodLink RX5 47 yX5_useRule, Cond.instanceMethod yX5_useRule, Cond.selects RX5 yX5_useRule yX5_useRule, Cond.code yX5_useRule cX5_useRule 4 none, Cond.fieldLink RX5 62 "SoundSpeller$Book" "ruleSounds" "LSoundSpeller$Row;", Cond.methodLink RX5 65 yX3_addMany, Cond.methodLink RX6 78 yX3_get, Cond.methodLink RX6 82 yX5_write, Cond.instanceMethod yX5_write, Cond.selects RX5 yX5_write yX5_write, Cond.code yX5_write cX5_write 5 none, Cond.fieldLink RX5 26 "SoundSpeller$Speller" "spelling" "LSoundSpeller$Row;", Cond.methodLink RX5 90 yX5_addSign, Cond.instanceMethod yX5_addSign]
def wsX7_restore_r8 : List Cond := [Cond.selects RX5 yX5_addSign yX5_addSign, Cond.code yX5_addSign cX5_addSign 4 none, Cond.fieldLink RX5 100 "SoundSpeller$Book" "signs" "LSoundSpeller$Rows;", Cond.static yX7_isCapital, Cond.code yX7_isCapital cX7_isCapital 1 (some .boolean), Cond.methodLink RX5 93 yX3_addAll, Cond.methodLink RX6 88 yX4_add, Cond.instanceMethod yX4_add, Cond.selects RX4 yX4_add yX4_add, Cond.code yX4_add cX4_add 2 none, Cond.methodLink RX4 39 yX3_isFull, Cond.instanceMethod yX3_isFull, Cond.selects RX3 yX3_isFull yX3_isFull, Cond.code yX3_isFull cX3_isFull 1 (some .boolean), Cond.methodLink RX4 46 yX4_put, Cond.instanceMethod yX4_put, Cond.selects RX4 yX4_put yX4_put, Cond.code yX4_put cX4_put 5 none, Cond.methodLink RX4 54 Lib.Math.min.name, Cond.static Lib.Math.min.name, Cond.code Lib.Math.min.name Lib.Math.min.code 2 (some .int), Cond.methodLink RX4 50 yX4_has, Cond.instanceMethod yX4_has, Cond.selects RX4 yX4_has yX4_has]
def wsX7_restore_r9 : List Cond := [Cond.code yX4_has cX4_has 2 (some .boolean), Cond.methodLink RX6 100 yX3_size, Cond.methodLink RX6 103 yX3_add, Cond.methodLink RX6 105 yX6_addUses, Cond.instanceMethod yX6_addUses, Cond.selects RX6 yX6_addUses yX6_addUses, Cond.code yX6_addUses cX6_addUses 3 none, Cond.methodLink RX6 108 yX3_increase, Cond.instanceMethod yX3_increase, Cond.selects RX3 yX3_increase yX3_increase, Cond.code yX3_increase cX3_increase 2 none, Cond.methodLink RX3 33 yX3_set, Cond.methodLink RX7 101 yX0_words]
def wsX7_restore : List Cond := .code yX7_restore cX7_restore 1 (some .int) :: ((wsX7_restore_r1 ++ (wsX7_restore_r2 ++ (wsX7_restore_r3 ++ (wsX7_restore_r4 ++ (wsX7_restore_r5 ++ (wsX7_restore_r6 ++ (wsX7_restore_r7 ++ (wsX7_restore_r8 ++ wsX7_restore_r9)))))))) ++ wsX70 ++ wsX10 ++ wsX00 ++ wsX40 ++ wsX30 ++ wsX60 ++ wsX50)
def wsX7_rule_r1 : List Cond := [Cond.fieldLink RX7 45 "SoundSpeller" "book" "LSoundSpeller$Book;", Cond.fieldLink RX7 215 "SoundSpeller$Book" "ruleLetters" "LSoundSpeller$Rows;", Cond.fieldLink RX7 221 "SoundSpeller$Book" "ruleSounds" "LSoundSpeller$Row;", Cond.fieldLink RX7 224 "SoundSpeller$Book" "ruleSides" "LSoundSpeller$Row;", Cond.fieldLink RX7 65 "SoundSpeller" "survey" "LSoundSpeller$Survey;", Cond.fieldLink RX7 227 "SoundSpeller$Survey" "ruleUses" "LSoundSpeller$Row;", Cond.methodLink RX7 110 yX0_hasRule, Cond.instanceMethod yX0_hasRule, Cond.selects RX0 yX0_hasRule yX0_hasRule, Cond.initialized RX0, Cond.code yX0_hasRule cX0_hasRule 2 (some .boolean), Cond.fieldLink RX0 14 "SoundSpeller$Book" "ruleLetters" "LSoundSpeller$Rows;", Cond.methodLink RX0 60 yX4_has, Cond.instanceMethod yX4_has, Cond.selects RX4 yX4_has yX4_has, Cond.initialized RX4, Cond.code yX4_has cX4_has 2 (some .boolean), Cond.fieldLink RX4 28 "SoundSpeller$Rows" "lengths" "LSoundSpeller$Row;", Cond.methodLink RX4 31 yX3_size, Cond.instanceMethod yX3_size, Cond.selects RX3 yX3_size yX3_size, Cond.initialized RX3, Cond.code yX3_size cX3_size 1 (some .int), Cond.fieldLink RX3 21 "SoundSpeller$Row" "size" "I"]
def wsX7_rule_r2 : List Cond := [Cond.methodLink RX7 218 yX4_length, Cond.instanceMethod yX4_length, Cond.selects RX4 yX4_length yX4_length, Cond.code yX4_length cX4_length 2 (some .int), Cond.methodLink RX4 35 yX3_get, Cond.instanceMethod yX3_get, Cond.selects RX3 yX3_get yX3_get, Cond.code yX3_get cX3_get 2 (some .int), Cond.fieldLink RX3 15 "SoundSpeller$Row" "cells" "[I", Cond.methodLink RX7 132 yX3_get]
def wsX7_rule : List Cond := .code yX7_rule cX7_rule 3 (some .int) :: ((wsX7_rule_r1 ++ wsX7_rule_r2) ++ wsX70 ++ wsX00 ++ wsX60 ++ wsX40 ++ wsX30)
def wsX7_letterOf_r1 : List Cond := [Cond.fieldLink RX7 45 "SoundSpeller" "book" "LSoundSpeller$Book;", Cond.fieldLink RX7 215 "SoundSpeller$Book" "ruleLetters" "LSoundSpeller$Rows;", Cond.methodLink RX7 110 yX0_hasRule, Cond.instanceMethod yX0_hasRule, Cond.selects RX0 yX0_hasRule yX0_hasRule, Cond.initialized RX0, Cond.code yX0_hasRule cX0_hasRule 2 (some .boolean), Cond.fieldLink RX0 14 "SoundSpeller$Book" "ruleLetters" "LSoundSpeller$Rows;", Cond.methodLink RX0 60 yX4_has, Cond.instanceMethod yX4_has, Cond.selects RX4 yX4_has yX4_has, Cond.initialized RX4, Cond.code yX4_has cX4_has 2 (some .boolean), Cond.fieldLink RX4 28 "SoundSpeller$Rows" "lengths" "LSoundSpeller$Row;", Cond.methodLink RX4 31 yX3_size, Cond.instanceMethod yX3_size, Cond.selects RX3 yX3_size yX3_size, Cond.initialized RX3, Cond.code yX3_size cX3_size 1 (some .int), Cond.fieldLink RX3 21 "SoundSpeller$Row" "size" "I", Cond.methodLink RX7 230 yX4_get, Cond.instanceMethod yX4_get, Cond.selects RX4 yX4_get yX4_get, Cond.code yX4_get cX4_get 4 (some .int)]
def wsX7_letterOf_r2 : List Cond := [Cond.fieldLink RX4 20 "SoundSpeller$Rows" "cells" "LSoundSpeller$Row;", Cond.fieldLink RX4 9 "SoundSpeller$Rows" "width" "I", Cond.methodLink RX4 35 yX3_get, Cond.instanceMethod yX3_get, Cond.selects RX3 yX3_get yX3_get, Cond.code yX3_get cX3_get 2 (some .int), Cond.fieldLink RX3 15 "SoundSpeller$Row" "cells" "[I"]
def wsX7_letterOf : List Cond := .code yX7_letterOf cX7_letterOf 3 (some .int) :: ((wsX7_letterOf_r1 ++ wsX7_letterOf_r2) ++ wsX70 ++ wsX00 ++ wsX40 ++ wsX30)
def wsX7_sign : List Cond := .code yX7_sign cX7_sign 3 (some .int) :: ([.fieldLink RX7 45 "SoundSpeller" "book" "LSoundSpeller$Book;", .fieldLink RX7 236 "SoundSpeller$Book" "signs" "LSoundSpeller$Rows;", .methodLink RX7 233 yX7_isCapital, .static yX7_isCapital, .initialized RX7, .code yX7_isCapital cX7_isCapital 1 (some .boolean), .methodLink RX7 230 yX4_get, .instanceMethod yX4_get, .selects RX4 yX4_get yX4_get, .initialized RX4, .code yX4_get cX4_get 4 (some .int), .fieldLink RX4 28 "SoundSpeller$Rows" "lengths" "LSoundSpeller$Row;", .fieldLink RX4 20 "SoundSpeller$Rows" "cells" "LSoundSpeller$Row;", .fieldLink RX4 9 "SoundSpeller$Rows" "width" "I", .methodLink RX4 35 yX3_get, .instanceMethod yX3_get, .selects RX3 yX3_get yX3_get, .initialized RX3, .code yX3_get cX3_get 2 (some .int), .fieldLink RX3 21 "SoundSpeller$Row" "size" "I", .fieldLink RX3 15 "SoundSpeller$Row" "cells" "[I"] ++ wsX70 ++ wsX00 ++ wsX40 ++ wsX30)
def wsX7_word_r1 : List Cond := [Cond.fieldLink RX7 45 "SoundSpeller" "book" "LSoundSpeller$Book;", Cond.fieldLink RX7 129 "SoundSpeller$Book" "kinds" "LSoundSpeller$Row;", Cond.fieldLink RX7 169 "SoundSpeller$Book" "letters" "LSoundSpeller$Rows;", Cond.fieldLink RX7 65 "SoundSpeller" "survey" "LSoundSpeller$Survey;", Cond.fieldLink RX7 239 "SoundSpeller$Survey" "sounds" "LSoundSpeller$Rows;", Cond.fieldLink RX7 195 "SoundSpeller$Survey" "spellings" "LSoundSpeller$Rows;", Cond.fieldLink RX7 245 "SoundSpeller$Survey" "wordUses" "LSoundSpeller$Row;", Cond.methodLink RX7 123 yX0_hasWord, Cond.instanceMethod yX0_hasWord, Cond.selects RX0 yX0_hasWord yX0_hasWord, Cond.initialized RX0, Cond.code yX0_hasWord cX0_hasWord 2 (some .boolean), Cond.fieldLink RX0 35 "SoundSpeller$Book" "letters" "LSoundSpeller$Rows;", Cond.methodLink RX0 60 yX4_has, Cond.instanceMethod yX4_has, Cond.selects RX4 yX4_has yX4_has, Cond.initialized RX4, Cond.code yX4_has cX4_has 2 (some .boolean), Cond.fieldLink RX4 28 "SoundSpeller$Rows" "lengths" "LSoundSpeller$Row;", Cond.methodLink RX4 31 yX3_size, Cond.instanceMethod yX3_size, Cond.selects RX3 yX3_size yX3_size, Cond.initialized RX3, Cond.code yX3_size cX3_size 1 (some .int)]
def wsX7_word_r2 : List Cond := [Cond.fieldLink RX3 21 "SoundSpeller$Row" "size" "I", Cond.methodLink RX7 132 yX3_get, Cond.instanceMethod yX3_get, Cond.selects RX3 yX3_get yX3_get, Cond.code yX3_get cX3_get 2 (some .int), Cond.fieldLink RX3 15 "SoundSpeller$Row" "cells" "[I", Cond.methodLink RX7 218 yX4_length, Cond.instanceMethod yX4_length, Cond.selects RX4 yX4_length yX4_length, Cond.code yX4_length cX4_length 2 (some .int), Cond.methodLink RX4 35 yX3_get, Cond.methodLink RX7 242 yX4_countLike, Cond.instanceMethod yX4_countLike, Cond.selects RX4 yX4_countLike yX4_countLike, Cond.code yX4_countLike cX4_countLike 4 (some .int), Cond.methodLink RX4 76 yX4_isLike_, Cond.instanceMethod yX4_isLike_, Cond.selects RX4 yX4_isLike_ yX4_isLike_, Cond.code yX4_isLike_ cX4_isLike_ 5 (some .boolean), Cond.methodLink RX4 66 yX4_get, Cond.instanceMethod yX4_get, Cond.selects RX4 yX4_get yX4_get, Cond.code yX4_get cX4_get 4 (some .int), Cond.fieldLink RX4 20 "SoundSpeller$Rows" "cells" "LSoundSpeller$Row;"]
def wsX7_word_r3 : List Cond := [Cond.fieldLink RX4 9 "SoundSpeller$Rows" "width" "I", Cond.methodLink RX7 142 yX6_comesBack, Cond.instanceMethod yX6_comesBack, Cond.selects RX6 yX6_comesBack yX6_comesBack, Cond.initialized RX6, Cond.code yX6_comesBack cX6_comesBack 2 (some .boolean), Cond.fieldLink RX6 23 "SoundSpeller$Survey" "spellings" "LSoundSpeller$Rows;", Cond.methodLink RX6 111 yX4_lowestLike, Cond.instanceMethod yX4_lowestLike, Cond.selects RX4 yX4_lowestLike yX4_lowestLike, Cond.code yX4_lowestLike cX4_lowestLike 3 (some .int)]
def wsX7_word : List Cond := .code yX7_word cX7_word 3 (some .int) :: ((wsX7_word_r1 ++ (wsX7_word_r2 ++ wsX7_word_r3)) ++ wsX70 ++ wsX00 ++ wsX60 ++ wsX40 ++ wsX30)
def wsX7_at_r1 : List Cond := [Cond.fieldLink RX7 45 "SoundSpeller" "book" "LSoundSpeller$Book;", Cond.fieldLink RX7 169 "SoundSpeller$Book" "letters" "LSoundSpeller$Rows;", Cond.fieldLink RX7 65 "SoundSpeller" "survey" "LSoundSpeller$Survey;", Cond.fieldLink RX7 239 "SoundSpeller$Survey" "sounds" "LSoundSpeller$Rows;", Cond.fieldLink RX7 195 "SoundSpeller$Survey" "spellings" "LSoundSpeller$Rows;", Cond.fieldLink RX7 248 "SoundSpeller$Survey" "rulesAt" "LSoundSpeller$Rows;", Cond.methodLink RX7 123 yX0_hasWord, Cond.instanceMethod yX0_hasWord, Cond.selects RX0 yX0_hasWord yX0_hasWord, Cond.initialized RX0, Cond.code yX0_hasWord cX0_hasWord 2 (some .boolean), Cond.fieldLink RX0 35 "SoundSpeller$Book" "letters" "LSoundSpeller$Rows;", Cond.methodLink RX0 60 yX4_has, Cond.instanceMethod yX4_has, Cond.selects RX4 yX4_has yX4_has, Cond.initialized RX4, Cond.code yX4_has cX4_has 2 (some .boolean), Cond.fieldLink RX4 28 "SoundSpeller$Rows" "lengths" "LSoundSpeller$Row;", Cond.methodLink RX4 31 yX3_size, Cond.instanceMethod yX3_size, Cond.selects RX3 yX3_size yX3_size, Cond.initialized RX3, Cond.code yX3_size cX3_size 1 (some .int), Cond.fieldLink RX3 21 "SoundSpeller$Row" "size" "I"]
def wsX7_at_r2 : List Cond := [Cond.methodLink RX7 230 yX4_get, Cond.instanceMethod yX4_get, Cond.selects RX4 yX4_get yX4_get, Cond.code yX4_get cX4_get 4 (some .int), Cond.fieldLink RX4 20 "SoundSpeller$Rows" "cells" "LSoundSpeller$Row;", Cond.fieldLink RX4 9 "SoundSpeller$Rows" "width" "I", Cond.methodLink RX4 35 yX3_get, Cond.instanceMethod yX3_get, Cond.selects RX3 yX3_get yX3_get, Cond.code yX3_get cX3_get 2 (some .int), Cond.fieldLink RX3 15 "SoundSpeller$Row" "cells" "[I"]
def wsX7_at : List Cond := .code yX7_at cX7_at 4 (some .int) :: ((wsX7_at_r1 ++ wsX7_at_r2) ++ wsX70 ++ wsX00 ++ wsX60 ++ wsX40 ++ wsX30)
def wsX7_result : List Cond := .code yX7_result cX7_result 2 (some .int) :: ([.fieldLink RX7 18 "SoundSpeller" "converted" "LSoundSpeller$Row;", .methodLink RX7 132 yX3_get, .instanceMethod yX3_get, .selects RX3 yX3_get yX3_get, .initialized RX3, .code yX3_get cX3_get 2 (some .int), .fieldLink RX3 21 "SoundSpeller$Row" "size" "I", .fieldLink RX3 15 "SoundSpeller$Row" "cells" "[I"] ++ wsX70 ++ wsX30)
def wsX7_collideWith_r1 : List Cond := [Cond.fieldLink RX7 49 "SoundSpeller" "draft" "LSoundSpeller$Book;", Cond.fieldLink RX7 45 "SoundSpeller" "book" "LSoundSpeller$Book;", Cond.fieldLink RX7 236 "SoundSpeller$Book" "signs" "LSoundSpeller$Rows;", Cond.fieldLink RX7 69 "SoundSpeller" "trial" "LSoundSpeller$Survey;", Cond.methodLink RX7 233 yX7_isCapital, Cond.static yX7_isCapital, Cond.initialized RX7, Cond.code yX7_isCapital cX7_isCapital 1 (some .boolean), Cond.methodLink RX7 251 yX7_isSmall, Cond.static yX7_isSmall, Cond.code yX7_isSmall cX7_isSmall 1 (some .boolean), Cond.methodLink RX7 72 yX0_copyFrom, Cond.instanceMethod yX0_copyFrom, Cond.selects RX0 yX0_copyFrom yX0_copyFrom, Cond.initialized RX0, Cond.code yX0_copyFrom cX0_copyFrom 2 none, Cond.fieldLink RX0 14 "SoundSpeller$Book" "ruleLetters" "LSoundSpeller$Rows;", Cond.fieldLink RX0 25 "SoundSpeller$Book" "ruleSounds" "LSoundSpeller$Row;", Cond.fieldLink RX0 29 "SoundSpeller$Book" "ruleSides" "LSoundSpeller$Row;", Cond.fieldLink RX0 32 "SoundSpeller$Book" "signs" "LSoundSpeller$Rows;", Cond.fieldLink RX0 35 "SoundSpeller$Book" "letters" "LSoundSpeller$Rows;", Cond.fieldLink RX0 38 "SoundSpeller$Book" "kinds" "LSoundSpeller$Row;", Cond.methodLink RX0 50 yX4_copyFrom, Cond.instanceMethod yX4_copyFrom]
def wsX7_collideWith_r2 : List Cond := [Cond.selects RX4 yX4_copyFrom yX4_copyFrom, Cond.initialized RX4, Cond.code yX4_copyFrom cX4_copyFrom 3 none, Cond.fieldLink RX4 28 "SoundSpeller$Rows" "lengths" "LSoundSpeller$Row;", Cond.fieldLink RX4 9 "SoundSpeller$Rows" "width" "I", Cond.fieldLink RX4 20 "SoundSpeller$Rows" "cells" "LSoundSpeller$Row;", Cond.methodLink RX4 68 yX3_copyFrom, Cond.instanceMethod yX3_copyFrom, Cond.selects RX3 yX3_copyFrom yX3_copyFrom, Cond.initialized RX3, Cond.code yX3_copyFrom cX3_copyFrom 2 none, Cond.methodLink RX3 37 yX3_clear, Cond.instanceMethod yX3_clear, Cond.selects RX3 yX3_clear yX3_clear, Cond.code yX3_clear cX3_clear 1 none, Cond.fieldLink RX3 21 "SoundSpeller$Row" "size" "I", Cond.methodLink RX3 40 yX3_addAll, Cond.instanceMethod yX3_addAll, Cond.selects RX3 yX3_addAll yX3_addAll, Cond.code yX3_addAll cX3_addAll 3 none, Cond.methodLink RX3 25 yX3_get, Cond.instanceMethod yX3_get, Cond.selects RX3 yX3_get yX3_get, Cond.code yX3_get cX3_get 2 (some .int)]
def wsX7_collideWith_r3 : List Cond := [Cond.fieldLink RX3 15 "SoundSpeller$Row" "cells" "[I", Cond.methodLink RX3 29 yX3_add, Cond.instanceMethod yX3_add, Cond.selects RX3 yX3_add yX3_add, Cond.code yX3_add cX3_add 2 none, Cond.methodLink RX4 31 yX3_size, Cond.instanceMethod yX3_size, Cond.selects RX3 yX3_size yX3_size, Cond.code yX3_size cX3_size 1 (some .int), Cond.methodLink RX4 35 yX3_get, Cond.methodLink RX4 60 yX3_set, Cond.instanceMethod yX3_set, Cond.selects RX3 yX3_set yX3_set, Cond.code yX3_set cX3_set 3 none, Cond.methodLink RX0 54 yX3_copyFrom, Cond.methodLink RX7 254 yX4_putOne, Cond.instanceMethod yX4_putOne, Cond.selects RX4 yX4_putOne yX4_putOne, Cond.code yX4_putOne cX4_putOne 3 none, Cond.methodLink RX4 50 yX4_has, Cond.instanceMethod yX4_has, Cond.selects RX4 yX4_has yX4_has, Cond.code yX4_has cX4_has 2 (some .boolean), Cond.methodLink RX7 107 yX6_renew]
def wsX7_collideWith_r4 : List Cond := [Cond.instanceMethod yX6_renew, Cond.selects RX6 yX6_renew yX6_renew, Cond.initialized RX6, Cond.code yX6_renew cX6_renew 3 none, Cond.fieldLink RX6 14 "SoundSpeller$Survey" "sounds" "LSoundSpeller$Rows;", Cond.fieldLink RX6 20 "SoundSpeller$Survey" "rulesAt" "LSoundSpeller$Rows;", Cond.fieldLink RX6 23 "SoundSpeller$Survey" "spellings" "LSoundSpeller$Rows;", Cond.fieldLink RX6 31 "SoundSpeller$Survey" "wordUses" "LSoundSpeller$Row;", Cond.fieldLink RX6 35 "SoundSpeller$Survey" "ruleUses" "LSoundSpeller$Row;", Cond.fieldLink RX6 64 "SoundSpeller$Book" "letters" "LSoundSpeller$Rows;", Cond.fieldLink RX6 45 "SoundSpeller$Survey" "word" "LSoundSpeller$Row;", Cond.fieldLink RX6 41 "SoundSpeller$Survey" "speller" "LSoundSpeller$Speller;", Cond.fieldLink RX6 75 "SoundSpeller$Book" "kinds" "LSoundSpeller$Row;", Cond.fieldLink RX6 86 "SoundSpeller$Speller" "sounds" "LSoundSpeller$Row;", Cond.fieldLink RX6 92 "SoundSpeller$Speller" "rulesAt" "LSoundSpeller$Row;", Cond.fieldLink RX6 94 "SoundSpeller$Speller" "spelling" "LSoundSpeller$Row;", Cond.fieldLink RX6 97 "SoundSpeller$Speller" "rulesUsed" "LSoundSpeller$Row;", Cond.methodLink RX6 48 yX4_clear, Cond.instanceMethod yX4_clear, Cond.selects RX4 yX4_clear yX4_clear, Cond.code yX4_clear cX4_clear 1 none, Cond.methodLink RX4 63 yX3_clear, Cond.methodLink RX6 51 yX3_clear, Cond.methodLink RX6 52 yX0_rules]
def wsX7_collideWith_r5 : List Cond := [Cond.instanceMethod yX0_rules, Cond.selects RX0 yX0_rules yX0_rules, Cond.code yX0_rules cX0_rules 1 (some .int), Cond.methodLink RX0 56 yX4_lines, Cond.instanceMethod yX4_lines, Cond.selects RX4 yX4_lines yX4_lines, Cond.code yX4_lines cX4_lines 1 (some .int), Cond.methodLink RX6 58 yX3_addMany, Cond.instanceMethod yX3_addMany, Cond.selects RX3 yX3_addMany yX3_addMany, Cond.code yX3_addMany cX3_addMany 4 none, Cond.methodLink RX6 61 yX0_words, Cond.instanceMethod yX0_words, Cond.selects RX0 yX0_words yX0_words, Cond.code yX0_words cX0_words 1 (some .int), Cond.methodLink RX6 67 yX4_copyTo, Cond.instanceMethod yX4_copyTo, Cond.selects RX4 yX4_copyTo yX4_copyTo, Cond.code yX4_copyTo cX4_copyTo 4 none, Cond.methodLink RX4 66 yX4_get, Cond.instanceMethod yX4_get, Cond.selects RX4 yX4_get yX4_get, Cond.code yX4_get cX4_get 4 (some .int), Cond.methodLink RX4 43 yX3_add]
def wsX7_collideWith_r6 : List Cond := [Cond.methodLink RX6 71 yX5_hear, Cond.instanceMethod yX5_hear, Cond.selects RX5 yX5_hear yX5_hear, Cond.initialized RX5, Cond.code yX5_hear cX5_hear 6 none, Cond.fieldLink RX5 14 "SoundSpeller$Speller" "sounds" "LSoundSpeller$Row;", Cond.fieldLink RX5 20 "SoundSpeller$Speller" "rulesAt" "LSoundSpeller$Row;", Cond.fieldLink RX5 23 "SoundSpeller$Speller" "rulesUsed" "LSoundSpeller$Row;", Cond.fieldLink RX5 51 "SoundSpeller$Book" "ruleLetters" "LSoundSpeller$Rows;", Cond.methodLink RX5 29 yX3_clear, Cond.methodLink RX5 32 yX3_size, Cond.methodLink RX5 36 yX5_bestRule, Cond.static yX5_bestRule, Cond.code yX5_bestRule cX5_bestRule 7 (some .int), Cond.fieldLink RX5 72 "SoundSpeller$Book" "ruleSides" "LSoundSpeller$Row;", Cond.methodLink RX5 69 yX0_rules, Cond.methodLink RX5 57 yX4_length, Cond.instanceMethod yX4_length, Cond.selects RX4 yX4_length yX4_length, Cond.code yX4_length cX4_length 2 (some .int), Cond.methodLink RX5 40 yX3_get, Cond.methodLink RX5 75 yX5_holds, Cond.static yX5_holds, Cond.code yX5_holds cX5_holds 6 (some .boolean)]
def wsX7_collideWith_r7 : List Cond := [Cond.methodLink RX5 79 yX4_get, Cond.methodLink RX5 82 yX5_sideHolds, Cond.static yX5_sideHolds, Cond.code yX5_sideHolds cX5_sideHolds 4 (some .boolean), Cond.static yX7_isVowel, Cond.code yX7_isVowel cX7_isVowel 1 (some .boolean), Cond.methodLink RX5 44 yX3_add, Cond.methodLink RX5 47 yX5_useRule, Cond.instanceMethod yX5_useRule, Cond.selects RX5 yX5_useRule yX5_useRule, Cond.code yX5_useRule cX5_useRule 4 none, Cond.fieldLink RX5 62 "SoundSpeller$Book" "ruleSounds" "LSoundSpeller$Row;", Cond.methodLink RX5 65 yX3_addMany, Cond.methodLink RX6 78 yX3_get, Cond.methodLink RX6 82 yX5_write, Cond.instanceMethod yX5_write, Cond.selects RX5 yX5_write yX5_write, Cond.code yX5_write cX5_write 5 none, Cond.fieldLink RX5 26 "SoundSpeller$Speller" "spelling" "LSoundSpeller$Row;", Cond.methodLink RX5 90 yX5_addSign, Cond.instanceMethod yX5_addSign, Cond.selects RX5 yX5_addSign yX5_addSign, Cond.code yX5_addSign cX5_addSign 4 none, Cond.fieldLink RX5 100 "SoundSpeller$Book" "signs" "LSoundSpeller$Rows;"]
def wsX7_collideWith_r8 : List Cond := [Cond.methodLink RX5 93 yX3_addAll, Cond.methodLink RX6 88 yX4_add, Cond.instanceMethod yX4_add, Cond.selects RX4 yX4_add yX4_add, Cond.code yX4_add cX4_add 2 none, Cond.methodLink RX4 39 yX3_isFull, Cond.instanceMethod yX3_isFull, Cond.selects RX3 yX3_isFull yX3_isFull, Cond.code yX3_isFull cX3_isFull 1 (some .boolean), Cond.methodLink RX4 46 yX4_put, Cond.instanceMethod yX4_put, Cond.selects RX4 yX4_put yX4_put, Cond.code yX4_put cX4_put 5 none, Cond.methodLink RX4 54 Lib.Math.min.name, Cond.static Lib.Math.min.name, Cond.initialized "java/lang/Math", Cond.code Lib.Math.min.name Lib.Math.min.code 2 (some .int), Cond.methodLink RX6 100 yX3_size, Cond.methodLink RX6 103 yX3_add, Cond.methodLink RX6 105 yX6_addUses, Cond.instanceMethod yX6_addUses, Cond.selects RX6 yX6_addUses yX6_addUses, Cond.code yX6_addUses cX6_addUses 3 none, Cond.methodLink RX6 108 yX3_increase]
def wsX7_collideWith_r9 : List Cond := [Cond.instanceMethod yX3_increase, Cond.selects RX3 yX3_increase yX3_increase, Cond.code yX3_increase cX3_increase 2 none, Cond.methodLink RX3 33 yX3_set, Cond.methodLink RX7 257 yX6_collisions, Cond.instanceMethod yX6_collisions, Cond.selects RX6 yX6_collisions yX6_collisions, Cond.code yX6_collisions cX6_collisions 3 (some .int), Cond.methodLink RX6 114 yX4_lines, Cond.methodLink RX6 121 yX4_countLike, Cond.instanceMethod yX4_countLike, Cond.selects RX4 yX4_countLike yX4_countLike, Cond.code yX4_countLike cX4_countLike 4 (some .int), Cond.methodLink RX4 76 yX4_isLike_, Cond.instanceMethod yX4_isLike_, Cond.selects RX4 yX4_isLike_ yX4_isLike_, Cond.code yX4_isLike_ cX4_isLike_ 5 (some .boolean)]
def wsX7_collideWith : List Cond := .code yX7_collideWith cX7_collideWith 3 (some .int) :: ((wsX7_collideWith_r1 ++ (wsX7_collideWith_r2 ++ (wsX7_collideWith_r3 ++ (wsX7_collideWith_r4 ++ (wsX7_collideWith_r5 ++ (wsX7_collideWith_r6 ++ (wsX7_collideWith_r7 ++ (wsX7_collideWith_r8 ++ wsX7_collideWith_r9)))))))) ++ wsX70 ++ wsX00 ++ wsX40 ++ wsX30 ++ wsX60 ++ wsX50)
def wsX7_count_r1 : List Cond := [Cond.fieldLink RX7 45 "SoundSpeller" "book" "LSoundSpeller$Book;", Cond.fieldLink RX7 65 "SoundSpeller" "survey" "LSoundSpeller$Survey;", Cond.fieldLink RX7 169 "SoundSpeller$Book" "letters" "LSoundSpeller$Rows;", Cond.fieldLink RX7 195 "SoundSpeller$Survey" "spellings" "LSoundSpeller$Rows;", Cond.fieldLink RX7 18 "SoundSpeller" "converted" "LSoundSpeller$Row;", Cond.fieldLink RX7 58 "SoundSpeller" "history" "LSoundSpeller$History;", Cond.fieldLink RX7 14 "SoundSpeller" "text" "LSoundSpeller$Row;", Cond.methodLink RX7 98 yX0_rules, Cond.instanceMethod yX0_rules, Cond.selects RX0 yX0_rules yX0_rules, Cond.initialized RX0, Cond.code yX0_rules cX0_rules 1 (some .int), Cond.fieldLink RX0 14 "SoundSpeller$Book" "ruleLetters" "LSoundSpeller$Rows;", Cond.methodLink RX0 56 yX4_lines, Cond.instanceMethod yX4_lines, Cond.selects RX4 yX4_lines yX4_lines, Cond.initialized RX4, Cond.code yX4_lines cX4_lines 1 (some .int), Cond.fieldLink RX4 28 "SoundSpeller$Rows" "lengths" "LSoundSpeller$Row;", Cond.methodLink RX4 31 yX3_size, Cond.instanceMethod yX3_size, Cond.selects RX3 yX3_size yX3_size, Cond.initialized RX3, Cond.code yX3_size cX3_size 1 (some .int)]
def wsX7_count_r2 : List Cond := [Cond.fieldLink RX3 21 "SoundSpeller$Row" "size" "I", Cond.methodLink RX7 101 yX0_words, Cond.instanceMethod yX0_words, Cond.selects RX0 yX0_words yX0_words, Cond.code yX0_words cX0_words 1 (some .int), Cond.fieldLink RX0 35 "SoundSpeller$Book" "letters" "LSoundSpeller$Rows;", Cond.methodLink RX7 257 yX6_collisions, Cond.instanceMethod yX6_collisions, Cond.selects RX6 yX6_collisions yX6_collisions, Cond.initialized RX6, Cond.code yX6_collisions cX6_collisions 3 (some .int), Cond.fieldLink RX6 23 "SoundSpeller$Survey" "spellings" "LSoundSpeller$Rows;", Cond.methodLink RX6 114 yX4_lines, Cond.methodLink RX6 121 yX4_countLike, Cond.instanceMethod yX4_countLike, Cond.selects RX4 yX4_countLike yX4_countLike, Cond.code yX4_countLike cX4_countLike 4 (some .int), Cond.methodLink RX4 76 yX4_isLike_, Cond.instanceMethod yX4_isLike_, Cond.selects RX4 yX4_isLike_ yX4_isLike_, Cond.code yX4_isLike_ cX4_isLike_ 5 (some .boolean), Cond.methodLink RX4 35 yX3_get, Cond.instanceMethod yX3_get, Cond.selects RX3 yX3_get yX3_get]
def wsX7_count_r3 : List Cond := [Cond.code yX3_get cX3_get 2 (some .int), Cond.fieldLink RX3 15 "SoundSpeller$Row" "cells" "[I", Cond.methodLink RX4 66 yX4_get, Cond.instanceMethod yX4_get, Cond.selects RX4 yX4_get yX4_get, Cond.code yX4_get cX4_get 4 (some .int), Cond.fieldLink RX4 20 "SoundSpeller$Rows" "cells" "LSoundSpeller$Row;", Cond.fieldLink RX4 9 "SoundSpeller$Rows" "width" "I", Cond.methodLink RX7 260 yX6_comingBack, Cond.instanceMethod yX6_comingBack, Cond.selects RX6 yX6_comingBack yX6_comingBack, Cond.code yX6_comingBack cX6_comingBack 3 (some .int), Cond.methodLink RX6 117 yX6_comesBack, Cond.instanceMethod yX6_comesBack, Cond.selects RX6 yX6_comesBack yX6_comesBack, Cond.code yX6_comesBack cX6_comesBack 2 (some .boolean), Cond.methodLink RX6 111 yX4_lowestLike, Cond.instanceMethod yX4_lowestLike, Cond.selects RX4 yX4_lowestLike yX4_lowestLike, Cond.code yX4_lowestLike cX4_lowestLike 3 (some .int), Cond.methodLink RX7 263 yX6_unusedRules, Cond.instanceMethod yX6_unusedRules, Cond.selects RX6 yX6_unusedRules yX6_unusedRules, Cond.code yX6_unusedRules cX6_unusedRules 3 (some .int)]
def wsX7_count_r4 : List Cond := [Cond.fieldLink RX6 35 "SoundSpeller$Survey" "ruleUses" "LSoundSpeller$Row;", Cond.methodLink RX6 100 yX3_size, Cond.methodLink RX6 78 yX3_get, Cond.methodLink RX7 266 yX4_wholeLength, Cond.instanceMethod yX4_wholeLength, Cond.selects RX4 yX4_wholeLength yX4_wholeLength, Cond.code yX4_wholeLength cX4_wholeLength 3 (some .int), Cond.methodLink RX7 151 yX3_size, Cond.methodLink RX7 205 yX1_states, Cond.instanceMethod yX1_states, Cond.selects RX1 yX1_states yX1_states, Cond.initialized RX1, Cond.code yX1_states cX1_states 1 (some .int), Cond.fieldLink RX1 20 "SoundSpeller$History" "size" "I", Cond.methodLink RX7 269 yX0_longSigns, Cond.instanceMethod yX0_longSigns, Cond.selects RX0 yX0_longSigns yX0_longSigns, Cond.code yX0_longSigns cX0_longSigns 3 (some .int), Cond.fieldLink RX0 32 "SoundSpeller$Book" "signs" "LSoundSpeller$Rows;", Cond.methodLink RX0 115 yX4_length, Cond.instanceMethod yX4_length, Cond.selects RX4 yX4_length yX4_length, Cond.code yX4_length cX4_length 2 (some .int)]
def wsX7_count : List Cond := .code yX7_count cX7_count 2 (some .int) :: ((wsX7_count_r1 ++ (wsX7_count_r2 ++ (wsX7_count_r3 ++ wsX7_count_r4))) ++ wsX70 ++ wsX00 ++ wsX60 ++ wsX40 ++ wsX30 ++ wsX10)
def wsX8_init : List Cond := .code yX8_init cX8_init 2 none :: ([.methodLink RX8 1 objectInit, .instanceMethod objectInit, .code objectInit ⟨#[0xb1]⟩ 1 none, .arrayClass .int, .fieldLink RX8 7 "SoundSpellerModel" "all" "[I", .fieldLink RX8 13 "SoundSpellerModel" "kept" "[I", .fieldLink RX8 16 "SoundSpellerModel" "history" "[I", .fieldLink RX8 19 "SoundSpellerModel" "snapshot" "[I", .fieldLink RX8 22 "SoundSpellerModel" "letters" "[I", .fieldLink RX8 25 "SoundSpellerModel" "ruleFor" "[I", .fieldLink RX8 28 "SoundSpellerModel" "sounds" "[I", .fieldLink RX8 31 "SoundSpellerModel" "used" "[I", .fieldLink RX8 34 "SoundSpellerModel" "out" "[I", .fieldLink RX8 37 "SoundSpellerModel" "spelling" "[I", .fieldLink RX8 40 "SoundSpellerModel" "spellingLong" "[I", .fieldLink RX8 43 "SoundSpellerModel" "text" "[I", .fieldLink RX8 46 "SoundSpellerModel" "more" "[I", .fieldLink RX8 49 "SoundSpellerModel" "had" "[I", .fieldLink RX8 52 "SoundSpellerModel" "hadLong" "[I", .fieldLink RX8 55 "SoundSpellerModel" "result" "[I"] ++ wsX80)
def wsX8_in : List Cond := .code yX8_in cX8_in 6 (some .boolean) :: ([])
def wsX8_copy : List Cond := .code yX8_copy cX8_copy 3 none :: ([])
def wsX8_remember : List Cond := .code yX8_remember cX8_remember 1 none :: ([.fieldLink RX8 7 "SoundSpellerModel" "all" "[I", .fieldLink RX8 13 "SoundSpellerModel" "kept" "[I", .methodLink RX8 58 yX8_copy, .static yX8_copy, .initialized RX8, .code yX8_copy cX8_copy 3 none] ++ wsX80)
def wsX8_refused : List Cond := .code yX8_refused cX8_refused 2 (some .int) :: ([.fieldLink RX8 13 "SoundSpellerModel" "kept" "[I", .fieldLink RX8 7 "SoundSpellerModel" "all" "[I", .methodLink RX8 58 yX8_copy, .static yX8_copy, .initialized RX8, .code yX8_copy cX8_copy 3 none] ++ wsX80)
def wsX8_acted : List Cond := .code yX8_acted cX8_acted 3 (some .int) :: ([.fieldLink RX8 62 "SoundSpellerModel" "historyLong" "I", .fieldLink RX8 16 "SoundSpellerModel" "history" "[I", .fieldLink RX8 13 "SoundSpellerModel" "kept" "[I"] ++ wsX80)
def wsX8_ruleAt : List Cond := .code yX8_ruleAt cX8_ruleAt 1 (some .int) :: ([])
def wsX8_wordAt : List Cond := .code yX8_wordAt cX8_wordAt 1 (some .int) :: ([])
def wsX8_isRule : List Cond := .code yX8_isRule cX8_isRule 2 (some .boolean) :: ([.fieldLink RX8 7 "SoundSpellerModel" "all" "[I", .methodLink RX8 66 yX8_in, .static yX8_in, .initialized RX8, .code yX8_in cX8_in 6 (some .boolean)] ++ wsX80)
def wsX8_isWord : List Cond := .code yX8_isWord cX8_isWord 2 (some .boolean) :: ([.fieldLink RX8 7 "SoundSpellerModel" "all" "[I", .methodLink RX8 66 yX8_in, .static yX8_in, .initialized RX8, .code yX8_in cX8_in 6 (some .boolean)] ++ wsX80)
def wsX8_isVowel : List Cond := .code yX8_isVowel cX8_isVowel 1 (some .boolean) :: ([])
def wsX8_stands : List Cond := .code yX8_stands cX8_stands 6 (some .boolean) :: ([.fieldLink RX8 7 "SoundSpellerModel" "all" "[I", .fieldLink RX8 74 "SoundSpellerModel" "size" "I", .fieldLink RX8 22 "SoundSpellerModel" "letters" "[I", .methodLink RX8 70 yX8_ruleAt, .static yX8_ruleAt, .initialized RX8, .code yX8_ruleAt cX8_ruleAt 1 (some .int)] ++ wsX80)
def wsX8_holds : List Cond := .code yX8_holds cX8_holds 5 (some .boolean) :: ([.fieldLink RX8 7 "SoundSpellerModel" "all" "[I", .fieldLink RX8 74 "SoundSpellerModel" "size" "I", .fieldLink RX8 22 "SoundSpellerModel" "letters" "[I", .methodLink RX8 70 yX8_ruleAt, .static yX8_ruleAt, .initialized RX8, .code yX8_ruleAt cX8_ruleAt 1 (some .int), .methodLink RX8 77 yX8_isVowel, .static yX8_isVowel, .code yX8_isVowel cX8_isVowel 1 (some .boolean)] ++ wsX80)
def wsX8_weight : List Cond := .code yX8_weight cX8_weight 2 (some .int) :: ([.fieldLink RX8 7 "SoundSpellerModel" "all" "[I", .methodLink RX8 70 yX8_ruleAt, .static yX8_ruleAt, .initialized RX8, .code yX8_ruleAt cX8_ruleAt 1 (some .int)] ++ wsX80)
def wsX8_ruleAtPlace : List Cond := .code yX8_ruleAtPlace cX8_ruleAtPlace 4 (some .int) :: ([.fieldLink RX8 7 "SoundSpellerModel" "all" "[I", .methodLink RX8 81 yX8_stands, .instanceMethod yX8_stands, .selects RX8 yX8_stands yX8_stands, .initialized RX8, .code yX8_stands cX8_stands 6 (some .boolean), .fieldLink RX8 74 "SoundSpellerModel" "size" "I", .fieldLink RX8 22 "SoundSpellerModel" "letters" "[I", .methodLink RX8 70 yX8_ruleAt, .static yX8_ruleAt, .code yX8_ruleAt cX8_ruleAt 1 (some .int), .methodLink RX8 85 yX8_holds, .instanceMethod yX8_holds, .selects RX8 yX8_holds yX8_holds, .code yX8_holds cX8_holds 5 (some .boolean), .methodLink RX8 77 yX8_isVowel, .static yX8_isVowel, .code yX8_isVowel cX8_isVowel 1 (some .boolean), .methodLink RX8 88 yX8_weight, .instanceMethod yX8_weight, .selects RX8 yX8_weight yX8_weight, .code yX8_weight cX8_weight 2 (some .int)] ++ wsX80)
def wsX8_findsSounds_r1 : List Cond := [Cond.fieldLink RX8 91 "SoundSpellerModel" "soundsLong" "I", Cond.fieldLink RX8 94 "SoundSpellerModel" "usedTimes" "I", Cond.fieldLink RX8 74 "SoundSpellerModel" "size" "I", Cond.fieldLink RX8 7 "SoundSpellerModel" "all" "[I", Cond.fieldLink RX8 22 "SoundSpellerModel" "letters" "[I", Cond.fieldLink RX8 25 "SoundSpellerModel" "ruleFor" "[I", Cond.fieldLink RX8 31 "SoundSpellerModel" "used" "[I", Cond.fieldLink RX8 28 "SoundSpellerModel" "sounds" "[I", Cond.methodLink RX8 97 yX8_ruleAtPlace, Cond.instanceMethod yX8_ruleAtPlace, Cond.selects RX8 yX8_ruleAtPlace yX8_ruleAtPlace, Cond.initialized RX8, Cond.code yX8_ruleAtPlace cX8_ruleAtPlace 4 (some .int), Cond.methodLink RX8 81 yX8_stands, Cond.instanceMethod yX8_stands, Cond.selects RX8 yX8_stands yX8_stands, Cond.code yX8_stands cX8_stands 6 (some .boolean), Cond.methodLink RX8 70 yX8_ruleAt, Cond.static yX8_ruleAt, Cond.code yX8_ruleAt cX8_ruleAt 1 (some .int), Cond.methodLink RX8 85 yX8_holds, Cond.instanceMethod yX8_holds, Cond.selects RX8 yX8_holds yX8_holds, Cond.code yX8_holds cX8_holds 5 (some .boolean)]
def wsX8_findsSounds_r2 : List Cond := [Cond.methodLink RX8 77 yX8_isVowel, Cond.static yX8_isVowel, Cond.code yX8_isVowel cX8_isVowel 1 (some .boolean), Cond.methodLink RX8 88 yX8_weight, Cond.instanceMethod yX8_weight, Cond.selects RX8 yX8_weight yX8_weight, Cond.code yX8_weight cX8_weight 2 (some .int)]
def wsX8_findsSounds : List Cond := .code yX8_findsSounds cX8_findsSounds 6 none :: ((wsX8_findsSounds_r1 ++ wsX8_findsSounds_r2) ++ wsX80)
def wsX8_lays : List Cond := .code yX8_lays cX8_lays 3 none :: ([.fieldLink RX8 7 "SoundSpellerModel" "all" "[I", .fieldLink RX8 74 "SoundSpellerModel" "size" "I", .fieldLink RX8 22 "SoundSpellerModel" "letters" "[I", .methodLink RX8 100 yX8_wordAt, .static yX8_wordAt, .initialized RX8, .code yX8_wordAt cX8_wordAt 1 (some .int)] ++ wsX80)
def wsX8_usesNone : List Cond := .code yX8_usesNone cX8_usesNone 2 none :: ([.fieldLink RX8 31 "SoundSpellerModel" "used" "[I"] ++ wsX80)
def wsX8_uses_r1 : List Cond := [Cond.fieldLink RX8 7 "SoundSpellerModel" "all" "[I", Cond.methodLink RX8 103 yX8_usesNone, Cond.instanceMethod yX8_usesNone, Cond.selects RX8 yX8_usesNone yX8_usesNone, Cond.initialized RX8, Cond.code yX8_usesNone cX8_usesNone 2 none, Cond.fieldLink RX8 31 "SoundSpellerModel" "used" "[I", Cond.methodLink RX8 106 yX8_lays, Cond.instanceMethod yX8_lays, Cond.selects RX8 yX8_lays yX8_lays, Cond.code yX8_lays cX8_lays 3 none, Cond.fieldLink RX8 74 "SoundSpellerModel" "size" "I", Cond.fieldLink RX8 22 "SoundSpellerModel" "letters" "[I", Cond.methodLink RX8 100 yX8_wordAt, Cond.static yX8_wordAt, Cond.code yX8_wordAt cX8_wordAt 1 (some .int), Cond.methodLink RX8 110 yX8_findsSounds, Cond.instanceMethod yX8_findsSounds, Cond.selects RX8 yX8_findsSounds yX8_findsSounds, Cond.code yX8_findsSounds cX8_findsSounds 6 none, Cond.fieldLink RX8 91 "SoundSpellerModel" "soundsLong" "I", Cond.fieldLink RX8 94 "SoundSpellerModel" "usedTimes" "I", Cond.fieldLink RX8 25 "SoundSpellerModel" "ruleFor" "[I", Cond.fieldLink RX8 28 "SoundSpellerModel" "sounds" "[I"]
def wsX8_uses_r2 : List Cond := [Cond.methodLink RX8 97 yX8_ruleAtPlace, Cond.instanceMethod yX8_ruleAtPlace, Cond.selects RX8 yX8_ruleAtPlace yX8_ruleAtPlace, Cond.code yX8_ruleAtPlace cX8_ruleAtPlace 4 (some .int), Cond.methodLink RX8 81 yX8_stands, Cond.instanceMethod yX8_stands, Cond.selects RX8 yX8_stands yX8_stands, Cond.code yX8_stands cX8_stands 6 (some .boolean), Cond.methodLink RX8 70 yX8_ruleAt, Cond.static yX8_ruleAt, Cond.code yX8_ruleAt cX8_ruleAt 1 (some .int), Cond.methodLink RX8 85 yX8_holds, Cond.instanceMethod yX8_holds, Cond.selects RX8 yX8_holds yX8_holds, Cond.code yX8_holds cX8_holds 5 (some .boolean), Cond.methodLink RX8 77 yX8_isVowel, Cond.static yX8_isVowel, Cond.code yX8_isVowel cX8_isVowel 1 (some .boolean), Cond.methodLink RX8 88 yX8_weight, Cond.instanceMethod yX8_weight, Cond.selects RX8 yX8_weight yX8_weight, Cond.code yX8_weight cX8_weight 2 (some .int)]
def wsX8_uses : List Cond := .code yX8_uses cX8_uses 2 none :: ((wsX8_uses_r1 ++ wsX8_uses_r2) ++ wsX80)
def wsX8_writes : List Cond := .code yX8_writes cX8_writes 2 none :: ([.fieldLink RX8 34 "SoundSpellerModel" "out" "[I", .fieldLink RX8 113 "SoundSpellerModel" "outLong" "I"] ++ wsX80)
def wsX8_writesItself : List Cond := .code yX8_writesItself cX8_writesItself 2 none :: ([.fieldLink RX8 74 "SoundSpellerModel" "size" "I", .fieldLink RX8 22 "SoundSpellerModel" "letters" "[I", .methodLink RX8 116 yX8_writes, .instanceMethod yX8_writes, .selects RX8 yX8_writes yX8_writes, .initialized RX8, .code yX8_writes cX8_writes 2 none, .fieldLink RX8 34 "SoundSpellerModel" "out" "[I", .fieldLink RX8 113 "SoundSpellerModel" "outLong" "I"] ++ wsX80)
def wsX8_writesAs_r1 : List Cond := [Cond.fieldLink RX8 113 "SoundSpellerModel" "outLong" "I", Cond.fieldLink RX8 91 "SoundSpellerModel" "soundsLong" "I", Cond.fieldLink RX8 28 "SoundSpellerModel" "sounds" "[I", Cond.constantLong RX8 122 (65), Cond.constantLong RX8 124 (90), Cond.fieldLink RX8 7 "SoundSpellerModel" "all" "[I", Cond.methodLink RX8 119 yX8_writesItself, Cond.instanceMethod yX8_writesItself, Cond.selects RX8 yX8_writesItself yX8_writesItself, Cond.initialized RX8, Cond.code yX8_writesItself cX8_writesItself 2 none, Cond.fieldLink RX8 74 "SoundSpellerModel" "size" "I", Cond.fieldLink RX8 22 "SoundSpellerModel" "letters" "[I", Cond.methodLink RX8 116 yX8_writes, Cond.instanceMethod yX8_writes, Cond.selects RX8 yX8_writes yX8_writes, Cond.code yX8_writes cX8_writes 2 none, Cond.fieldLink RX8 34 "SoundSpellerModel" "out" "[I", Cond.methodLink RX8 110 yX8_findsSounds, Cond.instanceMethod yX8_findsSounds, Cond.selects RX8 yX8_findsSounds yX8_findsSounds, Cond.code yX8_findsSounds cX8_findsSounds 6 none, Cond.fieldLink RX8 94 "SoundSpellerModel" "usedTimes" "I", Cond.fieldLink RX8 25 "SoundSpellerModel" "ruleFor" "[I"]
def wsX8_writesAs_r2 : List Cond := [Cond.fieldLink RX8 31 "SoundSpellerModel" "used" "[I", Cond.methodLink RX8 97 yX8_ruleAtPlace, Cond.instanceMethod yX8_ruleAtPlace, Cond.selects RX8 yX8_ruleAtPlace yX8_ruleAtPlace, Cond.code yX8_ruleAtPlace cX8_ruleAtPlace 4 (some .int), Cond.methodLink RX8 81 yX8_stands, Cond.instanceMethod yX8_stands, Cond.selects RX8 yX8_stands yX8_stands, Cond.code yX8_stands cX8_stands 6 (some .boolean), Cond.methodLink RX8 70 yX8_ruleAt, Cond.static yX8_ruleAt, Cond.code yX8_ruleAt cX8_ruleAt 1 (some .int), Cond.methodLink RX8 85 yX8_holds, Cond.instanceMethod yX8_holds, Cond.selects RX8 yX8_holds yX8_holds, Cond.code yX8_holds cX8_holds 5 (some .boolean), Cond.methodLink RX8 77 yX8_isVowel, Cond.static yX8_isVowel, Cond.code yX8_isVowel cX8_isVowel 1 (some .boolean), Cond.methodLink RX8 88 yX8_weight, Cond.instanceMethod yX8_weight, Cond.selects RX8 yX8_weight yX8_weight, Cond.code yX8_weight cX8_weight 2 (some .int), Cond.methodLink RX8 66 yX8_in]
def wsX8_writesAs_r3 : List Cond := [Cond.static yX8_in, Cond.code yX8_in cX8_in 6 (some .boolean)]
def wsX8_writesAs : List Cond := .code yX8_writesAs cX8_writesAs 5 none :: ((wsX8_writesAs_r1 ++ (wsX8_writesAs_r2 ++ wsX8_writesAs_r3)) ++ wsX80)
def wsX8_spells_r1 : List Cond := [Cond.fieldLink RX8 7 "SoundSpellerModel" "all" "[I", Cond.fieldLink RX8 40 "SoundSpellerModel" "spellingLong" "[I", Cond.fieldLink RX8 113 "SoundSpellerModel" "outLong" "I", Cond.fieldLink RX8 37 "SoundSpellerModel" "spelling" "[I", Cond.fieldLink RX8 34 "SoundSpellerModel" "out" "[I", Cond.methodLink RX8 106 yX8_lays, Cond.instanceMethod yX8_lays, Cond.selects RX8 yX8_lays yX8_lays, Cond.initialized RX8, Cond.code yX8_lays cX8_lays 3 none, Cond.fieldLink RX8 74 "SoundSpellerModel" "size" "I", Cond.fieldLink RX8 22 "SoundSpellerModel" "letters" "[I", Cond.methodLink RX8 100 yX8_wordAt, Cond.static yX8_wordAt, Cond.code yX8_wordAt cX8_wordAt 1 (some .int), Cond.methodLink RX8 126 yX8_writesAs, Cond.instanceMethod yX8_writesAs, Cond.selects RX8 yX8_writesAs yX8_writesAs, Cond.code yX8_writesAs cX8_writesAs 5 none, Cond.fieldLink RX8 91 "SoundSpellerModel" "soundsLong" "I", Cond.fieldLink RX8 28 "SoundSpellerModel" "sounds" "[I", Cond.constantLong RX8 122 (65), Cond.constantLong RX8 124 (90), Cond.methodLink RX8 119 yX8_writesItself]
def wsX8_spells_r2 : List Cond := [Cond.instanceMethod yX8_writesItself, Cond.selects RX8 yX8_writesItself yX8_writesItself, Cond.code yX8_writesItself cX8_writesItself 2 none, Cond.methodLink RX8 116 yX8_writes, Cond.instanceMethod yX8_writes, Cond.selects RX8 yX8_writes yX8_writes, Cond.code yX8_writes cX8_writes 2 none, Cond.methodLink RX8 110 yX8_findsSounds, Cond.instanceMethod yX8_findsSounds, Cond.selects RX8 yX8_findsSounds yX8_findsSounds, Cond.code yX8_findsSounds cX8_findsSounds 6 none, Cond.fieldLink RX8 94 "SoundSpellerModel" "usedTimes" "I", Cond.fieldLink RX8 25 "SoundSpellerModel" "ruleFor" "[I", Cond.fieldLink RX8 31 "SoundSpellerModel" "used" "[I", Cond.methodLink RX8 97 yX8_ruleAtPlace, Cond.instanceMethod yX8_ruleAtPlace, Cond.selects RX8 yX8_ruleAtPlace yX8_ruleAtPlace, Cond.code yX8_ruleAtPlace cX8_ruleAtPlace 4 (some .int), Cond.methodLink RX8 81 yX8_stands, Cond.instanceMethod yX8_stands, Cond.selects RX8 yX8_stands yX8_stands, Cond.code yX8_stands cX8_stands 6 (some .boolean), Cond.methodLink RX8 70 yX8_ruleAt, Cond.static yX8_ruleAt]
def wsX8_spells_r3 : List Cond := [Cond.code yX8_ruleAt cX8_ruleAt 1 (some .int), Cond.methodLink RX8 85 yX8_holds, Cond.instanceMethod yX8_holds, Cond.selects RX8 yX8_holds yX8_holds, Cond.code yX8_holds cX8_holds 5 (some .boolean), Cond.methodLink RX8 77 yX8_isVowel, Cond.static yX8_isVowel, Cond.code yX8_isVowel cX8_isVowel 1 (some .boolean), Cond.methodLink RX8 88 yX8_weight, Cond.instanceMethod yX8_weight, Cond.selects RX8 yX8_weight yX8_weight, Cond.code yX8_weight cX8_weight 2 (some .int), Cond.methodLink RX8 66 yX8_in, Cond.static yX8_in, Cond.code yX8_in cX8_in 6 (some .boolean)]
def wsX8_spells : List Cond := .code yX8_spells cX8_spells 3 none :: ((wsX8_spells_r1 ++ (wsX8_spells_r2 ++ wsX8_spells_r3)) ++ wsX80)
def wsX8_areSame : List Cond := .code yX8_areSame cX8_areSame 5 (some .boolean) :: ([.fieldLink RX8 40 "SoundSpellerModel" "spellingLong" "[I", .fieldLink RX8 37 "SoundSpellerModel" "spelling" "[I"] ++ wsX80)
def wsX8_withSpelling : List Cond := .code yX8_withSpelling cX8_withSpelling 5 (some .int) :: ([.fieldLink RX8 7 "SoundSpellerModel" "all" "[I", .methodLink RX8 129 yX8_areSame, .instanceMethod yX8_areSame, .selects RX8 yX8_areSame yX8_areSame, .initialized RX8, .code yX8_areSame cX8_areSame 5 (some .boolean), .fieldLink RX8 40 "SoundSpellerModel" "spellingLong" "[I", .fieldLink RX8 37 "SoundSpellerModel" "spelling" "[I"] ++ wsX80)
def wsX8_colliding_r1 : List Cond := [Cond.fieldLink RX8 7 "SoundSpellerModel" "all" "[I", Cond.methodLink RX8 132 yX8_spells, Cond.instanceMethod yX8_spells, Cond.selects RX8 yX8_spells yX8_spells, Cond.initialized RX8, Cond.code yX8_spells cX8_spells 3 none, Cond.fieldLink RX8 40 "SoundSpellerModel" "spellingLong" "[I", Cond.fieldLink RX8 113 "SoundSpellerModel" "outLong" "I", Cond.fieldLink RX8 37 "SoundSpellerModel" "spelling" "[I", Cond.fieldLink RX8 34 "SoundSpellerModel" "out" "[I", Cond.methodLink RX8 106 yX8_lays, Cond.instanceMethod yX8_lays, Cond.selects RX8 yX8_lays yX8_lays, Cond.code yX8_lays cX8_lays 3 none, Cond.fieldLink RX8 74 "SoundSpellerModel" "size" "I", Cond.fieldLink RX8 22 "SoundSpellerModel" "letters" "[I", Cond.methodLink RX8 100 yX8_wordAt, Cond.static yX8_wordAt, Cond.code yX8_wordAt cX8_wordAt 1 (some .int), Cond.methodLink RX8 126 yX8_writesAs, Cond.instanceMethod yX8_writesAs, Cond.selects RX8 yX8_writesAs yX8_writesAs, Cond.code yX8_writesAs cX8_writesAs 5 none, Cond.fieldLink RX8 91 "SoundSpellerModel" "soundsLong" "I"]
def wsX8_colliding_r2 : List Cond := [Cond.fieldLink RX8 28 "SoundSpellerModel" "sounds" "[I", Cond.constantLong RX8 122 (65), Cond.constantLong RX8 124 (90), Cond.methodLink RX8 119 yX8_writesItself, Cond.instanceMethod yX8_writesItself, Cond.selects RX8 yX8_writesItself yX8_writesItself, Cond.code yX8_writesItself cX8_writesItself 2 none, Cond.methodLink RX8 116 yX8_writes, Cond.instanceMethod yX8_writes, Cond.selects RX8 yX8_writes yX8_writes, Cond.code yX8_writes cX8_writes 2 none, Cond.methodLink RX8 110 yX8_findsSounds, Cond.instanceMethod yX8_findsSounds, Cond.selects RX8 yX8_findsSounds yX8_findsSounds, Cond.code yX8_findsSounds cX8_findsSounds 6 none, Cond.fieldLink RX8 94 "SoundSpellerModel" "usedTimes" "I", Cond.fieldLink RX8 25 "SoundSpellerModel" "ruleFor" "[I", Cond.fieldLink RX8 31 "SoundSpellerModel" "used" "[I", Cond.methodLink RX8 97 yX8_ruleAtPlace, Cond.instanceMethod yX8_ruleAtPlace, Cond.selects RX8 yX8_ruleAtPlace yX8_ruleAtPlace, Cond.code yX8_ruleAtPlace cX8_ruleAtPlace 4 (some .int), Cond.methodLink RX8 81 yX8_stands, Cond.instanceMethod yX8_stands]
def wsX8_colliding_r3 : List Cond := [Cond.selects RX8 yX8_stands yX8_stands, Cond.code yX8_stands cX8_stands 6 (some .boolean), Cond.methodLink RX8 70 yX8_ruleAt, Cond.static yX8_ruleAt, Cond.code yX8_ruleAt cX8_ruleAt 1 (some .int), Cond.methodLink RX8 85 yX8_holds, Cond.instanceMethod yX8_holds, Cond.selects RX8 yX8_holds yX8_holds, Cond.code yX8_holds cX8_holds 5 (some .boolean), Cond.methodLink RX8 77 yX8_isVowel, Cond.static yX8_isVowel, Cond.code yX8_isVowel cX8_isVowel 1 (some .boolean), Cond.methodLink RX8 88 yX8_weight, Cond.instanceMethod yX8_weight, Cond.selects RX8 yX8_weight yX8_weight, Cond.code yX8_weight cX8_weight 2 (some .int), Cond.methodLink RX8 66 yX8_in, Cond.static yX8_in, Cond.code yX8_in cX8_in 6 (some .boolean), Cond.methodLink RX8 135 yX8_withSpelling, Cond.instanceMethod yX8_withSpelling, Cond.selects RX8 yX8_withSpelling yX8_withSpelling, Cond.code yX8_withSpelling cX8_withSpelling 5 (some .int), Cond.methodLink RX8 129 yX8_areSame]
def wsX8_colliding_r4 : List Cond := [Cond.instanceMethod yX8_areSame, Cond.selects RX8 yX8_areSame yX8_areSame, Cond.code yX8_areSame cX8_areSame 5 (some .boolean)]
def wsX8_colliding : List Cond := .code yX8_colliding cX8_colliding 3 (some .int) :: ((wsX8_colliding_r1 ++ (wsX8_colliding_r2 ++ (wsX8_colliding_r3 ++ wsX8_colliding_r4))) ++ wsX80)
def wsX8_type : List Cond := .code yX8_type cX8_type 2 (some .int) :: ([.fieldLink RX8 139 "SoundSpellerModel" "textLong" "I", .fieldLink RX8 43 "SoundSpellerModel" "text" "[I"] ++ wsX80)
def wsX8_clearText : List Cond := .code yX8_clearText cX8_clearText 2 (some .int) :: ([.fieldLink RX8 139 "SoundSpellerModel" "textLong" "I"] ++ wsX80)
def wsX8_isHere : List Cond := .code yX8_isHere cX8_isHere 3 (some .boolean) :: ([.fieldLink RX8 142 "SoundSpellerModel" "spot" "I", .fieldLink RX8 139 "SoundSpellerModel" "textLong" "I", .fieldLink RX8 43 "SoundSpellerModel" "text" "[I", .methodLink RX8 66 yX8_in, .static yX8_in, .initialized RX8, .code yX8_in cX8_in 6 (some .boolean)] ++ wsX80)
def wsX8_takes : List Cond := .code yX8_takes cX8_takes 3 (some .boolean) :: ([.fieldLink RX8 142 "SoundSpellerModel" "spot" "I", .methodLink RX8 145 yX8_isHere, .instanceMethod yX8_isHere, .selects RX8 yX8_isHere yX8_isHere, .initialized RX8, .code yX8_isHere cX8_isHere 3 (some .boolean), .fieldLink RX8 139 "SoundSpellerModel" "textLong" "I", .fieldLink RX8 43 "SoundSpellerModel" "text" "[I", .methodLink RX8 66 yX8_in, .static yX8_in, .code yX8_in cX8_in 6 (some .boolean)] ++ wsX80)
def wsX8_passes : List Cond := .code yX8_passes cX8_passes 3 (some .int) :: ([.fieldLink RX8 142 "SoundSpellerModel" "spot" "I", .methodLink RX8 145 yX8_isHere, .instanceMethod yX8_isHere, .selects RX8 yX8_isHere yX8_isHere, .initialized RX8, .code yX8_isHere cX8_isHere 3 (some .boolean), .fieldLink RX8 139 "SoundSpellerModel" "textLong" "I", .fieldLink RX8 43 "SoundSpellerModel" "text" "[I", .methodLink RX8 66 yX8_in, .static yX8_in, .code yX8_in cX8_in 6 (some .boolean)] ++ wsX80)
def wsX8_sideOf : List Cond := .code yX8_sideOf cX8_sideOf 1 (some .int) :: ([])
def wsX8_isBeyond : List Cond := .code yX8_isBeyond cX8_isBeyond 8 (some .boolean) :: ([.fieldLink RX8 172 "SoundSpellerModel" "manyMore" "I", .fieldLink RX8 46 "SoundSpellerModel" "more" "[I", .fieldLink RX8 43 "SoundSpellerModel" "text" "[I"] ++ wsX80)
def wsX8_isAt : List Cond := .code yX8_isAt cX8_isAt 6 (some .boolean) :: ([.fieldLink RX8 7 "SoundSpellerModel" "all" "[I", .fieldLink RX8 43 "SoundSpellerModel" "text" "[I"] ++ wsX80)
def wsX8_goesBeyond : List Cond := .code yX8_goesBeyond cX8_goesBeyond 4 none :: ([.fieldLink RX8 175 "SoundSpellerModel" "isTooMany" "Z", .fieldLink RX8 46 "SoundSpellerModel" "more" "[I", .fieldLink RX8 172 "SoundSpellerModel" "manyMore" "I"] ++ wsX80)
def wsX8_addsWord : List Cond := .code yX8_addsWord cX8_addsWord 7 none :: ([.fieldLink RX8 7 "SoundSpellerModel" "all" "[I", .fieldLink RX8 186 "SoundSpellerModel" "isTwice" "Z", .fieldLink RX8 43 "SoundSpellerModel" "text" "[I", .methodLink RX8 179 yX8_isBeyond, .instanceMethod yX8_isBeyond, .selects RX8 yX8_isBeyond yX8_isBeyond, .initialized RX8, .code yX8_isBeyond cX8_isBeyond 8 (some .boolean), .fieldLink RX8 172 "SoundSpellerModel" "manyMore" "I", .fieldLink RX8 46 "SoundSpellerModel" "more" "[I", .methodLink RX8 100 yX8_wordAt, .static yX8_wordAt, .code yX8_wordAt cX8_wordAt 1 (some .int), .methodLink RX8 183 yX8_isAt, .instanceMethod yX8_isAt, .selects RX8 yX8_isAt yX8_isAt, .code yX8_isAt cX8_isAt 6 (some .boolean), .methodLink RX8 189 yX8_goesBeyond, .instanceMethod yX8_goesBeyond, .selects RX8 yX8_goesBeyond yX8_goesBeyond, .code yX8_goesBeyond cX8_goesBeyond 4 none, .fieldLink RX8 175 "SoundSpellerModel" "isTooMany" "Z"] ++ wsX80)
def wsX8_setsSign : List Cond := .code yX8_setsSign cX8_setsSign 5 none :: ([.fieldLink RX8 7 "SoundSpellerModel" "all" "[I", .fieldLink RX8 43 "SoundSpellerModel" "text" "[I"] ++ wsX80)
def wsX8_addsRule : List Cond := .code yX8_addsRule cX8_addsRule 8 none :: ([.fieldLink RX8 7 "SoundSpellerModel" "all" "[I", .fieldLink RX8 186 "SoundSpellerModel" "isTwice" "Z", .fieldLink RX8 43 "SoundSpellerModel" "text" "[I", .methodLink RX8 179 yX8_isBeyond, .instanceMethod yX8_isBeyond, .selects RX8 yX8_isBeyond yX8_isBeyond, .initialized RX8, .code yX8_isBeyond cX8_isBeyond 8 (some .boolean), .fieldLink RX8 172 "SoundSpellerModel" "manyMore" "I", .fieldLink RX8 46 "SoundSpellerModel" "more" "[I", .methodLink RX8 70 yX8_ruleAt, .static yX8_ruleAt, .code yX8_ruleAt cX8_ruleAt 1 (some .int), .methodLink RX8 183 yX8_isAt, .instanceMethod yX8_isAt, .selects RX8 yX8_isAt yX8_isAt, .code yX8_isAt cX8_isAt 6 (some .boolean), .methodLink RX8 189 yX8_goesBeyond, .instanceMethod yX8_goesBeyond, .selects RX8 yX8_goesBeyond yX8_goesBeyond, .code yX8_goesBeyond cX8_goesBeyond 4 none, .fieldLink RX8 175 "SoundSpellerModel" "isTooMany" "Z"] ++ wsX80)
def wsX8_readsEntry_r1 : List Cond := [Cond.fieldLink RX8 142 "SoundSpellerModel" "spot" "I", Cond.fieldLink RX8 43 "SoundSpellerModel" "text" "[I", Cond.fieldLink RX8 139 "SoundSpellerModel" "textLong" "I", Cond.methodLink RX8 148 yX8_takes, Cond.instanceMethod yX8_takes, Cond.selects RX8 yX8_takes yX8_takes, Cond.initialized RX8, Cond.code yX8_takes cX8_takes 3 (some .boolean), Cond.methodLink RX8 145 yX8_isHere, Cond.instanceMethod yX8_isHere, Cond.selects RX8 yX8_isHere yX8_isHere, Cond.code yX8_isHere cX8_isHere 3 (some .boolean), Cond.methodLink RX8 66 yX8_in, Cond.static yX8_in, Cond.code yX8_in cX8_in 6 (some .boolean), Cond.methodLink RX8 151 yX8_passes, Cond.instanceMethod yX8_passes, Cond.selects RX8 yX8_passes yX8_passes, Cond.code yX8_passes cX8_passes 3 (some .int), Cond.methodLink RX8 154 yX8_addsWord, Cond.instanceMethod yX8_addsWord, Cond.selects RX8 yX8_addsWord yX8_addsWord, Cond.code yX8_addsWord cX8_addsWord 7 none, Cond.fieldLink RX8 7 "SoundSpellerModel" "all" "[I"]
def wsX8_readsEntry_r2 : List Cond := [Cond.fieldLink RX8 186 "SoundSpellerModel" "isTwice" "Z", Cond.methodLink RX8 179 yX8_isBeyond, Cond.instanceMethod yX8_isBeyond, Cond.selects RX8 yX8_isBeyond yX8_isBeyond, Cond.code yX8_isBeyond cX8_isBeyond 8 (some .boolean), Cond.fieldLink RX8 172 "SoundSpellerModel" "manyMore" "I", Cond.fieldLink RX8 46 "SoundSpellerModel" "more" "[I", Cond.methodLink RX8 100 yX8_wordAt, Cond.static yX8_wordAt, Cond.code yX8_wordAt cX8_wordAt 1 (some .int), Cond.methodLink RX8 183 yX8_isAt, Cond.instanceMethod yX8_isAt, Cond.selects RX8 yX8_isAt yX8_isAt, Cond.code yX8_isAt cX8_isAt 6 (some .boolean), Cond.methodLink RX8 189 yX8_goesBeyond, Cond.instanceMethod yX8_goesBeyond, Cond.selects RX8 yX8_goesBeyond yX8_goesBeyond, Cond.code yX8_goesBeyond cX8_goesBeyond 4 none, Cond.fieldLink RX8 175 "SoundSpellerModel" "isTooMany" "Z", Cond.methodLink RX8 158 yX8_setsSign, Cond.instanceMethod yX8_setsSign, Cond.selects RX8 yX8_setsSign yX8_setsSign, Cond.code yX8_setsSign cX8_setsSign 5 none, Cond.methodLink RX8 161 yX8_sideOf]
def wsX8_readsEntry_r3 : List Cond := [Cond.static yX8_sideOf, Cond.code yX8_sideOf cX8_sideOf 1 (some .int), Cond.methodLink RX8 164 yX8_addsRule, Cond.instanceMethod yX8_addsRule, Cond.selects RX8 yX8_addsRule yX8_addsRule, Cond.code yX8_addsRule cX8_addsRule 8 none, Cond.methodLink RX8 70 yX8_ruleAt, Cond.static yX8_ruleAt, Cond.code yX8_ruleAt cX8_ruleAt 1 (some .int)]
def wsX8_readsEntry : List Cond := .code yX8_readsEntry cX8_readsEntry 6 (some .boolean) :: ((wsX8_readsEntry_r1 ++ (wsX8_readsEntry_r2 ++ wsX8_readsEntry_r3)) ++ wsX80)
def wsX8_faultOfEntries_r1 : List Cond := [Cond.fieldLink RX8 142 "SoundSpellerModel" "spot" "I", Cond.fieldLink RX8 139 "SoundSpellerModel" "textLong" "I", Cond.methodLink RX8 168 yX8_readsEntry, Cond.instanceMethod yX8_readsEntry, Cond.selects RX8 yX8_readsEntry yX8_readsEntry, Cond.initialized RX8, Cond.code yX8_readsEntry cX8_readsEntry 6 (some .boolean), Cond.fieldLink RX8 43 "SoundSpellerModel" "text" "[I", Cond.methodLink RX8 148 yX8_takes, Cond.instanceMethod yX8_takes, Cond.selects RX8 yX8_takes yX8_takes, Cond.code yX8_takes cX8_takes 3 (some .boolean), Cond.methodLink RX8 145 yX8_isHere, Cond.instanceMethod yX8_isHere, Cond.selects RX8 yX8_isHere yX8_isHere, Cond.code yX8_isHere cX8_isHere 3 (some .boolean), Cond.methodLink RX8 66 yX8_in, Cond.static yX8_in, Cond.code yX8_in cX8_in 6 (some .boolean), Cond.methodLink RX8 151 yX8_passes, Cond.instanceMethod yX8_passes, Cond.selects RX8 yX8_passes yX8_passes, Cond.code yX8_passes cX8_passes 3 (some .int), Cond.methodLink RX8 154 yX8_addsWord]
def wsX8_faultOfEntries_r2 : List Cond := [Cond.instanceMethod yX8_addsWord, Cond.selects RX8 yX8_addsWord yX8_addsWord, Cond.code yX8_addsWord cX8_addsWord 7 none, Cond.fieldLink RX8 7 "SoundSpellerModel" "all" "[I", Cond.fieldLink RX8 186 "SoundSpellerModel" "isTwice" "Z", Cond.methodLink RX8 179 yX8_isBeyond, Cond.instanceMethod yX8_isBeyond, Cond.selects RX8 yX8_isBeyond yX8_isBeyond, Cond.code yX8_isBeyond cX8_isBeyond 8 (some .boolean), Cond.fieldLink RX8 172 "SoundSpellerModel" "manyMore" "I", Cond.fieldLink RX8 46 "SoundSpellerModel" "more" "[I", Cond.methodLink RX8 100 yX8_wordAt, Cond.static yX8_wordAt, Cond.code yX8_wordAt cX8_wordAt 1 (some .int), Cond.methodLink RX8 183 yX8_isAt, Cond.instanceMethod yX8_isAt, Cond.selects RX8 yX8_isAt yX8_isAt, Cond.code yX8_isAt cX8_isAt 6 (some .boolean), Cond.methodLink RX8 189 yX8_goesBeyond, Cond.instanceMethod yX8_goesBeyond, Cond.selects RX8 yX8_goesBeyond yX8_goesBeyond, Cond.code yX8_goesBeyond cX8_goesBeyond 4 none, Cond.fieldLink RX8 175 "SoundSpellerModel" "isTooMany" "Z", Cond.methodLink RX8 158 yX8_setsSign]
def wsX8_faultOfEntries_r3 : List Cond := [Cond.instanceMethod yX8_setsSign, Cond.selects RX8 yX8_setsSign yX8_setsSign, Cond.code yX8_setsSign cX8_setsSign 5 none, Cond.methodLink RX8 161 yX8_sideOf, Cond.static yX8_sideOf, Cond.code yX8_sideOf cX8_sideOf 1 (some .int), Cond.methodLink RX8 164 yX8_addsRule, Cond.instanceMethod yX8_addsRule, Cond.selects RX8 yX8_addsRule yX8_addsRule, Cond.code yX8_addsRule cX8_addsRule 8 none, Cond.methodLink RX8 70 yX8_ruleAt, Cond.static yX8_ruleAt, Cond.code yX8_ruleAt cX8_ruleAt 1 (some .int)]
def wsX8_faultOfEntries : List Cond := .code yX8_faultOfEntries cX8_faultOfEntries 2 (some .int) :: ((wsX8_faultOfEntries_r1 ++ (wsX8_faultOfEntries_r2 ++ wsX8_faultOfEntries_r3)) ++ wsX80)
def wsX8_readEntries_r1 : List Cond := [Cond.fieldLink RX8 142 "SoundSpellerModel" "spot" "I", Cond.fieldLink RX8 186 "SoundSpellerModel" "isTwice" "Z", Cond.fieldLink RX8 175 "SoundSpellerModel" "isTooMany" "Z", Cond.fieldLink RX8 172 "SoundSpellerModel" "manyMore" "I", Cond.methodLink RX8 192 yX8_faultOfEntries, Cond.instanceMethod yX8_faultOfEntries, Cond.selects RX8 yX8_faultOfEntries yX8_faultOfEntries, Cond.initialized RX8, Cond.code yX8_faultOfEntries cX8_faultOfEntries 2 (some .int), Cond.fieldLink RX8 139 "SoundSpellerModel" "textLong" "I", Cond.methodLink RX8 168 yX8_readsEntry, Cond.instanceMethod yX8_readsEntry, Cond.selects RX8 yX8_readsEntry yX8_readsEntry, Cond.code yX8_readsEntry cX8_readsEntry 6 (some .boolean), Cond.fieldLink RX8 43 "SoundSpellerModel" "text" "[I", Cond.methodLink RX8 148 yX8_takes, Cond.instanceMethod yX8_takes, Cond.selects RX8 yX8_takes yX8_takes, Cond.code yX8_takes cX8_takes 3 (some .boolean), Cond.methodLink RX8 145 yX8_isHere, Cond.instanceMethod yX8_isHere, Cond.selects RX8 yX8_isHere yX8_isHere, Cond.code yX8_isHere cX8_isHere 3 (some .boolean), Cond.methodLink RX8 66 yX8_in]
def wsX8_readEntries_r2 : List Cond := [Cond.static yX8_in, Cond.code yX8_in cX8_in 6 (some .boolean), Cond.methodLink RX8 151 yX8_passes, Cond.instanceMethod yX8_passes, Cond.selects RX8 yX8_passes yX8_passes, Cond.code yX8_passes cX8_passes 3 (some .int), Cond.methodLink RX8 154 yX8_addsWord, Cond.instanceMethod yX8_addsWord, Cond.selects RX8 yX8_addsWord yX8_addsWord, Cond.code yX8_addsWord cX8_addsWord 7 none, Cond.fieldLink RX8 7 "SoundSpellerModel" "all" "[I", Cond.methodLink RX8 179 yX8_isBeyond, Cond.instanceMethod yX8_isBeyond, Cond.selects RX8 yX8_isBeyond yX8_isBeyond, Cond.code yX8_isBeyond cX8_isBeyond 8 (some .boolean), Cond.fieldLink RX8 46 "SoundSpellerModel" "more" "[I", Cond.methodLink RX8 100 yX8_wordAt, Cond.static yX8_wordAt, Cond.code yX8_wordAt cX8_wordAt 1 (some .int), Cond.methodLink RX8 183 yX8_isAt, Cond.instanceMethod yX8_isAt, Cond.selects RX8 yX8_isAt yX8_isAt, Cond.code yX8_isAt cX8_isAt 6 (some .boolean), Cond.methodLink RX8 189 yX8_goesBeyond]
def wsX8_readEntries_r3 : List Cond := [Cond.instanceMethod yX8_goesBeyond, Cond.selects RX8 yX8_goesBeyond yX8_goesBeyond, Cond.code yX8_goesBeyond cX8_goesBeyond 4 none, Cond.methodLink RX8 158 yX8_setsSign, Cond.instanceMethod yX8_setsSign, Cond.selects RX8 yX8_setsSign yX8_setsSign, Cond.code yX8_setsSign cX8_setsSign 5 none, Cond.methodLink RX8 161 yX8_sideOf, Cond.static yX8_sideOf, Cond.code yX8_sideOf cX8_sideOf 1 (some .int), Cond.methodLink RX8 164 yX8_addsRule, Cond.instanceMethod yX8_addsRule, Cond.selects RX8 yX8_addsRule yX8_addsRule, Cond.code yX8_addsRule cX8_addsRule 8 none, Cond.methodLink RX8 70 yX8_ruleAt, Cond.static yX8_ruleAt, Cond.code yX8_ruleAt cX8_ruleAt 1 (some .int), Cond.methodLink RX8 196 yX8_remember, Cond.instanceMethod yX8_remember, Cond.selects RX8 yX8_remember yX8_remember, Cond.code yX8_remember cX8_remember 1 none, Cond.fieldLink RX8 13 "SoundSpellerModel" "kept" "[I", Cond.methodLink RX8 58 yX8_copy, Cond.static yX8_copy]
def wsX8_readEntries_r4 : List Cond := [Cond.code yX8_copy cX8_copy 3 none, Cond.methodLink RX8 199 yX8_refused, Cond.instanceMethod yX8_refused, Cond.selects RX8 yX8_refused yX8_refused, Cond.code yX8_refused cX8_refused 2 (some .int), Cond.methodLink RX8 202 yX8_acted, Cond.instanceMethod yX8_acted, Cond.selects RX8 yX8_acted yX8_acted, Cond.code yX8_acted cX8_acted 3 (some .int), Cond.fieldLink RX8 62 "SoundSpellerModel" "historyLong" "I", Cond.fieldLink RX8 16 "SoundSpellerModel" "history" "[I"]
def wsX8_readEntries : List Cond := .code yX8_readEntries cX8_readEntries 4 (some .int) :: ((wsX8_readEntries_r1 ++ (wsX8_readEntries_r2 ++ (wsX8_readEntries_r3 ++ wsX8_readEntries_r4))) ++ wsX80)
def wsX8_takesOut : List Cond := .code yX8_takesOut cX8_takesOut 6 none :: ([.fieldLink RX8 7 "SoundSpellerModel" "all" "[I"] ++ wsX80)
def wsX8_removeRule_r1 : List Cond := [Cond.fieldLink RX8 7 "SoundSpellerModel" "all" "[I", Cond.methodLink RX8 205 yX8_isRule, Cond.instanceMethod yX8_isRule, Cond.selects RX8 yX8_isRule yX8_isRule, Cond.initialized RX8, Cond.code yX8_isRule cX8_isRule 2 (some .boolean), Cond.methodLink RX8 66 yX8_in, Cond.static yX8_in, Cond.code yX8_in cX8_in 6 (some .boolean), Cond.methodLink RX8 196 yX8_remember, Cond.instanceMethod yX8_remember, Cond.selects RX8 yX8_remember yX8_remember, Cond.code yX8_remember cX8_remember 1 none, Cond.fieldLink RX8 13 "SoundSpellerModel" "kept" "[I", Cond.methodLink RX8 58 yX8_copy, Cond.static yX8_copy, Cond.code yX8_copy cX8_copy 3 none, Cond.methodLink RX8 208 yX8_takesOut, Cond.instanceMethod yX8_takesOut, Cond.selects RX8 yX8_takesOut yX8_takesOut, Cond.code yX8_takesOut cX8_takesOut 6 none, Cond.methodLink RX8 202 yX8_acted, Cond.instanceMethod yX8_acted, Cond.selects RX8 yX8_acted yX8_acted]
def wsX8_removeRule_r2 : List Cond := [Cond.code yX8_acted cX8_acted 3 (some .int), Cond.fieldLink RX8 62 "SoundSpellerModel" "historyLong" "I", Cond.fieldLink RX8 16 "SoundSpellerModel" "history" "[I"]
def wsX8_removeRule : List Cond := .code yX8_removeRule cX8_removeRule 2 (some .int) :: ((wsX8_removeRule_r1 ++ wsX8_removeRule_r2) ++ wsX80)
def wsX8_changedSpellings_r1 : List Cond := [Cond.fieldLink RX8 7 "SoundSpellerModel" "all" "[I", Cond.fieldLink RX8 52 "SoundSpellerModel" "hadLong" "[I", Cond.fieldLink RX8 40 "SoundSpellerModel" "spellingLong" "[I", Cond.fieldLink RX8 49 "SoundSpellerModel" "had" "[I", Cond.fieldLink RX8 37 "SoundSpellerModel" "spelling" "[I", Cond.methodLink RX8 132 yX8_spells, Cond.instanceMethod yX8_spells, Cond.selects RX8 yX8_spells yX8_spells, Cond.initialized RX8, Cond.code yX8_spells cX8_spells 3 none, Cond.fieldLink RX8 113 "SoundSpellerModel" "outLong" "I", Cond.fieldLink RX8 34 "SoundSpellerModel" "out" "[I", Cond.methodLink RX8 106 yX8_lays, Cond.instanceMethod yX8_lays, Cond.selects RX8 yX8_lays yX8_lays, Cond.code yX8_lays cX8_lays 3 none, Cond.fieldLink RX8 74 "SoundSpellerModel" "size" "I", Cond.fieldLink RX8 22 "SoundSpellerModel" "letters" "[I", Cond.methodLink RX8 100 yX8_wordAt, Cond.static yX8_wordAt, Cond.code yX8_wordAt cX8_wordAt 1 (some .int), Cond.methodLink RX8 126 yX8_writesAs, Cond.instanceMethod yX8_writesAs, Cond.selects RX8 yX8_writesAs yX8_writesAs]
def wsX8_changedSpellings_r2 : List Cond := [Cond.code yX8_writesAs cX8_writesAs 5 none, Cond.fieldLink RX8 91 "SoundSpellerModel" "soundsLong" "I", Cond.fieldLink RX8 28 "SoundSpellerModel" "sounds" "[I", Cond.constantLong RX8 122 (65), Cond.constantLong RX8 124 (90), Cond.methodLink RX8 119 yX8_writesItself, Cond.instanceMethod yX8_writesItself, Cond.selects RX8 yX8_writesItself yX8_writesItself, Cond.code yX8_writesItself cX8_writesItself 2 none, Cond.methodLink RX8 116 yX8_writes, Cond.instanceMethod yX8_writes, Cond.selects RX8 yX8_writes yX8_writes, Cond.code yX8_writes cX8_writes 2 none, Cond.methodLink RX8 110 yX8_findsSounds, Cond.instanceMethod yX8_findsSounds, Cond.selects RX8 yX8_findsSounds yX8_findsSounds, Cond.code yX8_findsSounds cX8_findsSounds 6 none, Cond.fieldLink RX8 94 "SoundSpellerModel" "usedTimes" "I", Cond.fieldLink RX8 25 "SoundSpellerModel" "ruleFor" "[I", Cond.fieldLink RX8 31 "SoundSpellerModel" "used" "[I", Cond.methodLink RX8 97 yX8_ruleAtPlace, Cond.instanceMethod yX8_ruleAtPlace, Cond.selects RX8 yX8_ruleAtPlace yX8_ruleAtPlace, Cond.code yX8_ruleAtPlace cX8_ruleAtPlace 4 (some .int)]
def wsX8_changedSpellings_r3 : List Cond := [Cond.methodLink RX8 81 yX8_stands, Cond.instanceMethod yX8_stands, Cond.selects RX8 yX8_stands yX8_stands, Cond.code yX8_stands cX8_stands 6 (some .boolean), Cond.methodLink RX8 70 yX8_ruleAt, Cond.static yX8_ruleAt, Cond.code yX8_ruleAt cX8_ruleAt 1 (some .int), Cond.methodLink RX8 85 yX8_holds, Cond.instanceMethod yX8_holds, Cond.selects RX8 yX8_holds yX8_holds, Cond.code yX8_holds cX8_holds 5 (some .boolean), Cond.methodLink RX8 77 yX8_isVowel, Cond.static yX8_isVowel, Cond.code yX8_isVowel cX8_isVowel 1 (some .boolean), Cond.methodLink RX8 88 yX8_weight, Cond.instanceMethod yX8_weight, Cond.selects RX8 yX8_weight yX8_weight, Cond.code yX8_weight cX8_weight 2 (some .int), Cond.methodLink RX8 66 yX8_in, Cond.static yX8_in, Cond.code yX8_in cX8_in 6 (some .boolean)]
def wsX8_changedSpellings : List Cond := .code yX8_changedSpellings cX8_changedSpellings 5 (some .int) :: ((wsX8_changedSpellings_r1 ++ (wsX8_changedSpellings_r2 ++ wsX8_changedSpellings_r3)) ++ wsX80)
def wsX8_moveRule_r1 : List Cond := [Cond.fieldLink RX8 49 "SoundSpellerModel" "had" "[I", Cond.fieldLink RX8 37 "SoundSpellerModel" "spelling" "[I", Cond.fieldLink RX8 52 "SoundSpellerModel" "hadLong" "[I", Cond.fieldLink RX8 40 "SoundSpellerModel" "spellingLong" "[I", Cond.fieldLink RX8 7 "SoundSpellerModel" "all" "[I", Cond.fieldLink RX8 13 "SoundSpellerModel" "kept" "[I", Cond.methodLink RX8 205 yX8_isRule, Cond.instanceMethod yX8_isRule, Cond.selects RX8 yX8_isRule yX8_isRule, Cond.initialized RX8, Cond.code yX8_isRule cX8_isRule 2 (some .boolean), Cond.methodLink RX8 66 yX8_in, Cond.static yX8_in, Cond.code yX8_in cX8_in 6 (some .boolean), Cond.methodLink RX8 196 yX8_remember, Cond.instanceMethod yX8_remember, Cond.selects RX8 yX8_remember yX8_remember, Cond.code yX8_remember cX8_remember 1 none, Cond.methodLink RX8 58 yX8_copy, Cond.static yX8_copy, Cond.code yX8_copy cX8_copy 3 none, Cond.methodLink RX8 132 yX8_spells, Cond.instanceMethod yX8_spells, Cond.selects RX8 yX8_spells yX8_spells]
def wsX8_moveRule_r2 : List Cond := [Cond.code yX8_spells cX8_spells 3 none, Cond.fieldLink RX8 113 "SoundSpellerModel" "outLong" "I", Cond.fieldLink RX8 34 "SoundSpellerModel" "out" "[I", Cond.methodLink RX8 106 yX8_lays, Cond.instanceMethod yX8_lays, Cond.selects RX8 yX8_lays yX8_lays, Cond.code yX8_lays cX8_lays 3 none, Cond.fieldLink RX8 74 "SoundSpellerModel" "size" "I", Cond.fieldLink RX8 22 "SoundSpellerModel" "letters" "[I", Cond.methodLink RX8 100 yX8_wordAt, Cond.static yX8_wordAt, Cond.code yX8_wordAt cX8_wordAt 1 (some .int), Cond.methodLink RX8 126 yX8_writesAs, Cond.instanceMethod yX8_writesAs, Cond.selects RX8 yX8_writesAs yX8_writesAs, Cond.code yX8_writesAs cX8_writesAs 5 none, Cond.fieldLink RX8 91 "SoundSpellerModel" "soundsLong" "I", Cond.fieldLink RX8 28 "SoundSpellerModel" "sounds" "[I", Cond.constantLong RX8 122 (65), Cond.constantLong RX8 124 (90), Cond.methodLink RX8 119 yX8_writesItself, Cond.instanceMethod yX8_writesItself, Cond.selects RX8 yX8_writesItself yX8_writesItself, Cond.code yX8_writesItself cX8_writesItself 2 none]
def wsX8_moveRule_r3 : List Cond := [Cond.methodLink RX8 116 yX8_writes, Cond.instanceMethod yX8_writes, Cond.selects RX8 yX8_writes yX8_writes, Cond.code yX8_writes cX8_writes 2 none, Cond.methodLink RX8 110 yX8_findsSounds, Cond.instanceMethod yX8_findsSounds, Cond.selects RX8 yX8_findsSounds yX8_findsSounds, Cond.code yX8_findsSounds cX8_findsSounds 6 none, Cond.fieldLink RX8 94 "SoundSpellerModel" "usedTimes" "I", Cond.fieldLink RX8 25 "SoundSpellerModel" "ruleFor" "[I", Cond.fieldLink RX8 31 "SoundSpellerModel" "used" "[I", Cond.methodLink RX8 97 yX8_ruleAtPlace, Cond.instanceMethod yX8_ruleAtPlace, Cond.selects RX8 yX8_ruleAtPlace yX8_ruleAtPlace, Cond.code yX8_ruleAtPlace cX8_ruleAtPlace 4 (some .int), Cond.methodLink RX8 81 yX8_stands, Cond.instanceMethod yX8_stands, Cond.selects RX8 yX8_stands yX8_stands, Cond.code yX8_stands cX8_stands 6 (some .boolean), Cond.methodLink RX8 70 yX8_ruleAt, Cond.static yX8_ruleAt, Cond.code yX8_ruleAt cX8_ruleAt 1 (some .int), Cond.methodLink RX8 85 yX8_holds, Cond.instanceMethod yX8_holds]
def wsX8_moveRule_r4 : List Cond := [Cond.selects RX8 yX8_holds yX8_holds, Cond.code yX8_holds cX8_holds 5 (some .boolean), Cond.methodLink RX8 77 yX8_isVowel, Cond.static yX8_isVowel, Cond.code yX8_isVowel cX8_isVowel 1 (some .boolean), Cond.methodLink RX8 88 yX8_weight, Cond.instanceMethod yX8_weight, Cond.selects RX8 yX8_weight yX8_weight, Cond.code yX8_weight cX8_weight 2 (some .int), Cond.methodLink RX8 208 yX8_takesOut, Cond.instanceMethod yX8_takesOut, Cond.selects RX8 yX8_takesOut yX8_takesOut, Cond.code yX8_takesOut cX8_takesOut 6 none, Cond.methodLink RX8 211 yX8_changedSpellings, Cond.instanceMethod yX8_changedSpellings, Cond.selects RX8 yX8_changedSpellings yX8_changedSpellings, Cond.code yX8_changedSpellings cX8_changedSpellings 5 (some .int), Cond.methodLink RX8 202 yX8_acted, Cond.instanceMethod yX8_acted, Cond.selects RX8 yX8_acted yX8_acted, Cond.code yX8_acted cX8_acted 3 (some .int), Cond.fieldLink RX8 62 "SoundSpellerModel" "historyLong" "I", Cond.fieldLink RX8 16 "SoundSpellerModel" "history" "[I"]
def wsX8_moveRule : List Cond := .code yX8_moveRule cX8_moveRule 4 (some .int) :: ((wsX8_moveRule_r1 ++ (wsX8_moveRule_r2 ++ (wsX8_moveRule_r3 ++ wsX8_moveRule_r4))) ++ wsX80)
def wsX8_removeWord_r1 : List Cond := [Cond.fieldLink RX8 7 "SoundSpellerModel" "all" "[I", Cond.methodLink RX8 214 yX8_isWord, Cond.instanceMethod yX8_isWord, Cond.selects RX8 yX8_isWord yX8_isWord, Cond.initialized RX8, Cond.code yX8_isWord cX8_isWord 2 (some .boolean), Cond.methodLink RX8 66 yX8_in, Cond.static yX8_in, Cond.code yX8_in cX8_in 6 (some .boolean), Cond.methodLink RX8 196 yX8_remember, Cond.instanceMethod yX8_remember, Cond.selects RX8 yX8_remember yX8_remember, Cond.code yX8_remember cX8_remember 1 none, Cond.fieldLink RX8 13 "SoundSpellerModel" "kept" "[I", Cond.methodLink RX8 58 yX8_copy, Cond.static yX8_copy, Cond.code yX8_copy cX8_copy 3 none, Cond.methodLink RX8 208 yX8_takesOut, Cond.instanceMethod yX8_takesOut, Cond.selects RX8 yX8_takesOut yX8_takesOut, Cond.code yX8_takesOut cX8_takesOut 6 none, Cond.methodLink RX8 202 yX8_acted, Cond.instanceMethod yX8_acted, Cond.selects RX8 yX8_acted yX8_acted]
def wsX8_removeWord_r2 : List Cond := [Cond.code yX8_acted cX8_acted 3 (some .int), Cond.fieldLink RX8 62 "SoundSpellerModel" "historyLong" "I", Cond.fieldLink RX8 16 "SoundSpellerModel" "history" "[I"]
def wsX8_removeWord : List Cond := .code yX8_removeWord cX8_removeWord 2 (some .int) :: ((wsX8_removeWord_r1 ++ wsX8_removeWord_r2) ++ wsX80)
def wsX8_setKind_r1 : List Cond := [Cond.constantLong RX8 217 (2), Cond.fieldLink RX8 7 "SoundSpellerModel" "all" "[I", Cond.methodLink RX8 214 yX8_isWord, Cond.instanceMethod yX8_isWord, Cond.selects RX8 yX8_isWord yX8_isWord, Cond.initialized RX8, Cond.code yX8_isWord cX8_isWord 2 (some .boolean), Cond.methodLink RX8 66 yX8_in, Cond.static yX8_in, Cond.code yX8_in cX8_in 6 (some .boolean), Cond.methodLink RX8 100 yX8_wordAt, Cond.static yX8_wordAt, Cond.code yX8_wordAt cX8_wordAt 1 (some .int), Cond.methodLink RX8 196 yX8_remember, Cond.instanceMethod yX8_remember, Cond.selects RX8 yX8_remember yX8_remember, Cond.code yX8_remember cX8_remember 1 none, Cond.fieldLink RX8 13 "SoundSpellerModel" "kept" "[I", Cond.methodLink RX8 58 yX8_copy, Cond.static yX8_copy, Cond.code yX8_copy cX8_copy 3 none, Cond.methodLink RX8 202 yX8_acted, Cond.instanceMethod yX8_acted, Cond.selects RX8 yX8_acted yX8_acted]
def wsX8_setKind_r2 : List Cond := [Cond.code yX8_acted cX8_acted 3 (some .int), Cond.fieldLink RX8 62 "SoundSpellerModel" "historyLong" "I", Cond.fieldLink RX8 16 "SoundSpellerModel" "history" "[I"]
def wsX8_setKind : List Cond := .code yX8_setKind cX8_setKind 4 (some .int) :: ((wsX8_setKind_r1 ++ wsX8_setKind_r2) ++ wsX80)
def wsX8_markCollisions_r1 : List Cond := [Cond.fieldLink RX8 7 "SoundSpellerModel" "all" "[I", Cond.methodLink RX8 196 yX8_remember, Cond.instanceMethod yX8_remember, Cond.selects RX8 yX8_remember yX8_remember, Cond.initialized RX8, Cond.code yX8_remember cX8_remember 1 none, Cond.fieldLink RX8 13 "SoundSpellerModel" "kept" "[I", Cond.methodLink RX8 58 yX8_copy, Cond.static yX8_copy, Cond.code yX8_copy cX8_copy 3 none, Cond.methodLink RX8 132 yX8_spells, Cond.instanceMethod yX8_spells, Cond.selects RX8 yX8_spells yX8_spells, Cond.code yX8_spells cX8_spells 3 none, Cond.fieldLink RX8 40 "SoundSpellerModel" "spellingLong" "[I", Cond.fieldLink RX8 113 "SoundSpellerModel" "outLong" "I", Cond.fieldLink RX8 37 "SoundSpellerModel" "spelling" "[I", Cond.fieldLink RX8 34 "SoundSpellerModel" "out" "[I", Cond.methodLink RX8 106 yX8_lays, Cond.instanceMethod yX8_lays, Cond.selects RX8 yX8_lays yX8_lays, Cond.code yX8_lays cX8_lays 3 none, Cond.fieldLink RX8 74 "SoundSpellerModel" "size" "I", Cond.fieldLink RX8 22 "SoundSpellerModel" "letters" "[I"]
def wsX8_markCollisions_r2 : List Cond := [Cond.methodLink RX8 100 yX8_wordAt, Cond.static yX8_wordAt, Cond.code yX8_wordAt cX8_wordAt 1 (some .int), Cond.methodLink RX8 126 yX8_writesAs, Cond.instanceMethod yX8_writesAs, Cond.selects RX8 yX8_writesAs yX8_writesAs, Cond.code yX8_writesAs cX8_writesAs 5 none, Cond.fieldLink RX8 91 "SoundSpellerModel" "soundsLong" "I", Cond.fieldLink RX8 28 "SoundSpellerModel" "sounds" "[I", Cond.constantLong RX8 122 (65), Cond.constantLong RX8 124 (90), Cond.methodLink RX8 119 yX8_writesItself, Cond.instanceMethod yX8_writesItself, Cond.selects RX8 yX8_writesItself yX8_writesItself, Cond.code yX8_writesItself cX8_writesItself 2 none, Cond.methodLink RX8 116 yX8_writes, Cond.instanceMethod yX8_writes, Cond.selects RX8 yX8_writes yX8_writes, Cond.code yX8_writes cX8_writes 2 none, Cond.methodLink RX8 110 yX8_findsSounds, Cond.instanceMethod yX8_findsSounds, Cond.selects RX8 yX8_findsSounds yX8_findsSounds, Cond.code yX8_findsSounds cX8_findsSounds 6 none, Cond.fieldLink RX8 94 "SoundSpellerModel" "usedTimes" "I"]
def wsX8_markCollisions_r3 : List Cond := [Cond.fieldLink RX8 25 "SoundSpellerModel" "ruleFor" "[I", Cond.fieldLink RX8 31 "SoundSpellerModel" "used" "[I", Cond.methodLink RX8 97 yX8_ruleAtPlace, Cond.instanceMethod yX8_ruleAtPlace, Cond.selects RX8 yX8_ruleAtPlace yX8_ruleAtPlace, Cond.code yX8_ruleAtPlace cX8_ruleAtPlace 4 (some .int), Cond.methodLink RX8 81 yX8_stands, Cond.instanceMethod yX8_stands, Cond.selects RX8 yX8_stands yX8_stands, Cond.code yX8_stands cX8_stands 6 (some .boolean), Cond.methodLink RX8 70 yX8_ruleAt, Cond.static yX8_ruleAt, Cond.code yX8_ruleAt cX8_ruleAt 1 (some .int), Cond.methodLink RX8 85 yX8_holds, Cond.instanceMethod yX8_holds, Cond.selects RX8 yX8_holds yX8_holds, Cond.code yX8_holds cX8_holds 5 (some .boolean), Cond.methodLink RX8 77 yX8_isVowel, Cond.static yX8_isVowel, Cond.code yX8_isVowel cX8_isVowel 1 (some .boolean), Cond.methodLink RX8 88 yX8_weight, Cond.instanceMethod yX8_weight, Cond.selects RX8 yX8_weight yX8_weight, Cond.code yX8_weight cX8_weight 2 (some .int)]
def wsX8_markCollisions_r4 : List Cond := [Cond.methodLink RX8 66 yX8_in, Cond.static yX8_in, Cond.code yX8_in cX8_in 6 (some .boolean), Cond.methodLink RX8 135 yX8_withSpelling, Cond.instanceMethod yX8_withSpelling, Cond.selects RX8 yX8_withSpelling yX8_withSpelling, Cond.code yX8_withSpelling cX8_withSpelling 5 (some .int), Cond.methodLink RX8 129 yX8_areSame, Cond.instanceMethod yX8_areSame, Cond.selects RX8 yX8_areSame yX8_areSame, Cond.code yX8_areSame cX8_areSame 5 (some .boolean), Cond.methodLink RX8 202 yX8_acted, Cond.instanceMethod yX8_acted, Cond.selects RX8 yX8_acted yX8_acted, Cond.code yX8_acted cX8_acted 3 (some .int), Cond.fieldLink RX8 62 "SoundSpellerModel" "historyLong" "I", Cond.fieldLink RX8 16 "SoundSpellerModel" "history" "[I"]
def wsX8_markCollisions : List Cond := .code yX8_markCollisions cX8_markCollisions 3 (some .int) :: ((wsX8_markCollisions_r1 ++ (wsX8_markCollisions_r2 ++ (wsX8_markCollisions_r3 ++ wsX8_markCollisions_r4))) ++ wsX80)
def wsX8_faultOfWords : List Cond := .code yX8_faultOfWords cX8_faultOfWords 4 (some .int) :: ([.fieldLink RX8 142 "SoundSpellerModel" "spot" "I", .fieldLink RX8 139 "SoundSpellerModel" "textLong" "I", .methodLink RX8 151 yX8_passes, .instanceMethod yX8_passes, .selects RX8 yX8_passes yX8_passes, .initialized RX8, .code yX8_passes cX8_passes 3 (some .int), .methodLink RX8 145 yX8_isHere, .instanceMethod yX8_isHere, .selects RX8 yX8_isHere yX8_isHere, .code yX8_isHere cX8_isHere 3 (some .boolean), .fieldLink RX8 43 "SoundSpellerModel" "text" "[I", .methodLink RX8 66 yX8_in, .static yX8_in, .code yX8_in cX8_in 6 (some .boolean), .methodLink RX8 148 yX8_takes, .instanceMethod yX8_takes, .selects RX8 yX8_takes yX8_takes, .code yX8_takes cX8_takes 3 (some .boolean)] ++ wsX80)
def wsX8_inBook : List Cond := .code yX8_inBook cX8_inBook 4 (some .int) :: ([.fieldLink RX8 7 "SoundSpellerModel" "all" "[I", .methodLink RX8 100 yX8_wordAt, .static yX8_wordAt, .initialized RX8, .code yX8_wordAt cX8_wordAt 1 (some .int), .methodLink RX8 183 yX8_isAt, .instanceMethod yX8_isAt, .selects RX8 yX8_isAt yX8_isAt, .code yX8_isAt cX8_isAt 6 (some .boolean), .fieldLink RX8 43 "SoundSpellerModel" "text" "[I"] ++ wsX80)
def wsX8_tells : List Cond := .code yX8_tells cX8_tells 2 none :: ([.fieldLink RX8 55 "SoundSpellerModel" "result" "[I", .fieldLink RX8 219 "SoundSpellerModel" "resultLong" "I"] ++ wsX80)
def wsX8_converts_r1 : List Cond := [Cond.fieldLink RX8 74 "SoundSpellerModel" "size" "I", Cond.fieldLink RX8 22 "SoundSpellerModel" "letters" "[I", Cond.fieldLink RX8 43 "SoundSpellerModel" "text" "[I", Cond.fieldLink RX8 7 "SoundSpellerModel" "all" "[I", Cond.fieldLink RX8 113 "SoundSpellerModel" "outLong" "I", Cond.fieldLink RX8 34 "SoundSpellerModel" "out" "[I", Cond.methodLink RX8 222 yX8_inBook, Cond.instanceMethod yX8_inBook, Cond.selects RX8 yX8_inBook yX8_inBook, Cond.initialized RX8, Cond.code yX8_inBook cX8_inBook 4 (some .int), Cond.methodLink RX8 100 yX8_wordAt, Cond.static yX8_wordAt, Cond.code yX8_wordAt cX8_wordAt 1 (some .int), Cond.methodLink RX8 183 yX8_isAt, Cond.instanceMethod yX8_isAt, Cond.selects RX8 yX8_isAt yX8_isAt, Cond.code yX8_isAt cX8_isAt 6 (some .boolean), Cond.methodLink RX8 126 yX8_writesAs, Cond.instanceMethod yX8_writesAs, Cond.selects RX8 yX8_writesAs yX8_writesAs, Cond.code yX8_writesAs cX8_writesAs 5 none, Cond.fieldLink RX8 91 "SoundSpellerModel" "soundsLong" "I", Cond.fieldLink RX8 28 "SoundSpellerModel" "sounds" "[I"]
def wsX8_converts_r2 : List Cond := [Cond.constantLong RX8 122 (65), Cond.constantLong RX8 124 (90), Cond.methodLink RX8 119 yX8_writesItself, Cond.instanceMethod yX8_writesItself, Cond.selects RX8 yX8_writesItself yX8_writesItself, Cond.code yX8_writesItself cX8_writesItself 2 none, Cond.methodLink RX8 116 yX8_writes, Cond.instanceMethod yX8_writes, Cond.selects RX8 yX8_writes yX8_writes, Cond.code yX8_writes cX8_writes 2 none, Cond.methodLink RX8 110 yX8_findsSounds, Cond.instanceMethod yX8_findsSounds, Cond.selects RX8 yX8_findsSounds yX8_findsSounds, Cond.code yX8_findsSounds cX8_findsSounds 6 none, Cond.fieldLink RX8 94 "SoundSpellerModel" "usedTimes" "I", Cond.fieldLink RX8 25 "SoundSpellerModel" "ruleFor" "[I", Cond.fieldLink RX8 31 "SoundSpellerModel" "used" "[I", Cond.methodLink RX8 97 yX8_ruleAtPlace, Cond.instanceMethod yX8_ruleAtPlace, Cond.selects RX8 yX8_ruleAtPlace yX8_ruleAtPlace, Cond.code yX8_ruleAtPlace cX8_ruleAtPlace 4 (some .int), Cond.methodLink RX8 81 yX8_stands, Cond.instanceMethod yX8_stands, Cond.selects RX8 yX8_stands yX8_stands]
def wsX8_converts_r3 : List Cond := [Cond.code yX8_stands cX8_stands 6 (some .boolean), Cond.methodLink RX8 70 yX8_ruleAt, Cond.static yX8_ruleAt, Cond.code yX8_ruleAt cX8_ruleAt 1 (some .int), Cond.methodLink RX8 85 yX8_holds, Cond.instanceMethod yX8_holds, Cond.selects RX8 yX8_holds yX8_holds, Cond.code yX8_holds cX8_holds 5 (some .boolean), Cond.methodLink RX8 77 yX8_isVowel, Cond.static yX8_isVowel, Cond.code yX8_isVowel cX8_isVowel 1 (some .boolean), Cond.methodLink RX8 88 yX8_weight, Cond.instanceMethod yX8_weight, Cond.selects RX8 yX8_weight yX8_weight, Cond.code yX8_weight cX8_weight 2 (some .int), Cond.methodLink RX8 66 yX8_in, Cond.static yX8_in, Cond.code yX8_in cX8_in 6 (some .boolean), Cond.methodLink RX8 226 yX8_tells, Cond.instanceMethod yX8_tells, Cond.selects RX8 yX8_tells yX8_tells, Cond.code yX8_tells cX8_tells 2 none, Cond.fieldLink RX8 55 "SoundSpellerModel" "result" "[I", Cond.fieldLink RX8 219 "SoundSpellerModel" "resultLong" "I"]
def wsX8_converts : List Cond := .code yX8_converts cX8_converts 5 none :: ((wsX8_converts_r1 ++ (wsX8_converts_r2 ++ wsX8_converts_r3)) ++ wsX80)
def wsX8_spelledSo : List Cond := .code yX8_spelledSo cX8_spelledSo 6 (some .int) :: ([.fieldLink RX8 7 "SoundSpellerModel" "all" "[I", .fieldLink RX8 40 "SoundSpellerModel" "spellingLong" "[I", .fieldLink RX8 37 "SoundSpellerModel" "spelling" "[I", .fieldLink RX8 43 "SoundSpellerModel" "text" "[I"] ++ wsX80)
def wsX8_convertsBack : List Cond := .code yX8_convertsBack cX8_convertsBack 7 none :: ([.fieldLink RX8 7 "SoundSpellerModel" "all" "[I", .fieldLink RX8 43 "SoundSpellerModel" "text" "[I", .methodLink RX8 229 yX8_spelledSo, .instanceMethod yX8_spelledSo, .selects RX8 yX8_spelledSo yX8_spelledSo, .initialized RX8, .code yX8_spelledSo cX8_spelledSo 6 (some .int), .fieldLink RX8 40 "SoundSpellerModel" "spellingLong" "[I", .fieldLink RX8 37 "SoundSpellerModel" "spelling" "[I", .methodLink RX8 100 yX8_wordAt, .static yX8_wordAt, .code yX8_wordAt cX8_wordAt 1 (some .int), .methodLink RX8 226 yX8_tells, .instanceMethod yX8_tells, .selects RX8 yX8_tells yX8_tells, .code yX8_tells cX8_tells 2 none, .fieldLink RX8 55 "SoundSpellerModel" "result" "[I", .fieldLink RX8 219 "SoundSpellerModel" "resultLong" "I"] ++ wsX80)
def wsX8_convert_r1 : List Cond := [Cond.fieldLink RX8 219 "SoundSpellerModel" "resultLong" "I", Cond.fieldLink RX8 139 "SoundSpellerModel" "textLong" "I", Cond.fieldLink RX8 43 "SoundSpellerModel" "text" "[I", Cond.methodLink RX8 232 yX8_faultOfWords, Cond.instanceMethod yX8_faultOfWords, Cond.selects RX8 yX8_faultOfWords yX8_faultOfWords, Cond.initialized RX8, Cond.code yX8_faultOfWords cX8_faultOfWords 4 (some .int), Cond.fieldLink RX8 142 "SoundSpellerModel" "spot" "I", Cond.methodLink RX8 151 yX8_passes, Cond.instanceMethod yX8_passes, Cond.selects RX8 yX8_passes yX8_passes, Cond.code yX8_passes cX8_passes 3 (some .int), Cond.methodLink RX8 145 yX8_isHere, Cond.instanceMethod yX8_isHere, Cond.selects RX8 yX8_isHere yX8_isHere, Cond.code yX8_isHere cX8_isHere 3 (some .boolean), Cond.methodLink RX8 66 yX8_in, Cond.static yX8_in, Cond.code yX8_in cX8_in 6 (some .boolean), Cond.methodLink RX8 148 yX8_takes, Cond.instanceMethod yX8_takes, Cond.selects RX8 yX8_takes yX8_takes, Cond.code yX8_takes cX8_takes 3 (some .boolean)]
def wsX8_convert_r2 : List Cond := [Cond.methodLink RX8 132 yX8_spells, Cond.instanceMethod yX8_spells, Cond.selects RX8 yX8_spells yX8_spells, Cond.code yX8_spells cX8_spells 3 none, Cond.fieldLink RX8 7 "SoundSpellerModel" "all" "[I", Cond.fieldLink RX8 40 "SoundSpellerModel" "spellingLong" "[I", Cond.fieldLink RX8 113 "SoundSpellerModel" "outLong" "I", Cond.fieldLink RX8 37 "SoundSpellerModel" "spelling" "[I", Cond.fieldLink RX8 34 "SoundSpellerModel" "out" "[I", Cond.methodLink RX8 106 yX8_lays, Cond.instanceMethod yX8_lays, Cond.selects RX8 yX8_lays yX8_lays, Cond.code yX8_lays cX8_lays 3 none, Cond.fieldLink RX8 74 "SoundSpellerModel" "size" "I", Cond.fieldLink RX8 22 "SoundSpellerModel" "letters" "[I", Cond.methodLink RX8 100 yX8_wordAt, Cond.static yX8_wordAt, Cond.code yX8_wordAt cX8_wordAt 1 (some .int), Cond.methodLink RX8 126 yX8_writesAs, Cond.instanceMethod yX8_writesAs, Cond.selects RX8 yX8_writesAs yX8_writesAs, Cond.code yX8_writesAs cX8_writesAs 5 none, Cond.fieldLink RX8 91 "SoundSpellerModel" "soundsLong" "I", Cond.fieldLink RX8 28 "SoundSpellerModel" "sounds" "[I"]
def wsX8_convert_r3 : List Cond := [Cond.constantLong RX8 122 (65), Cond.constantLong RX8 124 (90), Cond.methodLink RX8 119 yX8_writesItself, Cond.instanceMethod yX8_writesItself, Cond.selects RX8 yX8_writesItself yX8_writesItself, Cond.code yX8_writesItself cX8_writesItself 2 none, Cond.methodLink RX8 116 yX8_writes, Cond.instanceMethod yX8_writes, Cond.selects RX8 yX8_writes yX8_writes, Cond.code yX8_writes cX8_writes 2 none, Cond.methodLink RX8 110 yX8_findsSounds, Cond.instanceMethod yX8_findsSounds, Cond.selects RX8 yX8_findsSounds yX8_findsSounds, Cond.code yX8_findsSounds cX8_findsSounds 6 none, Cond.fieldLink RX8 94 "SoundSpellerModel" "usedTimes" "I", Cond.fieldLink RX8 25 "SoundSpellerModel" "ruleFor" "[I", Cond.fieldLink RX8 31 "SoundSpellerModel" "used" "[I", Cond.methodLink RX8 97 yX8_ruleAtPlace, Cond.instanceMethod yX8_ruleAtPlace, Cond.selects RX8 yX8_ruleAtPlace yX8_ruleAtPlace, Cond.code yX8_ruleAtPlace cX8_ruleAtPlace 4 (some .int), Cond.methodLink RX8 81 yX8_stands, Cond.instanceMethod yX8_stands, Cond.selects RX8 yX8_stands yX8_stands]
def wsX8_convert_r4 : List Cond := [Cond.code yX8_stands cX8_stands 6 (some .boolean), Cond.methodLink RX8 70 yX8_ruleAt, Cond.static yX8_ruleAt, Cond.code yX8_ruleAt cX8_ruleAt 1 (some .int), Cond.methodLink RX8 85 yX8_holds, Cond.instanceMethod yX8_holds, Cond.selects RX8 yX8_holds yX8_holds, Cond.code yX8_holds cX8_holds 5 (some .boolean), Cond.methodLink RX8 77 yX8_isVowel, Cond.static yX8_isVowel, Cond.code yX8_isVowel cX8_isVowel 1 (some .boolean), Cond.methodLink RX8 88 yX8_weight, Cond.instanceMethod yX8_weight, Cond.selects RX8 yX8_weight yX8_weight, Cond.code yX8_weight cX8_weight 2 (some .int), Cond.methodLink RX8 226 yX8_tells, Cond.instanceMethod yX8_tells, Cond.selects RX8 yX8_tells yX8_tells, Cond.code yX8_tells cX8_tells 2 none, Cond.fieldLink RX8 55 "SoundSpellerModel" "result" "[I", Cond.methodLink RX8 236 yX8_convertsBack, Cond.instanceMethod yX8_convertsBack, Cond.selects RX8 yX8_convertsBack yX8_convertsBack, Cond.code yX8_convertsBack cX8_convertsBack 7 none]
def wsX8_convert_r5 : List Cond := [Cond.methodLink RX8 229 yX8_spelledSo, Cond.instanceMethod yX8_spelledSo, Cond.selects RX8 yX8_spelledSo yX8_spelledSo, Cond.code yX8_spelledSo cX8_spelledSo 6 (some .int), Cond.methodLink RX8 240 yX8_converts, Cond.instanceMethod yX8_converts, Cond.selects RX8 yX8_converts yX8_converts, Cond.code yX8_converts cX8_converts 5 none, Cond.methodLink RX8 222 yX8_inBook, Cond.instanceMethod yX8_inBook, Cond.selects RX8 yX8_inBook yX8_inBook, Cond.code yX8_inBook cX8_inBook 4 (some .int), Cond.methodLink RX8 183 yX8_isAt, Cond.instanceMethod yX8_isAt, Cond.selects RX8 yX8_isAt yX8_isAt, Cond.code yX8_isAt cX8_isAt 6 (some .boolean)]
def wsX8_convert : List Cond := .code yX8_convert cX8_convert 5 (some .int) :: ((wsX8_convert_r1 ++ (wsX8_convert_r2 ++ (wsX8_convert_r3 ++ (wsX8_convert_r4 ++ wsX8_convert_r5)))) ++ wsX80)
def wsX8_takeResult : List Cond := .code yX8_takeResult cX8_takeResult 2 (some .int) :: ([.fieldLink RX8 219 "SoundSpellerModel" "resultLong" "I", .fieldLink RX8 139 "SoundSpellerModel" "textLong" "I", .fieldLink RX8 43 "SoundSpellerModel" "text" "[I", .fieldLink RX8 55 "SoundSpellerModel" "result" "[I"] ++ wsX80)
def wsX8_undo : List Cond := .code yX8_undo cX8_undo 2 (some .int) :: ([.fieldLink RX8 62 "SoundSpellerModel" "historyLong" "I", .fieldLink RX8 7 "SoundSpellerModel" "all" "[I", .fieldLink RX8 16 "SoundSpellerModel" "history" "[I"] ++ wsX80)
def wsX8_keep : List Cond := .code yX8_keep cX8_keep 1 (some .int) :: ([.fieldLink RX8 7 "SoundSpellerModel" "all" "[I", .fieldLink RX8 19 "SoundSpellerModel" "snapshot" "[I", .fieldLink RX8 243 "SoundSpellerModel" "isTaken" "I", .methodLink RX8 58 yX8_copy, .static yX8_copy, .initialized RX8, .code yX8_copy cX8_copy 3 none] ++ wsX80)
def wsX8_restore : List Cond := .code yX8_restore cX8_restore 1 (some .int) :: ([.fieldLink RX8 243 "SoundSpellerModel" "isTaken" "I", .fieldLink RX8 19 "SoundSpellerModel" "snapshot" "[I", .fieldLink RX8 7 "SoundSpellerModel" "all" "[I", .methodLink RX8 196 yX8_remember, .instanceMethod yX8_remember, .selects RX8 yX8_remember yX8_remember, .initialized RX8, .code yX8_remember cX8_remember 1 none, .fieldLink RX8 13 "SoundSpellerModel" "kept" "[I", .methodLink RX8 58 yX8_copy, .static yX8_copy, .code yX8_copy cX8_copy 3 none, .methodLink RX8 202 yX8_acted, .instanceMethod yX8_acted, .selects RX8 yX8_acted yX8_acted, .code yX8_acted cX8_acted 3 (some .int), .fieldLink RX8 62 "SoundSpellerModel" "historyLong" "I", .fieldLink RX8 16 "SoundSpellerModel" "history" "[I"] ++ wsX80)
def wsX8_rule_r1 : List Cond := [Cond.fieldLink RX8 7 "SoundSpellerModel" "all" "[I", Cond.fieldLink RX8 31 "SoundSpellerModel" "used" "[I", Cond.methodLink RX8 205 yX8_isRule, Cond.instanceMethod yX8_isRule, Cond.selects RX8 yX8_isRule yX8_isRule, Cond.initialized RX8, Cond.code yX8_isRule cX8_isRule 2 (some .boolean), Cond.methodLink RX8 66 yX8_in, Cond.static yX8_in, Cond.code yX8_in cX8_in 6 (some .boolean), Cond.methodLink RX8 70 yX8_ruleAt, Cond.static yX8_ruleAt, Cond.code yX8_ruleAt cX8_ruleAt 1 (some .int), Cond.methodLink RX8 246 yX8_uses, Cond.instanceMethod yX8_uses, Cond.selects RX8 yX8_uses yX8_uses, Cond.code yX8_uses cX8_uses 2 none, Cond.methodLink RX8 103 yX8_usesNone, Cond.instanceMethod yX8_usesNone, Cond.selects RX8 yX8_usesNone yX8_usesNone, Cond.code yX8_usesNone cX8_usesNone 2 none, Cond.methodLink RX8 106 yX8_lays, Cond.instanceMethod yX8_lays, Cond.selects RX8 yX8_lays yX8_lays]
def wsX8_rule_r2 : List Cond := [Cond.code yX8_lays cX8_lays 3 none, Cond.fieldLink RX8 74 "SoundSpellerModel" "size" "I", Cond.fieldLink RX8 22 "SoundSpellerModel" "letters" "[I", Cond.methodLink RX8 100 yX8_wordAt, Cond.static yX8_wordAt, Cond.code yX8_wordAt cX8_wordAt 1 (some .int), Cond.methodLink RX8 110 yX8_findsSounds, Cond.instanceMethod yX8_findsSounds, Cond.selects RX8 yX8_findsSounds yX8_findsSounds, Cond.code yX8_findsSounds cX8_findsSounds 6 none, Cond.fieldLink RX8 91 "SoundSpellerModel" "soundsLong" "I", Cond.fieldLink RX8 94 "SoundSpellerModel" "usedTimes" "I", Cond.fieldLink RX8 25 "SoundSpellerModel" "ruleFor" "[I", Cond.fieldLink RX8 28 "SoundSpellerModel" "sounds" "[I", Cond.methodLink RX8 97 yX8_ruleAtPlace, Cond.instanceMethod yX8_ruleAtPlace, Cond.selects RX8 yX8_ruleAtPlace yX8_ruleAtPlace, Cond.code yX8_ruleAtPlace cX8_ruleAtPlace 4 (some .int), Cond.methodLink RX8 81 yX8_stands, Cond.instanceMethod yX8_stands, Cond.selects RX8 yX8_stands yX8_stands, Cond.code yX8_stands cX8_stands 6 (some .boolean), Cond.methodLink RX8 85 yX8_holds, Cond.instanceMethod yX8_holds]
def wsX8_rule_r3 : List Cond := [Cond.selects RX8 yX8_holds yX8_holds, Cond.code yX8_holds cX8_holds 5 (some .boolean), Cond.methodLink RX8 77 yX8_isVowel, Cond.static yX8_isVowel, Cond.code yX8_isVowel cX8_isVowel 1 (some .boolean), Cond.methodLink RX8 88 yX8_weight, Cond.instanceMethod yX8_weight, Cond.selects RX8 yX8_weight yX8_weight, Cond.code yX8_weight cX8_weight 2 (some .int)]
def wsX8_rule : List Cond := .code yX8_rule cX8_rule 4 (some .int) :: ((wsX8_rule_r1 ++ (wsX8_rule_r2 ++ wsX8_rule_r3)) ++ wsX80)
def wsX8_letterOf : List Cond := .code yX8_letterOf cX8_letterOf 3 (some .int) :: ([.fieldLink RX8 7 "SoundSpellerModel" "all" "[I", .methodLink RX8 205 yX8_isRule, .instanceMethod yX8_isRule, .selects RX8 yX8_isRule yX8_isRule, .initialized RX8, .code yX8_isRule cX8_isRule 2 (some .boolean), .methodLink RX8 66 yX8_in, .static yX8_in, .code yX8_in cX8_in 6 (some .boolean), .methodLink RX8 70 yX8_ruleAt, .static yX8_ruleAt, .code yX8_ruleAt cX8_ruleAt 1 (some .int)] ++ wsX80)
def wsX8_sign : List Cond := .code yX8_sign cX8_sign 4 (some .int) :: ([.constantLong RX8 122 (65), .constantLong RX8 124 (90), .fieldLink RX8 7 "SoundSpellerModel" "all" "[I", .methodLink RX8 66 yX8_in, .static yX8_in, .initialized RX8, .code yX8_in cX8_in 6 (some .boolean)] ++ wsX80)
def wsX8_word_r1 : List Cond := [Cond.fieldLink RX8 7 "SoundSpellerModel" "all" "[I", Cond.fieldLink RX8 74 "SoundSpellerModel" "size" "I", Cond.fieldLink RX8 91 "SoundSpellerModel" "soundsLong" "I", Cond.fieldLink RX8 40 "SoundSpellerModel" "spellingLong" "[I", Cond.fieldLink RX8 94 "SoundSpellerModel" "usedTimes" "I", Cond.methodLink RX8 214 yX8_isWord, Cond.instanceMethod yX8_isWord, Cond.selects RX8 yX8_isWord yX8_isWord, Cond.initialized RX8, Cond.code yX8_isWord cX8_isWord 2 (some .boolean), Cond.methodLink RX8 66 yX8_in, Cond.static yX8_in, Cond.code yX8_in cX8_in 6 (some .boolean), Cond.methodLink RX8 132 yX8_spells, Cond.instanceMethod yX8_spells, Cond.selects RX8 yX8_spells yX8_spells, Cond.code yX8_spells cX8_spells 3 none, Cond.fieldLink RX8 113 "SoundSpellerModel" "outLong" "I", Cond.fieldLink RX8 37 "SoundSpellerModel" "spelling" "[I", Cond.fieldLink RX8 34 "SoundSpellerModel" "out" "[I", Cond.methodLink RX8 106 yX8_lays, Cond.instanceMethod yX8_lays, Cond.selects RX8 yX8_lays yX8_lays, Cond.code yX8_lays cX8_lays 3 none]
def wsX8_word_r2 : List Cond := [Cond.fieldLink RX8 22 "SoundSpellerModel" "letters" "[I", Cond.methodLink RX8 100 yX8_wordAt, Cond.static yX8_wordAt, Cond.code yX8_wordAt cX8_wordAt 1 (some .int), Cond.methodLink RX8 126 yX8_writesAs, Cond.instanceMethod yX8_writesAs, Cond.selects RX8 yX8_writesAs yX8_writesAs, Cond.code yX8_writesAs cX8_writesAs 5 none, Cond.fieldLink RX8 28 "SoundSpellerModel" "sounds" "[I", Cond.constantLong RX8 122 (65), Cond.constantLong RX8 124 (90), Cond.methodLink RX8 119 yX8_writesItself, Cond.instanceMethod yX8_writesItself, Cond.selects RX8 yX8_writesItself yX8_writesItself, Cond.code yX8_writesItself cX8_writesItself 2 none, Cond.methodLink RX8 116 yX8_writes, Cond.instanceMethod yX8_writes, Cond.selects RX8 yX8_writes yX8_writes, Cond.code yX8_writes cX8_writes 2 none, Cond.methodLink RX8 110 yX8_findsSounds, Cond.instanceMethod yX8_findsSounds, Cond.selects RX8 yX8_findsSounds yX8_findsSounds, Cond.code yX8_findsSounds cX8_findsSounds 6 none, Cond.fieldLink RX8 25 "SoundSpellerModel" "ruleFor" "[I"]
def wsX8_word_r3 : List Cond := [Cond.fieldLink RX8 31 "SoundSpellerModel" "used" "[I", Cond.methodLink RX8 97 yX8_ruleAtPlace, Cond.instanceMethod yX8_ruleAtPlace, Cond.selects RX8 yX8_ruleAtPlace yX8_ruleAtPlace, Cond.code yX8_ruleAtPlace cX8_ruleAtPlace 4 (some .int), Cond.methodLink RX8 81 yX8_stands, Cond.instanceMethod yX8_stands, Cond.selects RX8 yX8_stands yX8_stands, Cond.code yX8_stands cX8_stands 6 (some .boolean), Cond.methodLink RX8 70 yX8_ruleAt, Cond.static yX8_ruleAt, Cond.code yX8_ruleAt cX8_ruleAt 1 (some .int), Cond.methodLink RX8 85 yX8_holds, Cond.instanceMethod yX8_holds, Cond.selects RX8 yX8_holds yX8_holds, Cond.code yX8_holds cX8_holds 5 (some .boolean), Cond.methodLink RX8 77 yX8_isVowel, Cond.static yX8_isVowel, Cond.code yX8_isVowel cX8_isVowel 1 (some .boolean), Cond.methodLink RX8 88 yX8_weight, Cond.instanceMethod yX8_weight, Cond.selects RX8 yX8_weight yX8_weight, Cond.code yX8_weight cX8_weight 2 (some .int), Cond.methodLink RX8 135 yX8_withSpelling]
def wsX8_word_r4 : List Cond := [Cond.instanceMethod yX8_withSpelling, Cond.selects RX8 yX8_withSpelling yX8_withSpelling, Cond.code yX8_withSpelling cX8_withSpelling 5 (some .int), Cond.methodLink RX8 129 yX8_areSame, Cond.instanceMethod yX8_areSame, Cond.selects RX8 yX8_areSame yX8_areSame, Cond.code yX8_areSame cX8_areSame 5 (some .boolean)]
def wsX8_word : List Cond := .code yX8_word cX8_word 3 (some .int) :: ((wsX8_word_r1 ++ (wsX8_word_r2 ++ (wsX8_word_r3 ++ wsX8_word_r4))) ++ wsX80)
def wsX8_at_r1 : List Cond := [Cond.constantLong RX8 249 (3), Cond.fieldLink RX8 74 "SoundSpellerModel" "size" "I", Cond.fieldLink RX8 22 "SoundSpellerModel" "letters" "[I", Cond.fieldLink RX8 91 "SoundSpellerModel" "soundsLong" "I", Cond.fieldLink RX8 28 "SoundSpellerModel" "sounds" "[I", Cond.fieldLink RX8 40 "SoundSpellerModel" "spellingLong" "[I", Cond.fieldLink RX8 37 "SoundSpellerModel" "spelling" "[I", Cond.fieldLink RX8 25 "SoundSpellerModel" "ruleFor" "[I", Cond.methodLink RX8 214 yX8_isWord, Cond.instanceMethod yX8_isWord, Cond.selects RX8 yX8_isWord yX8_isWord, Cond.initialized RX8, Cond.code yX8_isWord cX8_isWord 2 (some .boolean), Cond.fieldLink RX8 7 "SoundSpellerModel" "all" "[I", Cond.methodLink RX8 66 yX8_in, Cond.static yX8_in, Cond.code yX8_in cX8_in 6 (some .boolean), Cond.methodLink RX8 132 yX8_spells, Cond.instanceMethod yX8_spells, Cond.selects RX8 yX8_spells yX8_spells, Cond.code yX8_spells cX8_spells 3 none, Cond.fieldLink RX8 113 "SoundSpellerModel" "outLong" "I", Cond.fieldLink RX8 34 "SoundSpellerModel" "out" "[I", Cond.methodLink RX8 106 yX8_lays]
def wsX8_at_r2 : List Cond := [Cond.instanceMethod yX8_lays, Cond.selects RX8 yX8_lays yX8_lays, Cond.code yX8_lays cX8_lays 3 none, Cond.methodLink RX8 100 yX8_wordAt, Cond.static yX8_wordAt, Cond.code yX8_wordAt cX8_wordAt 1 (some .int), Cond.methodLink RX8 126 yX8_writesAs, Cond.instanceMethod yX8_writesAs, Cond.selects RX8 yX8_writesAs yX8_writesAs, Cond.code yX8_writesAs cX8_writesAs 5 none, Cond.constantLong RX8 122 (65), Cond.constantLong RX8 124 (90), Cond.methodLink RX8 119 yX8_writesItself, Cond.instanceMethod yX8_writesItself, Cond.selects RX8 yX8_writesItself yX8_writesItself, Cond.code yX8_writesItself cX8_writesItself 2 none, Cond.methodLink RX8 116 yX8_writes, Cond.instanceMethod yX8_writes, Cond.selects RX8 yX8_writes yX8_writes, Cond.code yX8_writes cX8_writes 2 none, Cond.methodLink RX8 110 yX8_findsSounds, Cond.instanceMethod yX8_findsSounds, Cond.selects RX8 yX8_findsSounds yX8_findsSounds, Cond.code yX8_findsSounds cX8_findsSounds 6 none]
def wsX8_at_r3 : List Cond := [Cond.fieldLink RX8 94 "SoundSpellerModel" "usedTimes" "I", Cond.fieldLink RX8 31 "SoundSpellerModel" "used" "[I", Cond.methodLink RX8 97 yX8_ruleAtPlace, Cond.instanceMethod yX8_ruleAtPlace, Cond.selects RX8 yX8_ruleAtPlace yX8_ruleAtPlace, Cond.code yX8_ruleAtPlace cX8_ruleAtPlace 4 (some .int), Cond.methodLink RX8 81 yX8_stands, Cond.instanceMethod yX8_stands, Cond.selects RX8 yX8_stands yX8_stands, Cond.code yX8_stands cX8_stands 6 (some .boolean), Cond.methodLink RX8 70 yX8_ruleAt, Cond.static yX8_ruleAt, Cond.code yX8_ruleAt cX8_ruleAt 1 (some .int), Cond.methodLink RX8 85 yX8_holds, Cond.instanceMethod yX8_holds, Cond.selects RX8 yX8_holds yX8_holds, Cond.code yX8_holds cX8_holds 5 (some .boolean), Cond.methodLink RX8 77 yX8_isVowel, Cond.static yX8_isVowel, Cond.code yX8_isVowel cX8_isVowel 1 (some .boolean), Cond.methodLink RX8 88 yX8_weight, Cond.instanceMethod yX8_weight, Cond.selects RX8 yX8_weight yX8_weight, Cond.code yX8_weight cX8_weight 2 (some .int)]
def wsX8_at : List Cond := .code yX8_at cX8_at 4 (some .int) :: ((wsX8_at_r1 ++ (wsX8_at_r2 ++ wsX8_at_r3)) ++ wsX80)
def wsX8_result : List Cond := .code yX8_result cX8_result 2 (some .int) :: ([.fieldLink RX8 219 "SoundSpellerModel" "resultLong" "I", .fieldLink RX8 55 "SoundSpellerModel" "result" "[I"] ++ wsX80)
def wsX8_collideWith_r1 : List Cond := [Cond.constantLong RX8 122 (65), Cond.constantLong RX8 124 (90), Cond.constantLong RX8 251 (97), Cond.constantLong RX8 253 (122), Cond.fieldLink RX8 7 "SoundSpellerModel" "all" "[I", Cond.fieldLink RX8 13 "SoundSpellerModel" "kept" "[I", Cond.methodLink RX8 66 yX8_in, Cond.static yX8_in, Cond.initialized RX8, Cond.code yX8_in cX8_in 6 (some .boolean), Cond.methodLink RX8 196 yX8_remember, Cond.instanceMethod yX8_remember, Cond.selects RX8 yX8_remember yX8_remember, Cond.code yX8_remember cX8_remember 1 none, Cond.methodLink RX8 58 yX8_copy, Cond.static yX8_copy, Cond.code yX8_copy cX8_copy 3 none, Cond.methodLink RX8 255 yX8_colliding, Cond.instanceMethod yX8_colliding, Cond.selects RX8 yX8_colliding yX8_colliding, Cond.code yX8_colliding cX8_colliding 3 (some .int), Cond.methodLink RX8 132 yX8_spells, Cond.instanceMethod yX8_spells, Cond.selects RX8 yX8_spells yX8_spells]
def wsX8_collideWith_r2 : List Cond := [Cond.code yX8_spells cX8_spells 3 none, Cond.fieldLink RX8 40 "SoundSpellerModel" "spellingLong" "[I", Cond.fieldLink RX8 113 "SoundSpellerModel" "outLong" "I", Cond.fieldLink RX8 37 "SoundSpellerModel" "spelling" "[I", Cond.fieldLink RX8 34 "SoundSpellerModel" "out" "[I", Cond.methodLink RX8 106 yX8_lays, Cond.instanceMethod yX8_lays, Cond.selects RX8 yX8_lays yX8_lays, Cond.code yX8_lays cX8_lays 3 none, Cond.fieldLink RX8 74 "SoundSpellerModel" "size" "I", Cond.fieldLink RX8 22 "SoundSpellerModel" "letters" "[I", Cond.methodLink RX8 100 yX8_wordAt, Cond.static yX8_wordAt, Cond.code yX8_wordAt cX8_wordAt 1 (some .int), Cond.methodLink RX8 126 yX8_writesAs, Cond.instanceMethod yX8_writesAs, Cond.selects RX8 yX8_writesAs yX8_writesAs, Cond.code yX8_writesAs cX8_writesAs 5 none, Cond.fieldLink RX8 91 "SoundSpellerModel" "soundsLong" "I", Cond.fieldLink RX8 28 "SoundSpellerModel" "sounds" "[I", Cond.methodLink RX8 119 yX8_writesItself, Cond.instanceMethod yX8_writesItself, Cond.selects RX8 yX8_writesItself yX8_writesItself, Cond.code yX8_writesItself cX8_writesItself 2 none]
def wsX8_collideWith_r3 : List Cond := [Cond.methodLink RX8 116 yX8_writes, Cond.instanceMethod yX8_writes, Cond.selects RX8 yX8_writes yX8_writes, Cond.code yX8_writes cX8_writes 2 none, Cond.methodLink RX8 110 yX8_findsSounds, Cond.instanceMethod yX8_findsSounds, Cond.selects RX8 yX8_findsSounds yX8_findsSounds, Cond.code yX8_findsSounds cX8_findsSounds 6 none, Cond.fieldLink RX8 94 "SoundSpellerModel" "usedTimes" "I", Cond.fieldLink RX8 25 "SoundSpellerModel" "ruleFor" "[I", Cond.fieldLink RX8 31 "SoundSpellerModel" "used" "[I", Cond.methodLink RX8 97 yX8_ruleAtPlace, Cond.instanceMethod yX8_ruleAtPlace, Cond.selects RX8 yX8_ruleAtPlace yX8_ruleAtPlace, Cond.code yX8_ruleAtPlace cX8_ruleAtPlace 4 (some .int), Cond.methodLink RX8 81 yX8_stands, Cond.instanceMethod yX8_stands, Cond.selects RX8 yX8_stands yX8_stands, Cond.code yX8_stands cX8_stands 6 (some .boolean), Cond.methodLink RX8 70 yX8_ruleAt, Cond.static yX8_ruleAt, Cond.code yX8_ruleAt cX8_ruleAt 1 (some .int), Cond.methodLink RX8 85 yX8_holds, Cond.instanceMethod yX8_holds]
def wsX8_collideWith_r4 : List Cond := [Cond.selects RX8 yX8_holds yX8_holds, Cond.code yX8_holds cX8_holds 5 (some .boolean), Cond.methodLink RX8 77 yX8_isVowel, Cond.static yX8_isVowel, Cond.code yX8_isVowel cX8_isVowel 1 (some .boolean), Cond.methodLink RX8 88 yX8_weight, Cond.instanceMethod yX8_weight, Cond.selects RX8 yX8_weight yX8_weight, Cond.code yX8_weight cX8_weight 2 (some .int), Cond.methodLink RX8 135 yX8_withSpelling, Cond.instanceMethod yX8_withSpelling, Cond.selects RX8 yX8_withSpelling yX8_withSpelling, Cond.code yX8_withSpelling cX8_withSpelling 5 (some .int), Cond.methodLink RX8 129 yX8_areSame, Cond.instanceMethod yX8_areSame, Cond.selects RX8 yX8_areSame yX8_areSame, Cond.code yX8_areSame cX8_areSame 5 (some .boolean)]
def wsX8_collideWith : List Cond := .code yX8_collideWith cX8_collideWith 4 (some .int) :: ((wsX8_collideWith_r1 ++ (wsX8_collideWith_r2 ++ (wsX8_collideWith_r3 ++ wsX8_collideWith_r4))) ++ wsX80)
def wsX8_comeBack_r1 : List Cond := [Cond.fieldLink RX8 7 "SoundSpellerModel" "all" "[I", Cond.methodLink RX8 132 yX8_spells, Cond.instanceMethod yX8_spells, Cond.selects RX8 yX8_spells yX8_spells, Cond.initialized RX8, Cond.code yX8_spells cX8_spells 3 none, Cond.fieldLink RX8 40 "SoundSpellerModel" "spellingLong" "[I", Cond.fieldLink RX8 113 "SoundSpellerModel" "outLong" "I", Cond.fieldLink RX8 37 "SoundSpellerModel" "spelling" "[I", Cond.fieldLink RX8 34 "SoundSpellerModel" "out" "[I", Cond.methodLink RX8 106 yX8_lays, Cond.instanceMethod yX8_lays, Cond.selects RX8 yX8_lays yX8_lays, Cond.code yX8_lays cX8_lays 3 none, Cond.fieldLink RX8 74 "SoundSpellerModel" "size" "I", Cond.fieldLink RX8 22 "SoundSpellerModel" "letters" "[I", Cond.methodLink RX8 100 yX8_wordAt, Cond.static yX8_wordAt, Cond.code yX8_wordAt cX8_wordAt 1 (some .int), Cond.methodLink RX8 126 yX8_writesAs, Cond.instanceMethod yX8_writesAs, Cond.selects RX8 yX8_writesAs yX8_writesAs, Cond.code yX8_writesAs cX8_writesAs 5 none, Cond.fieldLink RX8 91 "SoundSpellerModel" "soundsLong" "I"]
def wsX8_comeBack_r2 : List Cond := [Cond.fieldLink RX8 28 "SoundSpellerModel" "sounds" "[I", Cond.constantLong RX8 122 (65), Cond.constantLong RX8 124 (90), Cond.methodLink RX8 119 yX8_writesItself, Cond.instanceMethod yX8_writesItself, Cond.selects RX8 yX8_writesItself yX8_writesItself, Cond.code yX8_writesItself cX8_writesItself 2 none, Cond.methodLink RX8 116 yX8_writes, Cond.instanceMethod yX8_writes, Cond.selects RX8 yX8_writes yX8_writes, Cond.code yX8_writes cX8_writes 2 none, Cond.methodLink RX8 110 yX8_findsSounds, Cond.instanceMethod yX8_findsSounds, Cond.selects RX8 yX8_findsSounds yX8_findsSounds, Cond.code yX8_findsSounds cX8_findsSounds 6 none, Cond.fieldLink RX8 94 "SoundSpellerModel" "usedTimes" "I", Cond.fieldLink RX8 25 "SoundSpellerModel" "ruleFor" "[I", Cond.fieldLink RX8 31 "SoundSpellerModel" "used" "[I", Cond.methodLink RX8 97 yX8_ruleAtPlace, Cond.instanceMethod yX8_ruleAtPlace, Cond.selects RX8 yX8_ruleAtPlace yX8_ruleAtPlace, Cond.code yX8_ruleAtPlace cX8_ruleAtPlace 4 (some .int), Cond.methodLink RX8 81 yX8_stands, Cond.instanceMethod yX8_stands]
def wsX8_comeBack_r3 : List Cond := [Cond.selects RX8 yX8_stands yX8_stands, Cond.code yX8_stands cX8_stands 6 (some .boolean), Cond.methodLink RX8 70 yX8_ruleAt, Cond.static yX8_ruleAt, Cond.code yX8_ruleAt cX8_ruleAt 1 (some .int), Cond.methodLink RX8 85 yX8_holds, Cond.instanceMethod yX8_holds, Cond.selects RX8 yX8_holds yX8_holds, Cond.code yX8_holds cX8_holds 5 (some .boolean), Cond.methodLink RX8 77 yX8_isVowel, Cond.static yX8_isVowel, Cond.code yX8_isVowel cX8_isVowel 1 (some .boolean), Cond.methodLink RX8 88 yX8_weight, Cond.instanceMethod yX8_weight, Cond.selects RX8 yX8_weight yX8_weight, Cond.code yX8_weight cX8_weight 2 (some .int), Cond.methodLink RX8 66 yX8_in, Cond.static yX8_in, Cond.code yX8_in cX8_in 6 (some .boolean), Cond.methodLink RX8 135 yX8_withSpelling, Cond.instanceMethod yX8_withSpelling, Cond.selects RX8 yX8_withSpelling yX8_withSpelling, Cond.code yX8_withSpelling cX8_withSpelling 5 (some .int), Cond.methodLink RX8 129 yX8_areSame]
def wsX8_comeBack_r4 : List Cond := [Cond.instanceMethod yX8_areSame, Cond.selects RX8 yX8_areSame yX8_areSame, Cond.code yX8_areSame cX8_areSame 5 (some .boolean)]
def wsX8_comeBack : List Cond := .code yX8_comeBack cX8_comeBack 3 (some .int) :: ((wsX8_comeBack_r1 ++ (wsX8_comeBack_r2 ++ (wsX8_comeBack_r3 ++ wsX8_comeBack_r4))) ++ wsX80)
def wsX8_neverUsed_r1 : List Cond := [Cond.fieldLink RX8 7 "SoundSpellerModel" "all" "[I", Cond.fieldLink RX8 31 "SoundSpellerModel" "used" "[I", Cond.methodLink RX8 246 yX8_uses, Cond.instanceMethod yX8_uses, Cond.selects RX8 yX8_uses yX8_uses, Cond.initialized RX8, Cond.code yX8_uses cX8_uses 2 none, Cond.methodLink RX8 103 yX8_usesNone, Cond.instanceMethod yX8_usesNone, Cond.selects RX8 yX8_usesNone yX8_usesNone, Cond.code yX8_usesNone cX8_usesNone 2 none, Cond.methodLink RX8 106 yX8_lays, Cond.instanceMethod yX8_lays, Cond.selects RX8 yX8_lays yX8_lays, Cond.code yX8_lays cX8_lays 3 none, Cond.fieldLink RX8 74 "SoundSpellerModel" "size" "I", Cond.fieldLink RX8 22 "SoundSpellerModel" "letters" "[I", Cond.methodLink RX8 100 yX8_wordAt, Cond.static yX8_wordAt, Cond.code yX8_wordAt cX8_wordAt 1 (some .int), Cond.methodLink RX8 110 yX8_findsSounds, Cond.instanceMethod yX8_findsSounds, Cond.selects RX8 yX8_findsSounds yX8_findsSounds, Cond.code yX8_findsSounds cX8_findsSounds 6 none]
def wsX8_neverUsed_r2 : List Cond := [Cond.fieldLink RX8 91 "SoundSpellerModel" "soundsLong" "I", Cond.fieldLink RX8 94 "SoundSpellerModel" "usedTimes" "I", Cond.fieldLink RX8 25 "SoundSpellerModel" "ruleFor" "[I", Cond.fieldLink RX8 28 "SoundSpellerModel" "sounds" "[I", Cond.methodLink RX8 97 yX8_ruleAtPlace, Cond.instanceMethod yX8_ruleAtPlace, Cond.selects RX8 yX8_ruleAtPlace yX8_ruleAtPlace, Cond.code yX8_ruleAtPlace cX8_ruleAtPlace 4 (some .int), Cond.methodLink RX8 81 yX8_stands, Cond.instanceMethod yX8_stands, Cond.selects RX8 yX8_stands yX8_stands, Cond.code yX8_stands cX8_stands 6 (some .boolean), Cond.methodLink RX8 70 yX8_ruleAt, Cond.static yX8_ruleAt, Cond.code yX8_ruleAt cX8_ruleAt 1 (some .int), Cond.methodLink RX8 85 yX8_holds, Cond.instanceMethod yX8_holds, Cond.selects RX8 yX8_holds yX8_holds, Cond.code yX8_holds cX8_holds 5 (some .boolean), Cond.methodLink RX8 77 yX8_isVowel, Cond.static yX8_isVowel, Cond.code yX8_isVowel cX8_isVowel 1 (some .boolean), Cond.methodLink RX8 88 yX8_weight, Cond.instanceMethod yX8_weight]
def wsX8_neverUsed_r3 : List Cond := [Cond.selects RX8 yX8_weight yX8_weight, Cond.code yX8_weight cX8_weight 2 (some .int)]
def wsX8_neverUsed : List Cond := .code yX8_neverUsed cX8_neverUsed 3 (some .int) :: ((wsX8_neverUsed_r1 ++ (wsX8_neverUsed_r2 ++ wsX8_neverUsed_r3)) ++ wsX80)
def wsX8_lettersOfAll : List Cond := .code yX8_lettersOfAll cX8_lettersOfAll 3 (some .int) :: ([.fieldLink RX8 7 "SoundSpellerModel" "all" "[I", .methodLink RX8 100 yX8_wordAt, .static yX8_wordAt, .initialized RX8, .code yX8_wordAt cX8_wordAt 1 (some .int)] ++ wsX80)
def wsX8_spellingsOfAll_r1 : List Cond := [Cond.fieldLink RX8 7 "SoundSpellerModel" "all" "[I", Cond.fieldLink RX8 40 "SoundSpellerModel" "spellingLong" "[I", Cond.methodLink RX8 132 yX8_spells, Cond.instanceMethod yX8_spells, Cond.selects RX8 yX8_spells yX8_spells, Cond.initialized RX8, Cond.code yX8_spells cX8_spells 3 none, Cond.fieldLink RX8 113 "SoundSpellerModel" "outLong" "I", Cond.fieldLink RX8 37 "SoundSpellerModel" "spelling" "[I", Cond.fieldLink RX8 34 "SoundSpellerModel" "out" "[I", Cond.methodLink RX8 106 yX8_lays, Cond.instanceMethod yX8_lays, Cond.selects RX8 yX8_lays yX8_lays, Cond.code yX8_lays cX8_lays 3 none, Cond.fieldLink RX8 74 "SoundSpellerModel" "size" "I", Cond.fieldLink RX8 22 "SoundSpellerModel" "letters" "[I", Cond.methodLink RX8 100 yX8_wordAt, Cond.static yX8_wordAt, Cond.code yX8_wordAt cX8_wordAt 1 (some .int), Cond.methodLink RX8 126 yX8_writesAs, Cond.instanceMethod yX8_writesAs, Cond.selects RX8 yX8_writesAs yX8_writesAs, Cond.code yX8_writesAs cX8_writesAs 5 none, Cond.fieldLink RX8 91 "SoundSpellerModel" "soundsLong" "I"]
def wsX8_spellingsOfAll_r2 : List Cond := [Cond.fieldLink RX8 28 "SoundSpellerModel" "sounds" "[I", Cond.constantLong RX8 122 (65), Cond.constantLong RX8 124 (90), Cond.methodLink RX8 119 yX8_writesItself, Cond.instanceMethod yX8_writesItself, Cond.selects RX8 yX8_writesItself yX8_writesItself, Cond.code yX8_writesItself cX8_writesItself 2 none, Cond.methodLink RX8 116 yX8_writes, Cond.instanceMethod yX8_writes, Cond.selects RX8 yX8_writes yX8_writes, Cond.code yX8_writes cX8_writes 2 none, Cond.methodLink RX8 110 yX8_findsSounds, Cond.instanceMethod yX8_findsSounds, Cond.selects RX8 yX8_findsSounds yX8_findsSounds, Cond.code yX8_findsSounds cX8_findsSounds 6 none, Cond.fieldLink RX8 94 "SoundSpellerModel" "usedTimes" "I", Cond.fieldLink RX8 25 "SoundSpellerModel" "ruleFor" "[I", Cond.fieldLink RX8 31 "SoundSpellerModel" "used" "[I", Cond.methodLink RX8 97 yX8_ruleAtPlace, Cond.instanceMethod yX8_ruleAtPlace, Cond.selects RX8 yX8_ruleAtPlace yX8_ruleAtPlace, Cond.code yX8_ruleAtPlace cX8_ruleAtPlace 4 (some .int), Cond.methodLink RX8 81 yX8_stands, Cond.instanceMethod yX8_stands]
def wsX8_spellingsOfAll_r3 : List Cond := [Cond.selects RX8 yX8_stands yX8_stands, Cond.code yX8_stands cX8_stands 6 (some .boolean), Cond.methodLink RX8 70 yX8_ruleAt, Cond.static yX8_ruleAt, Cond.code yX8_ruleAt cX8_ruleAt 1 (some .int), Cond.methodLink RX8 85 yX8_holds, Cond.instanceMethod yX8_holds, Cond.selects RX8 yX8_holds yX8_holds, Cond.code yX8_holds cX8_holds 5 (some .boolean), Cond.methodLink RX8 77 yX8_isVowel, Cond.static yX8_isVowel, Cond.code yX8_isVowel cX8_isVowel 1 (some .boolean), Cond.methodLink RX8 88 yX8_weight, Cond.instanceMethod yX8_weight, Cond.selects RX8 yX8_weight yX8_weight, Cond.code yX8_weight cX8_weight 2 (some .int), Cond.methodLink RX8 66 yX8_in, Cond.static yX8_in, Cond.code yX8_in cX8_in 6 (some .boolean)]
def wsX8_spellingsOfAll : List Cond := .code yX8_spellingsOfAll cX8_spellingsOfAll 3 (some .int) :: ((wsX8_spellingsOfAll_r1 ++ (wsX8_spellingsOfAll_r2 ++ wsX8_spellingsOfAll_r3)) ++ wsX80)
def wsX8_longSigns : List Cond := .code yX8_longSigns cX8_longSigns 3 (some .int) :: ([.fieldLink RX8 7 "SoundSpellerModel" "all" "[I"] ++ wsX80)
def wsX8_count_r1 : List Cond := [Cond.fieldLink RX8 7 "SoundSpellerModel" "all" "[I", Cond.fieldLink RX8 219 "SoundSpellerModel" "resultLong" "I", Cond.fieldLink RX8 62 "SoundSpellerModel" "historyLong" "I", Cond.fieldLink RX8 139 "SoundSpellerModel" "textLong" "I", Cond.methodLink RX8 255 yX8_colliding, Cond.instanceMethod yX8_colliding, Cond.selects RX8 yX8_colliding yX8_colliding, Cond.initialized RX8, Cond.code yX8_colliding cX8_colliding 3 (some .int), Cond.methodLink RX8 132 yX8_spells, Cond.instanceMethod yX8_spells, Cond.selects RX8 yX8_spells yX8_spells, Cond.code yX8_spells cX8_spells 3 none, Cond.fieldLink RX8 40 "SoundSpellerModel" "spellingLong" "[I", Cond.fieldLink RX8 113 "SoundSpellerModel" "outLong" "I", Cond.fieldLink RX8 37 "SoundSpellerModel" "spelling" "[I", Cond.fieldLink RX8 34 "SoundSpellerModel" "out" "[I", Cond.methodLink RX8 106 yX8_lays, Cond.instanceMethod yX8_lays, Cond.selects RX8 yX8_lays yX8_lays, Cond.code yX8_lays cX8_lays 3 none, Cond.fieldLink RX8 74 "SoundSpellerModel" "size" "I", Cond.fieldLink RX8 22 "SoundSpellerModel" "letters" "[I", Cond.methodLink RX8 100 yX8_wordAt]
def wsX8_count_r2 : List Cond := [Cond.static yX8_wordAt, Cond.code yX8_wordAt cX8_wordAt 1 (some .int), Cond.methodLink RX8 126 yX8_writesAs, Cond.instanceMethod yX8_writesAs, Cond.selects RX8 yX8_writesAs yX8_writesAs, Cond.code yX8_writesAs cX8_writesAs 5 none, Cond.fieldLink RX8 91 "SoundSpellerModel" "soundsLong" "I", Cond.fieldLink RX8 28 "SoundSpellerModel" "sounds" "[I", Cond.constantLong RX8 122 (65), Cond.constantLong RX8 124 (90), Cond.methodLink RX8 119 yX8_writesItself, Cond.instanceMethod yX8_writesItself, Cond.selects RX8 yX8_writesItself yX8_writesItself, Cond.code yX8_writesItself cX8_writesItself 2 none, Cond.methodLink RX8 116 yX8_writes, Cond.instanceMethod yX8_writes, Cond.selects RX8 yX8_writes yX8_writes, Cond.code yX8_writes cX8_writes 2 none, Cond.methodLink RX8 110 yX8_findsSounds, Cond.instanceMethod yX8_findsSounds, Cond.selects RX8 yX8_findsSounds yX8_findsSounds, Cond.code yX8_findsSounds cX8_findsSounds 6 none, Cond.fieldLink RX8 94 "SoundSpellerModel" "usedTimes" "I", Cond.fieldLink RX8 25 "SoundSpellerModel" "ruleFor" "[I"]
def wsX8_count_r3 : List Cond := [Cond.fieldLink RX8 31 "SoundSpellerModel" "used" "[I", Cond.methodLink RX8 97 yX8_ruleAtPlace, Cond.instanceMethod yX8_ruleAtPlace, Cond.selects RX8 yX8_ruleAtPlace yX8_ruleAtPlace, Cond.code yX8_ruleAtPlace cX8_ruleAtPlace 4 (some .int), Cond.methodLink RX8 81 yX8_stands, Cond.instanceMethod yX8_stands, Cond.selects RX8 yX8_stands yX8_stands, Cond.code yX8_stands cX8_stands 6 (some .boolean), Cond.methodLink RX8 70 yX8_ruleAt, Cond.static yX8_ruleAt, Cond.code yX8_ruleAt cX8_ruleAt 1 (some .int), Cond.methodLink RX8 85 yX8_holds, Cond.instanceMethod yX8_holds, Cond.selects RX8 yX8_holds yX8_holds, Cond.code yX8_holds cX8_holds 5 (some .boolean), Cond.methodLink RX8 77 yX8_isVowel, Cond.static yX8_isVowel, Cond.code yX8_isVowel cX8_isVowel 1 (some .boolean), Cond.methodLink RX8 88 yX8_weight, Cond.instanceMethod yX8_weight, Cond.selects RX8 yX8_weight yX8_weight, Cond.code yX8_weight cX8_weight 2 (some .int), Cond.methodLink RX8 66 yX8_in]
def wsX8_count_r4 : List Cond := [Cond.static yX8_in, Cond.code yX8_in cX8_in 6 (some .boolean), Cond.methodLink RX8 135 yX8_withSpelling, Cond.instanceMethod yX8_withSpelling, Cond.selects RX8 yX8_withSpelling yX8_withSpelling, Cond.code yX8_withSpelling cX8_withSpelling 5 (some .int), Cond.methodLink RX8 129 yX8_areSame, Cond.instanceMethod yX8_areSame, Cond.selects RX8 yX8_areSame yX8_areSame, Cond.code yX8_areSame cX8_areSame 5 (some .boolean), Cond.methodLink RX8 258 yX8_comeBack, Cond.instanceMethod yX8_comeBack, Cond.selects RX8 yX8_comeBack yX8_comeBack, Cond.code yX8_comeBack cX8_comeBack 3 (some .int), Cond.methodLink RX8 261 yX8_neverUsed, Cond.instanceMethod yX8_neverUsed, Cond.selects RX8 yX8_neverUsed yX8_neverUsed, Cond.code yX8_neverUsed cX8_neverUsed 3 (some .int), Cond.methodLink RX8 246 yX8_uses, Cond.instanceMethod yX8_uses, Cond.selects RX8 yX8_uses yX8_uses, Cond.code yX8_uses cX8_uses 2 none, Cond.methodLink RX8 103 yX8_usesNone, Cond.instanceMethod yX8_usesNone]
def wsX8_count_r5 : List Cond := [Cond.selects RX8 yX8_usesNone yX8_usesNone, Cond.code yX8_usesNone cX8_usesNone 2 none, Cond.methodLink RX8 264 yX8_lettersOfAll, Cond.instanceMethod yX8_lettersOfAll, Cond.selects RX8 yX8_lettersOfAll yX8_lettersOfAll, Cond.code yX8_lettersOfAll cX8_lettersOfAll 3 (some .int), Cond.methodLink RX8 267 yX8_spellingsOfAll, Cond.instanceMethod yX8_spellingsOfAll, Cond.selects RX8 yX8_spellingsOfAll yX8_spellingsOfAll, Cond.code yX8_spellingsOfAll cX8_spellingsOfAll 3 (some .int), Cond.methodLink RX8 270 yX8_longSigns, Cond.instanceMethod yX8_longSigns, Cond.selects RX8 yX8_longSigns yX8_longSigns, Cond.code yX8_longSigns cX8_longSigns 3 (some .int)]
def wsX8_count : List Cond := .code yX8_count cX8_count 2 (some .int) :: ((wsX8_count_r1 ++ (wsX8_count_r2 ++ (wsX8_count_r3 ++ (wsX8_count_r4 ++ wsX8_count_r5)))) ++ wsX80)
def wsJ9_max_7cf53 : List Cond := .code yJ9_max_7cf53 cJ9_max_7cf53 2 (some .int) :: ([])
def wsJ9_min_7cf53 : List Cond := .code yJ9_min_7cf53 cJ9_min_7cf53 2 (some .int) :: ([])
abbrev vwCl : List vw_C := [(RX0, TX0, 6), (RX1, TX1, 2), (RX2, TX2, 7), (RX3, TX3, 2), (RX4, TX4, 3), (RX5, TX5, 4), (RX6, TX6, 7), (RX7, TX7, 12), (RX8, TX8, 28)]
end
section
theorem dX3_init_0 : decode cX3_init 0 = .ok (.aload_n 0, 1) := by decide +kernel
theorem dX3_init_1 : decode cX3_init 1 = .ok (.invokespecial 3, 3) := by decide +kernel
theorem dX3_init_4 : decode cX3_init 4 = .ok (.aload_n 0, 1) := by decide +kernel
theorem dX3_init_5 : decode cX3_init 5 = .ok (.iload_n 1, 1) := by decide +kernel
theorem dX3_init_6 : decode cX3_init 6 = .ok (.iconst 0, 1) := by decide +kernel
theorem dX3_init_7 : decode cX3_init 7 = .ok (.invokestatic 9, 3) := by decide +kernel
theorem dX3_init_10 : decode cX3_init 10 = .ok (.newarray .int, 2) := by decide +kernel
theorem dX3_init_12 : decode cX3_init 12 = .ok (.putfield 15, 3) := by decide +kernel
theorem dX3_init_15 : decode cX3_init 15 = .ok (.return_, 1) := by decide +kernel
theorem dX3_size_0 : decode cX3_size 0 = .ok (.aload_n 0, 1) := by decide +kernel
theorem dX3_size_1 : decode cX3_size 1 = .ok (.getfield 21, 3) := by decide +kernel
theorem dX3_size_4 : decode cX3_size 4 = .ok (.ireturn, 1) := by decide +kernel
theorem dX3_isFull_0 : decode cX3_isFull 0 = .ok (.aload_n 0, 1) := by decide +kernel
theorem dX3_isFull_1 : decode cX3_isFull 1 = .ok (.getfield 21, 3) := by decide +kernel
theorem dX3_isFull_4 : decode cX3_isFull 4 = .ok (.aload_n 0, 1) := by decide +kernel
theorem dX3_isFull_5 : decode cX3_isFull 5 = .ok (.getfield 15, 3) := by decide +kernel
theorem dX3_isFull_8 : decode cX3_isFull 8 = .ok (.arraylength, 1) := by decide +kernel
theorem dX3_isFull_9 : decode cX3_isFull 9 = .ok (.if_icmp .lt 7, 3) := by decide +kernel
theorem dX3_isFull_12 : decode cX3_isFull 12 = .ok (.iconst 1, 1) := by decide +kernel
theorem dX3_isFull_13 : decode cX3_isFull 13 = .ok (.goto 4, 3) := by decide +kernel
theorem dX3_isFull_16 : decode cX3_isFull 16 = .ok (.iconst 0, 1) := by decide +kernel
theorem dX3_isFull_17 : decode cX3_isFull 17 = .ok (.ireturn, 1) := by decide +kernel
theorem dX3_get_0 : decode cX3_get 0 = .ok (.iload_n 1, 1) := by decide +kernel
theorem dX3_get_1 : decode cX3_get 1 = .ok (.ifCond .lt 29, 3) := by decide +kernel
theorem dX3_get_4 : decode cX3_get 4 = .ok (.iload_n 1, 1) := by decide +kernel
theorem dX3_get_5 : decode cX3_get 5 = .ok (.aload_n 0, 1) := by decide +kernel
theorem dX3_get_6 : decode cX3_get 6 = .ok (.getfield 21, 3) := by decide +kernel
theorem dX3_get_9 : decode cX3_get 9 = .ok (.if_icmp .ge 21, 3) := by decide +kernel
theorem dX3_get_12 : decode cX3_get 12 = .ok (.iload_n 1, 1) := by decide +kernel
theorem dX3_get_13 : decode cX3_get 13 = .ok (.aload_n 0, 1) := by decide +kernel
theorem dX3_get_14 : decode cX3_get 14 = .ok (.getfield 15, 3) := by decide +kernel
theorem dX3_get_17 : decode cX3_get 17 = .ok (.arraylength, 1) := by decide +kernel
theorem dX3_get_18 : decode cX3_get 18 = .ok (.if_icmp .ge 12, 3) := by decide +kernel
theorem dX3_get_21 : decode cX3_get 21 = .ok (.aload_n 0, 1) := by decide +kernel
theorem dX3_get_22 : decode cX3_get 22 = .ok (.getfield 15, 3) := by decide +kernel
theorem dX3_get_25 : decode cX3_get 25 = .ok (.iload_n 1, 1) := by decide +kernel
theorem dX3_get_26 : decode cX3_get 26 = .ok (.iaload, 1) := by decide +kernel
theorem dX3_get_27 : decode cX3_get 27 = .ok (.goto 5, 3) := by decide +kernel
theorem dX3_get_30 : decode cX3_get 30 = .ok (.bipush (-5), 2) := by decide +kernel
theorem dX3_get_32 : decode cX3_get 32 = .ok (.ireturn, 1) := by decide +kernel
theorem dX3_set_0 : decode cX3_set 0 = .ok (.iload_n 1, 1) := by decide +kernel
theorem dX3_set_1 : decode cX3_set 1 = .ok (.ifCond .lt 27, 3) := by decide +kernel
theorem dX3_set_4 : decode cX3_set 4 = .ok (.iload_n 1, 1) := by decide +kernel
theorem dX3_set_5 : decode cX3_set 5 = .ok (.aload_n 0, 1) := by decide +kernel
theorem dX3_set_6 : decode cX3_set 6 = .ok (.getfield 21, 3) := by decide +kernel
theorem dX3_set_9 : decode cX3_set 9 = .ok (.if_icmp .ge 19, 3) := by decide +kernel
theorem dX3_set_12 : decode cX3_set 12 = .ok (.iload_n 1, 1) := by decide +kernel
theorem dX3_set_13 : decode cX3_set 13 = .ok (.aload_n 0, 1) := by decide +kernel
theorem dX3_set_14 : decode cX3_set 14 = .ok (.getfield 15, 3) := by decide +kernel
theorem dX3_set_17 : decode cX3_set 17 = .ok (.arraylength, 1) := by decide +kernel
theorem dX3_set_18 : decode cX3_set 18 = .ok (.if_icmp .ge 10, 3) := by decide +kernel
theorem dX3_set_21 : decode cX3_set 21 = .ok (.aload_n 0, 1) := by decide +kernel
theorem dX3_set_22 : decode cX3_set 22 = .ok (.getfield 15, 3) := by decide +kernel
theorem dX3_set_25 : decode cX3_set 25 = .ok (.iload_n 1, 1) := by decide +kernel
theorem dX3_set_26 : decode cX3_set 26 = .ok (.iload_n 2, 1) := by decide +kernel
theorem dX3_set_27 : decode cX3_set 27 = .ok (.iastore, 1) := by decide +kernel
theorem dX3_set_28 : decode cX3_set 28 = .ok (.return_, 1) := by decide +kernel
theorem dX3_add_0 : decode cX3_add 0 = .ok (.aload_n 0, 1) := by decide +kernel
theorem dX3_add_1 : decode cX3_add 1 = .ok (.getfield 21, 3) := by decide +kernel
theorem dX3_add_4 : decode cX3_add 4 = .ok (.ifCond .lt 35, 3) := by decide +kernel
theorem dX3_add_7 : decode cX3_add 7 = .ok (.aload_n 0, 1) := by decide +kernel
theorem dX3_add_8 : decode cX3_add 8 = .ok (.getfield 21, 3) := by decide +kernel
theorem dX3_add_11 : decode cX3_add 11 = .ok (.aload_n 0, 1) := by decide +kernel
theorem dX3_add_12 : decode cX3_add 12 = .ok (.getfield 15, 3) := by decide +kernel
theorem dX3_add_15 : decode cX3_add 15 = .ok (.arraylength, 1) := by decide +kernel
theorem dX3_add_16 : decode cX3_add 16 = .ok (.if_icmp .ge 23, 3) := by decide +kernel
theorem dX3_add_19 : decode cX3_add 19 = .ok (.aload_n 0, 1) := by decide +kernel
theorem dX3_add_20 : decode cX3_add 20 = .ok (.getfield 15, 3) := by decide +kernel
theorem dX3_add_23 : decode cX3_add 23 = .ok (.aload_n 0, 1) := by decide +kernel
theorem dX3_add_24 : decode cX3_add 24 = .ok (.getfield 21, 3) := by decide +kernel
theorem dX3_add_27 : decode cX3_add 27 = .ok (.iload_n 1, 1) := by decide +kernel
theorem dX3_add_28 : decode cX3_add 28 = .ok (.iastore, 1) := by decide +kernel
theorem dX3_add_29 : decode cX3_add 29 = .ok (.aload_n 0, 1) := by decide +kernel
theorem dX3_add_30 : decode cX3_add 30 = .ok (.dup, 1) := by decide +kernel
theorem dX3_add_31 : decode cX3_add 31 = .ok (.getfield 21, 3) := by decide +kernel
theorem dX3_add_34 : decode cX3_add 34 = .ok (.iconst 1, 1) := by decide +kernel
theorem dX3_add_35 : decode cX3_add 35 = .ok (.iadd, 1) := by decide +kernel
theorem dX3_add_36 : decode cX3_add 36 = .ok (.putfield 21, 3) := by decide +kernel
theorem dX3_add_39 : decode cX3_add 39 = .ok (.return_, 1) := by decide +kernel
set_option maxRecDepth 20000 in
theorem ggX3_addAll_X3_get : GoodIn wsX3_addAll wsX3_get := goodIn_r _ [6, 1, 7, 12, 13] (by decide +kernel) (by decide +kernel)
set_option maxRecDepth 20000 in
theorem gX3_addAll_X3_get : GoodIn wsX3_addAll (wsV RX3 25 RX3 yX3_get wsX3_get) := goodIn_app (goodIn_of _ (by decide +kernel)) ggX3_addAll_X3_get
set_option maxRecDepth 20000 in
theorem ggX3_addAll_X3_add : GoodIn wsX3_addAll wsX3_add := goodIn_r _ [11, 1, 7, 12, 13] (by decide +kernel) (by decide +kernel)
set_option maxRecDepth 20000 in
theorem gX3_addAll_X3_add : GoodIn wsX3_addAll (wsV RX3 29 RX3 yX3_add wsX3_add) := goodIn_app (goodIn_of _ (by decide +kernel)) ggX3_addAll_X3_add
theorem dX3_addAll_0 : decode cX3_addAll 0 = .ok (.iconst 0, 1) := by decide +kernel
theorem dX3_addAll_1 : decode cX3_addAll 1 = .ok (.istore_n 2, 1) := by decide +kernel
theorem dX3_addAll_2 : decode cX3_addAll 2 = .ok (.iload_n 2, 1) := by decide +kernel
theorem dX3_addAll_3 : decode cX3_addAll 3 = .ok (.aload_n 1, 1) := by decide +kernel
theorem dX3_addAll_4 : decode cX3_addAll 4 = .ok (.getfield 21, 3) := by decide +kernel
theorem dX3_addAll_7 : decode cX3_addAll 7 = .ok (.if_icmp .ge 18, 3) := by decide +kernel
theorem dX3_addAll_10 : decode cX3_addAll 10 = .ok (.aload_n 0, 1) := by decide +kernel
theorem dX3_addAll_11 : decode cX3_addAll 11 = .ok (.aload_n 1, 1) := by decide +kernel
theorem dX3_addAll_12 : decode cX3_addAll 12 = .ok (.iload_n 2, 1) := by decide +kernel
theorem dX3_addAll_13 : decode cX3_addAll 13 = .ok (.invokevirtual 25, 3) := by decide +kernel
theorem dX3_addAll_16 : decode cX3_addAll 16 = .ok (.invokevirtual 29, 3) := by decide +kernel
theorem dX3_addAll_19 : decode cX3_addAll 19 = .ok (.iinc 2 1, 3) := by decide +kernel
theorem dX3_addAll_22 : decode cX3_addAll 22 = .ok (.goto (-20), 3) := by decide +kernel
theorem dX3_addAll_25 : decode cX3_addAll 25 = .ok (.return_, 1) := by decide +kernel
set_option maxRecDepth 20000 in
theorem ggX3_addMany_X3_add : GoodIn wsX3_addMany wsX3_add := goodIn_r _ [5, 6, 7, 8, 9] (by decide +kernel) (by decide +kernel)
set_option maxRecDepth 20000 in
theorem gX3_addMany_X3_add : GoodIn wsX3_addMany (wsV RX3 29 RX3 yX3_add wsX3_add) := goodIn_app (goodIn_of _ (by decide +kernel)) ggX3_addMany_X3_add
theorem dX3_addMany_0 : decode cX3_addMany 0 = .ok (.iconst 0, 1) := by decide +kernel
theorem dX3_addMany_1 : decode cX3_addMany 1 = .ok (.istore_n 3, 1) := by decide +kernel
theorem dX3_addMany_2 : decode cX3_addMany 2 = .ok (.iload_n 3, 1) := by decide +kernel
theorem dX3_addMany_3 : decode cX3_addMany 3 = .ok (.iload_n 2, 1) := by decide +kernel
theorem dX3_addMany_4 : decode cX3_addMany 4 = .ok (.if_icmp .ge 14, 3) := by decide +kernel
theorem dX3_addMany_7 : decode cX3_addMany 7 = .ok (.aload_n 0, 1) := by decide +kernel
theorem dX3_addMany_8 : decode cX3_addMany 8 = .ok (.iload_n 1, 1) := by decide +kernel
theorem dX3_addMany_9 : decode cX3_addMany 9 = .ok (.invokevirtual 29, 3) := by decide +kernel
theorem dX3_addMany_12 : decode cX3_addMany 12 = .ok (.iinc 3 1, 3) := by decide +kernel
theorem dX3_addMany_15 : decode cX3_addMany 15 = .ok (.goto (-13), 3) := by decide +kernel
theorem dX3_addMany_18 : decode cX3_addMany 18 = .ok (.return_, 1) := by decide +kernel
set_option maxRecDepth 20000 in
theorem ggX3_increase_X3_get : GoodIn wsX3_increase wsX3_get := goodIn_r _ [5, 6, 7, 12, 13] (by decide +kernel) (by decide +kernel)
set_option maxRecDepth 20000 in
theorem gX3_increase_X3_get : GoodIn wsX3_increase (wsV RX3 25 RX3 yX3_get wsX3_get) := goodIn_app (goodIn_of _ (by decide +kernel)) ggX3_increase_X3_get
set_option maxRecDepth 20000 in
theorem ggX3_increase_X3_set : GoodIn wsX3_increase wsX3_set := goodIn_r _ [11, 6, 7, 12, 13] (by decide +kernel) (by decide +kernel)
set_option maxRecDepth 20000 in
theorem gX3_increase_X3_set : GoodIn wsX3_increase (wsV RX3 33 RX3 yX3_set wsX3_set) := goodIn_app (goodIn_of _ (by decide +kernel)) ggX3_increase_X3_set
theorem dX3_increase_0 : decode cX3_increase 0 = .ok (.aload_n 0, 1) := by decide +kernel
theorem dX3_increase_1 : decode cX3_increase 1 = .ok (.iload_n 1, 1) := by decide +kernel
theorem dX3_increase_2 : decode cX3_increase 2 = .ok (.aload_n 0, 1) := by decide +kernel
theorem dX3_increase_3 : decode cX3_increase 3 = .ok (.iload_n 1, 1) := by decide +kernel
theorem dX3_increase_4 : decode cX3_increase 4 = .ok (.invokevirtual 25, 3) := by decide +kernel
theorem dX3_increase_7 : decode cX3_increase 7 = .ok (.iconst 1, 1) := by decide +kernel
theorem dX3_increase_8 : decode cX3_increase 8 = .ok (.iadd, 1) := by decide +kernel
theorem dX3_increase_9 : decode cX3_increase 9 = .ok (.invokevirtual 33, 3) := by decide +kernel
theorem dX3_increase_12 : decode cX3_increase 12 = .ok (.return_, 1) := by decide +kernel
theorem dX3_clear_0 : decode cX3_clear 0 = .ok (.aload_n 0, 1) := by decide +kernel
theorem dX3_clear_1 : decode cX3_clear 1 = .ok (.iconst 0, 1) := by decide +kernel
theorem dX3_clear_2 : decode cX3_clear 2 = .ok (.putfield 21, 3) := by decide +kernel
theorem dX3_clear_5 : decode cX3_clear 5 = .ok (.return_, 1) := by decide +kernel
theorem dX3_dropLast_0 : decode cX3_dropLast 0 = .ok (.aload_n 0, 1) := by decide +kernel
theorem dX3_dropLast_1 : decode cX3_dropLast 1 = .ok (.aload_n 0, 1) := by decide +kernel
theorem dX3_dropLast_2 : decode cX3_dropLast 2 = .ok (.getfield 21, 3) := by decide +kernel
theorem dX3_dropLast_5 : decode cX3_dropLast 5 = .ok (.iconst 1, 1) := by decide +kernel
theorem dX3_dropLast_6 : decode cX3_dropLast 6 = .ok (.isub, 1) := by decide +kernel
theorem dX3_dropLast_7 : decode cX3_dropLast 7 = .ok (.iconst 0, 1) := by decide +kernel
theorem dX3_dropLast_8 : decode cX3_dropLast 8 = .ok (.invokestatic 9, 3) := by decide +kernel
theorem dX3_dropLast_11 : decode cX3_dropLast 11 = .ok (.putfield 21, 3) := by decide +kernel
theorem dX3_dropLast_14 : decode cX3_dropLast 14 = .ok (.return_, 1) := by decide +kernel
set_option maxRecDepth 20000 in
theorem ggX3_copyFrom_X3_clear : GoodIn wsX3_copyFrom wsX3_clear := goodIn_r _ [5, 6, 20, 21] (by decide +kernel) (by decide +kernel)
set_option maxRecDepth 20000 in
theorem gX3_copyFrom_X3_clear : GoodIn wsX3_copyFrom (wsV RX3 37 RX3 yX3_clear wsX3_clear) := goodIn_app (goodIn_of _ (by decide +kernel)) ggX3_copyFrom_X3_clear
set_option maxRecDepth 20000 in
theorem ggX3_copyFrom_X3_addAll : GoodIn wsX3_copyFrom wsX3_addAll := goodIn_r _ [10, 6, 11, 12, 13, 4, 14, 15, 16, 17, 18, 19, 20, 21] (by decide +kernel) (by decide +kernel)
set_option maxRecDepth 20000 in
theorem gX3_copyFrom_X3_addAll : GoodIn wsX3_copyFrom (wsV RX3 40 RX3 yX3_addAll wsX3_addAll) := goodIn_app (goodIn_of _ (by decide +kernel)) ggX3_copyFrom_X3_addAll
theorem dX3_copyFrom_0 : decode cX3_copyFrom 0 = .ok (.aload_n 0, 1) := by decide +kernel
theorem dX3_copyFrom_1 : decode cX3_copyFrom 1 = .ok (.invokevirtual 37, 3) := by decide +kernel
theorem dX3_copyFrom_4 : decode cX3_copyFrom 4 = .ok (.aload_n 0, 1) := by decide +kernel
theorem dX3_copyFrom_5 : decode cX3_copyFrom 5 = .ok (.aload_n 1, 1) := by decide +kernel
theorem dX3_copyFrom_6 : decode cX3_copyFrom 6 = .ok (.invokevirtual 40, 3) := by decide +kernel
theorem dX3_copyFrom_9 : decode cX3_copyFrom 9 = .ok (.return_, 1) := by decide +kernel
set_option maxRecDepth 20000 in
theorem ggX3_swap_X3_get : GoodIn wsX3_swap wsX3_get := goodIn_r _ [5, 6, 7, 12, 13] (by decide +kernel) (by decide +kernel)
set_option maxRecDepth 20000 in
theorem gX3_swap_X3_get : GoodIn wsX3_swap (wsV RX3 25 RX3 yX3_get wsX3_get) := goodIn_app (goodIn_of _ (by decide +kernel)) ggX3_swap_X3_get
set_option maxRecDepth 20000 in
theorem ggX3_swap_X3_set : GoodIn wsX3_swap wsX3_set := goodIn_r _ [11, 6, 7, 12, 13] (by decide +kernel) (by decide +kernel)
set_option maxRecDepth 20000 in
theorem gX3_swap_X3_set : GoodIn wsX3_swap (wsV RX3 33 RX3 yX3_set wsX3_set) := goodIn_app (goodIn_of _ (by decide +kernel)) ggX3_swap_X3_set
theorem dX3_swap_0 : decode cX3_swap 0 = .ok (.aload_n 0, 1) := by decide +kernel
theorem dX3_swap_1 : decode cX3_swap 1 = .ok (.iload_n 1, 1) := by decide +kernel
theorem dX3_swap_2 : decode cX3_swap 2 = .ok (.invokevirtual 25, 3) := by decide +kernel
theorem dX3_swap_5 : decode cX3_swap 5 = .ok (.istore_n 3, 1) := by decide +kernel
theorem dX3_swap_6 : decode cX3_swap 6 = .ok (.aload_n 0, 1) := by decide +kernel
theorem dX3_swap_7 : decode cX3_swap 7 = .ok (.iload_n 1, 1) := by decide +kernel
theorem dX3_swap_8 : decode cX3_swap 8 = .ok (.aload_n 0, 1) := by decide +kernel
theorem dX3_swap_9 : decode cX3_swap 9 = .ok (.iload_n 2, 1) := by decide +kernel
theorem dX3_swap_10 : decode cX3_swap 10 = .ok (.invokevirtual 25, 3) := by decide +kernel
theorem dX3_swap_13 : decode cX3_swap 13 = .ok (.invokevirtual 33, 3) := by decide +kernel
theorem dX3_swap_16 : decode cX3_swap 16 = .ok (.aload_n 0, 1) := by decide +kernel
theorem dX3_swap_17 : decode cX3_swap 17 = .ok (.iload_n 2, 1) := by decide +kernel
theorem dX3_swap_18 : decode cX3_swap 18 = .ok (.iload_n 3, 1) := by decide +kernel
theorem dX3_swap_19 : decode cX3_swap 19 = .ok (.invokevirtual 33, 3) := by decide +kernel
theorem dX3_swap_22 : decode cX3_swap 22 = .ok (.return_, 1) := by decide +kernel
set_option maxRecDepth 20000 in
theorem ggX3_move_X3_swap : GoodIn wsX3_move wsX3_swap := goodIn_r _ [5, 6, 7, 8, 4, 9, 10, 11, 12, 13, 14, 15, 16, 17] (by decide +kernel) (by decide +kernel)
set_option maxRecDepth 20000 in
theorem gX3_move_X3_swap : GoodIn wsX3_move (wsV RX3 44 RX3 yX3_swap wsX3_swap) := goodIn_app (goodIn_of _ (by decide +kernel)) ggX3_move_X3_swap
theorem dX3_move_0 : decode cX3_move 0 = .ok (.iload_n 1, 1) := by decide +kernel
theorem dX3_move_1 : decode cX3_move 1 = .ok (.istore_n 3, 1) := by decide +kernel
theorem dX3_move_2 : decode cX3_move 2 = .ok (.iload_n 3, 1) := by decide +kernel
theorem dX3_move_3 : decode cX3_move 3 = .ok (.iload_n 2, 1) := by decide +kernel
theorem dX3_move_4 : decode cX3_move 4 = .ok (.if_icmp .ge 17, 3) := by decide +kernel
theorem dX3_move_7 : decode cX3_move 7 = .ok (.aload_n 0, 1) := by decide +kernel
theorem dX3_move_8 : decode cX3_move 8 = .ok (.iload_n 3, 1) := by decide +kernel
theorem dX3_move_9 : decode cX3_move 9 = .ok (.iload_n 3, 1) := by decide +kernel
theorem dX3_move_10 : decode cX3_move 10 = .ok (.iconst 1, 1) := by decide +kernel
theorem dX3_move_11 : decode cX3_move 11 = .ok (.iadd, 1) := by decide +kernel
theorem dX3_move_12 : decode cX3_move 12 = .ok (.invokevirtual 44, 3) := by decide +kernel
theorem dX3_move_15 : decode cX3_move 15 = .ok (.iinc 3 1, 3) := by decide +kernel
theorem dX3_move_18 : decode cX3_move 18 = .ok (.goto (-16), 3) := by decide +kernel
theorem dX3_move_21 : decode cX3_move 21 = .ok (.iload_n 1, 1) := by decide +kernel
theorem dX3_move_22 : decode cX3_move 22 = .ok (.istore_n 3, 1) := by decide +kernel
theorem dX3_move_23 : decode cX3_move 23 = .ok (.iload_n 3, 1) := by decide +kernel
theorem dX3_move_24 : decode cX3_move 24 = .ok (.iload_n 2, 1) := by decide +kernel
theorem dX3_move_25 : decode cX3_move 25 = .ok (.if_icmp .le 17, 3) := by decide +kernel
theorem dX3_move_28 : decode cX3_move 28 = .ok (.aload_n 0, 1) := by decide +kernel
theorem dX3_move_29 : decode cX3_move 29 = .ok (.iload_n 3, 1) := by decide +kernel
theorem dX3_move_30 : decode cX3_move 30 = .ok (.iload_n 3, 1) := by decide +kernel
theorem dX3_move_31 : decode cX3_move 31 = .ok (.iconst 1, 1) := by decide +kernel
theorem dX3_move_32 : decode cX3_move 32 = .ok (.isub, 1) := by decide +kernel
theorem dX3_move_33 : decode cX3_move 33 = .ok (.invokevirtual 44, 3) := by decide +kernel
theorem dX3_move_36 : decode cX3_move 36 = .ok (.iinc 3 (-1), 3) := by decide +kernel
theorem dX3_move_39 : decode cX3_move 39 = .ok (.goto (-16), 3) := by decide +kernel
theorem dX3_move_42 : decode cX3_move 42 = .ok (.return_, 1) := by decide +kernel
set_option maxRecDepth 20000 in
theorem ggX3_remove_X3_move : GoodIn wsX3_remove wsX3_move := goodIn_r _ [6, 7, 8, 9, 5, 10, 11, 12, 13, 14, 1, 15, 16, 17, 18, 19, 28, 29] (by decide +kernel) (by decide +kernel)
set_option maxRecDepth 20000 in
theorem gX3_remove_X3_move : GoodIn wsX3_remove (wsV RX3 47 RX3 yX3_move wsX3_move) := goodIn_app (goodIn_of _ (by decide +kernel)) ggX3_remove_X3_move
set_option maxRecDepth 20000 in
theorem ggX3_remove_X3_dropLast : GoodIn wsX3_remove wsX3_dropLast := goodIn_r _ [23, 1, 24, 25, 26, 27, 28, 29] (by decide +kernel) (by decide +kernel)
set_option maxRecDepth 20000 in
theorem gX3_remove_X3_dropLast : GoodIn wsX3_remove (wsV RX3 50 RX3 yX3_dropLast wsX3_dropLast) := goodIn_app (goodIn_of _ (by decide +kernel)) ggX3_remove_X3_dropLast
theorem dX3_remove_0 : decode cX3_remove 0 = .ok (.iload_n 1, 1) := by decide +kernel
theorem dX3_remove_1 : decode cX3_remove 1 = .ok (.ifCond .lt 26, 3) := by decide +kernel
theorem dX3_remove_4 : decode cX3_remove 4 = .ok (.iload_n 1, 1) := by decide +kernel
theorem dX3_remove_5 : decode cX3_remove 5 = .ok (.aload_n 0, 1) := by decide +kernel
theorem dX3_remove_6 : decode cX3_remove 6 = .ok (.getfield 21, 3) := by decide +kernel
theorem dX3_remove_9 : decode cX3_remove 9 = .ok (.if_icmp .ge 18, 3) := by decide +kernel
theorem dX3_remove_12 : decode cX3_remove 12 = .ok (.aload_n 0, 1) := by decide +kernel
theorem dX3_remove_13 : decode cX3_remove 13 = .ok (.iload_n 1, 1) := by decide +kernel
theorem dX3_remove_14 : decode cX3_remove 14 = .ok (.aload_n 0, 1) := by decide +kernel
theorem dX3_remove_15 : decode cX3_remove 15 = .ok (.getfield 21, 3) := by decide +kernel
theorem dX3_remove_18 : decode cX3_remove 18 = .ok (.iconst 1, 1) := by decide +kernel
theorem dX3_remove_19 : decode cX3_remove 19 = .ok (.isub, 1) := by decide +kernel
theorem dX3_remove_20 : decode cX3_remove 20 = .ok (.invokevirtual 47, 3) := by decide +kernel
theorem dX3_remove_23 : decode cX3_remove 23 = .ok (.aload_n 0, 1) := by decide +kernel
theorem dX3_remove_24 : decode cX3_remove 24 = .ok (.invokevirtual 50, 3) := by decide +kernel
theorem dX3_remove_27 : decode cX3_remove 27 = .ok (.return_, 1) := by decide +kernel
set_option maxRecDepth 20000 in
theorem ggX4_init_X3_init : GoodIn wsX4_init wsX3_init := goodIn_r _ [12, 13, 2, 3, 14, 15, 16, 17, 18, 19, 32, 33] (by decide +kernel) (by decide +kernel)
set_option maxRecDepth 20000 in
theorem gX4_init_X3_init : GoodIn wsX4_init (wsX3_init) := ggX4_init_X3_init
set_option maxRecDepth 20000 in
theorem ggX4_init_X3_addMany : GoodIn wsX4_init wsX3_addMany := goodIn_r _ [23, 24, 25, 26, 7, 27, 28, 19, 32, 33] (by decide +kernel) (by decide +kernel)
set_option maxRecDepth 20000 in
theorem gX4_init_X3_addMany : GoodIn wsX4_init (wsV RX4 24 RX3 yX3_addMany wsX3_addMany) := goodIn_app (goodIn_of _ (by decide +kernel)) ggX4_init_X3_addMany
theorem dX4_init_0 : decode cX4_init 0 = .ok (.aload_n 0, 1) := by decide +kernel
theorem dX4_init_1 : decode cX4_init 1 = .ok (.invokespecial 3, 3) := by decide +kernel
theorem dX4_init_4 : decode cX4_init 4 = .ok (.aload_n 0, 1) := by decide +kernel
theorem dX4_init_5 : decode cX4_init 5 = .ok (.iload_n 2, 1) := by decide +kernel
theorem dX4_init_6 : decode cX4_init 6 = .ok (.putfield 9, 3) := by decide +kernel
theorem dX4_init_9 : decode cX4_init 9 = .ok (.aload_n 0, 1) := by decide +kernel
theorem dX4_init_10 : decode cX4_init 10 = .ok (.new 15, 3) := by decide +kernel
theorem dX4_init_13 : decode cX4_init 13 = .ok (.dup, 1) := by decide +kernel
theorem dX4_init_14 : decode cX4_init 14 = .ok (.iload_n 1, 1) := by decide +kernel
theorem dX4_init_15 : decode cX4_init 15 = .ok (.iload_n 2, 1) := by decide +kernel
theorem dX4_init_16 : decode cX4_init 16 = .ok (.imul, 1) := by decide +kernel
theorem dX4_init_17 : decode cX4_init 17 = .ok (.invokespecial 17, 3) := by decide +kernel
theorem dX4_init_20 : decode cX4_init 20 = .ok (.putfield 20, 3) := by decide +kernel
theorem dX4_init_23 : decode cX4_init 23 = .ok (.aload_n 0, 1) := by decide +kernel
theorem dX4_init_24 : decode cX4_init 24 = .ok (.getfield 20, 3) := by decide +kernel
theorem dX4_init_27 : decode cX4_init 27 = .ok (.iconst 0, 1) := by decide +kernel
theorem dX4_init_28 : decode cX4_init 28 = .ok (.iload_n 1, 1) := by decide +kernel
theorem dX4_init_29 : decode cX4_init 29 = .ok (.iload_n 2, 1) := by decide +kernel
theorem dX4_init_30 : decode cX4_init 30 = .ok (.imul, 1) := by decide +kernel
theorem dX4_init_31 : decode cX4_init 31 = .ok (.invokevirtual 24, 3) := by decide +kernel
theorem dX4_init_34 : decode cX4_init 34 = .ok (.aload_n 0, 1) := by decide +kernel
theorem dX4_init_35 : decode cX4_init 35 = .ok (.new 15, 3) := by decide +kernel
theorem dX4_init_38 : decode cX4_init 38 = .ok (.dup, 1) := by decide +kernel
theorem dX4_init_39 : decode cX4_init 39 = .ok (.iload_n 1, 1) := by decide +kernel
theorem dX4_init_40 : decode cX4_init 40 = .ok (.invokespecial 17, 3) := by decide +kernel
theorem dX4_init_43 : decode cX4_init 43 = .ok (.putfield 28, 3) := by decide +kernel
theorem dX4_init_46 : decode cX4_init 46 = .ok (.return_, 1) := by decide +kernel
set_option maxRecDepth 20000 in
theorem ggX4_lines_X3_size : GoodIn wsX4_lines wsX3_size := goodIn_r _ [6, 7, 11, 12] (by decide +kernel) (by decide +kernel)
set_option maxRecDepth 20000 in
theorem gX4_lines_X3_size : GoodIn wsX4_lines (wsV RX4 31 RX3 yX3_size wsX3_size) := goodIn_app (goodIn_of _ (by decide +kernel)) ggX4_lines_X3_size
theorem dX4_lines_0 : decode cX4_lines 0 = .ok (.aload_n 0, 1) := by decide +kernel
theorem dX4_lines_1 : decode cX4_lines 1 = .ok (.getfield 28, 3) := by decide +kernel
theorem dX4_lines_4 : decode cX4_lines 4 = .ok (.invokevirtual 31, 3) := by decide +kernel
theorem dX4_lines_7 : decode cX4_lines 7 = .ok (.ireturn, 1) := by decide +kernel
set_option maxRecDepth 20000 in
theorem ggX4_has_X3_size : GoodIn wsX4_has wsX3_size := goodIn_r _ [6, 7, 11, 12] (by decide +kernel) (by decide +kernel)
set_option maxRecDepth 20000 in
theorem gX4_has_X3_size : GoodIn wsX4_has (wsV RX4 31 RX3 yX3_size wsX3_size) := goodIn_app (goodIn_of _ (by decide +kernel)) ggX4_has_X3_size
theorem dX4_has_0 : decode cX4_has 0 = .ok (.iload_n 1, 1) := by decide +kernel
theorem dX4_has_1 : decode cX4_has 1 = .ok (.ifCond .lt 18, 3) := by decide +kernel
theorem dX4_has_4 : decode cX4_has 4 = .ok (.iload_n 1, 1) := by decide +kernel
theorem dX4_has_5 : decode cX4_has 5 = .ok (.aload_n 0, 1) := by decide +kernel
theorem dX4_has_6 : decode cX4_has 6 = .ok (.getfield 28, 3) := by decide +kernel
theorem dX4_has_9 : decode cX4_has 9 = .ok (.invokevirtual 31, 3) := by decide +kernel
theorem dX4_has_12 : decode cX4_has 12 = .ok (.if_icmp .ge 7, 3) := by decide +kernel
theorem dX4_has_15 : decode cX4_has 15 = .ok (.iconst 1, 1) := by decide +kernel
theorem dX4_has_16 : decode cX4_has 16 = .ok (.goto 4, 3) := by decide +kernel
theorem dX4_has_19 : decode cX4_has 19 = .ok (.iconst 0, 1) := by decide +kernel
theorem dX4_has_20 : decode cX4_has 20 = .ok (.ireturn, 1) := by decide +kernel
set_option maxRecDepth 20000 in
theorem ggX4_length_X3_get : GoodIn wsX4_length wsX3_get := goodIn_r _ [6, 7, 8, 12, 13] (by decide +kernel) (by decide +kernel)
set_option maxRecDepth 20000 in
theorem gX4_length_X3_get : GoodIn wsX4_length (wsV RX4 35 RX3 yX3_get wsX3_get) := goodIn_app (goodIn_of _ (by decide +kernel)) ggX4_length_X3_get
theorem dX4_length_0 : decode cX4_length 0 = .ok (.aload_n 0, 1) := by decide +kernel
theorem dX4_length_1 : decode cX4_length 1 = .ok (.getfield 28, 3) := by decide +kernel
theorem dX4_length_4 : decode cX4_length 4 = .ok (.iload_n 1, 1) := by decide +kernel
theorem dX4_length_5 : decode cX4_length 5 = .ok (.invokevirtual 35, 3) := by decide +kernel
theorem dX4_length_8 : decode cX4_length 8 = .ok (.ireturn, 1) := by decide +kernel
set_option maxRecDepth 20000 in
theorem ggX4_wholeLength_X3_size : GoodIn wsX4_wholeLength wsX3_size := goodIn_r _ [6, 7, 16, 17] (by decide +kernel) (by decide +kernel)
set_option maxRecDepth 20000 in
theorem gX4_wholeLength_X3_size : GoodIn wsX4_wholeLength (wsV RX4 31 RX3 yX3_size wsX3_size) := goodIn_app (goodIn_of _ (by decide +kernel)) ggX4_wholeLength_X3_size
set_option maxRecDepth 20000 in
theorem ggX4_wholeLength_X3_get : GoodIn wsX4_wholeLength wsX3_get := goodIn_r _ [11, 7, 12, 16, 17] (by decide +kernel) (by decide +kernel)
set_option maxRecDepth 20000 in
theorem gX4_wholeLength_X3_get : GoodIn wsX4_wholeLength (wsV RX4 35 RX3 yX3_get wsX3_get) := goodIn_app (goodIn_of _ (by decide +kernel)) ggX4_wholeLength_X3_get
theorem dX4_wholeLength_0 : decode cX4_wholeLength 0 = .ok (.iconst 0, 1) := by decide +kernel
theorem dX4_wholeLength_1 : decode cX4_wholeLength 1 = .ok (.istore_n 1, 1) := by decide +kernel
theorem dX4_wholeLength_2 : decode cX4_wholeLength 2 = .ok (.iconst 0, 1) := by decide +kernel
theorem dX4_wholeLength_3 : decode cX4_wholeLength 3 = .ok (.istore_n 2, 1) := by decide +kernel
theorem dX4_wholeLength_4 : decode cX4_wholeLength 4 = .ok (.iload_n 2, 1) := by decide +kernel
theorem dX4_wholeLength_5 : decode cX4_wholeLength 5 = .ok (.aload_n 0, 1) := by decide +kernel
theorem dX4_wholeLength_6 : decode cX4_wholeLength 6 = .ok (.getfield 28, 3) := by decide +kernel
theorem dX4_wholeLength_9 : decode cX4_wholeLength 9 = .ok (.invokevirtual 31, 3) := by decide +kernel
theorem dX4_wholeLength_12 : decode cX4_wholeLength 12 = .ok (.if_icmp .ge 20, 3) := by decide +kernel
theorem dX4_wholeLength_15 : decode cX4_wholeLength 15 = .ok (.iload_n 1, 1) := by decide +kernel
theorem dX4_wholeLength_16 : decode cX4_wholeLength 16 = .ok (.aload_n 0, 1) := by decide +kernel
theorem dX4_wholeLength_17 : decode cX4_wholeLength 17 = .ok (.getfield 28, 3) := by decide +kernel
theorem dX4_wholeLength_20 : decode cX4_wholeLength 20 = .ok (.iload_n 2, 1) := by decide +kernel
theorem dX4_wholeLength_21 : decode cX4_wholeLength 21 = .ok (.invokevirtual 35, 3) := by decide +kernel
theorem dX4_wholeLength_24 : decode cX4_wholeLength 24 = .ok (.iadd, 1) := by decide +kernel
theorem dX4_wholeLength_25 : decode cX4_wholeLength 25 = .ok (.istore_n 1, 1) := by decide +kernel
theorem dX4_wholeLength_26 : decode cX4_wholeLength 26 = .ok (.iinc 2 1, 3) := by decide +kernel
theorem dX4_wholeLength_29 : decode cX4_wholeLength 29 = .ok (.goto (-25), 3) := by decide +kernel
theorem dX4_wholeLength_32 : decode cX4_wholeLength 32 = .ok (.iload_n 1, 1) := by decide +kernel
theorem dX4_wholeLength_33 : decode cX4_wholeLength 33 = .ok (.ireturn, 1) := by decide +kernel
set_option maxRecDepth 20000 in
theorem ggX4_get_X3_get : GoodIn wsX4_get wsX3_get := goodIn_r _ [8, 9, 10, 14, 15] (by decide +kernel) (by decide +kernel)
set_option maxRecDepth 20000 in
theorem gX4_get_X3_get : GoodIn wsX4_get (wsV RX4 35 RX3 yX3_get wsX3_get) := goodIn_app (goodIn_of _ (by decide +kernel)) ggX4_get_X3_get
theorem dX4_get_0 : decode cX4_get 0 = .ok (.iload_n 2, 1) := by decide +kernel
theorem dX4_get_1 : decode cX4_get 1 = .ok (.ifCond .lt 19, 3) := by decide +kernel
theorem dX4_get_4 : decode cX4_get 4 = .ok (.iload_n 2, 1) := by decide +kernel
theorem dX4_get_5 : decode cX4_get 5 = .ok (.aload_n 0, 1) := by decide +kernel
theorem dX4_get_6 : decode cX4_get 6 = .ok (.getfield 28, 3) := by decide +kernel
theorem dX4_get_9 : decode cX4_get 9 = .ok (.iload_n 1, 1) := by decide +kernel
theorem dX4_get_10 : decode cX4_get 10 = .ok (.invokevirtual 35, 3) := by decide +kernel
theorem dX4_get_13 : decode cX4_get 13 = .ok (.if_icmp .ge 7, 3) := by decide +kernel
theorem dX4_get_16 : decode cX4_get 16 = .ok (.iconst 1, 1) := by decide +kernel
theorem dX4_get_17 : decode cX4_get 17 = .ok (.goto 4, 3) := by decide +kernel
theorem dX4_get_20 : decode cX4_get 20 = .ok (.iconst 0, 1) := by decide +kernel
theorem dX4_get_21 : decode cX4_get 21 = .ok (.istore_n 3, 1) := by decide +kernel
theorem dX4_get_22 : decode cX4_get 22 = .ok (.iload_n 3, 1) := by decide +kernel
theorem dX4_get_23 : decode cX4_get 23 = .ok (.ifCond .eq 21, 3) := by decide +kernel
theorem dX4_get_26 : decode cX4_get 26 = .ok (.aload_n 0, 1) := by decide +kernel
theorem dX4_get_27 : decode cX4_get 27 = .ok (.getfield 20, 3) := by decide +kernel
theorem dX4_get_30 : decode cX4_get 30 = .ok (.iload_n 1, 1) := by decide +kernel
theorem dX4_get_31 : decode cX4_get 31 = .ok (.aload_n 0, 1) := by decide +kernel
theorem dX4_get_32 : decode cX4_get 32 = .ok (.getfield 9, 3) := by decide +kernel
theorem dX4_get_35 : decode cX4_get 35 = .ok (.imul, 1) := by decide +kernel
theorem dX4_get_36 : decode cX4_get 36 = .ok (.iload_n 2, 1) := by decide +kernel
theorem dX4_get_37 : decode cX4_get 37 = .ok (.iadd, 1) := by decide +kernel
theorem dX4_get_38 : decode cX4_get 38 = .ok (.invokevirtual 35, 3) := by decide +kernel
theorem dX4_get_41 : decode cX4_get 41 = .ok (.goto 5, 3) := by decide +kernel
theorem dX4_get_44 : decode cX4_get 44 = .ok (.bipush (-5), 2) := by decide +kernel
theorem dX4_get_46 : decode cX4_get 46 = .ok (.ireturn, 1) := by decide +kernel
set_option maxRecDepth 20000 in
theorem ggX4_add_X3_isFull : GoodIn wsX4_add wsX3_isFull := goodIn_r _ [6, 7, 8, 43, 44] (by decide +kernel) (by decide +kernel)
set_option maxRecDepth 20000 in
theorem gX4_add_X3_isFull : GoodIn wsX4_add (wsV RX4 39 RX3 yX3_isFull wsX3_isFull) := goodIn_app (goodIn_of _ (by decide +kernel)) ggX4_add_X3_isFull
set_option maxRecDepth 20000 in
theorem ggX4_add_X3_add : GoodIn wsX4_add wsX3_add := goodIn_r _ [12, 7, 8, 43, 44] (by decide +kernel) (by decide +kernel)
set_option maxRecDepth 20000 in
theorem gX4_add_X3_add : GoodIn wsX4_add (wsV RX4 43 RX3 yX3_add wsX3_add) := goodIn_app (goodIn_of _ (by decide +kernel)) ggX4_add_X3_add
set_option maxRecDepth 20000 in
theorem ggX4_add_X3_size : GoodIn wsX4_add wsX3_size := goodIn_r _ [16, 7, 43, 44] (by decide +kernel) (by decide +kernel)
set_option maxRecDepth 20000 in
theorem gX4_add_X3_size : GoodIn wsX4_add (wsV RX4 31 RX3 yX3_size wsX3_size) := goodIn_app (goodIn_of _ (by decide +kernel)) ggX4_add_X3_size
set_option maxRecDepth 20000 in
theorem ggX4_add_X4_put : GoodIn wsX4_add wsX4_put := goodIn_r _ [21, 22, 23, 24, 25, 26, 1, 27, 28, 29, 30, 20, 31, 13, 14, 15, 5, 16, 7, 32, 33, 34, 35, 8, 36, 37, 38, 39, 40, 41, 42, 43, 44] (by decide +kernel) (by decide +kernel)
set_option maxRecDepth 20000 in
theorem gX4_add_X4_put : GoodIn wsX4_add (wsV RX4 46 RX4 yX4_put wsX4_put) := goodIn_app (goodIn_of _ (by decide +kernel)) ggX4_add_X4_put
theorem dX4_add_0 : decode cX4_add 0 = .ok (.aload_n 0, 1) := by decide +kernel
theorem dX4_add_1 : decode cX4_add 1 = .ok (.getfield 28, 3) := by decide +kernel
theorem dX4_add_4 : decode cX4_add 4 = .ok (.invokevirtual 39, 3) := by decide +kernel
theorem dX4_add_7 : decode cX4_add 7 = .ok (.ifCond .ne 25, 3) := by decide +kernel
theorem dX4_add_10 : decode cX4_add 10 = .ok (.aload_n 0, 1) := by decide +kernel
theorem dX4_add_11 : decode cX4_add 11 = .ok (.getfield 28, 3) := by decide +kernel
theorem dX4_add_14 : decode cX4_add 14 = .ok (.iconst 0, 1) := by decide +kernel
theorem dX4_add_15 : decode cX4_add 15 = .ok (.invokevirtual 43, 3) := by decide +kernel
theorem dX4_add_18 : decode cX4_add 18 = .ok (.aload_n 0, 1) := by decide +kernel
theorem dX4_add_19 : decode cX4_add 19 = .ok (.aload_n 0, 1) := by decide +kernel
theorem dX4_add_20 : decode cX4_add 20 = .ok (.getfield 28, 3) := by decide +kernel
theorem dX4_add_23 : decode cX4_add 23 = .ok (.invokevirtual 31, 3) := by decide +kernel
theorem dX4_add_26 : decode cX4_add 26 = .ok (.iconst 1, 1) := by decide +kernel
theorem dX4_add_27 : decode cX4_add 27 = .ok (.isub, 1) := by decide +kernel
theorem dX4_add_28 : decode cX4_add 28 = .ok (.aload_n 1, 1) := by decide +kernel
theorem dX4_add_29 : decode cX4_add 29 = .ok (.invokevirtual 46, 3) := by decide +kernel
theorem dX4_add_32 : decode cX4_add 32 = .ok (.return_, 1) := by decide +kernel
set_option maxRecDepth 20000 in
theorem ggX4_put_X4_has : GoodIn wsX4_put wsX4_has := goodIn_r _ [12, 6, 13, 14, 15, 16, 17, 18, 28, 29, 30, 31, 32] (by decide +kernel) (by decide +kernel)
set_option maxRecDepth 20000 in
theorem gX4_put_X4_has : GoodIn wsX4_put (wsV RX4 50 RX4 yX4_has wsX4_has) := goodIn_app (goodIn_of _ (by decide +kernel)) ggX4_put_X4_has
set_option maxRecDepth 20000 in
theorem ggX4_put_X3_size : GoodIn wsX4_put wsX3_size := goodIn_r _ [17, 18, 31, 32] (by decide +kernel) (by decide +kernel)
set_option maxRecDepth 20000 in
theorem gX4_put_X3_size : GoodIn wsX4_put (wsV RX4 31 RX3 yX3_size wsX3_size) := goodIn_app (goodIn_of _ (by decide +kernel)) ggX4_put_X3_size
set_option maxRecDepth 20000 in
theorem ggX4_put_X3_set : GoodIn wsX4_put wsX3_set := goodIn_r _ [22, 18, 23, 31, 32] (by decide +kernel) (by decide +kernel)
set_option maxRecDepth 20000 in
theorem gX4_put_X3_set : GoodIn wsX4_put (wsV RX4 60 RX3 yX3_set wsX3_set) := goodIn_app (goodIn_of _ (by decide +kernel)) ggX4_put_X3_set
set_option maxRecDepth 20000 in
theorem ggX4_put_X3_get : GoodIn wsX4_put wsX3_get := goodIn_r _ [27, 18, 23, 31, 32] (by decide +kernel) (by decide +kernel)
set_option maxRecDepth 20000 in
theorem gX4_put_X3_get : GoodIn wsX4_put (wsV RX4 35 RX3 yX3_get wsX3_get) := goodIn_app (goodIn_of _ (by decide +kernel)) ggX4_put_X3_get
theorem dX4_put_0 : decode cX4_put 0 = .ok (.aload_n 0, 1) := by decide +kernel
theorem dX4_put_1 : decode cX4_put 1 = .ok (.iload_n 1, 1) := by decide +kernel
theorem dX4_put_2 : decode cX4_put 2 = .ok (.invokevirtual 50, 3) := by decide +kernel
theorem dX4_put_5 : decode cX4_put 5 = .ok (.ifCond .eq 61, 3) := by decide +kernel
theorem dX4_put_8 : decode cX4_put 8 = .ok (.aload_n 2, 1) := by decide +kernel
theorem dX4_put_9 : decode cX4_put 9 = .ok (.invokevirtual 31, 3) := by decide +kernel
theorem dX4_put_12 : decode cX4_put 12 = .ok (.aload_n 0, 1) := by decide +kernel
theorem dX4_put_13 : decode cX4_put 13 = .ok (.getfield 9, 3) := by decide +kernel
theorem dX4_put_16 : decode cX4_put 16 = .ok (.invokestatic 54, 3) := by decide +kernel
theorem dX4_put_19 : decode cX4_put 19 = .ok (.istore_n 3, 1) := by decide +kernel
theorem dX4_put_20 : decode cX4_put 20 = .ok (.aload_n 0, 1) := by decide +kernel
theorem dX4_put_21 : decode cX4_put 21 = .ok (.getfield 28, 3) := by decide +kernel
theorem dX4_put_24 : decode cX4_put 24 = .ok (.iload_n 1, 1) := by decide +kernel
theorem dX4_put_25 : decode cX4_put 25 = .ok (.iload_n 3, 1) := by decide +kernel
theorem dX4_put_26 : decode cX4_put 26 = .ok (.invokevirtual 60, 3) := by decide +kernel
theorem dX4_put_29 : decode cX4_put 29 = .ok (.iconst 0, 1) := by decide +kernel
theorem dX4_put_30 : decode cX4_put 30 = .ok (.istore 4, 2) := by decide +kernel
theorem dX4_put_32 : decode cX4_put 32 = .ok (.iload 4, 2) := by decide +kernel
theorem dX4_put_34 : decode cX4_put 34 = .ok (.iload_n 3, 1) := by decide +kernel
theorem dX4_put_35 : decode cX4_put 35 = .ok (.if_icmp .ge 31, 3) := by decide +kernel
theorem dX4_put_38 : decode cX4_put 38 = .ok (.aload_n 0, 1) := by decide +kernel
theorem dX4_put_39 : decode cX4_put 39 = .ok (.getfield 20, 3) := by decide +kernel
theorem dX4_put_42 : decode cX4_put 42 = .ok (.iload_n 1, 1) := by decide +kernel
theorem dX4_put_43 : decode cX4_put 43 = .ok (.aload_n 0, 1) := by decide +kernel
theorem dX4_put_44 : decode cX4_put 44 = .ok (.getfield 9, 3) := by decide +kernel
theorem dX4_put_47 : decode cX4_put 47 = .ok (.imul, 1) := by decide +kernel
theorem dX4_put_48 : decode cX4_put 48 = .ok (.iload 4, 2) := by decide +kernel
theorem dX4_put_50 : decode cX4_put 50 = .ok (.iadd, 1) := by decide +kernel
theorem dX4_put_51 : decode cX4_put 51 = .ok (.aload_n 2, 1) := by decide +kernel
theorem dX4_put_52 : decode cX4_put 52 = .ok (.iload 4, 2) := by decide +kernel
theorem dX4_put_54 : decode cX4_put 54 = .ok (.invokevirtual 35, 3) := by decide +kernel
theorem dX4_put_57 : decode cX4_put 57 = .ok (.invokevirtual 60, 3) := by decide +kernel
theorem dX4_put_60 : decode cX4_put 60 = .ok (.iinc 4 1, 3) := by decide +kernel
theorem dX4_put_63 : decode cX4_put 63 = .ok (.goto (-31), 3) := by decide +kernel
theorem dX4_put_66 : decode cX4_put 66 = .ok (.return_, 1) := by decide +kernel
set_option maxRecDepth 20000 in
theorem ggX4_putOne_X4_has : GoodIn wsX4_putOne wsX4_has := goodIn_r _ [8, 2, 9, 10, 11, 12, 13, 14, 20, 21, 22, 23, 24] (by decide +kernel) (by decide +kernel)
set_option maxRecDepth 20000 in
theorem gX4_putOne_X4_has : GoodIn wsX4_putOne (wsV RX4 50 RX4 yX4_has wsX4_has) := goodIn_app (goodIn_of _ (by decide +kernel)) ggX4_putOne_X4_has
set_option maxRecDepth 20000 in
theorem ggX4_putOne_X3_set : GoodIn wsX4_putOne wsX3_set := goodIn_r _ [18, 14, 19, 23, 24] (by decide +kernel) (by decide +kernel)
set_option maxRecDepth 20000 in
theorem gX4_putOne_X3_set : GoodIn wsX4_putOne (wsV RX4 60 RX3 yX3_set wsX3_set) := goodIn_app (goodIn_of _ (by decide +kernel)) ggX4_putOne_X3_set
theorem dX4_putOne_0 : decode cX4_putOne 0 = .ok (.aload_n 0, 1) := by decide +kernel
theorem dX4_putOne_1 : decode cX4_putOne 1 = .ok (.iload_n 1, 1) := by decide +kernel
theorem dX4_putOne_2 : decode cX4_putOne 2 = .ok (.invokevirtual 50, 3) := by decide +kernel
theorem dX4_putOne_5 : decode cX4_putOne 5 = .ok (.ifCond .eq 33, 3) := by decide +kernel
theorem dX4_putOne_8 : decode cX4_putOne 8 = .ok (.aload_n 0, 1) := by decide +kernel
theorem dX4_putOne_9 : decode cX4_putOne 9 = .ok (.getfield 9, 3) := by decide +kernel
theorem dX4_putOne_12 : decode cX4_putOne 12 = .ok (.ifCond .le 26, 3) := by decide +kernel
theorem dX4_putOne_15 : decode cX4_putOne 15 = .ok (.aload_n 0, 1) := by decide +kernel
theorem dX4_putOne_16 : decode cX4_putOne 16 = .ok (.getfield 28, 3) := by decide +kernel
theorem dX4_putOne_19 : decode cX4_putOne 19 = .ok (.iload_n 1, 1) := by decide +kernel
theorem dX4_putOne_20 : decode cX4_putOne 20 = .ok (.iconst 1, 1) := by decide +kernel
theorem dX4_putOne_21 : decode cX4_putOne 21 = .ok (.invokevirtual 60, 3) := by decide +kernel
theorem dX4_putOne_24 : decode cX4_putOne 24 = .ok (.aload_n 0, 1) := by decide +kernel
theorem dX4_putOne_25 : decode cX4_putOne 25 = .ok (.getfield 20, 3) := by decide +kernel
theorem dX4_putOne_28 : decode cX4_putOne 28 = .ok (.iload_n 1, 1) := by decide +kernel
theorem dX4_putOne_29 : decode cX4_putOne 29 = .ok (.aload_n 0, 1) := by decide +kernel
theorem dX4_putOne_30 : decode cX4_putOne 30 = .ok (.getfield 9, 3) := by decide +kernel
theorem dX4_putOne_33 : decode cX4_putOne 33 = .ok (.imul, 1) := by decide +kernel
theorem dX4_putOne_34 : decode cX4_putOne 34 = .ok (.iload_n 2, 1) := by decide +kernel
theorem dX4_putOne_35 : decode cX4_putOne 35 = .ok (.invokevirtual 60, 3) := by decide +kernel
theorem dX4_putOne_38 : decode cX4_putOne 38 = .ok (.return_, 1) := by decide +kernel
set_option maxRecDepth 20000 in
theorem ggX4_copyTo_X3_clear : GoodIn wsX4_copyTo wsX3_clear := goodIn_r _ [6, 7, 27, 28] (by decide +kernel) (by decide +kernel)
set_option maxRecDepth 20000 in
theorem gX4_copyTo_X3_clear : GoodIn wsX4_copyTo (wsV RX4 63 RX3 yX3_clear wsX3_clear) := goodIn_app (goodIn_of _ (by decide +kernel)) ggX4_copyTo_X3_clear
set_option maxRecDepth 20000 in
theorem ggX4_copyTo_X3_get : GoodIn wsX4_copyTo wsX3_get := goodIn_r _ [11, 7, 12, 27, 28] (by decide +kernel) (by decide +kernel)
set_option maxRecDepth 20000 in
theorem gX4_copyTo_X3_get : GoodIn wsX4_copyTo (wsV RX4 35 RX3 yX3_get wsX3_get) := goodIn_app (goodIn_of _ (by decide +kernel)) ggX4_copyTo_X3_get
set_option maxRecDepth 20000 in
theorem ggX4_copyTo_X4_get : GoodIn wsX4_copyTo wsX4_get := goodIn_r _ [17, 1, 18, 19, 8, 9, 10, 5, 11, 7, 12, 24, 25, 26, 27, 28] (by decide +kernel) (by decide +kernel)
set_option maxRecDepth 20000 in
theorem gX4_copyTo_X4_get : GoodIn wsX4_copyTo (wsV RX4 66 RX4 yX4_get wsX4_get) := goodIn_app (goodIn_of _ (by decide +kernel)) ggX4_copyTo_X4_get
set_option maxRecDepth 20000 in
theorem ggX4_copyTo_X3_add : GoodIn wsX4_copyTo wsX3_add := goodIn_r _ [23, 7, 12, 27, 28] (by decide +kernel) (by decide +kernel)
set_option maxRecDepth 20000 in
theorem gX4_copyTo_X3_add : GoodIn wsX4_copyTo (wsV RX4 43 RX3 yX3_add wsX3_add) := goodIn_app (goodIn_of _ (by decide +kernel)) ggX4_copyTo_X3_add
theorem dX4_copyTo_0 : decode cX4_copyTo 0 = .ok (.aload_n 2, 1) := by decide +kernel
theorem dX4_copyTo_1 : decode cX4_copyTo 1 = .ok (.invokevirtual 63, 3) := by decide +kernel
theorem dX4_copyTo_4 : decode cX4_copyTo 4 = .ok (.iconst 0, 1) := by decide +kernel
theorem dX4_copyTo_5 : decode cX4_copyTo 5 = .ok (.istore_n 3, 1) := by decide +kernel
theorem dX4_copyTo_6 : decode cX4_copyTo 6 = .ok (.iload_n 3, 1) := by decide +kernel
theorem dX4_copyTo_7 : decode cX4_copyTo 7 = .ok (.aload_n 0, 1) := by decide +kernel
theorem dX4_copyTo_8 : decode cX4_copyTo 8 = .ok (.getfield 28, 3) := by decide +kernel
theorem dX4_copyTo_11 : decode cX4_copyTo 11 = .ok (.iload_n 1, 1) := by decide +kernel
theorem dX4_copyTo_12 : decode cX4_copyTo 12 = .ok (.invokevirtual 35, 3) := by decide +kernel
theorem dX4_copyTo_15 : decode cX4_copyTo 15 = .ok (.if_icmp .ge 19, 3) := by decide +kernel
theorem dX4_copyTo_18 : decode cX4_copyTo 18 = .ok (.aload_n 2, 1) := by decide +kernel
theorem dX4_copyTo_19 : decode cX4_copyTo 19 = .ok (.aload_n 0, 1) := by decide +kernel
theorem dX4_copyTo_20 : decode cX4_copyTo 20 = .ok (.iload_n 1, 1) := by decide +kernel
theorem dX4_copyTo_21 : decode cX4_copyTo 21 = .ok (.iload_n 3, 1) := by decide +kernel
theorem dX4_copyTo_22 : decode cX4_copyTo 22 = .ok (.invokevirtual 66, 3) := by decide +kernel
theorem dX4_copyTo_25 : decode cX4_copyTo 25 = .ok (.invokevirtual 43, 3) := by decide +kernel
theorem dX4_copyTo_28 : decode cX4_copyTo 28 = .ok (.iinc 3 1, 3) := by decide +kernel
theorem dX4_copyTo_31 : decode cX4_copyTo 31 = .ok (.goto (-25), 3) := by decide +kernel
theorem dX4_copyTo_34 : decode cX4_copyTo 34 = .ok (.return_, 1) := by decide +kernel
set_option maxRecDepth 20000 in
theorem ggX4_copyFrom_X3_copyFrom : GoodIn wsX4_copyFrom wsX3_copyFrom := goodIn_r _ [8, 9, 10, 11, 7, 12, 13, 14, 15, 16, 17, 18, 19, 20, 21, 22, 23, 24, 25, 26, 39, 40] (by decide +kernel) (by decide +kernel)
set_option maxRecDepth 20000 in
theorem gX4_copyFrom_X3_copyFrom : GoodIn wsX4_copyFrom (wsV RX4 68 RX3 yX3_copyFrom wsX3_copyFrom) := goodIn_app (goodIn_of _ (by decide +kernel)) ggX4_copyFrom_X3_copyFrom
set_option maxRecDepth 20000 in
theorem ggX4_copyFrom_X3_size : GoodIn wsX4_copyFrom wsX3_size := goodIn_r _ [30, 13, 39, 40] (by decide +kernel) (by decide +kernel)
set_option maxRecDepth 20000 in
theorem gX4_copyFrom_X3_size : GoodIn wsX4_copyFrom (wsV RX4 31 RX3 yX3_size wsX3_size) := goodIn_app (goodIn_of _ (by decide +kernel)) ggX4_copyFrom_X3_size
set_option maxRecDepth 20000 in
theorem ggX4_copyFrom_X3_get : GoodIn wsX4_copyFrom wsX3_get := goodIn_r _ [21, 13, 22, 39, 40] (by decide +kernel) (by decide +kernel)
set_option maxRecDepth 20000 in
theorem gX4_copyFrom_X3_get : GoodIn wsX4_copyFrom (wsV RX4 35 RX3 yX3_get wsX3_get) := goodIn_app (goodIn_of _ (by decide +kernel)) ggX4_copyFrom_X3_get
set_option maxRecDepth 20000 in
theorem ggX4_copyFrom_X3_set : GoodIn wsX4_copyFrom wsX3_set := goodIn_r _ [35, 13, 22, 39, 40] (by decide +kernel) (by decide +kernel)
set_option maxRecDepth 20000 in
theorem gX4_copyFrom_X3_set : GoodIn wsX4_copyFrom (wsV RX4 60 RX3 yX3_set wsX3_set) := goodIn_app (goodIn_of _ (by decide +kernel)) ggX4_copyFrom_X3_set
theorem dX4_copyFrom_0 : decode cX4_copyFrom 0 = .ok (.aload_n 0, 1) := by decide +kernel
theorem dX4_copyFrom_1 : decode cX4_copyFrom 1 = .ok (.getfield 28, 3) := by decide +kernel
theorem dX4_copyFrom_4 : decode cX4_copyFrom 4 = .ok (.aload_n 1, 1) := by decide +kernel
theorem dX4_copyFrom_5 : decode cX4_copyFrom 5 = .ok (.getfield 28, 3) := by decide +kernel
theorem dX4_copyFrom_8 : decode cX4_copyFrom 8 = .ok (.invokevirtual 68, 3) := by decide +kernel
theorem dX4_copyFrom_11 : decode cX4_copyFrom 11 = .ok (.iconst 0, 1) := by decide +kernel
theorem dX4_copyFrom_12 : decode cX4_copyFrom 12 = .ok (.istore_n 2, 1) := by decide +kernel
theorem dX4_copyFrom_13 : decode cX4_copyFrom 13 = .ok (.iload_n 2, 1) := by decide +kernel
theorem dX4_copyFrom_14 : decode cX4_copyFrom 14 = .ok (.aload_n 0, 1) := by decide +kernel
theorem dX4_copyFrom_15 : decode cX4_copyFrom 15 = .ok (.getfield 28, 3) := by decide +kernel
theorem dX4_copyFrom_18 : decode cX4_copyFrom 18 = .ok (.invokevirtual 31, 3) := by decide +kernel
theorem dX4_copyFrom_21 : decode cX4_copyFrom 21 = .ok (.aload_n 0, 1) := by decide +kernel
theorem dX4_copyFrom_22 : decode cX4_copyFrom 22 = .ok (.getfield 9, 3) := by decide +kernel
theorem dX4_copyFrom_25 : decode cX4_copyFrom 25 = .ok (.imul, 1) := by decide +kernel
theorem dX4_copyFrom_26 : decode cX4_copyFrom 26 = .ok (.if_icmp .ge 25, 3) := by decide +kernel
theorem dX4_copyFrom_29 : decode cX4_copyFrom 29 = .ok (.aload_n 0, 1) := by decide +kernel
theorem dX4_copyFrom_30 : decode cX4_copyFrom 30 = .ok (.getfield 20, 3) := by decide +kernel
theorem dX4_copyFrom_33 : decode cX4_copyFrom 33 = .ok (.iload_n 2, 1) := by decide +kernel
theorem dX4_copyFrom_34 : decode cX4_copyFrom 34 = .ok (.aload_n 1, 1) := by decide +kernel
theorem dX4_copyFrom_35 : decode cX4_copyFrom 35 = .ok (.getfield 20, 3) := by decide +kernel
theorem dX4_copyFrom_38 : decode cX4_copyFrom 38 = .ok (.iload_n 2, 1) := by decide +kernel
theorem dX4_copyFrom_39 : decode cX4_copyFrom 39 = .ok (.invokevirtual 35, 3) := by decide +kernel
theorem dX4_copyFrom_42 : decode cX4_copyFrom 42 = .ok (.invokevirtual 60, 3) := by decide +kernel
theorem dX4_copyFrom_45 : decode cX4_copyFrom 45 = .ok (.iinc 2 1, 3) := by decide +kernel
theorem dX4_copyFrom_48 : decode cX4_copyFrom 48 = .ok (.goto (-35), 3) := by decide +kernel
theorem dX4_copyFrom_51 : decode cX4_copyFrom 51 = .ok (.return_, 1) := by decide +kernel
set_option maxRecDepth 20000 in
theorem ggX4_clear_X3_clear : GoodIn wsX4_clear wsX3_clear := goodIn_r _ [6, 7, 11, 12] (by decide +kernel) (by decide +kernel)
set_option maxRecDepth 20000 in
theorem gX4_clear_X3_clear : GoodIn wsX4_clear (wsV RX4 63 RX3 yX3_clear wsX3_clear) := goodIn_app (goodIn_of _ (by decide +kernel)) ggX4_clear_X3_clear
theorem dX4_clear_0 : decode cX4_clear 0 = .ok (.aload_n 0, 1) := by decide +kernel
theorem dX4_clear_1 : decode cX4_clear 1 = .ok (.getfield 28, 3) := by decide +kernel
theorem dX4_clear_4 : decode cX4_clear 4 = .ok (.invokevirtual 63, 3) := by decide +kernel
theorem dX4_clear_7 : decode cX4_clear 7 = .ok (.return_, 1) := by decide +kernel
set_option maxRecDepth 20000 in
theorem ggX4_isLike_X3_get : GoodIn wsX4_isLike wsX3_get := goodIn_r _ [6, 7, 8, 23, 24] (by decide +kernel) (by decide +kernel)
set_option maxRecDepth 20000 in
theorem gX4_isLike_X3_get : GoodIn wsX4_isLike (wsV RX4 35 RX3 yX3_get wsX3_get) := goodIn_app (goodIn_of _ (by decide +kernel)) ggX4_isLike_X3_get
set_option maxRecDepth 20000 in
theorem ggX4_isLike_X3_size : GoodIn wsX4_isLike wsX3_size := goodIn_r _ [12, 7, 23, 24] (by decide +kernel) (by decide +kernel)
set_option maxRecDepth 20000 in
theorem gX4_isLike_X3_size : GoodIn wsX4_isLike (wsV RX4 31 RX3 yX3_size wsX3_size) := goodIn_app (goodIn_of _ (by decide +kernel)) ggX4_isLike_X3_size
set_option maxRecDepth 20000 in
theorem ggX4_isLike_X4_get : GoodIn wsX4_isLike wsX4_get := goodIn_r _ [17, 1, 18, 19, 2, 3, 4, 5, 6, 7, 8, 20, 21, 22, 23, 24] (by decide +kernel) (by decide +kernel)
set_option maxRecDepth 20000 in
theorem gX4_isLike_X4_get : GoodIn wsX4_isLike (wsV RX4 66 RX4 yX4_get wsX4_get) := goodIn_app (goodIn_of _ (by decide +kernel)) ggX4_isLike_X4_get
theorem dX4_isLike_0 : decode cX4_isLike 0 = .ok (.aload_n 0, 1) := by decide +kernel
theorem dX4_isLike_1 : decode cX4_isLike 1 = .ok (.getfield 28, 3) := by decide +kernel
theorem dX4_isLike_4 : decode cX4_isLike 4 = .ok (.iload_n 1, 1) := by decide +kernel
theorem dX4_isLike_5 : decode cX4_isLike 5 = .ok (.invokevirtual 35, 3) := by decide +kernel
theorem dX4_isLike_8 : decode cX4_isLike 8 = .ok (.aload_n 2, 1) := by decide +kernel
theorem dX4_isLike_9 : decode cX4_isLike 9 = .ok (.invokevirtual 31, 3) := by decide +kernel
theorem dX4_isLike_12 : decode cX4_isLike 12 = .ok (.if_icmp .eq 5, 3) := by decide +kernel
theorem dX4_isLike_15 : decode cX4_isLike 15 = .ok (.iconst 0, 1) := by decide +kernel
theorem dX4_isLike_16 : decode cX4_isLike 16 = .ok (.ireturn, 1) := by decide +kernel
theorem dX4_isLike_17 : decode cX4_isLike 17 = .ok (.iconst 0, 1) := by decide +kernel
theorem dX4_isLike_18 : decode cX4_isLike 18 = .ok (.istore_n 3, 1) := by decide +kernel
theorem dX4_isLike_19 : decode cX4_isLike 19 = .ok (.iload_n 3, 1) := by decide +kernel
theorem dX4_isLike_20 : decode cX4_isLike 20 = .ok (.aload_n 2, 1) := by decide +kernel
theorem dX4_isLike_21 : decode cX4_isLike 21 = .ok (.invokevirtual 31, 3) := by decide +kernel
theorem dX4_isLike_24 : decode cX4_isLike 24 = .ok (.if_icmp .ge 25, 3) := by decide +kernel
theorem dX4_isLike_27 : decode cX4_isLike 27 = .ok (.aload_n 0, 1) := by decide +kernel
theorem dX4_isLike_28 : decode cX4_isLike 28 = .ok (.iload_n 1, 1) := by decide +kernel
theorem dX4_isLike_29 : decode cX4_isLike 29 = .ok (.iload_n 3, 1) := by decide +kernel
theorem dX4_isLike_30 : decode cX4_isLike 30 = .ok (.invokevirtual 66, 3) := by decide +kernel
theorem dX4_isLike_33 : decode cX4_isLike 33 = .ok (.aload_n 2, 1) := by decide +kernel
theorem dX4_isLike_34 : decode cX4_isLike 34 = .ok (.iload_n 3, 1) := by decide +kernel
theorem dX4_isLike_35 : decode cX4_isLike 35 = .ok (.invokevirtual 35, 3) := by decide +kernel
theorem dX4_isLike_38 : decode cX4_isLike 38 = .ok (.if_icmp .eq 5, 3) := by decide +kernel
theorem dX4_isLike_41 : decode cX4_isLike 41 = .ok (.iconst 0, 1) := by decide +kernel
theorem dX4_isLike_42 : decode cX4_isLike 42 = .ok (.ireturn, 1) := by decide +kernel
theorem dX4_isLike_43 : decode cX4_isLike 43 = .ok (.iinc 3 1, 3) := by decide +kernel
theorem dX4_isLike_46 : decode cX4_isLike 46 = .ok (.goto (-27), 3) := by decide +kernel
theorem dX4_isLike_49 : decode cX4_isLike 49 = .ok (.iconst 1, 1) := by decide +kernel
theorem dX4_isLike_50 : decode cX4_isLike 50 = .ok (.ireturn, 1) := by decide +kernel
set_option maxRecDepth 20000 in
theorem ggX4_isLike__X3_get : GoodIn wsX4_isLike_ wsX3_get := goodIn_r _ [6, 7, 8, 19, 20] (by decide +kernel) (by decide +kernel)
set_option maxRecDepth 20000 in
theorem gX4_isLike__X3_get : GoodIn wsX4_isLike_ (wsV RX4 35 RX3 yX3_get wsX3_get) := goodIn_app (goodIn_of _ (by decide +kernel)) ggX4_isLike__X3_get
set_option maxRecDepth 20000 in
theorem ggX4_isLike__X4_get : GoodIn wsX4_isLike_ wsX4_get := goodIn_r _ [13, 1, 14, 15, 2, 3, 4, 5, 6, 7, 8, 16, 17, 18, 19, 20] (by decide +kernel) (by decide +kernel)
set_option maxRecDepth 20000 in
theorem gX4_isLike__X4_get : GoodIn wsX4_isLike_ (wsV RX4 66 RX4 yX4_get wsX4_get) := goodIn_app (goodIn_of _ (by decide +kernel)) ggX4_isLike__X4_get
theorem dX4_isLike__0 : decode cX4_isLike_ 0 = .ok (.aload_n 0, 1) := by decide +kernel
theorem dX4_isLike__1 : decode cX4_isLike_ 1 = .ok (.getfield 28, 3) := by decide +kernel
theorem dX4_isLike__4 : decode cX4_isLike_ 4 = .ok (.iload_n 1, 1) := by decide +kernel
theorem dX4_isLike__5 : decode cX4_isLike_ 5 = .ok (.invokevirtual 35, 3) := by decide +kernel
theorem dX4_isLike__8 : decode cX4_isLike_ 8 = .ok (.aload_n 2, 1) := by decide +kernel
theorem dX4_isLike__9 : decode cX4_isLike_ 9 = .ok (.getfield 28, 3) := by decide +kernel
theorem dX4_isLike__12 : decode cX4_isLike_ 12 = .ok (.iload_n 3, 1) := by decide +kernel
theorem dX4_isLike__13 : decode cX4_isLike_ 13 = .ok (.invokevirtual 35, 3) := by decide +kernel
theorem dX4_isLike__16 : decode cX4_isLike_ 16 = .ok (.if_icmp .eq 5, 3) := by decide +kernel
theorem dX4_isLike__19 : decode cX4_isLike_ 19 = .ok (.iconst 0, 1) := by decide +kernel
theorem dX4_isLike__20 : decode cX4_isLike_ 20 = .ok (.ireturn, 1) := by decide +kernel
theorem dX4_isLike__21 : decode cX4_isLike_ 21 = .ok (.iconst 0, 1) := by decide +kernel
theorem dX4_isLike__22 : decode cX4_isLike_ 22 = .ok (.istore 4, 2) := by decide +kernel
theorem dX4_isLike__24 : decode cX4_isLike_ 24 = .ok (.iload 4, 2) := by decide +kernel
theorem dX4_isLike__26 : decode cX4_isLike_ 26 = .ok (.aload_n 0, 1) := by decide +kernel
theorem dX4_isLike__27 : decode cX4_isLike_ 27 = .ok (.getfield 28, 3) := by decide +kernel
theorem dX4_isLike__30 : decode cX4_isLike_ 30 = .ok (.iload_n 1, 1) := by decide +kernel
theorem dX4_isLike__31 : decode cX4_isLike_ 31 = .ok (.invokevirtual 35, 3) := by decide +kernel
theorem dX4_isLike__34 : decode cX4_isLike_ 34 = .ok (.if_icmp .ge 28, 3) := by decide +kernel
theorem dX4_isLike__37 : decode cX4_isLike_ 37 = .ok (.aload_n 0, 1) := by decide +kernel
theorem dX4_isLike__38 : decode cX4_isLike_ 38 = .ok (.iload_n 1, 1) := by decide +kernel
theorem dX4_isLike__39 : decode cX4_isLike_ 39 = .ok (.iload 4, 2) := by decide +kernel
theorem dX4_isLike__41 : decode cX4_isLike_ 41 = .ok (.invokevirtual 66, 3) := by decide +kernel
theorem dX4_isLike__44 : decode cX4_isLike_ 44 = .ok (.aload_n 2, 1) := by decide +kernel
theorem dX4_isLike__45 : decode cX4_isLike_ 45 = .ok (.iload_n 3, 1) := by decide +kernel
theorem dX4_isLike__46 : decode cX4_isLike_ 46 = .ok (.iload 4, 2) := by decide +kernel
theorem dX4_isLike__48 : decode cX4_isLike_ 48 = .ok (.invokevirtual 66, 3) := by decide +kernel
theorem dX4_isLike__51 : decode cX4_isLike_ 51 = .ok (.if_icmp .eq 5, 3) := by decide +kernel
theorem dX4_isLike__54 : decode cX4_isLike_ 54 = .ok (.iconst 0, 1) := by decide +kernel
theorem dX4_isLike__55 : decode cX4_isLike_ 55 = .ok (.ireturn, 1) := by decide +kernel
theorem dX4_isLike__56 : decode cX4_isLike_ 56 = .ok (.iinc 4 1, 3) := by decide +kernel
theorem dX4_isLike__59 : decode cX4_isLike_ 59 = .ok (.goto (-35), 3) := by decide +kernel
theorem dX4_isLike__62 : decode cX4_isLike_ 62 = .ok (.iconst 1, 1) := by decide +kernel
theorem dX4_isLike__63 : decode cX4_isLike_ 63 = .ok (.ireturn, 1) := by decide +kernel
set_option maxRecDepth 20000 in
theorem ggX4_find_X3_size : GoodIn wsX4_find wsX3_size := goodIn_r _ [6, 7, 27, 28] (by decide +kernel) (by decide +kernel)
set_option maxRecDepth 20000 in
theorem gX4_find_X3_size : GoodIn wsX4_find (wsV RX4 31 RX3 yX3_size wsX3_size) := goodIn_app (goodIn_of _ (by decide +kernel)) ggX4_find_X3_size
set_option maxRecDepth 20000 in
theorem ggX4_find_X4_isLike : GoodIn wsX4_find wsX4_isLike := goodIn_r _ [12, 1, 13, 14, 15, 5, 16, 7, 17, 2, 3, 4, 6, 18, 19, 20, 11, 21, 22, 23, 24, 25, 26, 27, 28] (by decide +kernel) (by decide +kernel)
set_option maxRecDepth 20000 in
theorem gX4_find_X4_isLike : GoodIn wsX4_find (wsV RX4 72 RX4 yX4_isLike wsX4_isLike) := goodIn_app (goodIn_of _ (by decide +kernel)) ggX4_find_X4_isLike
theorem dX4_find_0 : decode cX4_find 0 = .ok (.iconst 0, 1) := by decide +kernel
theorem dX4_find_1 : decode cX4_find 1 = .ok (.istore_n 2, 1) := by decide +kernel
theorem dX4_find_2 : decode cX4_find 2 = .ok (.iload_n 2, 1) := by decide +kernel
theorem dX4_find_3 : decode cX4_find 3 = .ok (.aload_n 0, 1) := by decide +kernel
theorem dX4_find_4 : decode cX4_find 4 = .ok (.getfield 28, 3) := by decide +kernel
theorem dX4_find_7 : decode cX4_find 7 = .ok (.invokevirtual 31, 3) := by decide +kernel
theorem dX4_find_10 : decode cX4_find 10 = .ok (.if_icmp .ge 20, 3) := by decide +kernel
theorem dX4_find_13 : decode cX4_find 13 = .ok (.aload_n 0, 1) := by decide +kernel
theorem dX4_find_14 : decode cX4_find 14 = .ok (.iload_n 2, 1) := by decide +kernel
theorem dX4_find_15 : decode cX4_find 15 = .ok (.aload_n 1, 1) := by decide +kernel
theorem dX4_find_16 : decode cX4_find 16 = .ok (.invokevirtual 72, 3) := by decide +kernel
theorem dX4_find_19 : decode cX4_find 19 = .ok (.ifCond .eq 5, 3) := by decide +kernel
theorem dX4_find_22 : decode cX4_find 22 = .ok (.iload_n 2, 1) := by decide +kernel
theorem dX4_find_23 : decode cX4_find 23 = .ok (.ireturn, 1) := by decide +kernel
theorem dX4_find_24 : decode cX4_find 24 = .ok (.iinc 2 1, 3) := by decide +kernel
theorem dX4_find_27 : decode cX4_find 27 = .ok (.goto (-25), 3) := by decide +kernel
theorem dX4_find_30 : decode cX4_find 30 = .ok (.bipush (-5), 2) := by decide +kernel
theorem dX4_find_32 : decode cX4_find 32 = .ok (.ireturn, 1) := by decide +kernel
set_option maxRecDepth 20000 in
theorem ggX4_lowestLike_X4_isLike_ : GoodIn wsX4_lowestLike wsX4_isLike_ := goodIn_r _ [5, 6, 7, 8, 9, 10, 11, 12, 13, 14, 15, 16, 4, 17, 18, 19, 20, 21, 22, 23, 24] (by decide +kernel) (by decide +kernel)
set_option maxRecDepth 20000 in
theorem gX4_lowestLike_X4_isLike_ : GoodIn wsX4_lowestLike (wsV RX4 76 RX4 yX4_isLike_ wsX4_isLike_) := goodIn_app (goodIn_of _ (by decide +kernel)) ggX4_lowestLike_X4_isLike_
theorem dX4_lowestLike_0 : decode cX4_lowestLike 0 = .ok (.iconst 0, 1) := by decide +kernel
theorem dX4_lowestLike_1 : decode cX4_lowestLike 1 = .ok (.istore_n 2, 1) := by decide +kernel
theorem dX4_lowestLike_2 : decode cX4_lowestLike 2 = .ok (.iload_n 2, 1) := by decide +kernel
theorem dX4_lowestLike_3 : decode cX4_lowestLike 3 = .ok (.iload_n 1, 1) := by decide +kernel
theorem dX4_lowestLike_4 : decode cX4_lowestLike 4 = .ok (.if_icmp .ge 21, 3) := by decide +kernel
theorem dX4_lowestLike_7 : decode cX4_lowestLike 7 = .ok (.aload_n 0, 1) := by decide +kernel
theorem dX4_lowestLike_8 : decode cX4_lowestLike 8 = .ok (.iload_n 2, 1) := by decide +kernel
theorem dX4_lowestLike_9 : decode cX4_lowestLike 9 = .ok (.aload_n 0, 1) := by decide +kernel
theorem dX4_lowestLike_10 : decode cX4_lowestLike 10 = .ok (.iload_n 1, 1) := by decide +kernel
theorem dX4_lowestLike_11 : decode cX4_lowestLike 11 = .ok (.invokevirtual 76, 3) := by decide +kernel
theorem dX4_lowestLike_14 : decode cX4_lowestLike 14 = .ok (.ifCond .eq 5, 3) := by decide +kernel
theorem dX4_lowestLike_17 : decode cX4_lowestLike 17 = .ok (.iload_n 2, 1) := by decide +kernel
theorem dX4_lowestLike_18 : decode cX4_lowestLike 18 = .ok (.ireturn, 1) := by decide +kernel
theorem dX4_lowestLike_19 : decode cX4_lowestLike 19 = .ok (.iinc 2 1, 3) := by decide +kernel
theorem dX4_lowestLike_22 : decode cX4_lowestLike 22 = .ok (.goto (-20), 3) := by decide +kernel
theorem dX4_lowestLike_25 : decode cX4_lowestLike 25 = .ok (.iload_n 1, 1) := by decide +kernel
theorem dX4_lowestLike_26 : decode cX4_lowestLike 26 = .ok (.ireturn, 1) := by decide +kernel
set_option maxRecDepth 20000 in
theorem ggX4_countLike_X3_size : GoodIn wsX4_countLike wsX3_size := goodIn_r _ [6, 7, 27, 28] (by decide +kernel) (by decide +kernel)
set_option maxRecDepth 20000 in
theorem gX4_countLike_X3_size : GoodIn wsX4_countLike (wsV RX4 31 RX3 yX3_size wsX3_size) := goodIn_app (goodIn_of _ (by decide +kernel)) ggX4_countLike_X3_size
set_option maxRecDepth 20000 in
theorem ggX4_countLike_X4_isLike_ : GoodIn wsX4_countLike wsX4_isLike_ := goodIn_r _ [12, 1, 13, 14, 15, 5, 16, 7, 17, 18, 19, 20, 11, 21, 22, 23, 24, 25, 26, 27, 28] (by decide +kernel) (by decide +kernel)
set_option maxRecDepth 20000 in
theorem gX4_countLike_X4_isLike_ : GoodIn wsX4_countLike (wsV RX4 76 RX4 yX4_isLike_ wsX4_isLike_) := goodIn_app (goodIn_of _ (by decide +kernel)) ggX4_countLike_X4_isLike_
theorem dX4_countLike_0 : decode cX4_countLike 0 = .ok (.iconst 0, 1) := by decide +kernel
theorem dX4_countLike_1 : decode cX4_countLike 1 = .ok (.istore_n 2, 1) := by decide +kernel
theorem dX4_countLike_2 : decode cX4_countLike 2 = .ok (.iconst 0, 1) := by decide +kernel
theorem dX4_countLike_3 : decode cX4_countLike 3 = .ok (.istore_n 3, 1) := by decide +kernel
theorem dX4_countLike_4 : decode cX4_countLike 4 = .ok (.iload_n 3, 1) := by decide +kernel
theorem dX4_countLike_5 : decode cX4_countLike 5 = .ok (.aload_n 0, 1) := by decide +kernel
theorem dX4_countLike_6 : decode cX4_countLike 6 = .ok (.getfield 28, 3) := by decide +kernel
theorem dX4_countLike_9 : decode cX4_countLike 9 = .ok (.invokevirtual 31, 3) := by decide +kernel
theorem dX4_countLike_12 : decode cX4_countLike 12 = .ok (.if_icmp .ge 22, 3) := by decide +kernel
theorem dX4_countLike_15 : decode cX4_countLike 15 = .ok (.aload_n 0, 1) := by decide +kernel
theorem dX4_countLike_16 : decode cX4_countLike 16 = .ok (.iload_n 3, 1) := by decide +kernel
theorem dX4_countLike_17 : decode cX4_countLike 17 = .ok (.aload_n 0, 1) := by decide +kernel
theorem dX4_countLike_18 : decode cX4_countLike 18 = .ok (.iload_n 1, 1) := by decide +kernel
theorem dX4_countLike_19 : decode cX4_countLike 19 = .ok (.invokevirtual 76, 3) := by decide +kernel
theorem dX4_countLike_22 : decode cX4_countLike 22 = .ok (.ifCond .eq 6, 3) := by decide +kernel
theorem dX4_countLike_25 : decode cX4_countLike 25 = .ok (.iinc 2 1, 3) := by decide +kernel
theorem dX4_countLike_28 : decode cX4_countLike 28 = .ok (.iinc 3 1, 3) := by decide +kernel
theorem dX4_countLike_31 : decode cX4_countLike 31 = .ok (.goto (-27), 3) := by decide +kernel
theorem dX4_countLike_34 : decode cX4_countLike 34 = .ok (.iload_n 2, 1) := by decide +kernel
theorem dX4_countLike_35 : decode cX4_countLike 35 = .ok (.ireturn, 1) := by decide +kernel
set_option maxRecDepth 20000 in
theorem ggX4_swap_X3_swap : GoodIn wsX4_swap wsX3_swap := goodIn_r _ [8, 9, 10, 11, 7, 12, 13, 14, 15, 16, 17, 18, 22, 23] (by decide +kernel) (by decide +kernel)
set_option maxRecDepth 20000 in
theorem gX4_swap_X3_swap : GoodIn wsX4_swap (wsV RX4 79 RX3 yX3_swap wsX3_swap) := goodIn_app (goodIn_of _ (by decide +kernel)) ggX4_swap_X3_swap
theorem dX4_swap_0 : decode cX4_swap 0 = .ok (.aload_n 0, 1) := by decide +kernel
theorem dX4_swap_1 : decode cX4_swap 1 = .ok (.getfield 28, 3) := by decide +kernel
theorem dX4_swap_4 : decode cX4_swap 4 = .ok (.iload_n 1, 1) := by decide +kernel
theorem dX4_swap_5 : decode cX4_swap 5 = .ok (.iload_n 2, 1) := by decide +kernel
theorem dX4_swap_6 : decode cX4_swap 6 = .ok (.invokevirtual 79, 3) := by decide +kernel
theorem dX4_swap_9 : decode cX4_swap 9 = .ok (.iconst 0, 1) := by decide +kernel
theorem dX4_swap_10 : decode cX4_swap 10 = .ok (.istore_n 3, 1) := by decide +kernel
theorem dX4_swap_11 : decode cX4_swap 11 = .ok (.iload_n 3, 1) := by decide +kernel
theorem dX4_swap_12 : decode cX4_swap 12 = .ok (.aload_n 0, 1) := by decide +kernel
theorem dX4_swap_13 : decode cX4_swap 13 = .ok (.getfield 9, 3) := by decide +kernel
theorem dX4_swap_16 : decode cX4_swap 16 = .ok (.if_icmp .ge 32, 3) := by decide +kernel
theorem dX4_swap_19 : decode cX4_swap 19 = .ok (.aload_n 0, 1) := by decide +kernel
theorem dX4_swap_20 : decode cX4_swap 20 = .ok (.getfield 20, 3) := by decide +kernel
theorem dX4_swap_23 : decode cX4_swap 23 = .ok (.iload_n 1, 1) := by decide +kernel
theorem dX4_swap_24 : decode cX4_swap 24 = .ok (.aload_n 0, 1) := by decide +kernel
theorem dX4_swap_25 : decode cX4_swap 25 = .ok (.getfield 9, 3) := by decide +kernel
theorem dX4_swap_28 : decode cX4_swap 28 = .ok (.imul, 1) := by decide +kernel
theorem dX4_swap_29 : decode cX4_swap 29 = .ok (.iload_n 3, 1) := by decide +kernel
theorem dX4_swap_30 : decode cX4_swap 30 = .ok (.iadd, 1) := by decide +kernel
theorem dX4_swap_31 : decode cX4_swap 31 = .ok (.iload_n 2, 1) := by decide +kernel
theorem dX4_swap_32 : decode cX4_swap 32 = .ok (.aload_n 0, 1) := by decide +kernel
theorem dX4_swap_33 : decode cX4_swap 33 = .ok (.getfield 9, 3) := by decide +kernel
theorem dX4_swap_36 : decode cX4_swap 36 = .ok (.imul, 1) := by decide +kernel
theorem dX4_swap_37 : decode cX4_swap 37 = .ok (.iload_n 3, 1) := by decide +kernel
theorem dX4_swap_38 : decode cX4_swap 38 = .ok (.iadd, 1) := by decide +kernel
theorem dX4_swap_39 : decode cX4_swap 39 = .ok (.invokevirtual 79, 3) := by decide +kernel
theorem dX4_swap_42 : decode cX4_swap 42 = .ok (.iinc 3 1, 3) := by decide +kernel
theorem dX4_swap_45 : decode cX4_swap 45 = .ok (.goto (-34), 3) := by decide +kernel
theorem dX4_swap_48 : decode cX4_swap 48 = .ok (.return_, 1) := by decide +kernel
set_option maxRecDepth 20000 in
theorem ggX4_move_X4_swap : GoodIn wsX4_move wsX4_swap := goodIn_r _ [5, 6, 7, 8, 9, 10, 11, 12, 13, 14, 15, 16, 17, 18, 19, 20, 21, 22, 23, 24, 25, 26, 27, 28] (by decide +kernel) (by decide +kernel)
set_option maxRecDepth 20000 in
theorem gX4_move_X4_swap : GoodIn wsX4_move (wsV RX4 82 RX4 yX4_swap wsX4_swap) := goodIn_app (goodIn_of _ (by decide +kernel)) ggX4_move_X4_swap
theorem dX4_move_0 : decode cX4_move 0 = .ok (.iload_n 1, 1) := by decide +kernel
theorem dX4_move_1 : decode cX4_move 1 = .ok (.istore_n 3, 1) := by decide +kernel
theorem dX4_move_2 : decode cX4_move 2 = .ok (.iload_n 3, 1) := by decide +kernel
theorem dX4_move_3 : decode cX4_move 3 = .ok (.iload_n 2, 1) := by decide +kernel
theorem dX4_move_4 : decode cX4_move 4 = .ok (.if_icmp .ge 17, 3) := by decide +kernel
theorem dX4_move_7 : decode cX4_move 7 = .ok (.aload_n 0, 1) := by decide +kernel
theorem dX4_move_8 : decode cX4_move 8 = .ok (.iload_n 3, 1) := by decide +kernel
theorem dX4_move_9 : decode cX4_move 9 = .ok (.iload_n 3, 1) := by decide +kernel
theorem dX4_move_10 : decode cX4_move 10 = .ok (.iconst 1, 1) := by decide +kernel
theorem dX4_move_11 : decode cX4_move 11 = .ok (.iadd, 1) := by decide +kernel
theorem dX4_move_12 : decode cX4_move 12 = .ok (.invokevirtual 82, 3) := by decide +kernel
theorem dX4_move_15 : decode cX4_move 15 = .ok (.iinc 3 1, 3) := by decide +kernel
theorem dX4_move_18 : decode cX4_move 18 = .ok (.goto (-16), 3) := by decide +kernel
theorem dX4_move_21 : decode cX4_move 21 = .ok (.iload_n 1, 1) := by decide +kernel
theorem dX4_move_22 : decode cX4_move 22 = .ok (.istore_n 3, 1) := by decide +kernel
theorem dX4_move_23 : decode cX4_move 23 = .ok (.iload_n 3, 1) := by decide +kernel
theorem dX4_move_24 : decode cX4_move 24 = .ok (.iload_n 2, 1) := by decide +kernel
theorem dX4_move_25 : decode cX4_move 25 = .ok (.if_icmp .le 17, 3) := by decide +kernel
theorem dX4_move_28 : decode cX4_move 28 = .ok (.aload_n 0, 1) := by decide +kernel
theorem dX4_move_29 : decode cX4_move 29 = .ok (.iload_n 3, 1) := by decide +kernel
theorem dX4_move_30 : decode cX4_move 30 = .ok (.iload_n 3, 1) := by decide +kernel
theorem dX4_move_31 : decode cX4_move 31 = .ok (.iconst 1, 1) := by decide +kernel
theorem dX4_move_32 : decode cX4_move 32 = .ok (.isub, 1) := by decide +kernel
theorem dX4_move_33 : decode cX4_move 33 = .ok (.invokevirtual 82, 3) := by decide +kernel
theorem dX4_move_36 : decode cX4_move 36 = .ok (.iinc 3 (-1), 3) := by decide +kernel
theorem dX4_move_39 : decode cX4_move 39 = .ok (.goto (-16), 3) := by decide +kernel
theorem dX4_move_42 : decode cX4_move 42 = .ok (.return_, 1) := by decide +kernel
set_option maxRecDepth 20000 in
theorem ggX4_remove_X4_has : GoodIn wsX4_remove wsX4_has := goodIn_r _ [6, 1, 7, 8, 9, 10, 11, 12, 44, 45, 46, 47, 48] (by decide +kernel) (by decide +kernel)
set_option maxRecDepth 20000 in
theorem gX4_remove_X4_has : GoodIn wsX4_remove (wsV RX4 50 RX4 yX4_has wsX4_has) := goodIn_app (goodIn_of _ (by decide +kernel)) ggX4_remove_X4_has
set_option maxRecDepth 20000 in
theorem ggX4_remove_X3_size : GoodIn wsX4_remove wsX3_size := goodIn_r _ [11, 12, 47, 48] (by decide +kernel) (by decide +kernel)
set_option maxRecDepth 20000 in
theorem gX4_remove_X3_size : GoodIn wsX4_remove (wsV RX4 31 RX3 yX3_size wsX3_size) := goodIn_app (goodIn_of _ (by decide +kernel)) ggX4_remove_X3_size
set_option maxRecDepth 20000 in
theorem ggX4_remove_X4_move : GoodIn wsX4_remove wsX4_move := goodIn_r _ [16, 17, 18, 19, 5, 20, 1, 21, 22, 23, 24, 25, 10, 26, 27, 28, 29, 30, 12, 31, 32, 33, 34, 35, 44, 45, 46, 47, 48] (by decide +kernel) (by decide +kernel)
set_option maxRecDepth 20000 in
theorem gX4_remove_X4_move : GoodIn wsX4_remove (wsV RX4 83 RX4 yX4_move wsX4_move) := goodIn_app (goodIn_of _ (by decide +kernel)) ggX4_remove_X4_move
set_option maxRecDepth 20000 in
theorem ggX4_remove_X3_dropLast : GoodIn wsX4_remove wsX3_dropLast := goodIn_r _ [39, 12, 40, 41, 42, 43, 47, 48] (by decide +kernel) (by decide +kernel)
set_option maxRecDepth 20000 in
theorem gX4_remove_X3_dropLast : GoodIn wsX4_remove (wsV RX4 86 RX3 yX3_dropLast wsX3_dropLast) := goodIn_app (goodIn_of _ (by decide +kernel)) ggX4_remove_X3_dropLast
theorem dX4_remove_0 : decode cX4_remove 0 = .ok (.aload_n 0, 1) := by decide +kernel
theorem dX4_remove_1 : decode cX4_remove 1 = .ok (.iload_n 1, 1) := by decide +kernel
theorem dX4_remove_2 : decode cX4_remove 2 = .ok (.invokevirtual 50, 3) := by decide +kernel
theorem dX4_remove_5 : decode cX4_remove 5 = .ok (.ifCond .eq 24, 3) := by decide +kernel
theorem dX4_remove_8 : decode cX4_remove 8 = .ok (.aload_n 0, 1) := by decide +kernel
theorem dX4_remove_9 : decode cX4_remove 9 = .ok (.iload_n 1, 1) := by decide +kernel
theorem dX4_remove_10 : decode cX4_remove 10 = .ok (.aload_n 0, 1) := by decide +kernel
theorem dX4_remove_11 : decode cX4_remove 11 = .ok (.getfield 28, 3) := by decide +kernel
theorem dX4_remove_14 : decode cX4_remove 14 = .ok (.invokevirtual 31, 3) := by decide +kernel
theorem dX4_remove_17 : decode cX4_remove 17 = .ok (.iconst 1, 1) := by decide +kernel
theorem dX4_remove_18 : decode cX4_remove 18 = .ok (.isub, 1) := by decide +kernel
theorem dX4_remove_19 : decode cX4_remove 19 = .ok (.invokevirtual 83, 3) := by decide +kernel
theorem dX4_remove_22 : decode cX4_remove 22 = .ok (.aload_n 0, 1) := by decide +kernel
theorem dX4_remove_23 : decode cX4_remove 23 = .ok (.getfield 28, 3) := by decide +kernel
theorem dX4_remove_26 : decode cX4_remove 26 = .ok (.invokevirtual 86, 3) := by decide +kernel
theorem dX4_remove_29 : decode cX4_remove 29 = .ok (.return_, 1) := by decide +kernel
end
section
set_option maxRecDepth 20000 in
theorem ggX0_init_X4_init : GoodIn wsX0_init wsX4_init := goodIn_r _ [18, 19, 2, 3, 20, 21, 9, 10, 22, 23, 24, 25, 26, 27, 28, 29, 30, 31, 32, 33, 34, 35, 36, 37, 38, 39, 40, 41, 42, 81, 82, 83, 90, 91] (by decide +kernel) (by decide +kernel)
set_option maxRecDepth 20000 in
theorem gX0_init_X4_init : GoodIn wsX0_init (wsX4_init) := ggX0_init_X4_init
set_option maxRecDepth 20000 in
theorem ggX0_init_X3_init : GoodIn wsX0_init wsX3_init := goodIn_r _ [26, 27, 2, 3, 28, 29, 30, 31, 32, 33, 90, 91] (by decide +kernel) (by decide +kernel)
set_option maxRecDepth 20000 in
theorem gX0_init_X3_init : GoodIn wsX0_init (wsX3_init) := ggX0_init_X3_init
set_option maxRecDepth 20000 in
theorem ggX0_init_X3_clear : GoodIn wsX0_init wsX3_clear := goodIn_r _ [47, 42, 90, 91] (by decide +kernel) (by decide +kernel)
set_option maxRecDepth 20000 in
theorem gX0_init_X3_clear : GoodIn wsX0_init (wsV RX0 41 RX3 yX3_clear wsX3_clear) := goodIn_app (goodIn_of _ (by decide +kernel)) ggX0_init_X3_clear
set_option maxRecDepth 20000 in
theorem ggX0_init_X3_add : GoodIn wsX0_init wsX3_add := goodIn_r _ [41, 42, 33, 90, 91] (by decide +kernel) (by decide +kernel)
set_option maxRecDepth 20000 in
theorem gX0_init_X3_add : GoodIn wsX0_init (wsV RX0 44 RX3 yX3_add wsX3_add) := goodIn_app (goodIn_of _ (by decide +kernel)) ggX0_init_X3_add
set_option maxRecDepth 20000 in
theorem ggX0_init_X4_add : GoodIn wsX0_init wsX4_add := goodIn_r _ [52, 23, 53, 54, 55, 10, 56, 42, 33, 57, 39, 40, 41, 58, 59, 60, 61, 62, 63, 64, 6, 65, 20, 66, 67, 30, 68, 22, 69, 70, 71, 72, 73, 74, 75, 76, 77, 78, 79, 80, 81, 82, 83, 90, 91] (by decide +kernel) (by decide +kernel)
set_option maxRecDepth 20000 in
theorem gX0_init_X4_add : GoodIn wsX0_init (wsV RX0 47 RX4 yX4_add wsX4_add) := goodIn_app (goodIn_of _ (by decide +kernel)) ggX0_init_X4_add
theorem dX0_init_0 : decode cX0_init 0 = .ok (.aload_n 0, 1) := by decide +kernel
theorem dX0_init_1 : decode cX0_init 1 = .ok (.invokespecial 3, 3) := by decide +kernel
theorem dX0_init_4 : decode cX0_init 4 = .ok (.aload_n 0, 1) := by decide +kernel
theorem dX0_init_5 : decode cX0_init 5 = .ok (.new 9, 3) := by decide +kernel
theorem dX0_init_8 : decode cX0_init 8 = .ok (.dup, 1) := by decide +kernel
theorem dX0_init_9 : decode cX0_init 9 = .ok (.iload_n 1, 1) := by decide +kernel
theorem dX0_init_10 : decode cX0_init 10 = .ok (.iconst 4, 1) := by decide +kernel
theorem dX0_init_11 : decode cX0_init 11 = .ok (.invokespecial 11, 3) := by decide +kernel
theorem dX0_init_14 : decode cX0_init 14 = .ok (.putfield 14, 3) := by decide +kernel
theorem dX0_init_17 : decode cX0_init 17 = .ok (.aload_n 0, 1) := by decide +kernel
theorem dX0_init_18 : decode cX0_init 18 = .ok (.new 20, 3) := by decide +kernel
theorem dX0_init_21 : decode cX0_init 21 = .ok (.dup, 1) := by decide +kernel
theorem dX0_init_22 : decode cX0_init 22 = .ok (.iload_n 1, 1) := by decide +kernel
theorem dX0_init_23 : decode cX0_init 23 = .ok (.invokespecial 22, 3) := by decide +kernel
theorem dX0_init_26 : decode cX0_init 26 = .ok (.putfield 25, 3) := by decide +kernel
theorem dX0_init_29 : decode cX0_init 29 = .ok (.aload_n 0, 1) := by decide +kernel
theorem dX0_init_30 : decode cX0_init 30 = .ok (.new 20, 3) := by decide +kernel
theorem dX0_init_33 : decode cX0_init 33 = .ok (.dup, 1) := by decide +kernel
theorem dX0_init_34 : decode cX0_init 34 = .ok (.iload_n 1, 1) := by decide +kernel
theorem dX0_init_35 : decode cX0_init 35 = .ok (.invokespecial 22, 3) := by decide +kernel
theorem dX0_init_38 : decode cX0_init 38 = .ok (.putfield 29, 3) := by decide +kernel
theorem dX0_init_41 : decode cX0_init 41 = .ok (.aload_n 0, 1) := by decide +kernel
theorem dX0_init_42 : decode cX0_init 42 = .ok (.new 9, 3) := by decide +kernel
theorem dX0_init_45 : decode cX0_init 45 = .ok (.dup, 1) := by decide +kernel
theorem dX0_init_46 : decode cX0_init 46 = .ok (.bipush 26, 2) := by decide +kernel
theorem dX0_init_48 : decode cX0_init 48 = .ok (.iconst 2, 1) := by decide +kernel
theorem dX0_init_49 : decode cX0_init 49 = .ok (.invokespecial 11, 3) := by decide +kernel
theorem dX0_init_52 : decode cX0_init 52 = .ok (.putfield 32, 3) := by decide +kernel
theorem dX0_init_55 : decode cX0_init 55 = .ok (.aload_n 0, 1) := by decide +kernel
theorem dX0_init_56 : decode cX0_init 56 = .ok (.new 9, 3) := by decide +kernel
theorem dX0_init_59 : decode cX0_init 59 = .ok (.dup, 1) := by decide +kernel
theorem dX0_init_60 : decode cX0_init 60 = .ok (.iload_n 2, 1) := by decide +kernel
theorem dX0_init_61 : decode cX0_init 61 = .ok (.bipush 12, 2) := by decide +kernel
theorem dX0_init_63 : decode cX0_init 63 = .ok (.invokespecial 11, 3) := by decide +kernel
theorem dX0_init_66 : decode cX0_init 66 = .ok (.putfield 35, 3) := by decide +kernel
theorem dX0_init_69 : decode cX0_init 69 = .ok (.aload_n 0, 1) := by decide +kernel
theorem dX0_init_70 : decode cX0_init 70 = .ok (.new 20, 3) := by decide +kernel
theorem dX0_init_73 : decode cX0_init 73 = .ok (.dup, 1) := by decide +kernel
theorem dX0_init_74 : decode cX0_init 74 = .ok (.iload_n 2, 1) := by decide +kernel
theorem dX0_init_75 : decode cX0_init 75 = .ok (.invokespecial 22, 3) := by decide +kernel
theorem dX0_init_78 : decode cX0_init 78 = .ok (.putfield 38, 3) := by decide +kernel
theorem dX0_init_81 : decode cX0_init 81 = .ok (.new 20, 3) := by decide +kernel
theorem dX0_init_84 : decode cX0_init 84 = .ok (.dup, 1) := by decide +kernel
theorem dX0_init_85 : decode cX0_init 85 = .ok (.iconst 1, 1) := by decide +kernel
theorem dX0_init_86 : decode cX0_init 86 = .ok (.invokespecial 22, 3) := by decide +kernel
theorem dX0_init_89 : decode cX0_init 89 = .ok (.astore_n 3, 1) := by decide +kernel
theorem dX0_init_90 : decode cX0_init 90 = .ok (.iconst 0, 1) := by decide +kernel
theorem dX0_init_91 : decode cX0_init 91 = .ok (.istore 4, 2) := by decide +kernel
theorem dX0_init_93 : decode cX0_init 93 = .ok (.iload 4, 2) := by decide +kernel
theorem dX0_init_95 : decode cX0_init 95 = .ok (.bipush 26, 2) := by decide +kernel
theorem dX0_init_97 : decode cX0_init 97 = .ok (.if_icmp .ge 30, 3) := by decide +kernel
theorem dX0_init_100 : decode cX0_init 100 = .ok (.aload_n 3, 1) := by decide +kernel
theorem dX0_init_101 : decode cX0_init 101 = .ok (.invokevirtual 41, 3) := by decide +kernel
theorem dX0_init_104 : decode cX0_init 104 = .ok (.aload_n 3, 1) := by decide +kernel
theorem dX0_init_105 : decode cX0_init 105 = .ok (.bipush 97, 2) := by decide +kernel
theorem dX0_init_107 : decode cX0_init 107 = .ok (.iload 4, 2) := by decide +kernel
theorem dX0_init_109 : decode cX0_init 109 = .ok (.iadd, 1) := by decide +kernel
theorem dX0_init_110 : decode cX0_init 110 = .ok (.invokevirtual 44, 3) := by decide +kernel
theorem dX0_init_113 : decode cX0_init 113 = .ok (.aload_n 0, 1) := by decide +kernel
theorem dX0_init_114 : decode cX0_init 114 = .ok (.getfield 32, 3) := by decide +kernel
theorem dX0_init_117 : decode cX0_init 117 = .ok (.aload_n 3, 1) := by decide +kernel
theorem dX0_init_118 : decode cX0_init 118 = .ok (.invokevirtual 47, 3) := by decide +kernel
theorem dX0_init_121 : decode cX0_init 121 = .ok (.iinc 4 1, 3) := by decide +kernel
theorem dX0_init_124 : decode cX0_init 124 = .ok (.goto (-31), 3) := by decide +kernel
theorem dX0_init_127 : decode cX0_init 127 = .ok (.return_, 1) := by decide +kernel
set_option maxRecDepth 20000 in
theorem ggX0_copyFrom_X4_copyFrom : GoodIn wsX0_copyFrom wsX4_copyFrom := goodIn_r _ [11, 12, 13, 14, 15, 16, 17, 18, 19, 20, 21, 22, 23, 24, 25, 26, 27, 28, 29, 30, 31, 32, 33, 34, 35, 36, 37, 38, 39, 40, 41, 42, 43, 44, 45, 46, 54, 55, 56, 57, 58] (by decide +kernel) (by decide +kernel)
set_option maxRecDepth 20000 in
theorem gX0_copyFrom_X4_copyFrom : GoodIn wsX0_copyFrom (wsV RX0 50 RX4 yX4_copyFrom wsX4_copyFrom) := goodIn_app (goodIn_of _ (by decide +kernel)) ggX0_copyFrom_X4_copyFrom
set_option maxRecDepth 20000 in
theorem ggX0_copyFrom_X3_copyFrom : GoodIn wsX0_copyFrom wsX3_copyFrom := goodIn_r _ [19, 20, 21, 22, 18, 23, 24, 25, 26, 27, 28, 29, 30, 31, 32, 33, 34, 35, 36, 37, 57, 58] (by decide +kernel) (by decide +kernel)
set_option maxRecDepth 20000 in
theorem gX0_copyFrom_X3_copyFrom : GoodIn wsX0_copyFrom (wsV RX0 54 RX3 yX3_copyFrom wsX3_copyFrom) := goodIn_app (goodIn_of _ (by decide +kernel)) ggX0_copyFrom_X3_copyFrom
theorem dX0_copyFrom_0 : decode cX0_copyFrom 0 = .ok (.aload_n 0, 1) := by decide +kernel
theorem dX0_copyFrom_1 : decode cX0_copyFrom 1 = .ok (.getfield 14, 3) := by decide +kernel
theorem dX0_copyFrom_4 : decode cX0_copyFrom 4 = .ok (.aload_n 1, 1) := by decide +kernel
theorem dX0_copyFrom_5 : decode cX0_copyFrom 5 = .ok (.getfield 14, 3) := by decide +kernel
theorem dX0_copyFrom_8 : decode cX0_copyFrom 8 = .ok (.invokevirtual 50, 3) := by decide +kernel
theorem dX0_copyFrom_11 : decode cX0_copyFrom 11 = .ok (.aload_n 0, 1) := by decide +kernel
theorem dX0_copyFrom_12 : decode cX0_copyFrom 12 = .ok (.getfield 25, 3) := by decide +kernel
theorem dX0_copyFrom_15 : decode cX0_copyFrom 15 = .ok (.aload_n 1, 1) := by decide +kernel
theorem dX0_copyFrom_16 : decode cX0_copyFrom 16 = .ok (.getfield 25, 3) := by decide +kernel
theorem dX0_copyFrom_19 : decode cX0_copyFrom 19 = .ok (.invokevirtual 54, 3) := by decide +kernel
theorem dX0_copyFrom_22 : decode cX0_copyFrom 22 = .ok (.aload_n 0, 1) := by decide +kernel
theorem dX0_copyFrom_23 : decode cX0_copyFrom 23 = .ok (.getfield 29, 3) := by decide +kernel
theorem dX0_copyFrom_26 : decode cX0_copyFrom 26 = .ok (.aload_n 1, 1) := by decide +kernel
theorem dX0_copyFrom_27 : decode cX0_copyFrom 27 = .ok (.getfield 29, 3) := by decide +kernel
theorem dX0_copyFrom_30 : decode cX0_copyFrom 30 = .ok (.invokevirtual 54, 3) := by decide +kernel
theorem dX0_copyFrom_33 : decode cX0_copyFrom 33 = .ok (.aload_n 0, 1) := by decide +kernel
theorem dX0_copyFrom_34 : decode cX0_copyFrom 34 = .ok (.getfield 32, 3) := by decide +kernel
theorem dX0_copyFrom_37 : decode cX0_copyFrom 37 = .ok (.aload_n 1, 1) := by decide +kernel
theorem dX0_copyFrom_38 : decode cX0_copyFrom 38 = .ok (.getfield 32, 3) := by decide +kernel
theorem dX0_copyFrom_41 : decode cX0_copyFrom 41 = .ok (.invokevirtual 50, 3) := by decide +kernel
theorem dX0_copyFrom_44 : decode cX0_copyFrom 44 = .ok (.aload_n 0, 1) := by decide +kernel
theorem dX0_copyFrom_45 : decode cX0_copyFrom 45 = .ok (.getfield 35, 3) := by decide +kernel
theorem dX0_copyFrom_48 : decode cX0_copyFrom 48 = .ok (.aload_n 1, 1) := by decide +kernel
theorem dX0_copyFrom_49 : decode cX0_copyFrom 49 = .ok (.getfield 35, 3) := by decide +kernel
theorem dX0_copyFrom_52 : decode cX0_copyFrom 52 = .ok (.invokevirtual 50, 3) := by decide +kernel
theorem dX0_copyFrom_55 : decode cX0_copyFrom 55 = .ok (.aload_n 0, 1) := by decide +kernel
theorem dX0_copyFrom_56 : decode cX0_copyFrom 56 = .ok (.getfield 38, 3) := by decide +kernel
theorem dX0_copyFrom_59 : decode cX0_copyFrom 59 = .ok (.aload_n 1, 1) := by decide +kernel
theorem dX0_copyFrom_60 : decode cX0_copyFrom 60 = .ok (.getfield 38, 3) := by decide +kernel
theorem dX0_copyFrom_63 : decode cX0_copyFrom 63 = .ok (.invokevirtual 54, 3) := by decide +kernel
theorem dX0_copyFrom_66 : decode cX0_copyFrom 66 = .ok (.return_, 1) := by decide +kernel
set_option maxRecDepth 20000 in
theorem ggX0_rules_X4_lines : GoodIn wsX0_rules wsX4_lines := goodIn_r _ [6, 7, 8, 9, 10, 11, 12, 13, 20, 21, 22, 23, 24] (by decide +kernel) (by decide +kernel)
set_option maxRecDepth 20000 in
theorem gX0_rules_X4_lines : GoodIn wsX0_rules (wsV RX0 56 RX4 yX4_lines wsX4_lines) := goodIn_app (goodIn_of _ (by decide +kernel)) ggX0_rules_X4_lines
theorem dX0_rules_0 : decode cX0_rules 0 = .ok (.aload_n 0, 1) := by decide +kernel
theorem dX0_rules_1 : decode cX0_rules 1 = .ok (.getfield 14, 3) := by decide +kernel
theorem dX0_rules_4 : decode cX0_rules 4 = .ok (.invokevirtual 56, 3) := by decide +kernel
theorem dX0_rules_7 : decode cX0_rules 7 = .ok (.ireturn, 1) := by decide +kernel
set_option maxRecDepth 20000 in
theorem ggX0_words_X4_lines : GoodIn wsX0_words wsX4_lines := goodIn_r _ [6, 7, 8, 9, 10, 11, 12, 13, 20, 21, 22, 23, 24] (by decide +kernel) (by decide +kernel)
set_option maxRecDepth 20000 in
theorem gX0_words_X4_lines : GoodIn wsX0_words (wsV RX0 56 RX4 yX4_lines wsX4_lines) := goodIn_app (goodIn_of _ (by decide +kernel)) ggX0_words_X4_lines
theorem dX0_words_0 : decode cX0_words 0 = .ok (.aload_n 0, 1) := by decide +kernel
theorem dX0_words_1 : decode cX0_words 1 = .ok (.getfield 35, 3) := by decide +kernel
theorem dX0_words_4 : decode cX0_words 4 = .ok (.invokevirtual 56, 3) := by decide +kernel
theorem dX0_words_7 : decode cX0_words 7 = .ok (.ireturn, 1) := by decide +kernel
set_option maxRecDepth 20000 in
theorem ggX0_hasRule_X4_has : GoodIn wsX0_hasRule wsX4_has := goodIn_r _ [6, 7, 8, 9, 10, 11, 12, 13, 20, 21, 22, 23, 24] (by decide +kernel) (by decide +kernel)
set_option maxRecDepth 20000 in
theorem gX0_hasRule_X4_has : GoodIn wsX0_hasRule (wsV RX0 60 RX4 yX4_has wsX4_has) := goodIn_app (goodIn_of _ (by decide +kernel)) ggX0_hasRule_X4_has
theorem dX0_hasRule_0 : decode cX0_hasRule 0 = .ok (.aload_n 0, 1) := by decide +kernel
theorem dX0_hasRule_1 : decode cX0_hasRule 1 = .ok (.getfield 14, 3) := by decide +kernel
theorem dX0_hasRule_4 : decode cX0_hasRule 4 = .ok (.iload_n 1, 1) := by decide +kernel
theorem dX0_hasRule_5 : decode cX0_hasRule 5 = .ok (.invokevirtual 60, 3) := by decide +kernel
theorem dX0_hasRule_8 : decode cX0_hasRule 8 = .ok (.ireturn, 1) := by decide +kernel
set_option maxRecDepth 20000 in
theorem ggX0_hasWord_X4_has : GoodIn wsX0_hasWord wsX4_has := goodIn_r _ [6, 7, 8, 9, 10, 11, 12, 13, 20, 21, 22, 23, 24] (by decide +kernel) (by decide +kernel)
set_option maxRecDepth 20000 in
theorem gX0_hasWord_X4_has : GoodIn wsX0_hasWord (wsV RX0 60 RX4 yX4_has wsX4_has) := goodIn_app (goodIn_of _ (by decide +kernel)) ggX0_hasWord_X4_has
theorem dX0_hasWord_0 : decode cX0_hasWord 0 = .ok (.aload_n 0, 1) := by decide +kernel
theorem dX0_hasWord_1 : decode cX0_hasWord 1 = .ok (.getfield 35, 3) := by decide +kernel
theorem dX0_hasWord_4 : decode cX0_hasWord 4 = .ok (.iload_n 1, 1) := by decide +kernel
theorem dX0_hasWord_5 : decode cX0_hasWord 5 = .ok (.invokevirtual 60, 3) := by decide +kernel
theorem dX0_hasWord_8 : decode cX0_hasWord 8 = .ok (.ireturn, 1) := by decide +kernel
set_option maxRecDepth 20000 in
theorem ggX0_addEntry_X0_addRule : GoodIn wsX0_addEntry wsX0_addRule := goodIn_r _ [9, 10, 11, 12, 4, 13, 3, 14, 15, 16, 8, 17, 18, 19, 20, 21, 22, 23, 24, 25, 26, 27, 28, 29, 30, 31, 32, 33, 34, 35, 36, 37, 38, 39, 40, 41, 42, 43, 44, 45, 46, 47, 48, 49, 50, 51, 52, 53, 54, 55, 56, 57, 58, 59, 60, 61, 62, 63, 64, 65, 66, 67, 68, 69, 70, 71, 72, 73, 74, 95, 96, 97, 98, 99, 100, 88, 89, 90, 91, 92, 93, 94, 101, 102, 103, 104, 105] (by decide +kernel) (by decide +kernel)
set_option maxRecDepth 20000 in
theorem gX0_addEntry_X0_addRule : GoodIn wsX0_addEntry (wsV RX0 70 RX0 yX0_addRule wsX0_addRule) := goodIn_app (goodIn_of _ (by decide +kernel)) ggX0_addEntry_X0_addRule
set_option maxRecDepth 20000 in
theorem ggX0_addEntry_X0_addWord : GoodIn wsX0_addEntry wsX0_addWord := goodIn_r _ [78, 79, 4, 80, 81, 82, 83, 84, 21, 85, 23, 24, 25, 26, 27, 28, 29, 86, 36, 37, 38, 39, 31, 32, 33, 34, 40, 41, 42, 43, 44, 45, 46, 47, 48, 49, 50, 51, 52, 53, 54, 55, 56, 57, 58, 59, 60, 61, 62, 63, 64, 65, 66, 67, 68, 69, 70, 71, 72, 73, 74, 95, 96, 97, 98, 99, 100, 88, 89, 90, 91, 92, 93, 94, 101, 102, 103, 104, 105] (by decide +kernel) (by decide +kernel)
set_option maxRecDepth 20000 in
theorem gX0_addEntry_X0_addWord : GoodIn wsX0_addEntry (wsV RX0 74 RX0 yX0_addWord wsX0_addWord) := goodIn_app (goodIn_of _ (by decide +kernel)) ggX0_addEntry_X0_addWord
set_option maxRecDepth 20000 in
theorem ggX0_addEntry_X4_put : GoodIn wsX0_addEntry wsX4_put := goodIn_r _ [61, 45, 62, 63, 64, 65, 23, 44, 66, 67, 68, 21, 69, 24, 25, 26, 27, 28, 29, 70, 71, 72, 73, 34, 39, 31, 32, 33, 101, 102, 103, 104, 105] (by decide +kernel) (by decide +kernel)
set_option maxRecDepth 20000 in
theorem gX0_addEntry_X4_put : GoodIn wsX0_addEntry (wsV RX0 82 RX4 yX4_put wsX4_put) := goodIn_app (goodIn_of _ (by decide +kernel)) ggX0_addEntry_X4_put
theorem dX0_addEntry_0 : decode cX0_addEntry 0 = .ok (.aload_n 1, 1) := by decide +kernel
theorem dX0_addEntry_1 : decode cX0_addEntry 1 = .ok (.getfield 64, 3) := by decide +kernel
theorem dX0_addEntry_4 : decode cX0_addEntry 4 = .ok (.lookupswitch 40 #[(0, 28), (1, 34)], 28) := by decide +kernel
theorem dX0_addEntry_32 : decode cX0_addEntry 32 = .ok (.aload_n 0, 1) := by decide +kernel
theorem dX0_addEntry_33 : decode cX0_addEntry 33 = .ok (.aload_n 1, 1) := by decide +kernel
theorem dX0_addEntry_34 : decode cX0_addEntry 34 = .ok (.invokevirtual 70, 3) := by decide +kernel
theorem dX0_addEntry_37 : decode cX0_addEntry 37 = .ok (.ireturn, 1) := by decide +kernel
theorem dX0_addEntry_38 : decode cX0_addEntry 38 = .ok (.aload_n 0, 1) := by decide +kernel
theorem dX0_addEntry_39 : decode cX0_addEntry 39 = .ok (.aload_n 1, 1) := by decide +kernel
theorem dX0_addEntry_40 : decode cX0_addEntry 40 = .ok (.invokevirtual 74, 3) := by decide +kernel
theorem dX0_addEntry_43 : decode cX0_addEntry 43 = .ok (.ireturn, 1) := by decide +kernel
theorem dX0_addEntry_44 : decode cX0_addEntry 44 = .ok (.aload_n 0, 1) := by decide +kernel
theorem dX0_addEntry_45 : decode cX0_addEntry 45 = .ok (.getfield 32, 3) := by decide +kernel
theorem dX0_addEntry_48 : decode cX0_addEntry 48 = .ok (.aload_n 1, 1) := by decide +kernel
theorem dX0_addEntry_49 : decode cX0_addEntry 49 = .ok (.getfield 77, 3) := by decide +kernel
theorem dX0_addEntry_52 : decode cX0_addEntry 52 = .ok (.bipush 65, 2) := by decide +kernel
theorem dX0_addEntry_54 : decode cX0_addEntry 54 = .ok (.isub, 1) := by decide +kernel
theorem dX0_addEntry_55 : decode cX0_addEntry 55 = .ok (.aload_n 1, 1) := by decide +kernel
theorem dX0_addEntry_56 : decode cX0_addEntry 56 = .ok (.getfield 80, 3) := by decide +kernel
theorem dX0_addEntry_59 : decode cX0_addEntry 59 = .ok (.invokevirtual 82, 3) := by decide +kernel
theorem dX0_addEntry_62 : decode cX0_addEntry 62 = .ok (.iconst 1, 1) := by decide +kernel
theorem dX0_addEntry_63 : decode cX0_addEntry 63 = .ok (.ireturn, 1) := by decide +kernel
set_option maxRecDepth 20000 in
theorem ggX0_addRule_X0_rules : GoodIn wsX0_addRule wsX0_rules := goodIn_r _ [11, 3, 12, 13, 14, 15, 16, 17, 18, 19, 20, 21, 22, 23, 69, 70, 71, 72, 73, 74, 82, 83, 84, 85, 86] (by decide +kernel) (by decide +kernel)
set_option maxRecDepth 20000 in
theorem gX0_addRule_X0_rules : GoodIn wsX0_addRule (wsV RX0 86 RX0 yX0_rules wsX0_rules) := goodIn_app (goodIn_of _ (by decide +kernel)) ggX0_addRule_X0_rules
set_option maxRecDepth 20000 in
theorem ggX0_addRule_X3_get : GoodIn wsX0_addRule wsX3_get := goodIn_r _ [27, 23, 28, 85, 86] (by decide +kernel) (by decide +kernel)
set_option maxRecDepth 20000 in
theorem gX0_addRule_X3_get : GoodIn wsX0_addRule (wsV RX0 89 RX3 yX3_get wsX3_get) := goodIn_app (goodIn_of _ (by decide +kernel)) ggX0_addRule_X3_get
set_option maxRecDepth 20000 in
theorem ggX0_addRule_X4_isLike : GoodIn wsX0_addRule wsX4_isLike := goodIn_r _ [32, 17, 33, 25, 26, 21, 27, 23, 28, 18, 19, 20, 22, 34, 35, 36, 15, 37, 38, 39, 82, 83, 84, 85, 86] (by decide +kernel) (by decide +kernel)
set_option maxRecDepth 20000 in
theorem gX0_addRule_X4_isLike : GoodIn wsX0_addRule (wsV RX0 96 RX4 yX4_isLike wsX4_isLike) := goodIn_app (goodIn_of _ (by decide +kernel)) ggX0_addRule_X4_isLike
set_option maxRecDepth 20000 in
theorem ggX0_addRule_X4_add : GoodIn wsX0_addRule wsX4_add := goodIn_r _ [43, 17, 44, 45, 46, 21, 47, 23, 28, 48, 49, 50, 51, 18, 19, 20, 22, 52, 53, 54, 15, 55, 39, 56, 57, 58, 59, 38, 60, 61, 62, 63, 64, 65, 66, 67, 33, 25, 26, 27, 82, 83, 84, 85, 86] (by decide +kernel) (by decide +kernel)
set_option maxRecDepth 20000 in
theorem gX0_addRule_X4_add : GoodIn wsX0_addRule (wsV RX0 47 RX4 yX4_add wsX4_add) := goodIn_app (goodIn_of _ (by decide +kernel)) ggX0_addRule_X4_add
set_option maxRecDepth 20000 in
theorem ggX0_addRule_X3_add : GoodIn wsX0_addRule wsX3_add := goodIn_r _ [51, 23, 28, 85, 86] (by decide +kernel) (by decide +kernel)
set_option maxRecDepth 20000 in
theorem gX0_addRule_X3_add : GoodIn wsX0_addRule (wsV RX0 44 RX3 yX3_add wsX3_add) := goodIn_app (goodIn_of _ (by decide +kernel)) ggX0_addRule_X3_add
theorem dX0_addRule_0 : decode cX0_addRule 0 = .ok (.iconst 0, 1) := by decide +kernel
theorem dX0_addRule_1 : decode cX0_addRule 1 = .ok (.istore_n 2, 1) := by decide +kernel
theorem dX0_addRule_2 : decode cX0_addRule 2 = .ok (.iload_n 2, 1) := by decide +kernel
theorem dX0_addRule_3 : decode cX0_addRule 3 = .ok (.aload_n 0, 1) := by decide +kernel
theorem dX0_addRule_4 : decode cX0_addRule 4 = .ok (.invokevirtual 86, 3) := by decide +kernel
theorem dX0_addRule_7 : decode cX0_addRule 7 = .ok (.if_icmp .ge 41, 3) := by decide +kernel
theorem dX0_addRule_10 : decode cX0_addRule 10 = .ok (.aload_n 0, 1) := by decide +kernel
theorem dX0_addRule_11 : decode cX0_addRule 11 = .ok (.getfield 29, 3) := by decide +kernel
theorem dX0_addRule_14 : decode cX0_addRule 14 = .ok (.iload_n 2, 1) := by decide +kernel
theorem dX0_addRule_15 : decode cX0_addRule 15 = .ok (.invokevirtual 89, 3) := by decide +kernel
theorem dX0_addRule_18 : decode cX0_addRule 18 = .ok (.aload_n 1, 1) := by decide +kernel
theorem dX0_addRule_19 : decode cX0_addRule 19 = .ok (.getfield 93, 3) := by decide +kernel
theorem dX0_addRule_22 : decode cX0_addRule 22 = .ok (.if_icmp .ne 20, 3) := by decide +kernel
theorem dX0_addRule_25 : decode cX0_addRule 25 = .ok (.aload_n 0, 1) := by decide +kernel
theorem dX0_addRule_26 : decode cX0_addRule 26 = .ok (.getfield 14, 3) := by decide +kernel
theorem dX0_addRule_29 : decode cX0_addRule 29 = .ok (.iload_n 2, 1) := by decide +kernel
theorem dX0_addRule_30 : decode cX0_addRule 30 = .ok (.aload_n 1, 1) := by decide +kernel
theorem dX0_addRule_31 : decode cX0_addRule 31 = .ok (.getfield 80, 3) := by decide +kernel
theorem dX0_addRule_34 : decode cX0_addRule 34 = .ok (.invokevirtual 96, 3) := by decide +kernel
theorem dX0_addRule_37 : decode cX0_addRule 37 = .ok (.ifCond .eq 5, 3) := by decide +kernel
theorem dX0_addRule_40 : decode cX0_addRule 40 = .ok (.iconst 0, 1) := by decide +kernel
theorem dX0_addRule_41 : decode cX0_addRule 41 = .ok (.ireturn, 1) := by decide +kernel
theorem dX0_addRule_42 : decode cX0_addRule 42 = .ok (.iinc 2 1, 3) := by decide +kernel
theorem dX0_addRule_45 : decode cX0_addRule 45 = .ok (.goto (-43), 3) := by decide +kernel
theorem dX0_addRule_48 : decode cX0_addRule 48 = .ok (.aload_n 0, 1) := by decide +kernel
theorem dX0_addRule_49 : decode cX0_addRule 49 = .ok (.getfield 14, 3) := by decide +kernel
theorem dX0_addRule_52 : decode cX0_addRule 52 = .ok (.aload_n 1, 1) := by decide +kernel
theorem dX0_addRule_53 : decode cX0_addRule 53 = .ok (.getfield 80, 3) := by decide +kernel
theorem dX0_addRule_56 : decode cX0_addRule 56 = .ok (.invokevirtual 47, 3) := by decide +kernel
theorem dX0_addRule_59 : decode cX0_addRule 59 = .ok (.aload_n 0, 1) := by decide +kernel
theorem dX0_addRule_60 : decode cX0_addRule 60 = .ok (.getfield 25, 3) := by decide +kernel
theorem dX0_addRule_63 : decode cX0_addRule 63 = .ok (.aload_n 1, 1) := by decide +kernel
theorem dX0_addRule_64 : decode cX0_addRule 64 = .ok (.getfield 77, 3) := by decide +kernel
theorem dX0_addRule_67 : decode cX0_addRule 67 = .ok (.invokevirtual 44, 3) := by decide +kernel
theorem dX0_addRule_70 : decode cX0_addRule 70 = .ok (.aload_n 0, 1) := by decide +kernel
theorem dX0_addRule_71 : decode cX0_addRule 71 = .ok (.getfield 29, 3) := by decide +kernel
theorem dX0_addRule_74 : decode cX0_addRule 74 = .ok (.aload_n 1, 1) := by decide +kernel
theorem dX0_addRule_75 : decode cX0_addRule 75 = .ok (.getfield 93, 3) := by decide +kernel
theorem dX0_addRule_78 : decode cX0_addRule 78 = .ok (.invokevirtual 44, 3) := by decide +kernel
theorem dX0_addRule_81 : decode cX0_addRule 81 = .ok (.iconst 1, 1) := by decide +kernel
theorem dX0_addRule_82 : decode cX0_addRule 82 = .ok (.ireturn, 1) := by decide +kernel
set_option maxRecDepth 20000 in
theorem ggX0_addWord_X4_find : GoodIn wsX0_addWord wsX4_find := goodIn_r _ [9, 10, 11, 12, 13, 14, 15, 16, 17, 18, 19, 8, 20, 21, 22, 23, 24, 25, 26, 27, 28, 29, 30, 31, 74, 75, 76, 77, 78] (by decide +kernel) (by decide +kernel)
set_option maxRecDepth 20000 in
theorem gX0_addWord_X4_find : GoodIn wsX0_addWord (wsV RX0 100 RX4 yX4_find wsX4_find) := goodIn_app (goodIn_of _ (by decide +kernel)) ggX0_addWord_X4_find
set_option maxRecDepth 20000 in
theorem ggX0_addWord_X4_add : GoodIn wsX0_addWord wsX4_add := goodIn_r _ [35, 10, 36, 37, 38, 14, 39, 16, 25, 40, 41, 42, 43, 11, 12, 13, 15, 44, 45, 46, 8, 47, 31, 48, 49, 50, 51, 30, 52, 53, 54, 55, 56, 57, 58, 59, 21, 22, 23, 24, 74, 75, 76, 77, 78] (by decide +kernel) (by decide +kernel)
set_option maxRecDepth 20000 in
theorem gX0_addWord_X4_add : GoodIn wsX0_addWord (wsV RX0 47 RX4 yX4_add wsX4_add) := goodIn_app (goodIn_of _ (by decide +kernel)) ggX0_addWord_X4_add
set_option maxRecDepth 20000 in
theorem ggX0_addWord_X3_add : GoodIn wsX0_addWord wsX3_add := goodIn_r _ [43, 16, 25, 77, 78] (by decide +kernel) (by decide +kernel)
set_option maxRecDepth 20000 in
theorem gX0_addWord_X3_add : GoodIn wsX0_addWord (wsV RX0 44 RX3 yX3_add wsX3_add) := goodIn_app (goodIn_of _ (by decide +kernel)) ggX0_addWord_X3_add
theorem dX0_addWord_0 : decode cX0_addWord 0 = .ok (.aload_n 0, 1) := by decide +kernel
theorem dX0_addWord_1 : decode cX0_addWord 1 = .ok (.getfield 35, 3) := by decide +kernel
theorem dX0_addWord_4 : decode cX0_addWord 4 = .ok (.aload_n 1, 1) := by decide +kernel
theorem dX0_addWord_5 : decode cX0_addWord 5 = .ok (.getfield 80, 3) := by decide +kernel
theorem dX0_addWord_8 : decode cX0_addWord 8 = .ok (.invokevirtual 100, 3) := by decide +kernel
theorem dX0_addWord_11 : decode cX0_addWord 11 = .ok (.bipush (-5), 2) := by decide +kernel
theorem dX0_addWord_13 : decode cX0_addWord 13 = .ok (.if_icmp .eq 5, 3) := by decide +kernel
theorem dX0_addWord_16 : decode cX0_addWord 16 = .ok (.iconst 0, 1) := by decide +kernel
theorem dX0_addWord_17 : decode cX0_addWord 17 = .ok (.ireturn, 1) := by decide +kernel
theorem dX0_addWord_18 : decode cX0_addWord 18 = .ok (.aload_n 0, 1) := by decide +kernel
theorem dX0_addWord_19 : decode cX0_addWord 19 = .ok (.getfield 35, 3) := by decide +kernel
theorem dX0_addWord_22 : decode cX0_addWord 22 = .ok (.aload_n 1, 1) := by decide +kernel
theorem dX0_addWord_23 : decode cX0_addWord 23 = .ok (.getfield 80, 3) := by decide +kernel
theorem dX0_addWord_26 : decode cX0_addWord 26 = .ok (.invokevirtual 47, 3) := by decide +kernel
theorem dX0_addWord_29 : decode cX0_addWord 29 = .ok (.aload_n 0, 1) := by decide +kernel
theorem dX0_addWord_30 : decode cX0_addWord 30 = .ok (.getfield 38, 3) := by decide +kernel
theorem dX0_addWord_33 : decode cX0_addWord 33 = .ok (.aload_n 1, 1) := by decide +kernel
theorem dX0_addWord_34 : decode cX0_addWord 34 = .ok (.getfield 104, 3) := by decide +kernel
theorem dX0_addWord_37 : decode cX0_addWord 37 = .ok (.invokevirtual 44, 3) := by decide +kernel
theorem dX0_addWord_40 : decode cX0_addWord 40 = .ok (.iconst 1, 1) := by decide +kernel
theorem dX0_addWord_41 : decode cX0_addWord 41 = .ok (.ireturn, 1) := by decide +kernel
set_option maxRecDepth 20000 in
theorem ggX0_dropRule_X4_remove : GoodIn wsX0_dropRule wsX4_remove := goodIn_r _ [8, 9, 10, 11, 12, 7, 13, 14, 15, 16, 17, 18, 19, 20, 21, 22, 23, 24, 25, 26, 27, 28, 29, 30, 31, 32, 33, 34, 35, 36, 37, 38, 39, 40, 41, 42, 43, 44, 45, 46, 47, 48, 49, 50, 67, 68, 69, 70, 71] (by decide +kernel) (by decide +kernel)
set_option maxRecDepth 20000 in
theorem gX0_dropRule_X4_remove : GoodIn wsX0_dropRule (wsV RX0 107 RX4 yX4_remove wsX4_remove) := goodIn_app (goodIn_of _ (by decide +kernel)) ggX0_dropRule_X4_remove
set_option maxRecDepth 20000 in
theorem ggX0_dropRule_X3_remove : GoodIn wsX0_dropRule wsX3_remove := goodIn_r _ [54, 19, 55, 56, 57, 17, 58, 59, 31, 32, 33, 34, 35, 36, 37, 38, 39, 40, 41, 42, 60, 44, 45, 46, 47, 48, 49, 50, 70, 71] (by decide +kernel) (by decide +kernel)
set_option maxRecDepth 20000 in
theorem gX0_dropRule_X3_remove : GoodIn wsX0_dropRule (wsV RX0 110 RX3 yX3_remove wsX3_remove) := goodIn_app (goodIn_of _ (by decide +kernel)) ggX0_dropRule_X3_remove
theorem dX0_dropRule_0 : decode cX0_dropRule 0 = .ok (.aload_n 0, 1) := by decide +kernel
theorem dX0_dropRule_1 : decode cX0_dropRule 1 = .ok (.getfield 14, 3) := by decide +kernel
theorem dX0_dropRule_4 : decode cX0_dropRule 4 = .ok (.iload_n 1, 1) := by decide +kernel
theorem dX0_dropRule_5 : decode cX0_dropRule 5 = .ok (.invokevirtual 107, 3) := by decide +kernel
theorem dX0_dropRule_8 : decode cX0_dropRule 8 = .ok (.aload_n 0, 1) := by decide +kernel
theorem dX0_dropRule_9 : decode cX0_dropRule 9 = .ok (.getfield 25, 3) := by decide +kernel
theorem dX0_dropRule_12 : decode cX0_dropRule 12 = .ok (.iload_n 1, 1) := by decide +kernel
theorem dX0_dropRule_13 : decode cX0_dropRule 13 = .ok (.invokevirtual 110, 3) := by decide +kernel
theorem dX0_dropRule_16 : decode cX0_dropRule 16 = .ok (.aload_n 0, 1) := by decide +kernel
theorem dX0_dropRule_17 : decode cX0_dropRule 17 = .ok (.getfield 29, 3) := by decide +kernel
theorem dX0_dropRule_20 : decode cX0_dropRule 20 = .ok (.iload_n 1, 1) := by decide +kernel
theorem dX0_dropRule_21 : decode cX0_dropRule 21 = .ok (.invokevirtual 110, 3) := by decide +kernel
theorem dX0_dropRule_24 : decode cX0_dropRule 24 = .ok (.return_, 1) := by decide +kernel
set_option maxRecDepth 20000 in
theorem ggX0_shiftRule_X4_move : GoodIn wsX0_shiftRule wsX4_move := goodIn_r _ [8, 9, 10, 11, 7, 12, 13, 14, 15, 16, 17, 18, 19, 20, 21, 22, 23, 24, 25, 26, 27, 28, 29, 30, 42, 43, 44, 45, 46] (by decide +kernel) (by decide +kernel)
set_option maxRecDepth 20000 in
theorem gX0_shiftRule_X4_move : GoodIn wsX0_shiftRule (wsV RX0 111 RX4 yX4_move wsX4_move) := goodIn_app (goodIn_of _ (by decide +kernel)) ggX0_shiftRule_X4_move
set_option maxRecDepth 20000 in
theorem ggX0_shiftRule_X3_move : GoodIn wsX0_shiftRule wsX3_move := goodIn_r _ [34, 35, 17, 18, 19, 20, 21, 22, 23, 24, 25, 26, 27, 28, 29, 30, 45, 46] (by decide +kernel) (by decide +kernel)
set_option maxRecDepth 20000 in
theorem gX0_shiftRule_X3_move : GoodIn wsX0_shiftRule (wsV RX0 114 RX3 yX3_move wsX3_move) := goodIn_app (goodIn_of _ (by decide +kernel)) ggX0_shiftRule_X3_move
theorem dX0_shiftRule_0 : decode cX0_shiftRule 0 = .ok (.aload_n 0, 1) := by decide +kernel
theorem dX0_shiftRule_1 : decode cX0_shiftRule 1 = .ok (.getfield 14, 3) := by decide +kernel
theorem dX0_shiftRule_4 : decode cX0_shiftRule 4 = .ok (.iload_n 1, 1) := by decide +kernel
theorem dX0_shiftRule_5 : decode cX0_shiftRule 5 = .ok (.iload_n 2, 1) := by decide +kernel
theorem dX0_shiftRule_6 : decode cX0_shiftRule 6 = .ok (.invokevirtual 111, 3) := by decide +kernel
theorem dX0_shiftRule_9 : decode cX0_shiftRule 9 = .ok (.aload_n 0, 1) := by decide +kernel
theorem dX0_shiftRule_10 : decode cX0_shiftRule 10 = .ok (.getfield 25, 3) := by decide +kernel
theorem dX0_shiftRule_13 : decode cX0_shiftRule 13 = .ok (.iload_n 1, 1) := by decide +kernel
theorem dX0_shiftRule_14 : decode cX0_shiftRule 14 = .ok (.iload_n 2, 1) := by decide +kernel
theorem dX0_shiftRule_15 : decode cX0_shiftRule 15 = .ok (.invokevirtual 114, 3) := by decide +kernel
theorem dX0_shiftRule_18 : decode cX0_shiftRule 18 = .ok (.aload_n 0, 1) := by decide +kernel
theorem dX0_shiftRule_19 : decode cX0_shiftRule 19 = .ok (.getfield 29, 3) := by decide +kernel
theorem dX0_shiftRule_22 : decode cX0_shiftRule 22 = .ok (.iload_n 1, 1) := by decide +kernel
theorem dX0_shiftRule_23 : decode cX0_shiftRule 23 = .ok (.iload_n 2, 1) := by decide +kernel
theorem dX0_shiftRule_24 : decode cX0_shiftRule 24 = .ok (.invokevirtual 114, 3) := by decide +kernel
theorem dX0_shiftRule_27 : decode cX0_shiftRule 27 = .ok (.return_, 1) := by decide +kernel
set_option maxRecDepth 20000 in
theorem ggX0_dropWord_X4_remove : GoodIn wsX0_dropWord wsX4_remove := goodIn_r _ [7, 8, 9, 10, 11, 6, 12, 13, 14, 15, 16, 17, 18, 19, 20, 21, 22, 23, 24, 25, 26, 27, 28, 29, 30, 31, 32, 33, 34, 35, 36, 37, 38, 39, 40, 41, 42, 43, 44, 45, 46, 47, 48, 49, 66, 67, 68, 69, 70] (by decide +kernel) (by decide +kernel)
set_option maxRecDepth 20000 in
theorem gX0_dropWord_X4_remove : GoodIn wsX0_dropWord (wsV RX0 107 RX4 yX4_remove wsX4_remove) := goodIn_app (goodIn_of _ (by decide +kernel)) ggX0_dropWord_X4_remove
set_option maxRecDepth 20000 in
theorem ggX0_dropWord_X3_remove : GoodIn wsX0_dropWord wsX3_remove := goodIn_r _ [53, 18, 54, 55, 56, 16, 57, 58, 30, 31, 32, 33, 34, 35, 36, 37, 38, 39, 40, 41, 59, 43, 44, 45, 46, 47, 48, 49, 69, 70] (by decide +kernel) (by decide +kernel)
set_option maxRecDepth 20000 in
theorem gX0_dropWord_X3_remove : GoodIn wsX0_dropWord (wsV RX0 110 RX3 yX3_remove wsX3_remove) := goodIn_app (goodIn_of _ (by decide +kernel)) ggX0_dropWord_X3_remove
theorem dX0_dropWord_0 : decode cX0_dropWord 0 = .ok (.aload_n 0, 1) := by decide +kernel
theorem dX0_dropWord_1 : decode cX0_dropWord 1 = .ok (.getfield 35, 3) := by decide +kernel
theorem dX0_dropWord_4 : decode cX0_dropWord 4 = .ok (.iload_n 1, 1) := by decide +kernel
theorem dX0_dropWord_5 : decode cX0_dropWord 5 = .ok (.invokevirtual 107, 3) := by decide +kernel
theorem dX0_dropWord_8 : decode cX0_dropWord 8 = .ok (.aload_n 0, 1) := by decide +kernel
theorem dX0_dropWord_9 : decode cX0_dropWord 9 = .ok (.getfield 38, 3) := by decide +kernel
theorem dX0_dropWord_12 : decode cX0_dropWord 12 = .ok (.iload_n 1, 1) := by decide +kernel
theorem dX0_dropWord_13 : decode cX0_dropWord 13 = .ok (.invokevirtual 110, 3) := by decide +kernel
theorem dX0_dropWord_16 : decode cX0_dropWord 16 = .ok (.return_, 1) := by decide +kernel
set_option maxRecDepth 20000 in
theorem ggX0_longSigns_X4_lines : GoodIn wsX0_longSigns wsX4_lines := goodIn_r _ [6, 7, 8, 9, 10, 11, 12, 13, 29, 30, 31, 32, 33] (by decide +kernel) (by decide +kernel)
set_option maxRecDepth 20000 in
theorem gX0_longSigns_X4_lines : GoodIn wsX0_longSigns (wsV RX0 56 RX4 yX4_lines wsX4_lines) := goodIn_app (goodIn_of _ (by decide +kernel)) ggX0_longSigns_X4_lines
set_option maxRecDepth 20000 in
theorem ggX0_longSigns_X4_length : GoodIn wsX0_longSigns wsX4_length := goodIn_r _ [17, 7, 18, 19, 20, 11, 21, 13, 22, 29, 30, 31, 32, 33] (by decide +kernel) (by decide +kernel)
set_option maxRecDepth 20000 in
theorem gX0_longSigns_X4_length : GoodIn wsX0_longSigns (wsV RX0 115 RX4 yX4_length wsX4_length) := goodIn_app (goodIn_of _ (by decide +kernel)) ggX0_longSigns_X4_length
theorem dX0_longSigns_0 : decode cX0_longSigns 0 = .ok (.iconst 0, 1) := by decide +kernel
theorem dX0_longSigns_1 : decode cX0_longSigns 1 = .ok (.istore_n 1, 1) := by decide +kernel
theorem dX0_longSigns_2 : decode cX0_longSigns 2 = .ok (.iconst 0, 1) := by decide +kernel
theorem dX0_longSigns_3 : decode cX0_longSigns 3 = .ok (.istore_n 2, 1) := by decide +kernel
theorem dX0_longSigns_4 : decode cX0_longSigns 4 = .ok (.iload_n 2, 1) := by decide +kernel
theorem dX0_longSigns_5 : decode cX0_longSigns 5 = .ok (.aload_n 0, 1) := by decide +kernel
theorem dX0_longSigns_6 : decode cX0_longSigns 6 = .ok (.getfield 32, 3) := by decide +kernel
theorem dX0_longSigns_9 : decode cX0_longSigns 9 = .ok (.invokevirtual 56, 3) := by decide +kernel
theorem dX0_longSigns_12 : decode cX0_longSigns 12 = .ok (.if_icmp .ge 24, 3) := by decide +kernel
theorem dX0_longSigns_15 : decode cX0_longSigns 15 = .ok (.aload_n 0, 1) := by decide +kernel
theorem dX0_longSigns_16 : decode cX0_longSigns 16 = .ok (.getfield 32, 3) := by decide +kernel
theorem dX0_longSigns_19 : decode cX0_longSigns 19 = .ok (.iload_n 2, 1) := by decide +kernel
theorem dX0_longSigns_20 : decode cX0_longSigns 20 = .ok (.invokevirtual 115, 3) := by decide +kernel
theorem dX0_longSigns_23 : decode cX0_longSigns 23 = .ok (.iconst 2, 1) := by decide +kernel
theorem dX0_longSigns_24 : decode cX0_longSigns 24 = .ok (.if_icmp .ne 6, 3) := by decide +kernel
theorem dX0_longSigns_27 : decode cX0_longSigns 27 = .ok (.iinc 1 1, 3) := by decide +kernel
theorem dX0_longSigns_30 : decode cX0_longSigns 30 = .ok (.iinc 2 1, 3) := by decide +kernel
theorem dX0_longSigns_33 : decode cX0_longSigns 33 = .ok (.goto (-29), 3) := by decide +kernel
theorem dX0_longSigns_36 : decode cX0_longSigns 36 = .ok (.iload_n 1, 1) := by decide +kernel
theorem dX0_longSigns_37 : decode cX0_longSigns 37 = .ok (.ireturn, 1) := by decide +kernel
set_option maxRecDepth 20000 in
theorem ggX1_init_X0_init : GoodIn wsX1_init wsX0_init := goodIn_r _ [10, 11, 2, 3, 12, 13, 14, 15, 16, 17, 18, 19, 20, 21, 22, 23, 24, 25, 26, 27, 28, 29, 30, 31, 32, 33, 34, 35, 36, 37, 38, 39, 40, 41, 42, 43, 44, 45, 46, 47, 48, 49, 50, 51, 52, 53, 54, 55, 56, 57, 58, 59, 60, 61, 62, 63, 64, 65, 66, 67, 68, 69, 70, 71, 72, 73, 74, 75, 76, 77, 78, 79, 80, 81, 82, 83, 84, 85, 86, 87, 88, 97, 98, 99, 91, 92, 93, 94, 95, 96, 100, 101] (by decide +kernel) (by decide +kernel)
set_option maxRecDepth 20000 in
theorem gX1_init_X0_init : GoodIn wsX1_init (wsX0_init) := ggX1_init_X0_init
theorem dX1_init_0 : decode cX1_init 0 = .ok (.aload_n 0, 1) := by decide +kernel
theorem dX1_init_1 : decode cX1_init 1 = .ok (.invokespecial 3, 3) := by decide +kernel
theorem dX1_init_4 : decode cX1_init 4 = .ok (.aload_n 0, 1) := by decide +kernel
theorem dX1_init_5 : decode cX1_init 5 = .ok (.iconst 4, 1) := by decide +kernel
theorem dX1_init_6 : decode cX1_init 6 = .ok (.anewarray 9, 3) := by decide +kernel
theorem dX1_init_9 : decode cX1_init 9 = .ok (.putfield 11, 3) := by decide +kernel
theorem dX1_init_12 : decode cX1_init 12 = .ok (.iconst 0, 1) := by decide +kernel
theorem dX1_init_13 : decode cX1_init 13 = .ok (.istore_n 1, 1) := by decide +kernel
theorem dX1_init_14 : decode cX1_init 14 = .ok (.iload_n 1, 1) := by decide +kernel
theorem dX1_init_15 : decode cX1_init 15 = .ok (.aload_n 0, 1) := by decide +kernel
theorem dX1_init_16 : decode cX1_init 16 = .ok (.getfield 11, 3) := by decide +kernel
theorem dX1_init_19 : decode cX1_init 19 = .ok (.arraylength, 1) := by decide +kernel
theorem dX1_init_20 : decode cX1_init 20 = .ok (.if_icmp .ge 26, 3) := by decide +kernel
theorem dX1_init_23 : decode cX1_init 23 = .ok (.aload_n 0, 1) := by decide +kernel
theorem dX1_init_24 : decode cX1_init 24 = .ok (.getfield 11, 3) := by decide +kernel
theorem dX1_init_27 : decode cX1_init 27 = .ok (.iload_n 1, 1) := by decide +kernel
theorem dX1_init_28 : decode cX1_init 28 = .ok (.new 9, 3) := by decide +kernel
theorem dX1_init_31 : decode cX1_init 31 = .ok (.dup, 1) := by decide +kernel
theorem dX1_init_32 : decode cX1_init 32 = .ok (.bipush 30, 2) := by decide +kernel
theorem dX1_init_34 : decode cX1_init 34 = .ok (.bipush 20, 2) := by decide +kernel
theorem dX1_init_36 : decode cX1_init 36 = .ok (.invokespecial 17, 3) := by decide +kernel
theorem dX1_init_39 : decode cX1_init 39 = .ok (.aastore, 1) := by decide +kernel
theorem dX1_init_40 : decode cX1_init 40 = .ok (.iinc 1 1, 3) := by decide +kernel
theorem dX1_init_43 : decode cX1_init 43 = .ok (.goto (-29), 3) := by decide +kernel
theorem dX1_init_46 : decode cX1_init 46 = .ok (.return_, 1) := by decide +kernel
theorem dX1_states_0 : decode cX1_states 0 = .ok (.aload_n 0, 1) := by decide +kernel
theorem dX1_states_1 : decode cX1_states 1 = .ok (.getfield 20, 3) := by decide +kernel
theorem dX1_states_4 : decode cX1_states 4 = .ok (.ireturn, 1) := by decide +kernel
set_option maxRecDepth 20000 in
theorem ggX1_record_X1_dropOldest : GoodIn wsX1_record wsX1_dropOldest := goodIn_r _ [7, 2, 1, 8, 9, 10, 11, 64, 65] (by decide +kernel) (by decide +kernel)
set_option maxRecDepth 20000 in
theorem gX1_record_X1_dropOldest : GoodIn wsX1_record (wsV RX1 24 RX1 yX1_dropOldest wsX1_dropOldest) := goodIn_app (goodIn_of _ (by decide +kernel)) ggX1_record_X1_dropOldest
set_option maxRecDepth 20000 in
theorem ggX1_record_X0_copyFrom : GoodIn wsX1_record wsX0_copyFrom := goodIn_r _ [16, 17, 18, 19, 20, 21, 22, 23, 24, 25, 26, 27, 28, 29, 30, 31, 32, 33, 34, 35, 36, 37, 38, 39, 40, 41, 42, 43, 44, 45, 46, 47, 48, 49, 50, 51, 52, 53, 54, 55, 56, 57, 58, 59, 60, 61, 62, 63, 66, 67, 68, 69, 70, 71, 72, 73, 74, 75, 76] (by decide +kernel) (by decide +kernel)
set_option maxRecDepth 20000 in
theorem gX1_record_X0_copyFrom : GoodIn wsX1_record (wsV RX1 27 RX0 yX0_copyFrom wsX0_copyFrom) := goodIn_app (goodIn_of _ (by decide +kernel)) ggX1_record_X0_copyFrom
theorem dX1_record_0 : decode cX1_record 0 = .ok (.aload_n 0, 1) := by decide +kernel
theorem dX1_record_1 : decode cX1_record 1 = .ok (.getfield 20, 3) := by decide +kernel
theorem dX1_record_4 : decode cX1_record 4 = .ok (.aload_n 0, 1) := by decide +kernel
theorem dX1_record_5 : decode cX1_record 5 = .ok (.getfield 11, 3) := by decide +kernel
theorem dX1_record_8 : decode cX1_record 8 = .ok (.arraylength, 1) := by decide +kernel
theorem dX1_record_9 : decode cX1_record 9 = .ok (.if_icmp .lt 7, 3) := by decide +kernel
theorem dX1_record_12 : decode cX1_record 12 = .ok (.aload_n 0, 1) := by decide +kernel
theorem dX1_record_13 : decode cX1_record 13 = .ok (.invokevirtual 24, 3) := by decide +kernel
theorem dX1_record_16 : decode cX1_record 16 = .ok (.aload_n 0, 1) := by decide +kernel
theorem dX1_record_17 : decode cX1_record 17 = .ok (.getfield 20, 3) := by decide +kernel
theorem dX1_record_20 : decode cX1_record 20 = .ok (.ifCond .lt 50, 3) := by decide +kernel
theorem dX1_record_23 : decode cX1_record 23 = .ok (.aload_n 0, 1) := by decide +kernel
theorem dX1_record_24 : decode cX1_record 24 = .ok (.getfield 20, 3) := by decide +kernel
theorem dX1_record_27 : decode cX1_record 27 = .ok (.aload_n 0, 1) := by decide +kernel
theorem dX1_record_28 : decode cX1_record 28 = .ok (.getfield 11, 3) := by decide +kernel
theorem dX1_record_31 : decode cX1_record 31 = .ok (.arraylength, 1) := by decide +kernel
theorem dX1_record_32 : decode cX1_record 32 = .ok (.if_icmp .ge 38, 3) := by decide +kernel
theorem dX1_record_35 : decode cX1_record 35 = .ok (.aload_n 0, 1) := by decide +kernel
theorem dX1_record_36 : decode cX1_record 36 = .ok (.getfield 11, 3) := by decide +kernel
theorem dX1_record_39 : decode cX1_record 39 = .ok (.aload_n 0, 1) := by decide +kernel
theorem dX1_record_40 : decode cX1_record 40 = .ok (.getfield 20, 3) := by decide +kernel
theorem dX1_record_43 : decode cX1_record 43 = .ok (.aaload, 1) := by decide +kernel
theorem dX1_record_44 : decode cX1_record 44 = .ok (.ifnull 26, 3) := by decide +kernel
theorem dX1_record_47 : decode cX1_record 47 = .ok (.aload_n 0, 1) := by decide +kernel
theorem dX1_record_48 : decode cX1_record 48 = .ok (.getfield 11, 3) := by decide +kernel
theorem dX1_record_51 : decode cX1_record 51 = .ok (.aload_n 0, 1) := by decide +kernel
theorem dX1_record_52 : decode cX1_record 52 = .ok (.getfield 20, 3) := by decide +kernel
theorem dX1_record_55 : decode cX1_record 55 = .ok (.aaload, 1) := by decide +kernel
theorem dX1_record_56 : decode cX1_record 56 = .ok (.aload_n 1, 1) := by decide +kernel
theorem dX1_record_57 : decode cX1_record 57 = .ok (.invokevirtual 27, 3) := by decide +kernel
theorem dX1_record_60 : decode cX1_record 60 = .ok (.aload_n 0, 1) := by decide +kernel
theorem dX1_record_61 : decode cX1_record 61 = .ok (.dup, 1) := by decide +kernel
theorem dX1_record_62 : decode cX1_record 62 = .ok (.getfield 20, 3) := by decide +kernel
theorem dX1_record_65 : decode cX1_record 65 = .ok (.iconst 1, 1) := by decide +kernel
theorem dX1_record_66 : decode cX1_record 66 = .ok (.iadd, 1) := by decide +kernel
theorem dX1_record_67 : decode cX1_record 67 = .ok (.putfield 20, 3) := by decide +kernel
theorem dX1_record_70 : decode cX1_record 70 = .ok (.return_, 1) := by decide +kernel
theorem dX1_dropOldest_0 : decode cX1_dropOldest 0 = .ok (.iconst 0, 1) := by decide +kernel
theorem dX1_dropOldest_1 : decode cX1_dropOldest 1 = .ok (.istore_n 1, 1) := by decide +kernel
theorem dX1_dropOldest_2 : decode cX1_dropOldest 2 = .ok (.iload_n 1, 1) := by decide +kernel
theorem dX1_dropOldest_3 : decode cX1_dropOldest 3 = .ok (.iconst 1, 1) := by decide +kernel
theorem dX1_dropOldest_4 : decode cX1_dropOldest 4 = .ok (.iadd, 1) := by decide +kernel
theorem dX1_dropOldest_5 : decode cX1_dropOldest 5 = .ok (.aload_n 0, 1) := by decide +kernel
theorem dX1_dropOldest_6 : decode cX1_dropOldest 6 = .ok (.getfield 11, 3) := by decide +kernel
theorem dX1_dropOldest_9 : decode cX1_dropOldest 9 = .ok (.arraylength, 1) := by decide +kernel
theorem dX1_dropOldest_10 : decode cX1_dropOldest 10 = .ok (.if_icmp .ge 39, 3) := by decide +kernel
theorem dX1_dropOldest_13 : decode cX1_dropOldest 13 = .ok (.aload_n 0, 1) := by decide +kernel
theorem dX1_dropOldest_14 : decode cX1_dropOldest 14 = .ok (.getfield 11, 3) := by decide +kernel
theorem dX1_dropOldest_17 : decode cX1_dropOldest 17 = .ok (.iload_n 1, 1) := by decide +kernel
theorem dX1_dropOldest_18 : decode cX1_dropOldest 18 = .ok (.aaload, 1) := by decide +kernel
theorem dX1_dropOldest_19 : decode cX1_dropOldest 19 = .ok (.astore_n 2, 1) := by decide +kernel
theorem dX1_dropOldest_20 : decode cX1_dropOldest 20 = .ok (.aload_n 0, 1) := by decide +kernel
theorem dX1_dropOldest_21 : decode cX1_dropOldest 21 = .ok (.getfield 11, 3) := by decide +kernel
theorem dX1_dropOldest_24 : decode cX1_dropOldest 24 = .ok (.iload_n 1, 1) := by decide +kernel
theorem dX1_dropOldest_25 : decode cX1_dropOldest 25 = .ok (.aload_n 0, 1) := by decide +kernel
theorem dX1_dropOldest_26 : decode cX1_dropOldest 26 = .ok (.getfield 11, 3) := by decide +kernel
theorem dX1_dropOldest_29 : decode cX1_dropOldest 29 = .ok (.iload_n 1, 1) := by decide +kernel
theorem dX1_dropOldest_30 : decode cX1_dropOldest 30 = .ok (.iconst 1, 1) := by decide +kernel
theorem dX1_dropOldest_31 : decode cX1_dropOldest 31 = .ok (.iadd, 1) := by decide +kernel
theorem dX1_dropOldest_32 : decode cX1_dropOldest 32 = .ok (.aaload, 1) := by decide +kernel
theorem dX1_dropOldest_33 : decode cX1_dropOldest 33 = .ok (.aastore, 1) := by decide +kernel
theorem dX1_dropOldest_34 : decode cX1_dropOldest 34 = .ok (.aload_n 0, 1) := by decide +kernel
theorem dX1_dropOldest_35 : decode cX1_dropOldest 35 = .ok (.getfield 11, 3) := by decide +kernel
theorem dX1_dropOldest_38 : decode cX1_dropOldest 38 = .ok (.iload_n 1, 1) := by decide +kernel
theorem dX1_dropOldest_39 : decode cX1_dropOldest 39 = .ok (.iconst 1, 1) := by decide +kernel
theorem dX1_dropOldest_40 : decode cX1_dropOldest 40 = .ok (.iadd, 1) := by decide +kernel
theorem dX1_dropOldest_41 : decode cX1_dropOldest 41 = .ok (.aload_n 2, 1) := by decide +kernel
theorem dX1_dropOldest_42 : decode cX1_dropOldest 42 = .ok (.aastore, 1) := by decide +kernel
theorem dX1_dropOldest_43 : decode cX1_dropOldest 43 = .ok (.iinc 1 1, 3) := by decide +kernel
theorem dX1_dropOldest_46 : decode cX1_dropOldest 46 = .ok (.goto (-44), 3) := by decide +kernel
theorem dX1_dropOldest_49 : decode cX1_dropOldest 49 = .ok (.aload_n 0, 1) := by decide +kernel
theorem dX1_dropOldest_50 : decode cX1_dropOldest 50 = .ok (.aload_n 0, 1) := by decide +kernel
theorem dX1_dropOldest_51 : decode cX1_dropOldest 51 = .ok (.getfield 20, 3) := by decide +kernel
theorem dX1_dropOldest_54 : decode cX1_dropOldest 54 = .ok (.iconst 1, 1) := by decide +kernel
theorem dX1_dropOldest_55 : decode cX1_dropOldest 55 = .ok (.isub, 1) := by decide +kernel
theorem dX1_dropOldest_56 : decode cX1_dropOldest 56 = .ok (.iconst 0, 1) := by decide +kernel
theorem dX1_dropOldest_57 : decode cX1_dropOldest 57 = .ok (.invokestatic 31, 3) := by decide +kernel
theorem dX1_dropOldest_60 : decode cX1_dropOldest 60 = .ok (.putfield 20, 3) := by decide +kernel
theorem dX1_dropOldest_63 : decode cX1_dropOldest 63 = .ok (.return_, 1) := by decide +kernel
set_option maxRecDepth 20000 in
theorem ggX1_bringBack_X0_copyFrom : GoodIn wsX1_bringBack wsX0_copyFrom := goodIn_r _ [7, 8, 9, 10, 11, 12, 13, 14, 15, 16, 17, 18, 19, 20, 21, 22, 23, 24, 25, 26, 27, 28, 29, 30, 31, 32, 33, 34, 35, 36, 37, 38, 39, 40, 41, 42, 43, 44, 45, 46, 47, 48, 49, 50, 51, 52, 53, 54, 57, 58, 59, 60, 61, 62, 63, 64, 65, 66, 67] (by decide +kernel) (by decide +kernel)
set_option maxRecDepth 20000 in
theorem gX1_bringBack_X0_copyFrom : GoodIn wsX1_bringBack (wsV RX1 27 RX0 yX0_copyFrom wsX0_copyFrom) := goodIn_app (goodIn_of _ (by decide +kernel)) ggX1_bringBack_X0_copyFrom
theorem dX1_bringBack_0 : decode cX1_bringBack 0 = .ok (.aload_n 0, 1) := by decide +kernel
theorem dX1_bringBack_1 : decode cX1_bringBack 1 = .ok (.getfield 20, 3) := by decide +kernel
theorem dX1_bringBack_4 : decode cX1_bringBack 4 = .ok (.iconst 1, 1) := by decide +kernel
theorem dX1_bringBack_5 : decode cX1_bringBack 5 = .ok (.isub, 1) := by decide +kernel
theorem dX1_bringBack_6 : decode cX1_bringBack 6 = .ok (.istore_n 2, 1) := by decide +kernel
theorem dX1_bringBack_7 : decode cX1_bringBack 7 = .ok (.iload_n 2, 1) := by decide +kernel
theorem dX1_bringBack_8 : decode cX1_bringBack 8 = .ok (.ifCond .lt 36, 3) := by decide +kernel
theorem dX1_bringBack_11 : decode cX1_bringBack 11 = .ok (.iload_n 2, 1) := by decide +kernel
theorem dX1_bringBack_12 : decode cX1_bringBack 12 = .ok (.aload_n 0, 1) := by decide +kernel
theorem dX1_bringBack_13 : decode cX1_bringBack 13 = .ok (.getfield 11, 3) := by decide +kernel
theorem dX1_bringBack_16 : decode cX1_bringBack 16 = .ok (.arraylength, 1) := by decide +kernel
theorem dX1_bringBack_17 : decode cX1_bringBack 17 = .ok (.if_icmp .ge 27, 3) := by decide +kernel
theorem dX1_bringBack_20 : decode cX1_bringBack 20 = .ok (.aload_n 0, 1) := by decide +kernel
theorem dX1_bringBack_21 : decode cX1_bringBack 21 = .ok (.getfield 11, 3) := by decide +kernel
theorem dX1_bringBack_24 : decode cX1_bringBack 24 = .ok (.iload_n 2, 1) := by decide +kernel
theorem dX1_bringBack_25 : decode cX1_bringBack 25 = .ok (.aaload, 1) := by decide +kernel
theorem dX1_bringBack_26 : decode cX1_bringBack 26 = .ok (.ifnull 18, 3) := by decide +kernel
theorem dX1_bringBack_29 : decode cX1_bringBack 29 = .ok (.aload_n 1, 1) := by decide +kernel
theorem dX1_bringBack_30 : decode cX1_bringBack 30 = .ok (.aload_n 0, 1) := by decide +kernel
theorem dX1_bringBack_31 : decode cX1_bringBack 31 = .ok (.getfield 11, 3) := by decide +kernel
theorem dX1_bringBack_34 : decode cX1_bringBack 34 = .ok (.iload_n 2, 1) := by decide +kernel
theorem dX1_bringBack_35 : decode cX1_bringBack 35 = .ok (.aaload, 1) := by decide +kernel
theorem dX1_bringBack_36 : decode cX1_bringBack 36 = .ok (.invokevirtual 27, 3) := by decide +kernel
theorem dX1_bringBack_39 : decode cX1_bringBack 39 = .ok (.aload_n 0, 1) := by decide +kernel
theorem dX1_bringBack_40 : decode cX1_bringBack 40 = .ok (.iload_n 2, 1) := by decide +kernel
theorem dX1_bringBack_41 : decode cX1_bringBack 41 = .ok (.putfield 20, 3) := by decide +kernel
theorem dX1_bringBack_44 : decode cX1_bringBack 44 = .ok (.return_, 1) := by decide +kernel
set_option maxRecDepth 20000 in
theorem ggX2_init_X3_init : GoodIn wsX2_init wsX3_init := goodIn_r _ [11, 12, 2, 3, 13, 14, 15, 16, 17, 18, 19, 20] (by decide +kernel) (by decide +kernel)
set_option maxRecDepth 20000 in
theorem gX2_init_X3_init : GoodIn wsX2_init (wsX3_init) := ggX2_init_X3_init
theorem dX2_init_0 : decode cX2_init 0 = .ok (.aload_n 0, 1) := by decide +kernel
theorem dX2_init_1 : decode cX2_init 1 = .ok (.invokespecial 3, 3) := by decide +kernel
theorem dX2_init_4 : decode cX2_init 4 = .ok (.aload_n 0, 1) := by decide +kernel
theorem dX2_init_5 : decode cX2_init 5 = .ok (.new 9, 3) := by decide +kernel
theorem dX2_init_8 : decode cX2_init 8 = .ok (.dup, 1) := by decide +kernel
theorem dX2_init_9 : decode cX2_init 9 = .ok (.bipush 25, 2) := by decide +kernel
theorem dX2_init_11 : decode cX2_init 11 = .ok (.invokespecial 11, 3) := by decide +kernel
theorem dX2_init_14 : decode cX2_init 14 = .ok (.putfield 14, 3) := by decide +kernel
theorem dX2_init_17 : decode cX2_init 17 = .ok (.aload_n 0, 1) := by decide +kernel
theorem dX2_init_18 : decode cX2_init 18 = .ok (.aload_n 1, 1) := by decide +kernel
theorem dX2_init_19 : decode cX2_init 19 = .ok (.putfield 20, 3) := by decide +kernel
theorem dX2_init_22 : decode cX2_init 22 = .ok (.return_, 1) := by decide +kernel
theorem dX2_begin_0 : decode cX2_begin 0 = .ok (.aload_n 0, 1) := by decide +kernel
theorem dX2_begin_1 : decode cX2_begin 1 = .ok (.iconst 0, 1) := by decide +kernel
theorem dX2_begin_2 : decode cX2_begin 2 = .ok (.putfield 23, 3) := by decide +kernel
theorem dX2_begin_5 : decode cX2_begin 5 = .ok (.return_, 1) := by decide +kernel
set_option maxRecDepth 20000 in
theorem ggX2_isAtEnd_X3_size : GoodIn wsX2_isAtEnd wsX3_size := goodIn_r _ [7, 8, 16, 17] (by decide +kernel) (by decide +kernel)
set_option maxRecDepth 20000 in
theorem gX2_isAtEnd_X3_size : GoodIn wsX2_isAtEnd (wsV RX2 27 RX3 yX3_size wsX3_size) := goodIn_app (goodIn_of _ (by decide +kernel)) ggX2_isAtEnd_X3_size
theorem dX2_isAtEnd_0 : decode cX2_isAtEnd 0 = .ok (.aload_n 0, 1) := by decide +kernel
theorem dX2_isAtEnd_1 : decode cX2_isAtEnd 1 = .ok (.getfield 23, 3) := by decide +kernel
theorem dX2_isAtEnd_4 : decode cX2_isAtEnd 4 = .ok (.aload_n 0, 1) := by decide +kernel
theorem dX2_isAtEnd_5 : decode cX2_isAtEnd 5 = .ok (.getfield 20, 3) := by decide +kernel
theorem dX2_isAtEnd_8 : decode cX2_isAtEnd 8 = .ok (.invokevirtual 27, 3) := by decide +kernel
theorem dX2_isAtEnd_11 : decode cX2_isAtEnd 11 = .ok (.if_icmp .lt 7, 3) := by decide +kernel
theorem dX2_isAtEnd_14 : decode cX2_isAtEnd 14 = .ok (.iconst 1, 1) := by decide +kernel
theorem dX2_isAtEnd_15 : decode cX2_isAtEnd 15 = .ok (.goto 4, 3) := by decide +kernel
theorem dX2_isAtEnd_18 : decode cX2_isAtEnd 18 = .ok (.iconst 0, 1) := by decide +kernel
theorem dX2_isAtEnd_19 : decode cX2_isAtEnd 19 = .ok (.ireturn, 1) := by decide +kernel
theorem dX2_fault_0 : decode cX2_fault 0 = .ok (.bipush (-100), 2) := by decide +kernel
theorem dX2_fault_2 : decode cX2_fault 2 = .ok (.aload_n 0, 1) := by decide +kernel
theorem dX2_fault_3 : decode cX2_fault 3 = .ok (.getfield 23, 3) := by decide +kernel
theorem dX2_fault_6 : decode cX2_fault 6 = .ok (.isub, 1) := by decide +kernel
theorem dX2_fault_7 : decode cX2_fault 7 = .ok (.ireturn, 1) := by decide +kernel
set_option maxRecDepth 20000 in
theorem ggX2_take_X3_get : GoodIn wsX2_take wsX3_get := goodIn_r _ [7, 8, 9, 17, 18] (by decide +kernel) (by decide +kernel)
set_option maxRecDepth 20000 in
theorem gX2_take_X3_get : GoodIn wsX2_take (wsV RX2 31 RX3 yX3_get wsX3_get) := goodIn_app (goodIn_of _ (by decide +kernel)) ggX2_take_X3_get
theorem dX2_take_0 : decode cX2_take 0 = .ok (.aload_n 0, 1) := by decide +kernel
theorem dX2_take_1 : decode cX2_take 1 = .ok (.getfield 20, 3) := by decide +kernel
theorem dX2_take_4 : decode cX2_take 4 = .ok (.aload_n 0, 1) := by decide +kernel
theorem dX2_take_5 : decode cX2_take 5 = .ok (.getfield 23, 3) := by decide +kernel
theorem dX2_take_8 : decode cX2_take 8 = .ok (.invokevirtual 31, 3) := by decide +kernel
theorem dX2_take_11 : decode cX2_take 11 = .ok (.iload_n 1, 1) := by decide +kernel
theorem dX2_take_12 : decode cX2_take 12 = .ok (.if_icmp .ne 7, 3) := by decide +kernel
theorem dX2_take_15 : decode cX2_take 15 = .ok (.iconst 1, 1) := by decide +kernel
theorem dX2_take_16 : decode cX2_take 16 = .ok (.goto 4, 3) := by decide +kernel
theorem dX2_take_19 : decode cX2_take 19 = .ok (.iconst 0, 1) := by decide +kernel
theorem dX2_take_20 : decode cX2_take 20 = .ok (.istore_n 2, 1) := by decide +kernel
theorem dX2_take_21 : decode cX2_take 21 = .ok (.iload_n 2, 1) := by decide +kernel
theorem dX2_take_22 : decode cX2_take 22 = .ok (.ifCond .eq 13, 3) := by decide +kernel
theorem dX2_take_25 : decode cX2_take 25 = .ok (.aload_n 0, 1) := by decide +kernel
theorem dX2_take_26 : decode cX2_take 26 = .ok (.dup, 1) := by decide +kernel
theorem dX2_take_27 : decode cX2_take 27 = .ok (.getfield 23, 3) := by decide +kernel
theorem dX2_take_30 : decode cX2_take 30 = .ok (.iconst 1, 1) := by decide +kernel
theorem dX2_take_31 : decode cX2_take 31 = .ok (.iadd, 1) := by decide +kernel
theorem dX2_take_32 : decode cX2_take 32 = .ok (.putfield 23, 3) := by decide +kernel
theorem dX2_take_35 : decode cX2_take 35 = .ok (.iload_n 2, 1) := by decide +kernel
theorem dX2_take_36 : decode cX2_take 36 = .ok (.ireturn, 1) := by decide +kernel
set_option maxRecDepth 20000 in
theorem ggX2_takeLetters_X3_clear : GoodIn wsX2_takeLetters wsX3_clear := goodIn_r _ [8, 9, 33, 34] (by decide +kernel) (by decide +kernel)
set_option maxRecDepth 20000 in
theorem gX2_takeLetters_X3_clear : GoodIn wsX2_takeLetters (wsV RX2 35 RX3 yX3_clear wsX3_clear) := goodIn_app (goodIn_of _ (by decide +kernel)) ggX2_takeLetters_X3_clear
set_option maxRecDepth 20000 in
theorem ggX2_takeLetters_X3_get : GoodIn wsX2_takeLetters wsX3_get := goodIn_r _ [13, 9, 14, 33, 34] (by decide +kernel) (by decide +kernel)
set_option maxRecDepth 20000 in
theorem gX2_takeLetters_X3_get : GoodIn wsX2_takeLetters (wsV RX2 31 RX3 yX3_get wsX3_get) := goodIn_app (goodIn_of _ (by decide +kernel)) ggX2_takeLetters_X3_get
set_option maxRecDepth 20000 in
theorem ggX2_takeLetters_X7_isSmall : GoodIn wsX2_takeLetters wsX7_isSmall := goodIn_r _ [17] (by decide +kernel) (by decide +kernel)
set_option maxRecDepth 20000 in
theorem gX2_takeLetters_X7_isSmall_n38 : GoodIn wsX2_takeLetters (wsX7_isSmall) := ggX2_takeLetters_X7_isSmall
set_option maxRecDepth 20000 in
theorem ggX2_takeLetters_X3_add : GoodIn wsX2_takeLetters wsX3_add := goodIn_r _ [21, 9, 14, 33, 34] (by decide +kernel) (by decide +kernel)
set_option maxRecDepth 20000 in
theorem gX2_takeLetters_X3_add : GoodIn wsX2_takeLetters (wsV RX2 42 RX3 yX3_add wsX3_add) := goodIn_app (goodIn_of _ (by decide +kernel)) ggX2_takeLetters_X3_add
set_option maxRecDepth 20000 in
theorem ggX2_takeLetters_X3_size : GoodIn wsX2_takeLetters wsX3_size := goodIn_r _ [25, 9, 33, 34] (by decide +kernel) (by decide +kernel)
set_option maxRecDepth 20000 in
theorem gX2_takeLetters_X3_size : GoodIn wsX2_takeLetters (wsV RX2 27 RX3 yX3_size wsX3_size) := goodIn_app (goodIn_of _ (by decide +kernel)) ggX2_takeLetters_X3_size
theorem dX2_takeLetters_0 : decode cX2_takeLetters 0 = .ok (.aload_n 0, 1) := by decide +kernel
theorem dX2_takeLetters_1 : decode cX2_takeLetters 1 = .ok (.getfield 14, 3) := by decide +kernel
theorem dX2_takeLetters_4 : decode cX2_takeLetters 4 = .ok (.invokevirtual 35, 3) := by decide +kernel
theorem dX2_takeLetters_7 : decode cX2_takeLetters 7 = .ok (.iconst 0, 1) := by decide +kernel
theorem dX2_takeLetters_8 : decode cX2_takeLetters 8 = .ok (.istore_n 2, 1) := by decide +kernel
theorem dX2_takeLetters_9 : decode cX2_takeLetters 9 = .ok (.iload_n 2, 1) := by decide +kernel
theorem dX2_takeLetters_10 : decode cX2_takeLetters 10 = .ok (.iload_n 1, 1) := by decide +kernel
theorem dX2_takeLetters_11 : decode cX2_takeLetters 11 = .ok (.if_icmp .ge 54, 3) := by decide +kernel
theorem dX2_takeLetters_14 : decode cX2_takeLetters 14 = .ok (.aload_n 0, 1) := by decide +kernel
theorem dX2_takeLetters_15 : decode cX2_takeLetters 15 = .ok (.getfield 20, 3) := by decide +kernel
theorem dX2_takeLetters_18 : decode cX2_takeLetters 18 = .ok (.aload_n 0, 1) := by decide +kernel
theorem dX2_takeLetters_19 : decode cX2_takeLetters 19 = .ok (.getfield 23, 3) := by decide +kernel
theorem dX2_takeLetters_22 : decode cX2_takeLetters 22 = .ok (.invokevirtual 31, 3) := by decide +kernel
theorem dX2_takeLetters_25 : decode cX2_takeLetters 25 = .ok (.invokestatic 38, 3) := by decide +kernel
theorem dX2_takeLetters_28 : decode cX2_takeLetters 28 = .ok (.ifCond .eq 37, 3) := by decide +kernel
theorem dX2_takeLetters_31 : decode cX2_takeLetters 31 = .ok (.aload_n 0, 1) := by decide +kernel
theorem dX2_takeLetters_32 : decode cX2_takeLetters 32 = .ok (.getfield 14, 3) := by decide +kernel
theorem dX2_takeLetters_35 : decode cX2_takeLetters 35 = .ok (.aload_n 0, 1) := by decide +kernel
theorem dX2_takeLetters_36 : decode cX2_takeLetters 36 = .ok (.getfield 20, 3) := by decide +kernel
theorem dX2_takeLetters_39 : decode cX2_takeLetters 39 = .ok (.aload_n 0, 1) := by decide +kernel
theorem dX2_takeLetters_40 : decode cX2_takeLetters 40 = .ok (.getfield 23, 3) := by decide +kernel
theorem dX2_takeLetters_43 : decode cX2_takeLetters 43 = .ok (.invokevirtual 31, 3) := by decide +kernel
theorem dX2_takeLetters_46 : decode cX2_takeLetters 46 = .ok (.invokevirtual 42, 3) := by decide +kernel
theorem dX2_takeLetters_49 : decode cX2_takeLetters 49 = .ok (.aload_n 0, 1) := by decide +kernel
theorem dX2_takeLetters_50 : decode cX2_takeLetters 50 = .ok (.dup, 1) := by decide +kernel
theorem dX2_takeLetters_51 : decode cX2_takeLetters 51 = .ok (.getfield 23, 3) := by decide +kernel
theorem dX2_takeLetters_54 : decode cX2_takeLetters 54 = .ok (.iconst 1, 1) := by decide +kernel
theorem dX2_takeLetters_55 : decode cX2_takeLetters 55 = .ok (.iadd, 1) := by decide +kernel
theorem dX2_takeLetters_56 : decode cX2_takeLetters 56 = .ok (.putfield 23, 3) := by decide +kernel
theorem dX2_takeLetters_59 : decode cX2_takeLetters 59 = .ok (.iinc 2 1, 3) := by decide +kernel
theorem dX2_takeLetters_62 : decode cX2_takeLetters 62 = .ok (.goto (-53), 3) := by decide +kernel
theorem dX2_takeLetters_65 : decode cX2_takeLetters 65 = .ok (.aload_n 0, 1) := by decide +kernel
theorem dX2_takeLetters_66 : decode cX2_takeLetters 66 = .ok (.getfield 14, 3) := by decide +kernel
theorem dX2_takeLetters_69 : decode cX2_takeLetters 69 = .ok (.invokevirtual 27, 3) := by decide +kernel
theorem dX2_takeLetters_72 : decode cX2_takeLetters 72 = .ok (.ifCond .le 7, 3) := by decide +kernel
theorem dX2_takeLetters_75 : decode cX2_takeLetters 75 = .ok (.iconst 1, 1) := by decide +kernel
theorem dX2_takeLetters_76 : decode cX2_takeLetters 76 = .ok (.goto 4, 3) := by decide +kernel
theorem dX2_takeLetters_79 : decode cX2_takeLetters 79 = .ok (.iconst 0, 1) := by decide +kernel
theorem dX2_takeLetters_80 : decode cX2_takeLetters 80 = .ok (.ireturn, 1) := by decide +kernel
set_option maxRecDepth 20000 in
theorem ggX2_takeEntry_X3_get : GoodIn wsX2_takeEntry wsX3_get := goodIn_r _ [7, 8, 9, 71, 72] (by decide +kernel) (by decide +kernel)
set_option maxRecDepth 20000 in
theorem gX2_takeEntry_X3_get : GoodIn wsX2_takeEntry (wsV RX2 31 RX3 yX3_get wsX3_get) := goodIn_app (goodIn_of _ (by decide +kernel)) ggX2_takeEntry_X3_get
set_option maxRecDepth 20000 in
theorem ggX2_takeEntry_X2_takeWord : GoodIn wsX2_takeEntry wsX2_takeWord := goodIn_r _ [14, 15, 16, 17, 18, 19, 13, 20, 1, 2, 3, 4, 5, 6, 7, 8, 9, 21, 22, 23, 24, 25, 26, 27, 28, 29, 30, 31, 32, 33, 34, 35, 36, 37, 38, 39, 40, 64, 65, 66, 67, 68, 69, 70, 71, 72] (by decide +kernel) (by decide +kernel)
set_option maxRecDepth 20000 in
theorem gX2_takeEntry_X2_takeWord : GoodIn wsX2_takeEntry (wsV RX2 45 RX2 yX2_takeWord wsX2_takeWord) := goodIn_app (goodIn_of _ (by decide +kernel)) ggX2_takeEntry_X2_takeWord
set_option maxRecDepth 20000 in
theorem ggX2_takeEntry_X7_isCapital : GoodIn wsX2_takeEntry wsX7_isCapital := goodIn_r _ [42] (by decide +kernel) (by decide +kernel)
set_option maxRecDepth 20000 in
theorem gX2_takeEntry_X7_isCapital_n49 : GoodIn wsX2_takeEntry (wsX7_isCapital) := ggX2_takeEntry_X7_isCapital
set_option maxRecDepth 20000 in
theorem ggX2_takeEntry_X2_takeSign : GoodIn wsX2_takeEntry wsX2_takeSign := goodIn_r _ [46, 15, 47, 48, 49, 13, 50, 1, 2, 51, 3, 4, 5, 6, 7, 8, 9, 41, 31, 42, 17, 18, 19, 20, 21, 22, 23, 24, 25, 26, 27, 28, 29, 30, 32, 33, 34, 35, 36, 37, 38, 39, 40, 64, 65, 66, 67, 68, 69, 70, 71, 72] (by decide +kernel) (by decide +kernel)
set_option maxRecDepth 20000 in
theorem gX2_takeEntry_X2_takeSign : GoodIn wsX2_takeEntry (wsV RX2 52 RX2 yX2_takeSign wsX2_takeSign) := goodIn_app (goodIn_of _ (by decide +kernel)) ggX2_takeEntry_X2_takeSign
set_option maxRecDepth 20000 in
theorem ggX2_takeEntry_X2_takeRule : GoodIn wsX2_takeEntry wsX2_takeRule := goodIn_r _ [55, 15, 56, 21, 22, 23, 13, 24, 25, 1, 2, 26, 27, 28, 6, 29, 8, 3, 4, 5, 7, 9, 30, 31, 32, 33, 34, 35, 36, 37, 38, 39, 40, 17, 18, 19, 20, 47, 48, 49, 50, 51, 41, 42, 57, 58, 59, 60, 61, 62, 63, 64, 65, 66, 67, 68, 69, 70, 71, 72] (by decide +kernel) (by decide +kernel)
set_option maxRecDepth 20000 in
theorem gX2_takeEntry_X2_takeRule : GoodIn wsX2_takeEntry (wsV RX2 55 RX2 yX2_takeRule wsX2_takeRule) := goodIn_app (goodIn_of _ (by decide +kernel)) ggX2_takeEntry_X2_takeRule
theorem dX2_takeEntry_0 : decode cX2_takeEntry 0 = .ok (.aload_n 0, 1) := by decide +kernel
theorem dX2_takeEntry_1 : decode cX2_takeEntry 1 = .ok (.getfield 20, 3) := by decide +kernel
theorem dX2_takeEntry_4 : decode cX2_takeEntry 4 = .ok (.aload_n 0, 1) := by decide +kernel
theorem dX2_takeEntry_5 : decode cX2_takeEntry 5 = .ok (.getfield 23, 3) := by decide +kernel
theorem dX2_takeEntry_8 : decode cX2_takeEntry 8 = .ok (.invokevirtual 31, 3) := by decide +kernel
theorem dX2_takeEntry_11 : decode cX2_takeEntry 11 = .ok (.istore_n 1, 1) := by decide +kernel
theorem dX2_takeEntry_12 : decode cX2_takeEntry 12 = .ok (.iload_n 1, 1) := by decide +kernel
theorem dX2_takeEntry_13 : decode cX2_takeEntry 13 = .ok (.bipush 58, 2) := by decide +kernel
theorem dX2_takeEntry_15 : decode cX2_takeEntry 15 = .ok (.if_icmp .ne 8, 3) := by decide +kernel
theorem dX2_takeEntry_18 : decode cX2_takeEntry 18 = .ok (.aload_n 0, 1) := by decide +kernel
theorem dX2_takeEntry_19 : decode cX2_takeEntry 19 = .ok (.invokevirtual 45, 3) := by decide +kernel
theorem dX2_takeEntry_22 : decode cX2_takeEntry 22 = .ok (.ireturn, 1) := by decide +kernel
theorem dX2_takeEntry_23 : decode cX2_takeEntry 23 = .ok (.iload_n 1, 1) := by decide +kernel
theorem dX2_takeEntry_24 : decode cX2_takeEntry 24 = .ok (.invokestatic 49, 3) := by decide +kernel
theorem dX2_takeEntry_27 : decode cX2_takeEntry 27 = .ok (.ifCond .eq 10, 3) := by decide +kernel
theorem dX2_takeEntry_30 : decode cX2_takeEntry 30 = .ok (.aload_n 0, 1) := by decide +kernel
theorem dX2_takeEntry_31 : decode cX2_takeEntry 31 = .ok (.invokevirtual 52, 3) := by decide +kernel
theorem dX2_takeEntry_34 : decode cX2_takeEntry 34 = .ok (.goto 7, 3) := by decide +kernel
theorem dX2_takeEntry_37 : decode cX2_takeEntry 37 = .ok (.aload_n 0, 1) := by decide +kernel
theorem dX2_takeEntry_38 : decode cX2_takeEntry 38 = .ok (.invokevirtual 55, 3) := by decide +kernel
theorem dX2_takeEntry_41 : decode cX2_takeEntry 41 = .ok (.ireturn, 1) := by decide +kernel
set_option maxRecDepth 20000 in
theorem ggX2_takeRule_X2_takeLetters : GoodIn wsX2_takeRule wsX2_takeLetters := goodIn_r _ [7, 8, 9, 10, 11, 12, 13, 14, 15, 16, 17, 18, 19, 20, 21, 22, 23, 24, 25, 26, 27, 28, 29, 30, 31, 32, 51, 52, 53, 54, 55, 56, 57, 58, 59] (by decide +kernel) (by decide +kernel)
set_option maxRecDepth 20000 in
theorem gX2_takeRule_X2_takeLetters : GoodIn wsX2_takeRule (wsV RX2 61 RX2 yX2_takeLetters wsX2_takeLetters) := goodIn_app (goodIn_of _ (by decide +kernel)) ggX2_takeRule_X2_takeLetters
set_option maxRecDepth 20000 in
theorem ggX2_takeRule_X2_take : GoodIn wsX2_takeRule wsX2_take := goodIn_r _ [36, 9, 10, 17, 18, 19, 14, 20, 16, 21, 51, 52, 53, 54, 55, 56, 57, 58, 59] (by decide +kernel) (by decide +kernel)
set_option maxRecDepth 20000 in
theorem gX2_takeRule_X2_take : GoodIn wsX2_takeRule (wsV RX2 64 RX2 yX2_take wsX2_take) := goodIn_app (goodIn_of _ (by decide +kernel)) ggX2_takeRule_X2_take
set_option maxRecDepth 20000 in
theorem ggX2_takeRule_X2_takeSound : GoodIn wsX2_takeRule wsX2_takeSound := goodIn_r _ [40, 9, 10, 41, 17, 18, 19, 14, 20, 16, 21, 42, 23, 43, 51, 52, 53, 54, 55, 56, 57, 58, 59] (by decide +kernel) (by decide +kernel)
set_option maxRecDepth 20000 in
theorem gX2_takeRule_X2_takeSound : GoodIn wsX2_takeRule (wsV RX2 67 RX2 yX2_takeSound wsX2_takeSound) := goodIn_app (goodIn_of _ (by decide +kernel)) ggX2_takeRule_X2_takeSound
set_option maxRecDepth 20000 in
theorem ggX2_takeRule_X2_takeSide : GoodIn wsX2_takeRule wsX2_takeSide := goodIn_r _ [47, 9, 10, 17, 18, 19, 14, 20, 16, 21, 48, 49, 6, 50, 51, 52, 53, 54, 55, 56, 57, 58, 59] (by decide +kernel) (by decide +kernel)
set_option maxRecDepth 20000 in
theorem gX2_takeRule_X2_takeSide : GoodIn wsX2_takeRule (wsV RX2 70 RX2 yX2_takeSide wsX2_takeSide) := goodIn_app (goodIn_of _ (by decide +kernel)) ggX2_takeRule_X2_takeSide
theorem dX2_takeRule_0 : decode cX2_takeRule 0 = .ok (.aload_n 0, 1) := by decide +kernel
theorem dX2_takeRule_1 : decode cX2_takeRule 1 = .ok (.iconst 0, 1) := by decide +kernel
theorem dX2_takeRule_2 : decode cX2_takeRule 2 = .ok (.putfield 58, 3) := by decide +kernel
theorem dX2_takeRule_5 : decode cX2_takeRule 5 = .ok (.aload_n 0, 1) := by decide +kernel
theorem dX2_takeRule_6 : decode cX2_takeRule 6 = .ok (.iconst 4, 1) := by decide +kernel
theorem dX2_takeRule_7 : decode cX2_takeRule 7 = .ok (.invokevirtual 61, 3) := by decide +kernel
theorem dX2_takeRule_10 : decode cX2_takeRule 10 = .ok (.ifCond .eq 19, 3) := by decide +kernel
theorem dX2_takeRule_13 : decode cX2_takeRule 13 = .ok (.aload_n 0, 1) := by decide +kernel
theorem dX2_takeRule_14 : decode cX2_takeRule 14 = .ok (.bipush 61, 2) := by decide +kernel
theorem dX2_takeRule_16 : decode cX2_takeRule 16 = .ok (.invokevirtual 64, 3) := by decide +kernel
theorem dX2_takeRule_19 : decode cX2_takeRule 19 = .ok (.ifCond .eq 10, 3) := by decide +kernel
theorem dX2_takeRule_22 : decode cX2_takeRule 22 = .ok (.aload_n 0, 1) := by decide +kernel
theorem dX2_takeRule_23 : decode cX2_takeRule 23 = .ok (.invokevirtual 67, 3) := by decide +kernel
theorem dX2_takeRule_26 : decode cX2_takeRule 26 = .ok (.ifCond .ne 5, 3) := by decide +kernel
theorem dX2_takeRule_29 : decode cX2_takeRule 29 = .ok (.iconst 0, 1) := by decide +kernel
theorem dX2_takeRule_30 : decode cX2_takeRule 30 = .ok (.ireturn, 1) := by decide +kernel
theorem dX2_takeRule_31 : decode cX2_takeRule 31 = .ok (.aload_n 0, 1) := by decide +kernel
theorem dX2_takeRule_32 : decode cX2_takeRule 32 = .ok (.aload_n 0, 1) := by decide +kernel
theorem dX2_takeRule_33 : decode cX2_takeRule 33 = .ok (.invokevirtual 70, 3) := by decide +kernel
theorem dX2_takeRule_36 : decode cX2_takeRule 36 = .ok (.putfield 73, 3) := by decide +kernel
theorem dX2_takeRule_39 : decode cX2_takeRule 39 = .ok (.iconst 1, 1) := by decide +kernel
theorem dX2_takeRule_40 : decode cX2_takeRule 40 = .ok (.ireturn, 1) := by decide +kernel
set_option maxRecDepth 20000 in
theorem ggX2_takeSound_X3_get : GoodIn wsX2_takeSound wsX3_get := goodIn_r _ [8, 9, 10, 21, 22] (by decide +kernel) (by decide +kernel)
set_option maxRecDepth 20000 in
theorem gX2_takeSound_X3_get : GoodIn wsX2_takeSound (wsV RX2 31 RX3 yX3_get wsX3_get) := goodIn_app (goodIn_of _ (by decide +kernel)) ggX2_takeSound_X3_get
set_option maxRecDepth 20000 in
theorem ggX2_takeSound_X7_isCapital : GoodIn wsX2_takeSound wsX7_isCapital := goodIn_r _ [13] (by decide +kernel) (by decide +kernel)
set_option maxRecDepth 20000 in
theorem gX2_takeSound_X7_isCapital_n49 : GoodIn wsX2_takeSound (wsX7_isCapital) := ggX2_takeSound_X7_isCapital
theorem dX2_takeSound_0 : decode cX2_takeSound 0 = .ok (.aload_n 0, 1) := by decide +kernel
theorem dX2_takeSound_1 : decode cX2_takeSound 1 = .ok (.getfield 20, 3) := by decide +kernel
theorem dX2_takeSound_4 : decode cX2_takeSound 4 = .ok (.aload_n 0, 1) := by decide +kernel
theorem dX2_takeSound_5 : decode cX2_takeSound 5 = .ok (.getfield 23, 3) := by decide +kernel
theorem dX2_takeSound_8 : decode cX2_takeSound 8 = .ok (.invokevirtual 31, 3) := by decide +kernel
theorem dX2_takeSound_11 : decode cX2_takeSound 11 = .ok (.istore_n 1, 1) := by decide +kernel
theorem dX2_takeSound_12 : decode cX2_takeSound 12 = .ok (.iload_n 1, 1) := by decide +kernel
theorem dX2_takeSound_13 : decode cX2_takeSound 13 = .ok (.bipush 95, 2) := by decide +kernel
theorem dX2_takeSound_15 : decode cX2_takeSound 15 = .ok (.if_icmp .eq 12, 3) := by decide +kernel
theorem dX2_takeSound_18 : decode cX2_takeSound 18 = .ok (.iload_n 1, 1) := by decide +kernel
theorem dX2_takeSound_19 : decode cX2_takeSound 19 = .ok (.invokestatic 49, 3) := by decide +kernel
theorem dX2_takeSound_22 : decode cX2_takeSound 22 = .ok (.ifCond .ne 5, 3) := by decide +kernel
theorem dX2_takeSound_25 : decode cX2_takeSound 25 = .ok (.iconst 0, 1) := by decide +kernel
theorem dX2_takeSound_26 : decode cX2_takeSound 26 = .ok (.ireturn, 1) := by decide +kernel
theorem dX2_takeSound_27 : decode cX2_takeSound 27 = .ok (.aload_n 0, 1) := by decide +kernel
theorem dX2_takeSound_28 : decode cX2_takeSound 28 = .ok (.iload_n 1, 1) := by decide +kernel
theorem dX2_takeSound_29 : decode cX2_takeSound 29 = .ok (.bipush 95, 2) := by decide +kernel
theorem dX2_takeSound_31 : decode cX2_takeSound 31 = .ok (.if_icmp .ne 7, 3) := by decide +kernel
theorem dX2_takeSound_34 : decode cX2_takeSound 34 = .ok (.iconst 0, 1) := by decide +kernel
theorem dX2_takeSound_35 : decode cX2_takeSound 35 = .ok (.goto 4, 3) := by decide +kernel
theorem dX2_takeSound_38 : decode cX2_takeSound 38 = .ok (.iload_n 1, 1) := by decide +kernel
theorem dX2_takeSound_39 : decode cX2_takeSound 39 = .ok (.putfield 76, 3) := by decide +kernel
theorem dX2_takeSound_42 : decode cX2_takeSound 42 = .ok (.aload_n 0, 1) := by decide +kernel
theorem dX2_takeSound_43 : decode cX2_takeSound 43 = .ok (.dup, 1) := by decide +kernel
theorem dX2_takeSound_44 : decode cX2_takeSound 44 = .ok (.getfield 23, 3) := by decide +kernel
theorem dX2_takeSound_47 : decode cX2_takeSound 47 = .ok (.iconst 1, 1) := by decide +kernel
theorem dX2_takeSound_48 : decode cX2_takeSound 48 = .ok (.iadd, 1) := by decide +kernel
theorem dX2_takeSound_49 : decode cX2_takeSound 49 = .ok (.putfield 23, 3) := by decide +kernel
theorem dX2_takeSound_52 : decode cX2_takeSound 52 = .ok (.iconst 1, 1) := by decide +kernel
theorem dX2_takeSound_53 : decode cX2_takeSound 53 = .ok (.ireturn, 1) := by decide +kernel
set_option maxRecDepth 20000 in
theorem ggX2_takeSide_X3_get : GoodIn wsX2_takeSide wsX3_get := goodIn_r _ [7, 8, 9, 21, 22] (by decide +kernel) (by decide +kernel)
set_option maxRecDepth 20000 in
theorem gX2_takeSide_X3_get : GoodIn wsX2_takeSide (wsV RX2 31 RX3 yX3_get wsX3_get) := goodIn_app (goodIn_of _ (by decide +kernel)) ggX2_takeSide_X3_get
set_option maxRecDepth 20000 in
theorem ggX2_takeSide_X2_sideOf : GoodIn wsX2_takeSide wsX2_sideOf := goodIn_r _ [13] (by decide +kernel) (by decide +kernel)
set_option maxRecDepth 20000 in
theorem gX2_takeSide_X2_sideOf : GoodIn wsX2_takeSide (va_wsS RX2 79 yX2_sideOf wsX2_sideOf) := goodIn_app (goodIn_of _ (by decide +kernel)) ggX2_takeSide_X2_sideOf
theorem dX2_takeSide_0 : decode cX2_takeSide 0 = .ok (.aload_n 0, 1) := by decide +kernel
theorem dX2_takeSide_1 : decode cX2_takeSide 1 = .ok (.getfield 20, 3) := by decide +kernel
theorem dX2_takeSide_4 : decode cX2_takeSide 4 = .ok (.aload_n 0, 1) := by decide +kernel
theorem dX2_takeSide_5 : decode cX2_takeSide 5 = .ok (.getfield 23, 3) := by decide +kernel
theorem dX2_takeSide_8 : decode cX2_takeSide 8 = .ok (.invokevirtual 31, 3) := by decide +kernel
theorem dX2_takeSide_11 : decode cX2_takeSide 11 = .ok (.invokestatic 79, 3) := by decide +kernel
theorem dX2_takeSide_14 : decode cX2_takeSide 14 = .ok (.istore_n 1, 1) := by decide +kernel
theorem dX2_takeSide_15 : decode cX2_takeSide 15 = .ok (.iload_n 1, 1) := by decide +kernel
theorem dX2_takeSide_16 : decode cX2_takeSide 16 = .ok (.ifCond .eq 13, 3) := by decide +kernel
theorem dX2_takeSide_19 : decode cX2_takeSide 19 = .ok (.aload_n 0, 1) := by decide +kernel
theorem dX2_takeSide_20 : decode cX2_takeSide 20 = .ok (.dup, 1) := by decide +kernel
theorem dX2_takeSide_21 : decode cX2_takeSide 21 = .ok (.getfield 23, 3) := by decide +kernel
theorem dX2_takeSide_24 : decode cX2_takeSide 24 = .ok (.iconst 1, 1) := by decide +kernel
theorem dX2_takeSide_25 : decode cX2_takeSide 25 = .ok (.iadd, 1) := by decide +kernel
theorem dX2_takeSide_26 : decode cX2_takeSide 26 = .ok (.putfield 23, 3) := by decide +kernel
theorem dX2_takeSide_29 : decode cX2_takeSide 29 = .ok (.iload_n 1, 1) := by decide +kernel
theorem dX2_takeSide_30 : decode cX2_takeSide 30 = .ok (.ireturn, 1) := by decide +kernel
theorem dX2_sideOf_0 : decode cX2_sideOf 0 = .ok (.iload_n 0, 1) := by decide +kernel
theorem dX2_sideOf_1 : decode cX2_sideOf 1 = .ok (.lookupswitch 61 #[(36, 53), (43, 55), (45, 57), (60, 59), (94, 51)], 51) := by decide +kernel
theorem dX2_sideOf_52 : decode cX2_sideOf 52 = .ok (.iconst 1, 1) := by decide +kernel
theorem dX2_sideOf_53 : decode cX2_sideOf 53 = .ok (.ireturn, 1) := by decide +kernel
theorem dX2_sideOf_54 : decode cX2_sideOf 54 = .ok (.iconst 2, 1) := by decide +kernel
theorem dX2_sideOf_55 : decode cX2_sideOf 55 = .ok (.ireturn, 1) := by decide +kernel
theorem dX2_sideOf_56 : decode cX2_sideOf 56 = .ok (.iconst 3, 1) := by decide +kernel
theorem dX2_sideOf_57 : decode cX2_sideOf 57 = .ok (.ireturn, 1) := by decide +kernel
theorem dX2_sideOf_58 : decode cX2_sideOf 58 = .ok (.iconst 4, 1) := by decide +kernel
theorem dX2_sideOf_59 : decode cX2_sideOf 59 = .ok (.ireturn, 1) := by decide +kernel
theorem dX2_sideOf_60 : decode cX2_sideOf 60 = .ok (.iconst 5, 1) := by decide +kernel
theorem dX2_sideOf_61 : decode cX2_sideOf 61 = .ok (.ireturn, 1) := by decide +kernel
theorem dX2_sideOf_62 : decode cX2_sideOf 62 = .ok (.iconst 0, 1) := by decide +kernel
theorem dX2_sideOf_63 : decode cX2_sideOf 63 = .ok (.ireturn, 1) := by decide +kernel
set_option maxRecDepth 20000 in
theorem ggX2_takeWord_X2_take : GoodIn wsX2_takeWord wsX2_take := goodIn_r _ [7, 8, 9, 10, 11, 12, 13, 14, 15, 16, 37, 38, 39, 40, 41, 42, 43, 44, 45] (by decide +kernel) (by decide +kernel)
set_option maxRecDepth 20000 in
theorem gX2_takeWord_X2_take : GoodIn wsX2_takeWord (wsV RX2 64 RX2 yX2_take wsX2_take) := goodIn_app (goodIn_of _ (by decide +kernel)) ggX2_takeWord_X2_take
set_option maxRecDepth 20000 in
theorem ggX2_takeWord_X2_takeLetters : GoodIn wsX2_takeWord wsX2_takeLetters := goodIn_r _ [20, 21, 8, 9, 22, 23, 24, 13, 25, 15, 10, 11, 12, 14, 16, 26, 27, 28, 29, 30, 31, 32, 33, 34, 35, 36, 37, 38, 39, 40, 41, 42, 43, 44, 45] (by decide +kernel) (by decide +kernel)
set_option maxRecDepth 20000 in
theorem gX2_takeWord_X2_takeLetters : GoodIn wsX2_takeWord (wsV RX2 61 RX2 yX2_takeLetters wsX2_takeLetters) := goodIn_app (goodIn_of _ (by decide +kernel)) ggX2_takeWord_X2_takeLetters
theorem dX2_takeWord_0 : decode cX2_takeWord 0 = .ok (.aload_n 0, 1) := by decide +kernel
theorem dX2_takeWord_1 : decode cX2_takeWord 1 = .ok (.iconst 1, 1) := by decide +kernel
theorem dX2_takeWord_2 : decode cX2_takeWord 2 = .ok (.putfield 58, 3) := by decide +kernel
theorem dX2_takeWord_5 : decode cX2_takeWord 5 = .ok (.aload_n 0, 1) := by decide +kernel
theorem dX2_takeWord_6 : decode cX2_takeWord 6 = .ok (.bipush 58, 2) := by decide +kernel
theorem dX2_takeWord_8 : decode cX2_takeWord 8 = .ok (.invokevirtual 64, 3) := by decide +kernel
theorem dX2_takeWord_11 : decode cX2_takeWord 11 = .ok (.ifCond .eq 12, 3) := by decide +kernel
theorem dX2_takeWord_14 : decode cX2_takeWord 14 = .ok (.aload_n 0, 1) := by decide +kernel
theorem dX2_takeWord_15 : decode cX2_takeWord 15 = .ok (.bipush 12, 2) := by decide +kernel
theorem dX2_takeWord_17 : decode cX2_takeWord 17 = .ok (.invokevirtual 61, 3) := by decide +kernel
theorem dX2_takeWord_20 : decode cX2_takeWord 20 = .ok (.ifCond .ne 5, 3) := by decide +kernel
theorem dX2_takeWord_23 : decode cX2_takeWord 23 = .ok (.iconst 0, 1) := by decide +kernel
theorem dX2_takeWord_24 : decode cX2_takeWord 24 = .ok (.ireturn, 1) := by decide +kernel
theorem dX2_takeWord_25 : decode cX2_takeWord 25 = .ok (.aload_n 0, 1) := by decide +kernel
theorem dX2_takeWord_26 : decode cX2_takeWord 26 = .ok (.iconst 0, 1) := by decide +kernel
theorem dX2_takeWord_27 : decode cX2_takeWord 27 = .ok (.putfield 82, 3) := by decide +kernel
theorem dX2_takeWord_30 : decode cX2_takeWord 30 = .ok (.aload_n 0, 1) := by decide +kernel
theorem dX2_takeWord_31 : decode cX2_takeWord 31 = .ok (.bipush 33, 2) := by decide +kernel
theorem dX2_takeWord_33 : decode cX2_takeWord 33 = .ok (.invokevirtual 64, 3) := by decide +kernel
theorem dX2_takeWord_36 : decode cX2_takeWord 36 = .ok (.ifCond .eq 11, 3) := by decide +kernel
theorem dX2_takeWord_39 : decode cX2_takeWord 39 = .ok (.aload_n 0, 1) := by decide +kernel
theorem dX2_takeWord_40 : decode cX2_takeWord 40 = .ok (.iconst 1, 1) := by decide +kernel
theorem dX2_takeWord_41 : decode cX2_takeWord 41 = .ok (.putfield 82, 3) := by decide +kernel
theorem dX2_takeWord_44 : decode cX2_takeWord 44 = .ok (.goto 17, 3) := by decide +kernel
theorem dX2_takeWord_47 : decode cX2_takeWord 47 = .ok (.aload_n 0, 1) := by decide +kernel
theorem dX2_takeWord_48 : decode cX2_takeWord 48 = .ok (.bipush 39, 2) := by decide +kernel
theorem dX2_takeWord_50 : decode cX2_takeWord 50 = .ok (.invokevirtual 64, 3) := by decide +kernel
theorem dX2_takeWord_53 : decode cX2_takeWord 53 = .ok (.ifCond .eq 8, 3) := by decide +kernel
theorem dX2_takeWord_56 : decode cX2_takeWord 56 = .ok (.aload_n 0, 1) := by decide +kernel
theorem dX2_takeWord_57 : decode cX2_takeWord 57 = .ok (.iconst 2, 1) := by decide +kernel
theorem dX2_takeWord_58 : decode cX2_takeWord 58 = .ok (.putfield 82, 3) := by decide +kernel
theorem dX2_takeWord_61 : decode cX2_takeWord 61 = .ok (.iconst 1, 1) := by decide +kernel
theorem dX2_takeWord_62 : decode cX2_takeWord 62 = .ok (.ireturn, 1) := by decide +kernel
set_option maxRecDepth 20000 in
theorem ggX2_takeSign_X2_takeSound : GoodIn wsX2_takeSign wsX2_takeSound := goodIn_r _ [6, 7, 8, 9, 10, 11, 12, 13, 14, 15, 16, 17, 18, 19, 43, 44, 45, 46, 47, 48, 49, 50, 51] (by decide +kernel) (by decide +kernel)
set_option maxRecDepth 20000 in
theorem gX2_takeSign_X2_takeSound : GoodIn wsX2_takeSign (wsV RX2 67 RX2 yX2_takeSound wsX2_takeSound) := goodIn_app (goodIn_of _ (by decide +kernel)) ggX2_takeSign_X2_takeSound
set_option maxRecDepth 20000 in
theorem ggX2_takeSign_X2_take : GoodIn wsX2_takeSign wsX2_take := goodIn_r _ [23, 7, 8, 10, 11, 12, 13, 14, 15, 16, 43, 44, 45, 46, 47, 48, 49, 50, 51] (by decide +kernel) (by decide +kernel)
set_option maxRecDepth 20000 in
theorem gX2_takeSign_X2_take : GoodIn wsX2_takeSign (wsV RX2 64 RX2 yX2_take wsX2_take) := goodIn_app (goodIn_of _ (by decide +kernel)) ggX2_takeSign_X2_take
set_option maxRecDepth 20000 in
theorem ggX2_takeSign_X2_takeLetters : GoodIn wsX2_takeSign wsX2_takeLetters := goodIn_r _ [27, 28, 7, 8, 29, 30, 31, 13, 32, 15, 10, 11, 12, 14, 16, 33, 18, 34, 35, 36, 37, 38, 39, 40, 41, 42, 43, 44, 45, 46, 47, 48, 49, 50, 51] (by decide +kernel) (by decide +kernel)
set_option maxRecDepth 20000 in
theorem gX2_takeSign_X2_takeLetters : GoodIn wsX2_takeSign (wsV RX2 61 RX2 yX2_takeLetters wsX2_takeLetters) := goodIn_app (goodIn_of _ (by decide +kernel)) ggX2_takeSign_X2_takeLetters
theorem dX2_takeSign_0 : decode cX2_takeSign 0 = .ok (.aload_n 0, 1) := by decide +kernel
theorem dX2_takeSign_1 : decode cX2_takeSign 1 = .ok (.iconst 2, 1) := by decide +kernel
theorem dX2_takeSign_2 : decode cX2_takeSign 2 = .ok (.putfield 58, 3) := by decide +kernel
theorem dX2_takeSign_5 : decode cX2_takeSign 5 = .ok (.aload_n 0, 1) := by decide +kernel
theorem dX2_takeSign_6 : decode cX2_takeSign 6 = .ok (.invokevirtual 67, 3) := by decide +kernel
theorem dX2_takeSign_9 : decode cX2_takeSign 9 = .ok (.ifCond .eq 24, 3) := by decide +kernel
theorem dX2_takeSign_12 : decode cX2_takeSign 12 = .ok (.aload_n 0, 1) := by decide +kernel
theorem dX2_takeSign_13 : decode cX2_takeSign 13 = .ok (.bipush 61, 2) := by decide +kernel
theorem dX2_takeSign_15 : decode cX2_takeSign 15 = .ok (.invokevirtual 64, 3) := by decide +kernel
theorem dX2_takeSign_18 : decode cX2_takeSign 18 = .ok (.ifCond .eq 15, 3) := by decide +kernel
theorem dX2_takeSign_21 : decode cX2_takeSign 21 = .ok (.aload_n 0, 1) := by decide +kernel
theorem dX2_takeSign_22 : decode cX2_takeSign 22 = .ok (.iconst 2, 1) := by decide +kernel
theorem dX2_takeSign_23 : decode cX2_takeSign 23 = .ok (.invokevirtual 61, 3) := by decide +kernel
theorem dX2_takeSign_26 : decode cX2_takeSign 26 = .ok (.ifCond .eq 7, 3) := by decide +kernel
theorem dX2_takeSign_29 : decode cX2_takeSign 29 = .ok (.iconst 1, 1) := by decide +kernel
theorem dX2_takeSign_30 : decode cX2_takeSign 30 = .ok (.goto 4, 3) := by decide +kernel
theorem dX2_takeSign_33 : decode cX2_takeSign 33 = .ok (.iconst 0, 1) := by decide +kernel
theorem dX2_takeSign_34 : decode cX2_takeSign 34 = .ok (.ireturn, 1) := by decide +kernel
end
section
set_option maxRecDepth 20000 in
theorem ggX5_init_X3_init : GoodIn wsX5_init wsX3_init := goodIn_r _ [13, 14, 2, 3, 15, 16, 17, 18, 19, 20, 21, 22] (by decide +kernel) (by decide +kernel)
set_option maxRecDepth 20000 in
theorem gX5_init_X3_init : GoodIn wsX5_init (wsX3_init) := ggX5_init_X3_init
theorem dX5_init_0 : decode cX5_init 0 = .ok (.aload_n 0, 1) := by decide +kernel
theorem dX5_init_1 : decode cX5_init 1 = .ok (.invokespecial 3, 3) := by decide +kernel
theorem dX5_init_4 : decode cX5_init 4 = .ok (.aload_n 0, 1) := by decide +kernel
theorem dX5_init_5 : decode cX5_init 5 = .ok (.new 9, 3) := by decide +kernel
theorem dX5_init_8 : decode cX5_init 8 = .ok (.dup, 1) := by decide +kernel
theorem dX5_init_9 : decode cX5_init 9 = .ok (.bipush 12, 2) := by decide +kernel
theorem dX5_init_11 : decode cX5_init 11 = .ok (.invokespecial 11, 3) := by decide +kernel
theorem dX5_init_14 : decode cX5_init 14 = .ok (.putfield 14, 3) := by decide +kernel
theorem dX5_init_17 : decode cX5_init 17 = .ok (.aload_n 0, 1) := by decide +kernel
theorem dX5_init_18 : decode cX5_init 18 = .ok (.new 9, 3) := by decide +kernel
theorem dX5_init_21 : decode cX5_init 21 = .ok (.dup, 1) := by decide +kernel
theorem dX5_init_22 : decode cX5_init 22 = .ok (.bipush 12, 2) := by decide +kernel
theorem dX5_init_24 : decode cX5_init 24 = .ok (.invokespecial 11, 3) := by decide +kernel
theorem dX5_init_27 : decode cX5_init 27 = .ok (.putfield 20, 3) := by decide +kernel
theorem dX5_init_30 : decode cX5_init 30 = .ok (.aload_n 0, 1) := by decide +kernel
theorem dX5_init_31 : decode cX5_init 31 = .ok (.new 9, 3) := by decide +kernel
theorem dX5_init_34 : decode cX5_init 34 = .ok (.dup, 1) := by decide +kernel
theorem dX5_init_35 : decode cX5_init 35 = .ok (.bipush 12, 2) := by decide +kernel
theorem dX5_init_37 : decode cX5_init 37 = .ok (.invokespecial 11, 3) := by decide +kernel
theorem dX5_init_40 : decode cX5_init 40 = .ok (.putfield 23, 3) := by decide +kernel
theorem dX5_init_43 : decode cX5_init 43 = .ok (.aload_n 0, 1) := by decide +kernel
theorem dX5_init_44 : decode cX5_init 44 = .ok (.new 9, 3) := by decide +kernel
theorem dX5_init_47 : decode cX5_init 47 = .ok (.dup, 1) := by decide +kernel
theorem dX5_init_48 : decode cX5_init 48 = .ok (.bipush 25, 2) := by decide +kernel
theorem dX5_init_50 : decode cX5_init 50 = .ok (.invokespecial 11, 3) := by decide +kernel
theorem dX5_init_53 : decode cX5_init 53 = .ok (.putfield 26, 3) := by decide +kernel
theorem dX5_init_56 : decode cX5_init 56 = .ok (.return_, 1) := by decide +kernel
set_option maxRecDepth 20000 in
theorem ggX5_hear_X3_clear : GoodIn wsX5_hear wsX3_clear := goodIn_r _ [9, 10, 82, 83] (by decide +kernel) (by decide +kernel)
set_option maxRecDepth 20000 in
theorem gX5_hear_X3_clear : GoodIn wsX5_hear (wsV RX5 29 RX3 yX3_clear wsX3_clear) := goodIn_app (goodIn_of _ (by decide +kernel)) ggX5_hear_X3_clear
set_option maxRecDepth 20000 in
theorem ggX5_hear_X3_size : GoodIn wsX5_hear wsX3_size := goodIn_r _ [14, 10, 82, 83] (by decide +kernel) (by decide +kernel)
set_option maxRecDepth 20000 in
theorem gX5_hear_X3_size : GoodIn wsX5_hear (wsV RX5 32 RX3 yX3_size wsX3_size) := goodIn_app (goodIn_of _ (by decide +kernel)) ggX5_hear_X3_size
set_option maxRecDepth 20000 in
theorem ggX5_hear_X5_bestRule : GoodIn wsX5_hear wsX5_bestRule := goodIn_r _ [18, 4, 19, 20, 21, 22, 23, 24, 25, 26, 27, 28, 29, 30, 31, 32, 12, 13, 8, 14, 10, 33, 34, 35, 36, 37, 38, 39, 40, 41, 42, 43, 44, 17, 45, 46, 47, 48, 49, 50, 51, 52, 53, 54, 11, 55, 56, 57, 76, 77, 78, 79, 80, 81, 84, 85, 86, 82, 83] (by decide +kernel) (by decide +kernel)
set_option maxRecDepth 20000 in
theorem gX5_hear_X5_bestRule : GoodIn wsX5_hear (va_wsS RX5 36 yX5_bestRule wsX5_bestRule) := goodIn_app (goodIn_of _ (by decide +kernel)) ggX5_hear_X5_bestRule
set_option maxRecDepth 20000 in
theorem ggX5_hear_X3_get : GoodIn wsX5_hear wsX3_get := goodIn_r _ [40, 10, 41, 82, 83] (by decide +kernel) (by decide +kernel)
set_option maxRecDepth 20000 in
theorem gX5_hear_X3_get : GoodIn wsX5_hear (wsV RX5 40 RX3 yX3_get wsX3_get) := goodIn_app (goodIn_of _ (by decide +kernel)) ggX5_hear_X3_get
set_option maxRecDepth 20000 in
theorem ggX5_hear_X3_add : GoodIn wsX5_hear wsX3_add := goodIn_r _ [61, 10, 41, 82, 83] (by decide +kernel) (by decide +kernel)
set_option maxRecDepth 20000 in
theorem gX5_hear_X3_add : GoodIn wsX5_hear (wsV RX5 44 RX3 yX3_add wsX3_add) := goodIn_app (goodIn_of _ (by decide +kernel)) ggX5_hear_X3_add
set_option maxRecDepth 20000 in
theorem ggX5_hear_X5_useRule : GoodIn wsX5_hear wsX5_useRule := goodIn_r _ [65, 66, 1, 3, 2, 4, 42, 38, 39, 8, 40, 10, 41, 58, 59, 60, 61, 33, 34, 35, 29, 36, 31, 37, 67, 68, 69, 70, 71, 76, 77, 78, 79, 80, 81, 72, 73, 74, 75, 82, 83, 84, 85, 86] (by decide +kernel) (by decide +kernel)
set_option maxRecDepth 20000 in
theorem gX5_hear_X5_useRule : GoodIn wsX5_hear (wsV RX5 47 RX5 yX5_useRule wsX5_useRule) := goodIn_app (goodIn_of _ (by decide +kernel)) ggX5_hear_X5_useRule
set_option maxRecDepth 20000 in
theorem ggX5_hear_X4_length : GoodIn wsX5_hear wsX4_length := goodIn_r _ [36, 31, 37, 38, 39, 8, 40, 10, 41, 84, 85, 86, 82, 83] (by decide +kernel) (by decide +kernel)
set_option maxRecDepth 20000 in
theorem gX5_hear_X4_length : GoodIn wsX5_hear (wsV RX5 57 RX4 yX4_length wsX4_length) := goodIn_app (goodIn_of _ (by decide +kernel)) ggX5_hear_X4_length
theorem dX5_hear_0 : decode cX5_hear 0 = .ok (.aload_n 0, 1) := by decide +kernel
theorem dX5_hear_1 : decode cX5_hear 1 = .ok (.getfield 14, 3) := by decide +kernel
theorem dX5_hear_4 : decode cX5_hear 4 = .ok (.invokevirtual 29, 3) := by decide +kernel
theorem dX5_hear_7 : decode cX5_hear 7 = .ok (.aload_n 0, 1) := by decide +kernel
theorem dX5_hear_8 : decode cX5_hear 8 = .ok (.getfield 20, 3) := by decide +kernel
theorem dX5_hear_11 : decode cX5_hear 11 = .ok (.invokevirtual 29, 3) := by decide +kernel
theorem dX5_hear_14 : decode cX5_hear 14 = .ok (.aload_n 0, 1) := by decide +kernel
theorem dX5_hear_15 : decode cX5_hear 15 = .ok (.getfield 23, 3) := by decide +kernel
theorem dX5_hear_18 : decode cX5_hear 18 = .ok (.invokevirtual 29, 3) := by decide +kernel
theorem dX5_hear_21 : decode cX5_hear 21 = .ok (.iconst 0, 1) := by decide +kernel
theorem dX5_hear_22 : decode cX5_hear 22 = .ok (.istore_n 3, 1) := by decide +kernel
theorem dX5_hear_23 : decode cX5_hear 23 = .ok (.iconst 0, 1) := by decide +kernel
theorem dX5_hear_24 : decode cX5_hear 24 = .ok (.istore 4, 2) := by decide +kernel
theorem dX5_hear_26 : decode cX5_hear 26 = .ok (.iload 4, 2) := by decide +kernel
theorem dX5_hear_28 : decode cX5_hear 28 = .ok (.bipush 12, 2) := by decide +kernel
theorem dX5_hear_30 : decode cX5_hear 30 = .ok (.if_icmp .ge 78, 3) := by decide +kernel
theorem dX5_hear_33 : decode cX5_hear 33 = .ok (.iload_n 3, 1) := by decide +kernel
theorem dX5_hear_34 : decode cX5_hear 34 = .ok (.aload_n 2, 1) := by decide +kernel
theorem dX5_hear_35 : decode cX5_hear 35 = .ok (.invokevirtual 32, 3) := by decide +kernel
theorem dX5_hear_38 : decode cX5_hear 38 = .ok (.if_icmp .ge 70, 3) := by decide +kernel
theorem dX5_hear_41 : decode cX5_hear 41 = .ok (.aload_n 1, 1) := by decide +kernel
theorem dX5_hear_42 : decode cX5_hear 42 = .ok (.aload_n 2, 1) := by decide +kernel
theorem dX5_hear_43 : decode cX5_hear 43 = .ok (.iload_n 3, 1) := by decide +kernel
theorem dX5_hear_44 : decode cX5_hear 44 = .ok (.invokestatic 36, 3) := by decide +kernel
theorem dX5_hear_47 : decode cX5_hear 47 = .ok (.istore 5, 2) := by decide +kernel
theorem dX5_hear_49 : decode cX5_hear 49 = .ok (.iload 5, 2) := by decide +kernel
theorem dX5_hear_51 : decode cX5_hear 51 = .ok (.bipush (-5), 2) := by decide +kernel
theorem dX5_hear_53 : decode cX5_hear 53 = .ok (.if_icmp .ne 30, 3) := by decide +kernel
theorem dX5_hear_56 : decode cX5_hear 56 = .ok (.aload_n 0, 1) := by decide +kernel
theorem dX5_hear_57 : decode cX5_hear 57 = .ok (.getfield 14, 3) := by decide +kernel
theorem dX5_hear_60 : decode cX5_hear 60 = .ok (.aload_n 2, 1) := by decide +kernel
theorem dX5_hear_61 : decode cX5_hear 61 = .ok (.iload_n 3, 1) := by decide +kernel
theorem dX5_hear_62 : decode cX5_hear 62 = .ok (.invokevirtual 40, 3) := by decide +kernel
theorem dX5_hear_65 : decode cX5_hear 65 = .ok (.invokevirtual 44, 3) := by decide +kernel
theorem dX5_hear_68 : decode cX5_hear 68 = .ok (.aload_n 0, 1) := by decide +kernel
theorem dX5_hear_69 : decode cX5_hear 69 = .ok (.getfield 20, 3) := by decide +kernel
theorem dX5_hear_72 : decode cX5_hear 72 = .ok (.bipush (-5), 2) := by decide +kernel
theorem dX5_hear_74 : decode cX5_hear 74 = .ok (.invokevirtual 44, 3) := by decide +kernel
theorem dX5_hear_77 : decode cX5_hear 77 = .ok (.iinc 3 1, 3) := by decide +kernel
theorem dX5_hear_80 : decode cX5_hear 80 = .ok (.goto 22, 3) := by decide +kernel
theorem dX5_hear_83 : decode cX5_hear 83 = .ok (.aload_n 0, 1) := by decide +kernel
theorem dX5_hear_84 : decode cX5_hear 84 = .ok (.aload_n 1, 1) := by decide +kernel
theorem dX5_hear_85 : decode cX5_hear 85 = .ok (.iload 5, 2) := by decide +kernel
theorem dX5_hear_87 : decode cX5_hear 87 = .ok (.invokevirtual 47, 3) := by decide +kernel
theorem dX5_hear_90 : decode cX5_hear 90 = .ok (.iload_n 3, 1) := by decide +kernel
theorem dX5_hear_91 : decode cX5_hear 91 = .ok (.aload_n 1, 1) := by decide +kernel
theorem dX5_hear_92 : decode cX5_hear 92 = .ok (.getfield 51, 3) := by decide +kernel
theorem dX5_hear_95 : decode cX5_hear 95 = .ok (.iload 5, 2) := by decide +kernel
theorem dX5_hear_97 : decode cX5_hear 97 = .ok (.invokevirtual 57, 3) := by decide +kernel
theorem dX5_hear_100 : decode cX5_hear 100 = .ok (.iadd, 1) := by decide +kernel
theorem dX5_hear_101 : decode cX5_hear 101 = .ok (.istore_n 3, 1) := by decide +kernel
theorem dX5_hear_102 : decode cX5_hear 102 = .ok (.iinc 4 1, 3) := by decide +kernel
theorem dX5_hear_105 : decode cX5_hear 105 = .ok (.goto (-79), 3) := by decide +kernel
theorem dX5_hear_108 : decode cX5_hear 108 = .ok (.return_, 1) := by decide +kernel
set_option maxRecDepth 20000 in
theorem ggX5_useRule_X3_get : GoodIn wsX5_useRule wsX3_get := goodIn_r _ [10, 11, 12, 39, 40] (by decide +kernel) (by decide +kernel)
set_option maxRecDepth 20000 in
theorem gX5_useRule_X3_get : GoodIn wsX5_useRule (wsV RX5 40 RX3 yX3_get wsX3_get) := goodIn_app (goodIn_of _ (by decide +kernel)) ggX5_useRule_X3_get
set_option maxRecDepth 20000 in
theorem ggX5_useRule_X3_add : GoodIn wsX5_useRule wsX3_add := goodIn_r _ [16, 11, 12, 39, 40] (by decide +kernel) (by decide +kernel)
set_option maxRecDepth 20000 in
theorem gX5_useRule_X3_add : GoodIn wsX5_useRule (wsV RX5 44 RX3 yX3_add wsX3_add) := goodIn_app (goodIn_of _ (by decide +kernel)) ggX5_useRule_X3_add
set_option maxRecDepth 20000 in
theorem ggX5_useRule_X4_length : GoodIn wsX5_useRule wsX4_length := goodIn_r _ [21, 22, 23, 7, 8, 9, 10, 11, 12, 41, 42, 43, 39, 40] (by decide +kernel) (by decide +kernel)
set_option maxRecDepth 20000 in
theorem gX5_useRule_X4_length : GoodIn wsX5_useRule (wsV RX5 57 RX4 yX4_length wsX4_length) := goodIn_app (goodIn_of _ (by decide +kernel)) ggX5_useRule_X4_length
set_option maxRecDepth 20000 in
theorem ggX5_useRule_X3_addMany : GoodIn wsX5_useRule wsX3_addMany := goodIn_r _ [27, 28, 14, 15, 9, 16, 11, 12, 39, 40] (by decide +kernel) (by decide +kernel)
set_option maxRecDepth 20000 in
theorem gX5_useRule_X3_addMany : GoodIn wsX5_useRule (wsV RX5 65 RX3 yX3_addMany wsX3_addMany) := goodIn_app (goodIn_of _ (by decide +kernel)) ggX5_useRule_X3_addMany
theorem dX5_useRule_0 : decode cX5_useRule 0 = .ok (.aload_n 1, 1) := by decide +kernel
theorem dX5_useRule_1 : decode cX5_useRule 1 = .ok (.getfield 62, 3) := by decide +kernel
theorem dX5_useRule_4 : decode cX5_useRule 4 = .ok (.iload_n 2, 1) := by decide +kernel
theorem dX5_useRule_5 : decode cX5_useRule 5 = .ok (.invokevirtual 40, 3) := by decide +kernel
theorem dX5_useRule_8 : decode cX5_useRule 8 = .ok (.istore_n 3, 1) := by decide +kernel
theorem dX5_useRule_9 : decode cX5_useRule 9 = .ok (.iload_n 3, 1) := by decide +kernel
theorem dX5_useRule_10 : decode cX5_useRule 10 = .ok (.ifCond .eq 11, 3) := by decide +kernel
theorem dX5_useRule_13 : decode cX5_useRule 13 = .ok (.aload_n 0, 1) := by decide +kernel
theorem dX5_useRule_14 : decode cX5_useRule 14 = .ok (.getfield 14, 3) := by decide +kernel
theorem dX5_useRule_17 : decode cX5_useRule 17 = .ok (.iload_n 3, 1) := by decide +kernel
theorem dX5_useRule_18 : decode cX5_useRule 18 = .ok (.invokevirtual 44, 3) := by decide +kernel
theorem dX5_useRule_21 : decode cX5_useRule 21 = .ok (.aload_n 0, 1) := by decide +kernel
theorem dX5_useRule_22 : decode cX5_useRule 22 = .ok (.getfield 23, 3) := by decide +kernel
theorem dX5_useRule_25 : decode cX5_useRule 25 = .ok (.iload_n 2, 1) := by decide +kernel
theorem dX5_useRule_26 : decode cX5_useRule 26 = .ok (.invokevirtual 44, 3) := by decide +kernel
theorem dX5_useRule_29 : decode cX5_useRule 29 = .ok (.aload_n 0, 1) := by decide +kernel
theorem dX5_useRule_30 : decode cX5_useRule 30 = .ok (.getfield 20, 3) := by decide +kernel
theorem dX5_useRule_33 : decode cX5_useRule 33 = .ok (.iload_n 2, 1) := by decide +kernel
theorem dX5_useRule_34 : decode cX5_useRule 34 = .ok (.aload_n 1, 1) := by decide +kernel
theorem dX5_useRule_35 : decode cX5_useRule 35 = .ok (.getfield 51, 3) := by decide +kernel
theorem dX5_useRule_38 : decode cX5_useRule 38 = .ok (.iload_n 2, 1) := by decide +kernel
theorem dX5_useRule_39 : decode cX5_useRule 39 = .ok (.invokevirtual 57, 3) := by decide +kernel
theorem dX5_useRule_42 : decode cX5_useRule 42 = .ok (.invokevirtual 65, 3) := by decide +kernel
theorem dX5_useRule_45 : decode cX5_useRule 45 = .ok (.return_, 1) := by decide +kernel
set_option maxRecDepth 20000 in
theorem ggX5_bestRule_X0_rules : GoodIn wsX5_bestRule wsX0_rules := goodIn_r _ [7, 8, 9, 10, 11, 12, 13, 14, 15, 16, 17, 18, 19, 20, 48, 49, 50, 51, 52, 53, 54, 55, 56, 57, 58] (by decide +kernel) (by decide +kernel)
set_option maxRecDepth 20000 in
theorem gX5_bestRule_X0_rules : GoodIn wsX5_bestRule (wsV RX5 69 RX0 yX0_rules wsX0_rules) := goodIn_app (goodIn_of _ (by decide +kernel)) ggX5_bestRule_X0_rules
set_option maxRecDepth 20000 in
theorem ggX5_bestRule_X4_length : GoodIn wsX5_bestRule wsX4_length := goodIn_r _ [24, 14, 25, 26, 27, 18, 28, 20, 29, 54, 55, 56, 57, 58] (by decide +kernel) (by decide +kernel)
set_option maxRecDepth 20000 in
theorem gX5_bestRule_X4_length : GoodIn wsX5_bestRule (wsV RX5 57 RX4 yX4_length wsX4_length) := goodIn_app (goodIn_of _ (by decide +kernel)) ggX5_bestRule_X4_length
set_option maxRecDepth 20000 in
theorem ggX5_bestRule_X3_get : GoodIn wsX5_bestRule wsX3_get := goodIn_r _ [28, 20, 29, 57, 58] (by decide +kernel) (by decide +kernel)
set_option maxRecDepth 20000 in
theorem gX5_bestRule_X3_get : GoodIn wsX5_bestRule (wsV RX5 40 RX3 yX3_get wsX3_get) := goodIn_app (goodIn_of _ (by decide +kernel)) ggX5_bestRule_X3_get
set_option maxRecDepth 20000 in
theorem ggX5_bestRule_X5_holds : GoodIn wsX5_bestRule wsX5_holds := goodIn_r _ [34, 1, 2, 21, 22, 23, 12, 24, 14, 25, 26, 27, 18, 28, 20, 29, 35, 36, 37, 38, 39, 40, 30, 41, 42, 33, 43, 44, 16, 17, 19, 45, 46, 47, 48, 49, 50, 51, 52, 53, 54, 55, 56, 57, 58] (by decide +kernel) (by decide +kernel)
set_option maxRecDepth 20000 in
theorem gX5_bestRule_X5_holds : GoodIn wsX5_bestRule (va_wsS RX5 75 yX5_holds wsX5_holds) := goodIn_app (goodIn_of _ (by decide +kernel)) ggX5_bestRule_X5_holds
theorem dX5_bestRule_0 : decode cX5_bestRule 0 = .ok (.bipush (-5), 2) := by decide +kernel
theorem dX5_bestRule_2 : decode cX5_bestRule 2 = .ok (.istore_n 3, 1) := by decide +kernel
theorem dX5_bestRule_3 : decode cX5_bestRule 3 = .ok (.iconst 0, 1) := by decide +kernel
theorem dX5_bestRule_4 : decode cX5_bestRule 4 = .ok (.istore 4, 2) := by decide +kernel
theorem dX5_bestRule_6 : decode cX5_bestRule 6 = .ok (.iconst 0, 1) := by decide +kernel
theorem dX5_bestRule_7 : decode cX5_bestRule 7 = .ok (.istore 5, 2) := by decide +kernel
theorem dX5_bestRule_9 : decode cX5_bestRule 9 = .ok (.iload 5, 2) := by decide +kernel
theorem dX5_bestRule_11 : decode cX5_bestRule 11 = .ok (.aload_n 0, 1) := by decide +kernel
theorem dX5_bestRule_12 : decode cX5_bestRule 12 = .ok (.invokevirtual 69, 3) := by decide +kernel
theorem dX5_bestRule_15 : decode cX5_bestRule 15 = .ok (.if_icmp .ge 65, 3) := by decide +kernel
theorem dX5_bestRule_18 : decode cX5_bestRule 18 = .ok (.iconst 2, 1) := by decide +kernel
theorem dX5_bestRule_19 : decode cX5_bestRule 19 = .ok (.aload_n 0, 1) := by decide +kernel
theorem dX5_bestRule_20 : decode cX5_bestRule 20 = .ok (.getfield 51, 3) := by decide +kernel
theorem dX5_bestRule_23 : decode cX5_bestRule 23 = .ok (.iload 5, 2) := by decide +kernel
theorem dX5_bestRule_25 : decode cX5_bestRule 25 = .ok (.invokevirtual 57, 3) := by decide +kernel
theorem dX5_bestRule_28 : decode cX5_bestRule 28 = .ok (.imul, 1) := by decide +kernel
theorem dX5_bestRule_29 : decode cX5_bestRule 29 = .ok (.aload_n 0, 1) := by decide +kernel
theorem dX5_bestRule_30 : decode cX5_bestRule 30 = .ok (.getfield 72, 3) := by decide +kernel
theorem dX5_bestRule_33 : decode cX5_bestRule 33 = .ok (.iload 5, 2) := by decide +kernel
theorem dX5_bestRule_35 : decode cX5_bestRule 35 = .ok (.invokevirtual 40, 3) := by decide +kernel
theorem dX5_bestRule_38 : decode cX5_bestRule 38 = .ok (.ifCond .ne 7, 3) := by decide +kernel
theorem dX5_bestRule_41 : decode cX5_bestRule 41 = .ok (.iconst 0, 1) := by decide +kernel
theorem dX5_bestRule_42 : decode cX5_bestRule 42 = .ok (.goto 4, 3) := by decide +kernel
theorem dX5_bestRule_45 : decode cX5_bestRule 45 = .ok (.iconst 1, 1) := by decide +kernel
theorem dX5_bestRule_46 : decode cX5_bestRule 46 = .ok (.iadd, 1) := by decide +kernel
theorem dX5_bestRule_47 : decode cX5_bestRule 47 = .ok (.istore 6, 2) := by decide +kernel
theorem dX5_bestRule_49 : decode cX5_bestRule 49 = .ok (.iload 6, 2) := by decide +kernel
theorem dX5_bestRule_51 : decode cX5_bestRule 51 = .ok (.iload 4, 2) := by decide +kernel
theorem dX5_bestRule_53 : decode cX5_bestRule 53 = .ok (.if_icmp .le 21, 3) := by decide +kernel
theorem dX5_bestRule_56 : decode cX5_bestRule 56 = .ok (.aload_n 0, 1) := by decide +kernel
theorem dX5_bestRule_57 : decode cX5_bestRule 57 = .ok (.iload 5, 2) := by decide +kernel
theorem dX5_bestRule_59 : decode cX5_bestRule 59 = .ok (.aload_n 1, 1) := by decide +kernel
theorem dX5_bestRule_60 : decode cX5_bestRule 60 = .ok (.iload_n 2, 1) := by decide +kernel
theorem dX5_bestRule_61 : decode cX5_bestRule 61 = .ok (.invokestatic 75, 3) := by decide +kernel
theorem dX5_bestRule_64 : decode cX5_bestRule 64 = .ok (.ifCond .eq 10, 3) := by decide +kernel
theorem dX5_bestRule_67 : decode cX5_bestRule 67 = .ok (.iload 5, 2) := by decide +kernel
theorem dX5_bestRule_69 : decode cX5_bestRule 69 = .ok (.istore_n 3, 1) := by decide +kernel
theorem dX5_bestRule_70 : decode cX5_bestRule 70 = .ok (.iload 6, 2) := by decide +kernel
theorem dX5_bestRule_72 : decode cX5_bestRule 72 = .ok (.istore 4, 2) := by decide +kernel
theorem dX5_bestRule_74 : decode cX5_bestRule 74 = .ok (.iinc 5 1, 3) := by decide +kernel
theorem dX5_bestRule_77 : decode cX5_bestRule 77 = .ok (.goto (-68), 3) := by decide +kernel
theorem dX5_bestRule_80 : decode cX5_bestRule 80 = .ok (.iload_n 3, 1) := by decide +kernel
theorem dX5_bestRule_81 : decode cX5_bestRule 81 = .ok (.ireturn, 1) := by decide +kernel
set_option maxRecDepth 20000 in
theorem ggX5_holds_X4_length : GoodIn wsX5_holds wsX4_length := goodIn_r _ [7, 8, 9, 10, 11, 12, 13, 14, 15, 40, 41, 42, 43, 44] (by decide +kernel) (by decide +kernel)
set_option maxRecDepth 20000 in
theorem gX5_holds_X4_length : GoodIn wsX5_holds (wsV RX5 57 RX4 yX4_length wsX4_length) := goodIn_app (goodIn_of _ (by decide +kernel)) ggX5_holds_X4_length
set_option maxRecDepth 20000 in
theorem ggX5_holds_X4_get : GoodIn wsX5_holds wsX4_get := goodIn_r _ [19, 8, 20, 21, 9, 10, 11, 12, 13, 14, 15, 40, 41, 42, 43, 44] (by decide +kernel) (by decide +kernel)
set_option maxRecDepth 20000 in
theorem gX5_holds_X4_get : GoodIn wsX5_holds (wsV RX5 79 RX4 yX4_get wsX4_get) := goodIn_app (goodIn_of _ (by decide +kernel)) ggX5_holds_X4_get
set_option maxRecDepth 20000 in
theorem ggX5_holds_X3_get : GoodIn wsX5_holds wsX3_get := goodIn_r _ [13, 14, 15, 43, 44] (by decide +kernel) (by decide +kernel)
set_option maxRecDepth 20000 in
theorem gX5_holds_X3_get : GoodIn wsX5_holds (wsV RX5 40 RX3 yX3_get wsX3_get) := goodIn_app (goodIn_of _ (by decide +kernel)) ggX5_holds_X3_get
set_option maxRecDepth 20000 in
theorem ggX5_holds_X5_sideHolds : GoodIn wsX5_holds wsX5_sideHolds := goodIn_r _ [26, 27, 28, 29, 12, 30, 14, 22, 10, 11, 13, 15, 31, 32, 33, 43, 44] (by decide +kernel) (by decide +kernel)
set_option maxRecDepth 20000 in
theorem gX5_holds_X5_sideHolds : GoodIn wsX5_holds (va_wsS RX5 82 yX5_sideHolds wsX5_sideHolds) := goodIn_app (goodIn_of _ (by decide +kernel)) ggX5_holds_X5_sideHolds
theorem dX5_holds_0 : decode cX5_holds 0 = .ok (.aload_n 0, 1) := by decide +kernel
theorem dX5_holds_1 : decode cX5_holds 1 = .ok (.getfield 51, 3) := by decide +kernel
theorem dX5_holds_4 : decode cX5_holds 4 = .ok (.iload_n 1, 1) := by decide +kernel
theorem dX5_holds_5 : decode cX5_holds 5 = .ok (.invokevirtual 57, 3) := by decide +kernel
theorem dX5_holds_8 : decode cX5_holds 8 = .ok (.istore 4, 2) := by decide +kernel
theorem dX5_holds_10 : decode cX5_holds 10 = .ok (.iconst 0, 1) := by decide +kernel
theorem dX5_holds_11 : decode cX5_holds 11 = .ok (.istore 5, 2) := by decide +kernel
theorem dX5_holds_13 : decode cX5_holds 13 = .ok (.iload 5, 2) := by decide +kernel
theorem dX5_holds_15 : decode cX5_holds 15 = .ok (.iload 4, 2) := by decide +kernel
theorem dX5_holds_17 : decode cX5_holds 17 = .ok (.if_icmp .ge 32, 3) := by decide +kernel
theorem dX5_holds_20 : decode cX5_holds 20 = .ok (.aload_n 0, 1) := by decide +kernel
theorem dX5_holds_21 : decode cX5_holds 21 = .ok (.getfield 51, 3) := by decide +kernel
theorem dX5_holds_24 : decode cX5_holds 24 = .ok (.iload_n 1, 1) := by decide +kernel
theorem dX5_holds_25 : decode cX5_holds 25 = .ok (.iload 5, 2) := by decide +kernel
theorem dX5_holds_27 : decode cX5_holds 27 = .ok (.invokevirtual 79, 3) := by decide +kernel
theorem dX5_holds_30 : decode cX5_holds 30 = .ok (.aload_n 2, 1) := by decide +kernel
theorem dX5_holds_31 : decode cX5_holds 31 = .ok (.iload_n 3, 1) := by decide +kernel
theorem dX5_holds_32 : decode cX5_holds 32 = .ok (.iload 5, 2) := by decide +kernel
theorem dX5_holds_34 : decode cX5_holds 34 = .ok (.iadd, 1) := by decide +kernel
theorem dX5_holds_35 : decode cX5_holds 35 = .ok (.invokevirtual 40, 3) := by decide +kernel
theorem dX5_holds_38 : decode cX5_holds 38 = .ok (.if_icmp .eq 5, 3) := by decide +kernel
theorem dX5_holds_41 : decode cX5_holds 41 = .ok (.iconst 0, 1) := by decide +kernel
theorem dX5_holds_42 : decode cX5_holds 42 = .ok (.ireturn, 1) := by decide +kernel
theorem dX5_holds_43 : decode cX5_holds 43 = .ok (.iinc 5 1, 3) := by decide +kernel
theorem dX5_holds_46 : decode cX5_holds 46 = .ok (.goto (-33), 3) := by decide +kernel
theorem dX5_holds_49 : decode cX5_holds 49 = .ok (.aload_n 0, 1) := by decide +kernel
theorem dX5_holds_50 : decode cX5_holds 50 = .ok (.getfield 72, 3) := by decide +kernel
theorem dX5_holds_53 : decode cX5_holds 53 = .ok (.iload_n 1, 1) := by decide +kernel
theorem dX5_holds_54 : decode cX5_holds 54 = .ok (.invokevirtual 40, 3) := by decide +kernel
theorem dX5_holds_57 : decode cX5_holds 57 = .ok (.aload_n 2, 1) := by decide +kernel
theorem dX5_holds_58 : decode cX5_holds 58 = .ok (.iload_n 3, 1) := by decide +kernel
theorem dX5_holds_59 : decode cX5_holds 59 = .ok (.iload_n 3, 1) := by decide +kernel
theorem dX5_holds_60 : decode cX5_holds 60 = .ok (.iload 4, 2) := by decide +kernel
theorem dX5_holds_62 : decode cX5_holds 62 = .ok (.iadd, 1) := by decide +kernel
theorem dX5_holds_63 : decode cX5_holds 63 = .ok (.invokestatic 82, 3) := by decide +kernel
theorem dX5_holds_66 : decode cX5_holds 66 = .ok (.ireturn, 1) := by decide +kernel
set_option maxRecDepth 20000 in
theorem ggX5_sideHolds_X3_size : GoodIn wsX5_sideHolds wsX3_size := goodIn_r _ [5, 6, 15, 16] (by decide +kernel) (by decide +kernel)
set_option maxRecDepth 20000 in
theorem gX5_sideHolds_X3_size : GoodIn wsX5_sideHolds (wsV RX5 32 RX3 yX3_size wsX3_size) := goodIn_app (goodIn_of _ (by decide +kernel)) ggX5_sideHolds_X3_size
set_option maxRecDepth 20000 in
theorem ggX5_sideHolds_X3_get : GoodIn wsX5_sideHolds wsX3_get := goodIn_r _ [10, 6, 11, 15, 16] (by decide +kernel) (by decide +kernel)
set_option maxRecDepth 20000 in
theorem gX5_sideHolds_X3_get : GoodIn wsX5_sideHolds (wsV RX5 40 RX3 yX3_get wsX3_get) := goodIn_app (goodIn_of _ (by decide +kernel)) ggX5_sideHolds_X3_get
set_option maxRecDepth 20000 in
theorem ggX5_sideHolds_X7_isVowel : GoodIn wsX5_sideHolds wsX7_isVowel := goodIn_r _ [14] (by decide +kernel) (by decide +kernel)
set_option maxRecDepth 20000 in
theorem gX5_sideHolds_X7_isVowel_n86 : GoodIn wsX5_sideHolds (wsX7_isVowel) := ggX5_sideHolds_X7_isVowel
theorem dX5_sideHolds_0 : decode cX5_sideHolds 0 = .ok (.iload_n 0, 1) := by decide +kernel
theorem dX5_sideHolds_1 : decode cX5_sideHolds 1 = .ok (.tableswitch 96 1 5 #[35, 45, 59, 68, 85], 35) := by decide +kernel
theorem dX5_sideHolds_36 : decode cX5_sideHolds 36 = .ok (.iload_n 2, 1) := by decide +kernel
theorem dX5_sideHolds_37 : decode cX5_sideHolds 37 = .ok (.ifCond .ne 7, 3) := by decide +kernel
theorem dX5_sideHolds_40 : decode cX5_sideHolds 40 = .ok (.iconst 1, 1) := by decide +kernel
theorem dX5_sideHolds_41 : decode cX5_sideHolds 41 = .ok (.goto 4, 3) := by decide +kernel
theorem dX5_sideHolds_44 : decode cX5_sideHolds 44 = .ok (.iconst 0, 1) := by decide +kernel
theorem dX5_sideHolds_45 : decode cX5_sideHolds 45 = .ok (.ireturn, 1) := by decide +kernel
theorem dX5_sideHolds_46 : decode cX5_sideHolds 46 = .ok (.iload_n 3, 1) := by decide +kernel
theorem dX5_sideHolds_47 : decode cX5_sideHolds 47 = .ok (.aload_n 1, 1) := by decide +kernel
theorem dX5_sideHolds_48 : decode cX5_sideHolds 48 = .ok (.invokevirtual 32, 3) := by decide +kernel
theorem dX5_sideHolds_51 : decode cX5_sideHolds 51 = .ok (.if_icmp .ne 7, 3) := by decide +kernel
theorem dX5_sideHolds_54 : decode cX5_sideHolds 54 = .ok (.iconst 1, 1) := by decide +kernel
theorem dX5_sideHolds_55 : decode cX5_sideHolds 55 = .ok (.goto 4, 3) := by decide +kernel
theorem dX5_sideHolds_58 : decode cX5_sideHolds 58 = .ok (.iconst 0, 1) := by decide +kernel
theorem dX5_sideHolds_59 : decode cX5_sideHolds 59 = .ok (.ireturn, 1) := by decide +kernel
theorem dX5_sideHolds_60 : decode cX5_sideHolds 60 = .ok (.aload_n 1, 1) := by decide +kernel
theorem dX5_sideHolds_61 : decode cX5_sideHolds 61 = .ok (.iload_n 3, 1) := by decide +kernel
theorem dX5_sideHolds_62 : decode cX5_sideHolds 62 = .ok (.invokevirtual 40, 3) := by decide +kernel
theorem dX5_sideHolds_65 : decode cX5_sideHolds 65 = .ok (.invokestatic 86, 3) := by decide +kernel
theorem dX5_sideHolds_68 : decode cX5_sideHolds 68 = .ok (.ireturn, 1) := by decide +kernel
theorem dX5_sideHolds_69 : decode cX5_sideHolds 69 = .ok (.aload_n 1, 1) := by decide +kernel
theorem dX5_sideHolds_70 : decode cX5_sideHolds 70 = .ok (.iload_n 3, 1) := by decide +kernel
theorem dX5_sideHolds_71 : decode cX5_sideHolds 71 = .ok (.invokevirtual 40, 3) := by decide +kernel
theorem dX5_sideHolds_74 : decode cX5_sideHolds 74 = .ok (.invokestatic 86, 3) := by decide +kernel
theorem dX5_sideHolds_77 : decode cX5_sideHolds 77 = .ok (.ifCond .ne 7, 3) := by decide +kernel
theorem dX5_sideHolds_80 : decode cX5_sideHolds 80 = .ok (.iconst 1, 1) := by decide +kernel
theorem dX5_sideHolds_81 : decode cX5_sideHolds 81 = .ok (.goto 4, 3) := by decide +kernel
theorem dX5_sideHolds_84 : decode cX5_sideHolds 84 = .ok (.iconst 0, 1) := by decide +kernel
theorem dX5_sideHolds_85 : decode cX5_sideHolds 85 = .ok (.ireturn, 1) := by decide +kernel
theorem dX5_sideHolds_86 : decode cX5_sideHolds 86 = .ok (.aload_n 1, 1) := by decide +kernel
theorem dX5_sideHolds_87 : decode cX5_sideHolds 87 = .ok (.iload_n 2, 1) := by decide +kernel
theorem dX5_sideHolds_88 : decode cX5_sideHolds 88 = .ok (.iconst 1, 1) := by decide +kernel
theorem dX5_sideHolds_89 : decode cX5_sideHolds 89 = .ok (.isub, 1) := by decide +kernel
theorem dX5_sideHolds_90 : decode cX5_sideHolds 90 = .ok (.invokevirtual 40, 3) := by decide +kernel
theorem dX5_sideHolds_93 : decode cX5_sideHolds 93 = .ok (.invokestatic 86, 3) := by decide +kernel
theorem dX5_sideHolds_96 : decode cX5_sideHolds 96 = .ok (.ireturn, 1) := by decide +kernel
theorem dX5_sideHolds_97 : decode cX5_sideHolds 97 = .ok (.iconst 1, 1) := by decide +kernel
theorem dX5_sideHolds_98 : decode cX5_sideHolds 98 = .ok (.ireturn, 1) := by decide +kernel
set_option maxRecDepth 20000 in
theorem ggX5_write_X3_clear : GoodIn wsX5_write wsX3_clear := goodIn_r _ [7, 8, 54, 55] (by decide +kernel) (by decide +kernel)
set_option maxRecDepth 20000 in
theorem gX5_write_X3_clear : GoodIn wsX5_write (wsV RX5 29 RX3 yX3_clear wsX3_clear) := goodIn_app (goodIn_of _ (by decide +kernel)) ggX5_write_X3_clear
set_option maxRecDepth 20000 in
theorem ggX5_write_X3_size : GoodIn wsX5_write wsX3_size := goodIn_r _ [12, 8, 54, 55] (by decide +kernel) (by decide +kernel)
set_option maxRecDepth 20000 in
theorem gX5_write_X3_size : GoodIn wsX5_write (wsV RX5 32 RX3 yX3_size wsX3_size) := goodIn_app (goodIn_of _ (by decide +kernel)) ggX5_write_X3_size
set_option maxRecDepth 20000 in
theorem ggX5_write_X3_get : GoodIn wsX5_write wsX3_get := goodIn_r _ [16, 8, 17, 54, 55] (by decide +kernel) (by decide +kernel)
set_option maxRecDepth 20000 in
theorem gX5_write_X3_get : GoodIn wsX5_write (wsV RX5 40 RX3 yX3_get wsX3_get) := goodIn_app (goodIn_of _ (by decide +kernel)) ggX5_write_X3_get
set_option maxRecDepth 20000 in
theorem ggX5_write_X5_addSign : GoodIn wsX5_write wsX5_addSign := goodIn_r _ [22, 23, 1, 24, 25, 26, 27, 28, 29, 30, 31, 32, 33, 14, 15, 6, 16, 8, 17, 34, 35, 36, 37, 38, 39, 40, 41, 42, 43, 56, 57, 58, 59, 60, 61, 50, 51, 52, 53, 62, 63, 64, 54, 55] (by decide +kernel) (by decide +kernel)
set_option maxRecDepth 20000 in
theorem gX5_write_X5_addSign : GoodIn wsX5_write (wsV RX5 90 RX5 yX5_addSign wsX5_addSign) := goodIn_app (goodIn_of _ (by decide +kernel)) ggX5_write_X5_addSign
set_option maxRecDepth 20000 in
theorem ggX5_write_X3_addAll : GoodIn wsX5_write wsX3_addAll := goodIn_r _ [47, 8, 48, 14, 15, 6, 16, 17, 49, 41, 42, 43, 54, 55] (by decide +kernel) (by decide +kernel)
set_option maxRecDepth 20000 in
theorem gX5_write_X3_addAll : GoodIn wsX5_write (wsV RX5 93 RX3 yX3_addAll wsX3_addAll) := goodIn_app (goodIn_of _ (by decide +kernel)) ggX5_write_X3_addAll
set_option maxRecDepth 20000 in
theorem ggX5_write_X3_add : GoodIn wsX5_write wsX3_add := goodIn_r _ [43, 8, 17, 54, 55] (by decide +kernel) (by decide +kernel)
set_option maxRecDepth 20000 in
theorem gX5_write_X3_add : GoodIn wsX5_write (wsV RX5 44 RX3 yX3_add wsX3_add) := goodIn_app (goodIn_of _ (by decide +kernel)) ggX5_write_X3_add
theorem dX5_write_0 : decode cX5_write 0 = .ok (.aload_n 0, 1) := by decide +kernel
theorem dX5_write_1 : decode cX5_write 1 = .ok (.getfield 26, 3) := by decide +kernel
theorem dX5_write_4 : decode cX5_write 4 = .ok (.invokevirtual 29, 3) := by decide +kernel
theorem dX5_write_7 : decode cX5_write 7 = .ok (.iload_n 3, 1) := by decide +kernel
theorem dX5_write_8 : decode cX5_write 8 = .ok (.iconst 1, 1) := by decide +kernel
theorem dX5_write_9 : decode cX5_write 9 = .ok (.if_icmp .eq 38, 3) := by decide +kernel
theorem dX5_write_12 : decode cX5_write 12 = .ok (.iconst 0, 1) := by decide +kernel
theorem dX5_write_13 : decode cX5_write 13 = .ok (.istore 4, 2) := by decide +kernel
theorem dX5_write_15 : decode cX5_write 15 = .ok (.iload 4, 2) := by decide +kernel
theorem dX5_write_17 : decode cX5_write 17 = .ok (.aload_n 0, 1) := by decide +kernel
theorem dX5_write_18 : decode cX5_write 18 = .ok (.getfield 14, 3) := by decide +kernel
theorem dX5_write_21 : decode cX5_write 21 = .ok (.invokevirtual 32, 3) := by decide +kernel
theorem dX5_write_24 : decode cX5_write 24 = .ok (.if_icmp .ge 23, 3) := by decide +kernel
theorem dX5_write_27 : decode cX5_write 27 = .ok (.aload_n 0, 1) := by decide +kernel
theorem dX5_write_28 : decode cX5_write 28 = .ok (.aload_n 1, 1) := by decide +kernel
theorem dX5_write_29 : decode cX5_write 29 = .ok (.aload_n 0, 1) := by decide +kernel
theorem dX5_write_30 : decode cX5_write 30 = .ok (.getfield 14, 3) := by decide +kernel
theorem dX5_write_33 : decode cX5_write 33 = .ok (.iload 4, 2) := by decide +kernel
theorem dX5_write_35 : decode cX5_write 35 = .ok (.invokevirtual 40, 3) := by decide +kernel
theorem dX5_write_38 : decode cX5_write 38 = .ok (.invokevirtual 90, 3) := by decide +kernel
theorem dX5_write_41 : decode cX5_write 41 = .ok (.iinc 4 1, 3) := by decide +kernel
theorem dX5_write_44 : decode cX5_write 44 = .ok (.goto (-29), 3) := by decide +kernel
theorem dX5_write_47 : decode cX5_write 47 = .ok (.aload_n 0, 1) := by decide +kernel
theorem dX5_write_48 : decode cX5_write 48 = .ok (.getfield 26, 3) := by decide +kernel
theorem dX5_write_51 : decode cX5_write 51 = .ok (.invokevirtual 32, 3) := by decide +kernel
theorem dX5_write_54 : decode cX5_write 54 = .ok (.ifCond .ne 11, 3) := by decide +kernel
theorem dX5_write_57 : decode cX5_write 57 = .ok (.aload_n 0, 1) := by decide +kernel
theorem dX5_write_58 : decode cX5_write 58 = .ok (.getfield 26, 3) := by decide +kernel
theorem dX5_write_61 : decode cX5_write 61 = .ok (.aload_n 2, 1) := by decide +kernel
theorem dX5_write_62 : decode cX5_write 62 = .ok (.invokevirtual 93, 3) := by decide +kernel
theorem dX5_write_65 : decode cX5_write 65 = .ok (.iload_n 3, 1) := by decide +kernel
theorem dX5_write_66 : decode cX5_write 66 = .ok (.iconst 2, 1) := by decide +kernel
theorem dX5_write_67 : decode cX5_write 67 = .ok (.if_icmp .ne 12, 3) := by decide +kernel
theorem dX5_write_70 : decode cX5_write 70 = .ok (.aload_n 0, 1) := by decide +kernel
theorem dX5_write_71 : decode cX5_write 71 = .ok (.getfield 26, 3) := by decide +kernel
theorem dX5_write_74 : decode cX5_write 74 = .ok (.bipush 39, 2) := by decide +kernel
theorem dX5_write_76 : decode cX5_write 76 = .ok (.invokevirtual 44, 3) := by decide +kernel
theorem dX5_write_79 : decode cX5_write 79 = .ok (.return_, 1) := by decide +kernel
set_option maxRecDepth 20000 in
theorem ggX5_addSign_X7_isCapital : GoodIn wsX5_addSign wsX7_isCapital := goodIn_r _ [5] (by decide +kernel) (by decide +kernel)
set_option maxRecDepth 20000 in
theorem gX5_addSign_X7_isCapital_n97 : GoodIn wsX5_addSign (wsX7_isCapital) := ggX5_addSign_X7_isCapital
set_option maxRecDepth 20000 in
theorem ggX5_addSign_X4_length : GoodIn wsX5_addSign wsX4_length := goodIn_r _ [10, 11, 12, 13, 14, 15, 16, 17, 18, 39, 40, 41, 42, 43] (by decide +kernel) (by decide +kernel)
set_option maxRecDepth 20000 in
theorem gX5_addSign_X4_length : GoodIn wsX5_addSign (wsV RX5 57 RX4 yX4_length wsX4_length) := goodIn_app (goodIn_of _ (by decide +kernel)) ggX5_addSign_X4_length
set_option maxRecDepth 20000 in
theorem ggX5_addSign_X4_get : GoodIn wsX5_addSign wsX4_get := goodIn_r _ [22, 11, 23, 24, 12, 13, 14, 15, 16, 17, 18, 39, 40, 41, 42, 43] (by decide +kernel) (by decide +kernel)
set_option maxRecDepth 20000 in
theorem gX5_addSign_X4_get : GoodIn wsX5_addSign (wsV RX5 79 RX4 yX4_get wsX4_get) := goodIn_app (goodIn_of _ (by decide +kernel)) ggX5_addSign_X4_get
set_option maxRecDepth 20000 in
theorem ggX5_addSign_X3_add : GoodIn wsX5_addSign wsX3_add := goodIn_r _ [28, 17, 18, 42, 43] (by decide +kernel) (by decide +kernel)
set_option maxRecDepth 20000 in
theorem gX5_addSign_X3_add : GoodIn wsX5_addSign (wsV RX5 44 RX3 yX3_add wsX3_add) := goodIn_app (goodIn_of _ (by decide +kernel)) ggX5_addSign_X3_add
theorem dX5_addSign_0 : decode cX5_addSign 0 = .ok (.iload_n 2, 1) := by decide +kernel
theorem dX5_addSign_1 : decode cX5_addSign 1 = .ok (.invokestatic 97, 3) := by decide +kernel
theorem dX5_addSign_4 : decode cX5_addSign 4 = .ok (.ifCond .eq 48, 3) := by decide +kernel
theorem dX5_addSign_7 : decode cX5_addSign 7 = .ok (.iconst 0, 1) := by decide +kernel
theorem dX5_addSign_8 : decode cX5_addSign 8 = .ok (.istore_n 3, 1) := by decide +kernel
theorem dX5_addSign_9 : decode cX5_addSign 9 = .ok (.iload_n 3, 1) := by decide +kernel
theorem dX5_addSign_10 : decode cX5_addSign 10 = .ok (.aload_n 1, 1) := by decide +kernel
theorem dX5_addSign_11 : decode cX5_addSign 11 = .ok (.getfield 100, 3) := by decide +kernel
theorem dX5_addSign_14 : decode cX5_addSign 14 = .ok (.iload_n 2, 1) := by decide +kernel
theorem dX5_addSign_15 : decode cX5_addSign 15 = .ok (.bipush 65, 2) := by decide +kernel
theorem dX5_addSign_17 : decode cX5_addSign 17 = .ok (.isub, 1) := by decide +kernel
theorem dX5_addSign_18 : decode cX5_addSign 18 = .ok (.invokevirtual 57, 3) := by decide +kernel
theorem dX5_addSign_21 : decode cX5_addSign 21 = .ok (.if_icmp .ge 28, 3) := by decide +kernel
theorem dX5_addSign_24 : decode cX5_addSign 24 = .ok (.aload_n 0, 1) := by decide +kernel
theorem dX5_addSign_25 : decode cX5_addSign 25 = .ok (.getfield 26, 3) := by decide +kernel
theorem dX5_addSign_28 : decode cX5_addSign 28 = .ok (.aload_n 1, 1) := by decide +kernel
theorem dX5_addSign_29 : decode cX5_addSign 29 = .ok (.getfield 100, 3) := by decide +kernel
theorem dX5_addSign_32 : decode cX5_addSign 32 = .ok (.iload_n 2, 1) := by decide +kernel
theorem dX5_addSign_33 : decode cX5_addSign 33 = .ok (.bipush 65, 2) := by decide +kernel
theorem dX5_addSign_35 : decode cX5_addSign 35 = .ok (.isub, 1) := by decide +kernel
theorem dX5_addSign_36 : decode cX5_addSign 36 = .ok (.iload_n 3, 1) := by decide +kernel
theorem dX5_addSign_37 : decode cX5_addSign 37 = .ok (.invokevirtual 79, 3) := by decide +kernel
theorem dX5_addSign_40 : decode cX5_addSign 40 = .ok (.invokevirtual 44, 3) := by decide +kernel
theorem dX5_addSign_43 : decode cX5_addSign 43 = .ok (.iinc 3 1, 3) := by decide +kernel
theorem dX5_addSign_46 : decode cX5_addSign 46 = .ok (.goto (-37), 3) := by decide +kernel
theorem dX5_addSign_49 : decode cX5_addSign 49 = .ok (.goto 11, 3) := by decide +kernel
theorem dX5_addSign_52 : decode cX5_addSign 52 = .ok (.aload_n 0, 1) := by decide +kernel
theorem dX5_addSign_53 : decode cX5_addSign 53 = .ok (.getfield 26, 3) := by decide +kernel
theorem dX5_addSign_56 : decode cX5_addSign 56 = .ok (.iload_n 2, 1) := by decide +kernel
theorem dX5_addSign_57 : decode cX5_addSign 57 = .ok (.invokevirtual 44, 3) := by decide +kernel
theorem dX5_addSign_60 : decode cX5_addSign 60 = .ok (.return_, 1) := by decide +kernel
set_option maxRecDepth 20000 in
theorem ggX6_init_X4_init : GoodIn wsX6_init wsX4_init := goodIn_r _ [22, 23, 2, 3, 24, 25, 11, 12, 26, 27, 28, 29, 30, 31, 32, 33, 34, 35, 36, 37, 38, 39, 40, 41, 42, 43, 44, 45, 46, 57, 58, 59, 67, 68] (by decide +kernel) (by decide +kernel)
set_option maxRecDepth 20000 in
theorem gX6_init_X4_init : GoodIn wsX6_init (wsX4_init) := ggX6_init_X4_init
set_option maxRecDepth 20000 in
theorem ggX6_init_X3_init : GoodIn wsX6_init wsX3_init := goodIn_r _ [30, 31, 2, 3, 32, 33, 34, 35, 36, 37, 67, 68] (by decide +kernel) (by decide +kernel)
set_option maxRecDepth 20000 in
theorem gX6_init_X3_init : GoodIn wsX6_init (wsX3_init) := ggX6_init_X3_init
set_option maxRecDepth 20000 in
theorem ggX6_init_X5_init : GoodIn wsX6_init wsX5_init := goodIn_r _ [49, 50, 2, 3, 51, 11, 12, 52, 53, 54, 55, 56, 29, 30, 31, 32, 33, 34, 35, 36, 37, 67, 68, 69, 70, 71, 72] (by decide +kernel) (by decide +kernel)
set_option maxRecDepth 20000 in
theorem gX6_init_X5_init_n40 : GoodIn wsX6_init (wsX5_init) := ggX6_init_X5_init
theorem dX6_init_0 : decode cX6_init 0 = .ok (.aload_n 0, 1) := by decide +kernel
theorem dX6_init_1 : decode cX6_init 1 = .ok (.invokespecial 3, 3) := by decide +kernel
theorem dX6_init_4 : decode cX6_init 4 = .ok (.aload_n 0, 1) := by decide +kernel
theorem dX6_init_5 : decode cX6_init 5 = .ok (.new 9, 3) := by decide +kernel
theorem dX6_init_8 : decode cX6_init 8 = .ok (.dup, 1) := by decide +kernel
theorem dX6_init_9 : decode cX6_init 9 = .ok (.bipush 20, 2) := by decide +kernel
theorem dX6_init_11 : decode cX6_init 11 = .ok (.bipush 12, 2) := by decide +kernel
theorem dX6_init_13 : decode cX6_init 13 = .ok (.invokespecial 11, 3) := by decide +kernel
theorem dX6_init_16 : decode cX6_init 16 = .ok (.putfield 14, 3) := by decide +kernel
theorem dX6_init_19 : decode cX6_init 19 = .ok (.aload_n 0, 1) := by decide +kernel
theorem dX6_init_20 : decode cX6_init 20 = .ok (.new 9, 3) := by decide +kernel
theorem dX6_init_23 : decode cX6_init 23 = .ok (.dup, 1) := by decide +kernel
theorem dX6_init_24 : decode cX6_init 24 = .ok (.bipush 20, 2) := by decide +kernel
theorem dX6_init_26 : decode cX6_init 26 = .ok (.bipush 12, 2) := by decide +kernel
theorem dX6_init_28 : decode cX6_init 28 = .ok (.invokespecial 11, 3) := by decide +kernel
theorem dX6_init_31 : decode cX6_init 31 = .ok (.putfield 20, 3) := by decide +kernel
theorem dX6_init_34 : decode cX6_init 34 = .ok (.aload_n 0, 1) := by decide +kernel
theorem dX6_init_35 : decode cX6_init 35 = .ok (.new 9, 3) := by decide +kernel
theorem dX6_init_38 : decode cX6_init 38 = .ok (.dup, 1) := by decide +kernel
theorem dX6_init_39 : decode cX6_init 39 = .ok (.bipush 20, 2) := by decide +kernel
theorem dX6_init_41 : decode cX6_init 41 = .ok (.bipush 25, 2) := by decide +kernel
theorem dX6_init_43 : decode cX6_init 43 = .ok (.invokespecial 11, 3) := by decide +kernel
theorem dX6_init_46 : decode cX6_init 46 = .ok (.putfield 23, 3) := by decide +kernel
theorem dX6_init_49 : decode cX6_init 49 = .ok (.aload_n 0, 1) := by decide +kernel
theorem dX6_init_50 : decode cX6_init 50 = .ok (.new 26, 3) := by decide +kernel
theorem dX6_init_53 : decode cX6_init 53 = .ok (.dup, 1) := by decide +kernel
theorem dX6_init_54 : decode cX6_init 54 = .ok (.bipush 20, 2) := by decide +kernel
theorem dX6_init_56 : decode cX6_init 56 = .ok (.invokespecial 28, 3) := by decide +kernel
theorem dX6_init_59 : decode cX6_init 59 = .ok (.putfield 31, 3) := by decide +kernel
theorem dX6_init_62 : decode cX6_init 62 = .ok (.aload_n 0, 1) := by decide +kernel
theorem dX6_init_63 : decode cX6_init 63 = .ok (.new 26, 3) := by decide +kernel
theorem dX6_init_66 : decode cX6_init 66 = .ok (.dup, 1) := by decide +kernel
theorem dX6_init_67 : decode cX6_init 67 = .ok (.bipush 30, 2) := by decide +kernel
theorem dX6_init_69 : decode cX6_init 69 = .ok (.invokespecial 28, 3) := by decide +kernel
theorem dX6_init_72 : decode cX6_init 72 = .ok (.putfield 35, 3) := by decide +kernel
theorem dX6_init_75 : decode cX6_init 75 = .ok (.aload_n 0, 1) := by decide +kernel
theorem dX6_init_76 : decode cX6_init 76 = .ok (.new 38, 3) := by decide +kernel
theorem dX6_init_79 : decode cX6_init 79 = .ok (.dup, 1) := by decide +kernel
theorem dX6_init_80 : decode cX6_init 80 = .ok (.invokespecial 40, 3) := by decide +kernel
theorem dX6_init_83 : decode cX6_init 83 = .ok (.putfield 41, 3) := by decide +kernel
theorem dX6_init_86 : decode cX6_init 86 = .ok (.aload_n 0, 1) := by decide +kernel
theorem dX6_init_87 : decode cX6_init 87 = .ok (.new 26, 3) := by decide +kernel
theorem dX6_init_90 : decode cX6_init 90 = .ok (.dup, 1) := by decide +kernel
theorem dX6_init_91 : decode cX6_init 91 = .ok (.bipush 12, 2) := by decide +kernel
theorem dX6_init_93 : decode cX6_init 93 = .ok (.invokespecial 28, 3) := by decide +kernel
theorem dX6_init_96 : decode cX6_init 96 = .ok (.putfield 45, 3) := by decide +kernel
theorem dX6_init_99 : decode cX6_init 99 = .ok (.return_, 1) := by decide +kernel
set_option maxRecDepth 20000 in
theorem ggX6_renew_X4_clear : GoodIn wsX6_renew wsX4_clear := goodIn_r _ [18, 19, 20, 21, 22, 23, 24, 25, 179, 180, 181, 182, 183] (by decide +kernel) (by decide +kernel)
set_option maxRecDepth 20000 in
theorem gX6_renew_X4_clear : GoodIn wsX6_renew (wsV RX6 48 RX4 yX4_clear wsX4_clear) := goodIn_app (goodIn_of _ (by decide +kernel)) ggX6_renew_X4_clear
set_option maxRecDepth 20000 in
theorem ggX6_renew_X3_clear : GoodIn wsX6_renew wsX3_clear := goodIn_r _ [24, 25, 182, 183] (by decide +kernel) (by decide +kernel)
set_option maxRecDepth 20000 in
theorem gX6_renew_X3_clear : GoodIn wsX6_renew (wsV RX6 51 RX3 yX3_clear wsX3_clear) := goodIn_app (goodIn_of _ (by decide +kernel)) ggX6_renew_X3_clear
set_option maxRecDepth 20000 in
theorem ggX6_renew_X0_rules : GoodIn wsX6_renew wsX0_rules := goodIn_r _ [31, 32, 33, 34, 35, 17, 36, 19, 37, 38, 39, 23, 40, 25, 169, 170, 171, 172, 173, 174, 179, 180, 181, 182, 183] (by decide +kernel) (by decide +kernel)
set_option maxRecDepth 20000 in
theorem gX6_renew_X0_rules : GoodIn wsX6_renew (wsV RX6 52 RX0 yX0_rules wsX0_rules) := goodIn_app (goodIn_of _ (by decide +kernel)) ggX6_renew_X0_rules
set_option maxRecDepth 20000 in
theorem ggX6_renew_X3_addMany : GoodIn wsX6_renew wsX3_addMany := goodIn_r _ [44, 45, 46, 47, 23, 48, 25, 49, 182, 183] (by decide +kernel) (by decide +kernel)
set_option maxRecDepth 20000 in
theorem gX6_renew_X3_addMany : GoodIn wsX6_renew (wsV RX6 58 RX3 yX3_addMany wsX3_addMany) := goodIn_app (goodIn_of _ (by decide +kernel)) ggX6_renew_X3_addMany
set_option maxRecDepth 20000 in
theorem ggX6_renew_X0_words : GoodIn wsX6_renew wsX0_words := goodIn_r _ [53, 54, 33, 34, 35, 17, 36, 19, 37, 38, 39, 23, 40, 25, 169, 170, 171, 172, 173, 174, 179, 180, 181, 182, 183] (by decide +kernel) (by decide +kernel)
set_option maxRecDepth 20000 in
theorem gX6_renew_X0_words : GoodIn wsX6_renew (wsV RX6 61 RX0 yX0_words wsX0_words) := goodIn_app (goodIn_of _ (by decide +kernel)) ggX6_renew_X0_words
set_option maxRecDepth 20000 in
theorem ggX6_renew_X4_copyTo : GoodIn wsX6_renew wsX4_copyTo := goodIn_r _ [58, 19, 20, 21, 22, 23, 24, 25, 59, 60, 61, 62, 49, 63, 64, 65, 17, 66, 67, 68, 69, 46, 47, 48, 179, 180, 181, 182, 183] (by decide +kernel) (by decide +kernel)
set_option maxRecDepth 20000 in
theorem gX6_renew_X4_copyTo : GoodIn wsX6_renew (wsV RX6 67 RX4 yX4_copyTo wsX4_copyTo) := goodIn_app (goodIn_of _ (by decide +kernel)) ggX6_renew_X4_copyTo
set_option maxRecDepth 20000 in
theorem ggX6_renew_X5_hear : GoodIn wsX6_renew wsX5_hear := goodIn_r _ [74, 75, 76, 77, 78, 79, 21, 22, 23, 24, 25, 80, 38, 39, 40, 81, 82, 73, 83, 84, 85, 28, 29, 30, 31, 32, 33, 34, 35, 17, 36, 19, 37, 86, 87, 88, 89, 59, 60, 61, 62, 49, 90, 91, 92, 93, 94, 64, 65, 66, 67, 68, 95, 96, 97, 98, 99, 100, 101, 46, 47, 48, 102, 103, 104, 105, 106, 107, 42, 43, 44, 45, 175, 176, 177, 178, 169, 170, 171, 172, 173, 174, 182, 183, 179, 180, 181] (by decide +kernel) (by decide +kernel)
set_option maxRecDepth 20000 in
theorem gX6_renew_X5_hear : GoodIn wsX6_renew (wsV RX6 71 RX5 yX5_hear wsX5_hear) := goodIn_app (goodIn_of _ (by decide +kernel)) ggX6_renew_X5_hear
set_option maxRecDepth 20000 in
theorem ggX6_renew_X3_get : GoodIn wsX6_renew wsX3_get := goodIn_r _ [62, 25, 49, 182, 183] (by decide +kernel) (by decide +kernel)
set_option maxRecDepth 20000 in
theorem gX6_renew_X3_get : GoodIn wsX6_renew (wsV RX6 78 RX3 yX3_get wsX3_get) := goodIn_app (goodIn_of _ (by decide +kernel)) ggX6_renew_X3_get
set_option maxRecDepth 20000 in
theorem ggX6_renew_X5_write : GoodIn wsX6_renew wsX5_write := goodIn_r _ [112, 113, 75, 79, 21, 22, 23, 24, 25, 80, 38, 39, 40, 90, 60, 61, 62, 49, 114, 115, 116, 73, 117, 118, 119, 99, 120, 86, 87, 88, 17, 89, 19, 59, 94, 64, 65, 66, 67, 68, 101, 46, 47, 48, 121, 122, 123, 124, 125, 45, 175, 176, 177, 178, 182, 183, 169, 170, 171, 172, 173, 174, 179, 180, 181] (by decide +kernel) (by decide +kernel)
set_option maxRecDepth 20000 in
theorem gX6_renew_X5_write : GoodIn wsX6_renew (wsV RX6 82 RX5 yX5_write wsX5_write) := goodIn_app (goodIn_of _ (by decide +kernel)) ggX6_renew_X5_write
set_option maxRecDepth 20000 in
theorem ggX6_renew_X4_add : GoodIn wsX6_renew wsX4_add := goodIn_r _ [129, 19, 130, 131, 132, 23, 133, 25, 49, 69, 46, 47, 48, 37, 38, 39, 40, 134, 135, 136, 17, 137, 68, 138, 139, 140, 141, 67, 142, 143, 144, 145, 146, 147, 148, 149, 59, 60, 61, 62, 179, 180, 181, 182, 183] (by decide +kernel) (by decide +kernel)
set_option maxRecDepth 20000 in
theorem gX6_renew_X4_add : GoodIn wsX6_renew (wsV RX6 88 RX4 yX4_add wsX4_add) := goodIn_app (goodIn_of _ (by decide +kernel)) ggX6_renew_X4_add
set_option maxRecDepth 20000 in
theorem ggX6_renew_X3_size : GoodIn wsX6_renew wsX3_size := goodIn_r _ [40, 25, 182, 183] (by decide +kernel) (by decide +kernel)
set_option maxRecDepth 20000 in
theorem gX6_renew_X3_size : GoodIn wsX6_renew (wsV RX6 100 RX3 yX3_size wsX3_size) := goodIn_app (goodIn_of _ (by decide +kernel)) ggX6_renew_X3_size
set_option maxRecDepth 20000 in
theorem ggX6_renew_X3_add : GoodIn wsX6_renew wsX3_add := goodIn_r _ [48, 25, 49, 182, 183] (by decide +kernel) (by decide +kernel)
set_option maxRecDepth 20000 in
theorem gX6_renew_X3_add : GoodIn wsX6_renew (wsV RX6 103 RX3 yX3_add wsX3_add) := goodIn_app (goodIn_of _ (by decide +kernel)) ggX6_renew_X3_add
set_option maxRecDepth 20000 in
theorem ggX6_renew_X6_addUses : GoodIn wsX6_renew wsX6_addUses := goodIn_r _ [156, 5, 150, 38, 39, 23, 40, 25, 108, 60, 61, 62, 49, 157, 158, 159, 160, 125, 161, 147, 148, 149, 162, 163, 164, 165, 166, 167, 168, 182, 183] (by decide +kernel) (by decide +kernel)
set_option maxRecDepth 20000 in
theorem gX6_renew_X6_addUses : GoodIn wsX6_renew (wsV RX6 105 RX6 yX6_addUses wsX6_addUses) := goodIn_app (goodIn_of _ (by decide +kernel)) ggX6_renew_X6_addUses
theorem dX6_renew_0 : decode cX6_renew 0 = .ok (.aload_n 0, 1) := by decide +kernel
theorem dX6_renew_1 : decode cX6_renew 1 = .ok (.getfield 14, 3) := by decide +kernel
theorem dX6_renew_4 : decode cX6_renew 4 = .ok (.invokevirtual 48, 3) := by decide +kernel
theorem dX6_renew_7 : decode cX6_renew 7 = .ok (.aload_n 0, 1) := by decide +kernel
theorem dX6_renew_8 : decode cX6_renew 8 = .ok (.getfield 20, 3) := by decide +kernel
theorem dX6_renew_11 : decode cX6_renew 11 = .ok (.invokevirtual 48, 3) := by decide +kernel
theorem dX6_renew_14 : decode cX6_renew 14 = .ok (.aload_n 0, 1) := by decide +kernel
theorem dX6_renew_15 : decode cX6_renew 15 = .ok (.getfield 23, 3) := by decide +kernel
theorem dX6_renew_18 : decode cX6_renew 18 = .ok (.invokevirtual 48, 3) := by decide +kernel
theorem dX6_renew_21 : decode cX6_renew 21 = .ok (.aload_n 0, 1) := by decide +kernel
theorem dX6_renew_22 : decode cX6_renew 22 = .ok (.getfield 31, 3) := by decide +kernel
theorem dX6_renew_25 : decode cX6_renew 25 = .ok (.invokevirtual 51, 3) := by decide +kernel
theorem dX6_renew_28 : decode cX6_renew 28 = .ok (.aload_n 0, 1) := by decide +kernel
theorem dX6_renew_29 : decode cX6_renew 29 = .ok (.getfield 35, 3) := by decide +kernel
theorem dX6_renew_32 : decode cX6_renew 32 = .ok (.invokevirtual 51, 3) := by decide +kernel
theorem dX6_renew_35 : decode cX6_renew 35 = .ok (.aload_n 0, 1) := by decide +kernel
theorem dX6_renew_36 : decode cX6_renew 36 = .ok (.getfield 35, 3) := by decide +kernel
theorem dX6_renew_39 : decode cX6_renew 39 = .ok (.iconst 0, 1) := by decide +kernel
theorem dX6_renew_40 : decode cX6_renew 40 = .ok (.aload_n 1, 1) := by decide +kernel
theorem dX6_renew_41 : decode cX6_renew 41 = .ok (.invokevirtual 52, 3) := by decide +kernel
theorem dX6_renew_44 : decode cX6_renew 44 = .ok (.invokevirtual 58, 3) := by decide +kernel
theorem dX6_renew_47 : decode cX6_renew 47 = .ok (.iconst 0, 1) := by decide +kernel
theorem dX6_renew_48 : decode cX6_renew 48 = .ok (.istore_n 2, 1) := by decide +kernel
theorem dX6_renew_49 : decode cX6_renew 49 = .ok (.iload_n 2, 1) := by decide +kernel
theorem dX6_renew_50 : decode cX6_renew 50 = .ok (.aload_n 1, 1) := by decide +kernel
theorem dX6_renew_51 : decode cX6_renew 51 = .ok (.invokevirtual 61, 3) := by decide +kernel
theorem dX6_renew_54 : decode cX6_renew 54 = .ok (.if_icmp .ge 123, 3) := by decide +kernel
theorem dX6_renew_57 : decode cX6_renew 57 = .ok (.aload_n 1, 1) := by decide +kernel
theorem dX6_renew_58 : decode cX6_renew 58 = .ok (.getfield 64, 3) := by decide +kernel
theorem dX6_renew_61 : decode cX6_renew 61 = .ok (.iload_n 2, 1) := by decide +kernel
theorem dX6_renew_62 : decode cX6_renew 62 = .ok (.aload_n 0, 1) := by decide +kernel
theorem dX6_renew_63 : decode cX6_renew 63 = .ok (.getfield 45, 3) := by decide +kernel
theorem dX6_renew_66 : decode cX6_renew 66 = .ok (.invokevirtual 67, 3) := by decide +kernel
theorem dX6_renew_69 : decode cX6_renew 69 = .ok (.aload_n 0, 1) := by decide +kernel
theorem dX6_renew_70 : decode cX6_renew 70 = .ok (.getfield 41, 3) := by decide +kernel
theorem dX6_renew_73 : decode cX6_renew 73 = .ok (.aload_n 1, 1) := by decide +kernel
theorem dX6_renew_74 : decode cX6_renew 74 = .ok (.aload_n 0, 1) := by decide +kernel
theorem dX6_renew_75 : decode cX6_renew 75 = .ok (.getfield 45, 3) := by decide +kernel
theorem dX6_renew_78 : decode cX6_renew 78 = .ok (.invokevirtual 71, 3) := by decide +kernel
theorem dX6_renew_81 : decode cX6_renew 81 = .ok (.aload_n 0, 1) := by decide +kernel
theorem dX6_renew_82 : decode cX6_renew 82 = .ok (.getfield 41, 3) := by decide +kernel
theorem dX6_renew_85 : decode cX6_renew 85 = .ok (.aload_n 1, 1) := by decide +kernel
theorem dX6_renew_86 : decode cX6_renew 86 = .ok (.aload_n 0, 1) := by decide +kernel
theorem dX6_renew_87 : decode cX6_renew 87 = .ok (.getfield 45, 3) := by decide +kernel
theorem dX6_renew_90 : decode cX6_renew 90 = .ok (.aload_n 1, 1) := by decide +kernel
theorem dX6_renew_91 : decode cX6_renew 91 = .ok (.getfield 75, 3) := by decide +kernel
theorem dX6_renew_94 : decode cX6_renew 94 = .ok (.iload_n 2, 1) := by decide +kernel
theorem dX6_renew_95 : decode cX6_renew 95 = .ok (.invokevirtual 78, 3) := by decide +kernel
theorem dX6_renew_98 : decode cX6_renew 98 = .ok (.invokevirtual 82, 3) := by decide +kernel
theorem dX6_renew_101 : decode cX6_renew 101 = .ok (.aload_n 0, 1) := by decide +kernel
theorem dX6_renew_102 : decode cX6_renew 102 = .ok (.getfield 14, 3) := by decide +kernel
theorem dX6_renew_105 : decode cX6_renew 105 = .ok (.aload_n 0, 1) := by decide +kernel
theorem dX6_renew_106 : decode cX6_renew 106 = .ok (.getfield 41, 3) := by decide +kernel
theorem dX6_renew_109 : decode cX6_renew 109 = .ok (.getfield 86, 3) := by decide +kernel
theorem dX6_renew_112 : decode cX6_renew 112 = .ok (.invokevirtual 88, 3) := by decide +kernel
theorem dX6_renew_115 : decode cX6_renew 115 = .ok (.aload_n 0, 1) := by decide +kernel
theorem dX6_renew_116 : decode cX6_renew 116 = .ok (.getfield 20, 3) := by decide +kernel
theorem dX6_renew_119 : decode cX6_renew 119 = .ok (.aload_n 0, 1) := by decide +kernel
theorem dX6_renew_120 : decode cX6_renew 120 = .ok (.getfield 41, 3) := by decide +kernel
theorem dX6_renew_123 : decode cX6_renew 123 = .ok (.getfield 92, 3) := by decide +kernel
theorem dX6_renew_126 : decode cX6_renew 126 = .ok (.invokevirtual 88, 3) := by decide +kernel
theorem dX6_renew_129 : decode cX6_renew 129 = .ok (.aload_n 0, 1) := by decide +kernel
theorem dX6_renew_130 : decode cX6_renew 130 = .ok (.getfield 23, 3) := by decide +kernel
theorem dX6_renew_133 : decode cX6_renew 133 = .ok (.aload_n 0, 1) := by decide +kernel
theorem dX6_renew_134 : decode cX6_renew 134 = .ok (.getfield 41, 3) := by decide +kernel
theorem dX6_renew_137 : decode cX6_renew 137 = .ok (.getfield 94, 3) := by decide +kernel
theorem dX6_renew_140 : decode cX6_renew 140 = .ok (.invokevirtual 88, 3) := by decide +kernel
theorem dX6_renew_143 : decode cX6_renew 143 = .ok (.aload_n 0, 1) := by decide +kernel
theorem dX6_renew_144 : decode cX6_renew 144 = .ok (.getfield 31, 3) := by decide +kernel
theorem dX6_renew_147 : decode cX6_renew 147 = .ok (.aload_n 0, 1) := by decide +kernel
theorem dX6_renew_148 : decode cX6_renew 148 = .ok (.getfield 41, 3) := by decide +kernel
theorem dX6_renew_151 : decode cX6_renew 151 = .ok (.getfield 97, 3) := by decide +kernel
theorem dX6_renew_154 : decode cX6_renew 154 = .ok (.invokevirtual 100, 3) := by decide +kernel
theorem dX6_renew_157 : decode cX6_renew 157 = .ok (.invokevirtual 103, 3) := by decide +kernel
theorem dX6_renew_160 : decode cX6_renew 160 = .ok (.aload_n 0, 1) := by decide +kernel
theorem dX6_renew_161 : decode cX6_renew 161 = .ok (.aload_n 0, 1) := by decide +kernel
theorem dX6_renew_162 : decode cX6_renew 162 = .ok (.getfield 41, 3) := by decide +kernel
theorem dX6_renew_165 : decode cX6_renew 165 = .ok (.getfield 97, 3) := by decide +kernel
theorem dX6_renew_168 : decode cX6_renew 168 = .ok (.invokevirtual 105, 3) := by decide +kernel
theorem dX6_renew_171 : decode cX6_renew 171 = .ok (.iinc 2 1, 3) := by decide +kernel
theorem dX6_renew_174 : decode cX6_renew 174 = .ok (.goto (-125), 3) := by decide +kernel
theorem dX6_renew_177 : decode cX6_renew 177 = .ok (.return_, 1) := by decide +kernel
set_option maxRecDepth 20000 in
theorem ggX6_addUses_X3_size : GoodIn wsX6_addUses wsX3_size := goodIn_r _ [6, 7, 29, 30] (by decide +kernel) (by decide +kernel)
set_option maxRecDepth 20000 in
theorem gX6_addUses_X3_size : GoodIn wsX6_addUses (wsV RX6 100 RX3 yX3_size wsX3_size) := goodIn_app (goodIn_of _ (by decide +kernel)) ggX6_addUses_X3_size
set_option maxRecDepth 20000 in
theorem ggX6_addUses_X3_get : GoodIn wsX6_addUses wsX3_get := goodIn_r _ [11, 7, 12, 29, 30] (by decide +kernel) (by decide +kernel)
set_option maxRecDepth 20000 in
theorem gX6_addUses_X3_get : GoodIn wsX6_addUses (wsV RX6 78 RX3 yX3_get wsX3_get) := goodIn_app (goodIn_of _ (by decide +kernel)) ggX6_addUses_X3_get
set_option maxRecDepth 20000 in
theorem ggX6_addUses_X3_increase : GoodIn wsX6_addUses wsX3_increase := goodIn_r _ [16, 17, 9, 10, 5, 11, 7, 12, 18, 19, 20, 21, 29, 30] (by decide +kernel) (by decide +kernel)
set_option maxRecDepth 20000 in
theorem gX6_addUses_X3_increase : GoodIn wsX6_addUses (wsV RX6 108 RX3 yX3_increase wsX3_increase) := goodIn_app (goodIn_of _ (by decide +kernel)) ggX6_addUses_X3_increase
theorem dX6_addUses_0 : decode cX6_addUses 0 = .ok (.iconst 0, 1) := by decide +kernel
theorem dX6_addUses_1 : decode cX6_addUses 1 = .ok (.istore_n 2, 1) := by decide +kernel
theorem dX6_addUses_2 : decode cX6_addUses 2 = .ok (.iload_n 2, 1) := by decide +kernel
theorem dX6_addUses_3 : decode cX6_addUses 3 = .ok (.aload_n 1, 1) := by decide +kernel
theorem dX6_addUses_4 : decode cX6_addUses 4 = .ok (.invokevirtual 100, 3) := by decide +kernel
theorem dX6_addUses_7 : decode cX6_addUses 7 = .ok (.if_icmp .ge 21, 3) := by decide +kernel
theorem dX6_addUses_10 : decode cX6_addUses 10 = .ok (.aload_n 0, 1) := by decide +kernel
theorem dX6_addUses_11 : decode cX6_addUses 11 = .ok (.getfield 35, 3) := by decide +kernel
theorem dX6_addUses_14 : decode cX6_addUses 14 = .ok (.aload_n 1, 1) := by decide +kernel
theorem dX6_addUses_15 : decode cX6_addUses 15 = .ok (.iload_n 2, 1) := by decide +kernel
theorem dX6_addUses_16 : decode cX6_addUses 16 = .ok (.invokevirtual 78, 3) := by decide +kernel
theorem dX6_addUses_19 : decode cX6_addUses 19 = .ok (.invokevirtual 108, 3) := by decide +kernel
theorem dX6_addUses_22 : decode cX6_addUses 22 = .ok (.iinc 2 1, 3) := by decide +kernel
theorem dX6_addUses_25 : decode cX6_addUses 25 = .ok (.goto (-23), 3) := by decide +kernel
theorem dX6_addUses_28 : decode cX6_addUses 28 = .ok (.return_, 1) := by decide +kernel
set_option maxRecDepth 20000 in
theorem ggX6_comesBack_X4_lowestLike : GoodIn wsX6_comesBack wsX4_lowestLike := goodIn_r _ [6, 7, 8, 9, 5, 10, 11, 12, 13, 14, 15, 16, 17, 18, 19, 20, 21, 22, 23, 24, 32, 33, 34, 35, 36] (by decide +kernel) (by decide +kernel)
set_option maxRecDepth 20000 in
theorem gX6_comesBack_X4_lowestLike : GoodIn wsX6_comesBack (wsV RX6 111 RX4 yX4_lowestLike wsX4_lowestLike) := goodIn_app (goodIn_of _ (by decide +kernel)) ggX6_comesBack_X4_lowestLike
theorem dX6_comesBack_0 : decode cX6_comesBack 0 = .ok (.aload_n 0, 1) := by decide +kernel
theorem dX6_comesBack_1 : decode cX6_comesBack 1 = .ok (.getfield 23, 3) := by decide +kernel
theorem dX6_comesBack_4 : decode cX6_comesBack 4 = .ok (.iload_n 1, 1) := by decide +kernel
theorem dX6_comesBack_5 : decode cX6_comesBack 5 = .ok (.invokevirtual 111, 3) := by decide +kernel
theorem dX6_comesBack_8 : decode cX6_comesBack 8 = .ok (.iload_n 1, 1) := by decide +kernel
theorem dX6_comesBack_9 : decode cX6_comesBack 9 = .ok (.if_icmp .ne 7, 3) := by decide +kernel
theorem dX6_comesBack_12 : decode cX6_comesBack 12 = .ok (.iconst 1, 1) := by decide +kernel
theorem dX6_comesBack_13 : decode cX6_comesBack 13 = .ok (.goto 4, 3) := by decide +kernel
theorem dX6_comesBack_16 : decode cX6_comesBack 16 = .ok (.iconst 0, 1) := by decide +kernel
theorem dX6_comesBack_17 : decode cX6_comesBack 17 = .ok (.ireturn, 1) := by decide +kernel
set_option maxRecDepth 20000 in
theorem ggX6_comingBack_X4_lines : GoodIn wsX6_comingBack wsX4_lines := goodIn_r _ [6, 7, 8, 9, 10, 11, 12, 13, 45, 46, 47, 48, 49] (by decide +kernel) (by decide +kernel)
set_option maxRecDepth 20000 in
theorem gX6_comingBack_X4_lines : GoodIn wsX6_comingBack (wsV RX6 114 RX4 yX4_lines wsX4_lines) := goodIn_app (goodIn_of _ (by decide +kernel)) ggX6_comingBack_X4_lines
set_option maxRecDepth 20000 in
theorem ggX6_comingBack_X6_comesBack : GoodIn wsX6_comingBack wsX6_comesBack := goodIn_r _ [18, 1, 19, 20, 21, 5, 22, 23, 24, 25, 26, 7, 27, 28, 29, 11, 30, 13, 31, 32, 33, 34, 35, 36, 37, 38, 39, 40, 41, 42, 43, 44, 45, 46, 47, 48, 49] (by decide +kernel) (by decide +kernel)
set_option maxRecDepth 20000 in
theorem gX6_comingBack_X6_comesBack : GoodIn wsX6_comingBack (wsV RX6 117 RX6 yX6_comesBack wsX6_comesBack) := goodIn_app (goodIn_of _ (by decide +kernel)) ggX6_comingBack_X6_comesBack
theorem dX6_comingBack_0 : decode cX6_comingBack 0 = .ok (.iconst 0, 1) := by decide +kernel
theorem dX6_comingBack_1 : decode cX6_comingBack 1 = .ok (.istore_n 1, 1) := by decide +kernel
theorem dX6_comingBack_2 : decode cX6_comingBack 2 = .ok (.iconst 0, 1) := by decide +kernel
theorem dX6_comingBack_3 : decode cX6_comingBack 3 = .ok (.istore_n 2, 1) := by decide +kernel
theorem dX6_comingBack_4 : decode cX6_comingBack 4 = .ok (.iload_n 2, 1) := by decide +kernel
theorem dX6_comingBack_5 : decode cX6_comingBack 5 = .ok (.aload_n 0, 1) := by decide +kernel
theorem dX6_comingBack_6 : decode cX6_comingBack 6 = .ok (.getfield 23, 3) := by decide +kernel
theorem dX6_comingBack_9 : decode cX6_comingBack 9 = .ok (.invokevirtual 114, 3) := by decide +kernel
theorem dX6_comingBack_12 : decode cX6_comingBack 12 = .ok (.if_icmp .ge 20, 3) := by decide +kernel
theorem dX6_comingBack_15 : decode cX6_comingBack 15 = .ok (.aload_n 0, 1) := by decide +kernel
theorem dX6_comingBack_16 : decode cX6_comingBack 16 = .ok (.iload_n 2, 1) := by decide +kernel
theorem dX6_comingBack_17 : decode cX6_comingBack 17 = .ok (.invokevirtual 117, 3) := by decide +kernel
theorem dX6_comingBack_20 : decode cX6_comingBack 20 = .ok (.ifCond .eq 6, 3) := by decide +kernel
theorem dX6_comingBack_23 : decode cX6_comingBack 23 = .ok (.iinc 1 1, 3) := by decide +kernel
theorem dX6_comingBack_26 : decode cX6_comingBack 26 = .ok (.iinc 2 1, 3) := by decide +kernel
theorem dX6_comingBack_29 : decode cX6_comingBack 29 = .ok (.goto (-25), 3) := by decide +kernel
theorem dX6_comingBack_32 : decode cX6_comingBack 32 = .ok (.iload_n 1, 1) := by decide +kernel
theorem dX6_comingBack_33 : decode cX6_comingBack 33 = .ok (.ireturn, 1) := by decide +kernel
set_option maxRecDepth 20000 in
theorem ggX6_collisions_X4_lines : GoodIn wsX6_collisions wsX4_lines := goodIn_r _ [6, 7, 8, 9, 10, 11, 12, 13, 40, 41, 42, 43, 44] (by decide +kernel) (by decide +kernel)
set_option maxRecDepth 20000 in
theorem gX6_collisions_X4_lines : GoodIn wsX6_collisions (wsV RX6 114 RX4 yX4_lines wsX4_lines) := goodIn_app (goodIn_of _ (by decide +kernel)) ggX6_collisions_X4_lines
set_option maxRecDepth 20000 in
theorem ggX6_collisions_X4_countLike : GoodIn wsX6_collisions wsX4_countLike := goodIn_r _ [17, 7, 8, 9, 10, 11, 12, 13, 18, 19, 20, 5, 21, 22, 23, 24, 25, 26, 27, 28, 29, 30, 31, 32, 40, 41, 42, 43, 44] (by decide +kernel) (by decide +kernel)
set_option maxRecDepth 20000 in
theorem gX6_collisions_X4_countLike : GoodIn wsX6_collisions (wsV RX6 121 RX4 yX4_countLike wsX4_countLike) := goodIn_app (goodIn_of _ (by decide +kernel)) ggX6_collisions_X4_countLike
theorem dX6_collisions_0 : decode cX6_collisions 0 = .ok (.iconst 0, 1) := by decide +kernel
theorem dX6_collisions_1 : decode cX6_collisions 1 = .ok (.istore_n 1, 1) := by decide +kernel
theorem dX6_collisions_2 : decode cX6_collisions 2 = .ok (.iconst 0, 1) := by decide +kernel
theorem dX6_collisions_3 : decode cX6_collisions 3 = .ok (.istore_n 2, 1) := by decide +kernel
theorem dX6_collisions_4 : decode cX6_collisions 4 = .ok (.iload_n 2, 1) := by decide +kernel
theorem dX6_collisions_5 : decode cX6_collisions 5 = .ok (.aload_n 0, 1) := by decide +kernel
theorem dX6_collisions_6 : decode cX6_collisions 6 = .ok (.getfield 23, 3) := by decide +kernel
theorem dX6_collisions_9 : decode cX6_collisions 9 = .ok (.invokevirtual 114, 3) := by decide +kernel
theorem dX6_collisions_12 : decode cX6_collisions 12 = .ok (.if_icmp .ge 24, 3) := by decide +kernel
theorem dX6_collisions_15 : decode cX6_collisions 15 = .ok (.aload_n 0, 1) := by decide +kernel
theorem dX6_collisions_16 : decode cX6_collisions 16 = .ok (.getfield 23, 3) := by decide +kernel
theorem dX6_collisions_19 : decode cX6_collisions 19 = .ok (.iload_n 2, 1) := by decide +kernel
theorem dX6_collisions_20 : decode cX6_collisions 20 = .ok (.invokevirtual 121, 3) := by decide +kernel
theorem dX6_collisions_23 : decode cX6_collisions 23 = .ok (.iconst 1, 1) := by decide +kernel
theorem dX6_collisions_24 : decode cX6_collisions 24 = .ok (.if_icmp .le 6, 3) := by decide +kernel
theorem dX6_collisions_27 : decode cX6_collisions 27 = .ok (.iinc 1 1, 3) := by decide +kernel
theorem dX6_collisions_30 : decode cX6_collisions 30 = .ok (.iinc 2 1, 3) := by decide +kernel
theorem dX6_collisions_33 : decode cX6_collisions 33 = .ok (.goto (-29), 3) := by decide +kernel
theorem dX6_collisions_36 : decode cX6_collisions 36 = .ok (.iload_n 1, 1) := by decide +kernel
theorem dX6_collisions_37 : decode cX6_collisions 37 = .ok (.ireturn, 1) := by decide +kernel
set_option maxRecDepth 20000 in
theorem ggX6_unusedRules_X3_size : GoodIn wsX6_unusedRules wsX3_size := goodIn_r _ [6, 7, 20, 21] (by decide +kernel) (by decide +kernel)
set_option maxRecDepth 20000 in
theorem gX6_unusedRules_X3_size : GoodIn wsX6_unusedRules (wsV RX6 100 RX3 yX3_size wsX3_size) := goodIn_app (goodIn_of _ (by decide +kernel)) ggX6_unusedRules_X3_size
set_option maxRecDepth 20000 in
theorem ggX6_unusedRules_X3_get : GoodIn wsX6_unusedRules wsX3_get := goodIn_r _ [11, 7, 12, 20, 21] (by decide +kernel) (by decide +kernel)
set_option maxRecDepth 20000 in
theorem gX6_unusedRules_X3_get : GoodIn wsX6_unusedRules (wsV RX6 78 RX3 yX3_get wsX3_get) := goodIn_app (goodIn_of _ (by decide +kernel)) ggX6_unusedRules_X3_get
theorem dX6_unusedRules_0 : decode cX6_unusedRules 0 = .ok (.iconst 0, 1) := by decide +kernel
theorem dX6_unusedRules_1 : decode cX6_unusedRules 1 = .ok (.istore_n 1, 1) := by decide +kernel
theorem dX6_unusedRules_2 : decode cX6_unusedRules 2 = .ok (.iconst 0, 1) := by decide +kernel
theorem dX6_unusedRules_3 : decode cX6_unusedRules 3 = .ok (.istore_n 2, 1) := by decide +kernel
theorem dX6_unusedRules_4 : decode cX6_unusedRules 4 = .ok (.iload_n 2, 1) := by decide +kernel
theorem dX6_unusedRules_5 : decode cX6_unusedRules 5 = .ok (.aload_n 0, 1) := by decide +kernel
theorem dX6_unusedRules_6 : decode cX6_unusedRules 6 = .ok (.getfield 35, 3) := by decide +kernel
theorem dX6_unusedRules_9 : decode cX6_unusedRules 9 = .ok (.invokevirtual 100, 3) := by decide +kernel
theorem dX6_unusedRules_12 : decode cX6_unusedRules 12 = .ok (.if_icmp .ge 23, 3) := by decide +kernel
theorem dX6_unusedRules_15 : decode cX6_unusedRules 15 = .ok (.aload_n 0, 1) := by decide +kernel
theorem dX6_unusedRules_16 : decode cX6_unusedRules 16 = .ok (.getfield 35, 3) := by decide +kernel
theorem dX6_unusedRules_19 : decode cX6_unusedRules 19 = .ok (.iload_n 2, 1) := by decide +kernel
theorem dX6_unusedRules_20 : decode cX6_unusedRules 20 = .ok (.invokevirtual 78, 3) := by decide +kernel
theorem dX6_unusedRules_23 : decode cX6_unusedRules 23 = .ok (.ifCond .ne 6, 3) := by decide +kernel
theorem dX6_unusedRules_26 : decode cX6_unusedRules 26 = .ok (.iinc 1 1, 3) := by decide +kernel
theorem dX6_unusedRules_29 : decode cX6_unusedRules 29 = .ok (.iinc 2 1, 3) := by decide +kernel
theorem dX6_unusedRules_32 : decode cX6_unusedRules 32 = .ok (.goto (-28), 3) := by decide +kernel
theorem dX6_unusedRules_35 : decode cX6_unusedRules 35 = .ok (.iload_n 1, 1) := by decide +kernel
theorem dX6_unusedRules_36 : decode cX6_unusedRules 36 = .ok (.ireturn, 1) := by decide +kernel
set_option maxRecDepth 20000 in
theorem ggX6_differences_X4_lines : GoodIn wsX6_differences wsX4_lines := goodIn_r _ [6, 7, 8, 9, 10, 11, 12, 13, 36, 37, 38, 39, 40] (by decide +kernel) (by decide +kernel)
set_option maxRecDepth 20000 in
theorem gX6_differences_X4_lines : GoodIn wsX6_differences (wsV RX6 114 RX4 yX4_lines wsX4_lines) := goodIn_app (goodIn_of _ (by decide +kernel)) ggX6_differences_X4_lines
set_option maxRecDepth 20000 in
theorem ggX6_differences_X4_isLike_ : GoodIn wsX6_differences wsX4_isLike_ := goodIn_r _ [17, 7, 18, 19, 20, 11, 21, 13, 22, 23, 24, 25, 5, 26, 27, 28, 36, 37, 38, 39, 40] (by decide +kernel) (by decide +kernel)
set_option maxRecDepth 20000 in
theorem gX6_differences_X4_isLike_ : GoodIn wsX6_differences (wsV RX6 124 RX4 yX4_isLike_ wsX4_isLike_) := goodIn_app (goodIn_of _ (by decide +kernel)) ggX6_differences_X4_isLike_
theorem dX6_differences_0 : decode cX6_differences 0 = .ok (.iconst 0, 1) := by decide +kernel
theorem dX6_differences_1 : decode cX6_differences 1 = .ok (.istore_n 2, 1) := by decide +kernel
theorem dX6_differences_2 : decode cX6_differences 2 = .ok (.iconst 0, 1) := by decide +kernel
theorem dX6_differences_3 : decode cX6_differences 3 = .ok (.istore_n 3, 1) := by decide +kernel
theorem dX6_differences_4 : decode cX6_differences 4 = .ok (.iload_n 3, 1) := by decide +kernel
theorem dX6_differences_5 : decode cX6_differences 5 = .ok (.aload_n 0, 1) := by decide +kernel
theorem dX6_differences_6 : decode cX6_differences 6 = .ok (.getfield 23, 3) := by decide +kernel
theorem dX6_differences_9 : decode cX6_differences 9 = .ok (.invokevirtual 114, 3) := by decide +kernel
theorem dX6_differences_12 : decode cX6_differences 12 = .ok (.if_icmp .ge 28, 3) := by decide +kernel
theorem dX6_differences_15 : decode cX6_differences 15 = .ok (.aload_n 0, 1) := by decide +kernel
theorem dX6_differences_16 : decode cX6_differences 16 = .ok (.getfield 23, 3) := by decide +kernel
theorem dX6_differences_19 : decode cX6_differences 19 = .ok (.iload_n 3, 1) := by decide +kernel
theorem dX6_differences_20 : decode cX6_differences 20 = .ok (.aload_n 1, 1) := by decide +kernel
theorem dX6_differences_21 : decode cX6_differences 21 = .ok (.getfield 23, 3) := by decide +kernel
theorem dX6_differences_24 : decode cX6_differences 24 = .ok (.iload_n 3, 1) := by decide +kernel
theorem dX6_differences_25 : decode cX6_differences 25 = .ok (.invokevirtual 124, 3) := by decide +kernel
theorem dX6_differences_28 : decode cX6_differences 28 = .ok (.ifCond .ne 6, 3) := by decide +kernel
theorem dX6_differences_31 : decode cX6_differences 31 = .ok (.iinc 2 1, 3) := by decide +kernel
theorem dX6_differences_34 : decode cX6_differences 34 = .ok (.iinc 3 1, 3) := by decide +kernel
theorem dX6_differences_37 : decode cX6_differences 37 = .ok (.goto (-33), 3) := by decide +kernel
theorem dX6_differences_40 : decode cX6_differences 40 = .ok (.iload_n 2, 1) := by decide +kernel
theorem dX6_differences_41 : decode cX6_differences 41 = .ok (.ireturn, 1) := by decide +kernel
end
section
set_option maxRecDepth 20000 in
theorem ggX7_init_X3_init : GoodIn wsX7_init wsX3_init := goodIn_r _ [35, 36, 2, 3, 37, 38, 39, 40, 41, 42, 152, 153] (by decide +kernel) (by decide +kernel)
set_option maxRecDepth 20000 in
theorem gX7_init_X3_init : GoodIn wsX7_init (wsX3_init) := ggX7_init_X3_init
set_option maxRecDepth 20000 in
theorem ggX7_init_X2_init : GoodIn wsX7_init wsX2_init := goodIn_r _ [45, 46, 2, 3, 47, 5, 6, 48, 49, 50, 34, 35, 36, 37, 38, 39, 40, 41, 42, 152, 153, 166, 167, 168, 169, 170, 171, 172] (by decide +kernel) (by decide +kernel)
set_option maxRecDepth 20000 in
theorem gX7_init_X2_init : GoodIn wsX7_init (wsX2_init) := ggX7_init_X2_init
set_option maxRecDepth 20000 in
theorem ggX7_init_X5_init : GoodIn wsX7_init wsX5_init := goodIn_r _ [52, 53, 2, 3, 54, 5, 6, 55, 56, 57, 58, 59, 34, 35, 36, 37, 38, 39, 40, 41, 42, 152, 153, 173, 174, 175, 176] (by decide +kernel) (by decide +kernel)
set_option maxRecDepth 20000 in
theorem gX7_init_X5_init_n35 : GoodIn wsX7_init (wsX5_init) := ggX7_init_X5_init
set_option maxRecDepth 20000 in
theorem ggX7_init_X0_init : GoodIn wsX7_init wsX0_init := goodIn_r _ [62, 63, 2, 3, 64, 65, 66, 67, 68, 5, 6, 69, 70, 71, 72, 73, 74, 75, 76, 77, 78, 79, 80, 81, 82, 34, 35, 36, 37, 38, 39, 40, 41, 42, 83, 84, 85, 86, 87, 88, 89, 90, 91, 92, 93, 94, 95, 96, 97, 98, 99, 100, 101, 102, 103, 104, 105, 106, 107, 108, 109, 110, 111, 112, 113, 114, 115, 116, 117, 118, 119, 120, 121, 122, 123, 124, 125, 126, 127, 128, 129, 192, 193, 194, 177, 178, 179, 180, 181, 182, 152, 153] (by decide +kernel) (by decide +kernel)
set_option maxRecDepth 20000 in
theorem gX7_init_X0_init : GoodIn wsX7_init (wsX0_init) := ggX7_init_X0_init
set_option maxRecDepth 20000 in
theorem ggX7_init_X1_init : GoodIn wsX7_init wsX1_init := goodIn_r _ [132, 133, 2, 3, 134, 135, 19, 20, 136, 61, 62, 63, 64, 65, 66, 67, 68, 5, 6, 69, 70, 71, 72, 73, 74, 75, 76, 77, 78, 79, 80, 81, 82, 34, 35, 36, 37, 38, 39, 40, 41, 42, 83, 84, 85, 86, 87, 88, 89, 90, 91, 92, 93, 94, 95, 96, 97, 98, 99, 100, 101, 102, 103, 104, 105, 106, 107, 108, 109, 110, 111, 112, 113, 114, 115, 116, 117, 118, 119, 120, 121, 122, 123, 124, 125, 126, 127, 128, 129, 183, 184, 177, 178, 179, 180, 181, 182, 192, 193, 194, 152, 153] (by decide +kernel) (by decide +kernel)
set_option maxRecDepth 20000 in
theorem gX7_init_X1_init : GoodIn wsX7_init (wsX1_init) := ggX7_init_X1_init
set_option maxRecDepth 20000 in
theorem ggX7_init_X6_init : GoodIn wsX7_init wsX6_init := goodIn_r _ [138, 139, 2, 3, 140, 65, 66, 141, 142, 143, 144, 5, 6, 145, 146, 147, 15, 16, 148, 149, 150, 75, 76, 77, 78, 79, 80, 81, 82, 34, 35, 36, 37, 38, 39, 40, 41, 42, 83, 84, 85, 86, 87, 88, 89, 90, 91, 151, 51, 52, 53, 54, 55, 56, 57, 58, 59, 192, 193, 194, 185, 186, 187, 188, 189, 190, 191, 152, 153, 173, 174, 175, 176] (by decide +kernel) (by decide +kernel)
set_option maxRecDepth 20000 in
theorem gX7_init_X6_init_n64 : GoodIn wsX7_init (wsX6_init) := ggX7_init_X6_init
theorem dX7_init_0 : decode cX7_init 0 = .ok (.aload_n 0, 1) := by decide +kernel
theorem dX7_init_1 : decode cX7_init 1 = .ok (.invokespecial 1, 3) := by decide +kernel
theorem dX7_init_4 : decode cX7_init 4 = .ok (.aload_n 0, 1) := by decide +kernel
theorem dX7_init_5 : decode cX7_init 5 = .ok (.new 7, 3) := by decide +kernel
theorem dX7_init_8 : decode cX7_init 8 = .ok (.dup, 1) := by decide +kernel
theorem dX7_init_9 : decode cX7_init 9 = .ok (.bipush 60, 2) := by decide +kernel
theorem dX7_init_11 : decode cX7_init 11 = .ok (.invokespecial 11, 3) := by decide +kernel
theorem dX7_init_14 : decode cX7_init 14 = .ok (.putfield 14, 3) := by decide +kernel
theorem dX7_init_17 : decode cX7_init 17 = .ok (.aload_n 0, 1) := by decide +kernel
theorem dX7_init_18 : decode cX7_init 18 = .ok (.new 7, 3) := by decide +kernel
theorem dX7_init_21 : decode cX7_init 21 = .ok (.dup, 1) := by decide +kernel
theorem dX7_init_22 : decode cX7_init 22 = .ok (.sipush 400, 3) := by decide +kernel
theorem dX7_init_25 : decode cX7_init 25 = .ok (.invokespecial 11, 3) := by decide +kernel
theorem dX7_init_28 : decode cX7_init 28 = .ok (.putfield 18, 3) := by decide +kernel
theorem dX7_init_31 : decode cX7_init 31 = .ok (.aload_n 0, 1) := by decide +kernel
theorem dX7_init_32 : decode cX7_init 32 = .ok (.new 7, 3) := by decide +kernel
theorem dX7_init_35 : decode cX7_init 35 = .ok (.dup, 1) := by decide +kernel
theorem dX7_init_36 : decode cX7_init 36 = .ok (.sipush 400, 3) := by decide +kernel
theorem dX7_init_39 : decode cX7_init 39 = .ok (.invokespecial 11, 3) := by decide +kernel
theorem dX7_init_42 : decode cX7_init 42 = .ok (.putfield 21, 3) := by decide +kernel
theorem dX7_init_45 : decode cX7_init 45 = .ok (.aload_n 0, 1) := by decide +kernel
theorem dX7_init_46 : decode cX7_init 46 = .ok (.new 24, 3) := by decide +kernel
theorem dX7_init_49 : decode cX7_init 49 = .ok (.dup, 1) := by decide +kernel
theorem dX7_init_50 : decode cX7_init 50 = .ok (.aload_n 0, 1) := by decide +kernel
theorem dX7_init_51 : decode cX7_init 51 = .ok (.getfield 14, 3) := by decide +kernel
theorem dX7_init_54 : decode cX7_init 54 = .ok (.invokespecial 26, 3) := by decide +kernel
theorem dX7_init_57 : decode cX7_init 57 = .ok (.putfield 29, 3) := by decide +kernel
theorem dX7_init_60 : decode cX7_init 60 = .ok (.aload_n 0, 1) := by decide +kernel
theorem dX7_init_61 : decode cX7_init 61 = .ok (.new 33, 3) := by decide +kernel
theorem dX7_init_64 : decode cX7_init 64 = .ok (.dup, 1) := by decide +kernel
theorem dX7_init_65 : decode cX7_init 65 = .ok (.invokespecial 35, 3) := by decide +kernel
theorem dX7_init_68 : decode cX7_init 68 = .ok (.putfield 36, 3) := by decide +kernel
theorem dX7_init_71 : decode cX7_init 71 = .ok (.aload_n 0, 1) := by decide +kernel
theorem dX7_init_72 : decode cX7_init 72 = .ok (.new 40, 3) := by decide +kernel
theorem dX7_init_75 : decode cX7_init 75 = .ok (.dup, 1) := by decide +kernel
theorem dX7_init_76 : decode cX7_init 76 = .ok (.bipush 30, 2) := by decide +kernel
theorem dX7_init_78 : decode cX7_init 78 = .ok (.bipush 20, 2) := by decide +kernel
theorem dX7_init_80 : decode cX7_init 80 = .ok (.invokespecial 42, 3) := by decide +kernel
theorem dX7_init_83 : decode cX7_init 83 = .ok (.putfield 45, 3) := by decide +kernel
theorem dX7_init_86 : decode cX7_init 86 = .ok (.aload_n 0, 1) := by decide +kernel
theorem dX7_init_87 : decode cX7_init 87 = .ok (.new 40, 3) := by decide +kernel
theorem dX7_init_90 : decode cX7_init 90 = .ok (.dup, 1) := by decide +kernel
theorem dX7_init_91 : decode cX7_init 91 = .ok (.bipush 60, 2) := by decide +kernel
theorem dX7_init_93 : decode cX7_init 93 = .ok (.bipush 50, 2) := by decide +kernel
theorem dX7_init_95 : decode cX7_init 95 = .ok (.invokespecial 42, 3) := by decide +kernel
theorem dX7_init_98 : decode cX7_init 98 = .ok (.putfield 49, 3) := by decide +kernel
theorem dX7_init_101 : decode cX7_init 101 = .ok (.aload_n 0, 1) := by decide +kernel
theorem dX7_init_102 : decode cX7_init 102 = .ok (.new 40, 3) := by decide +kernel
theorem dX7_init_105 : decode cX7_init 105 = .ok (.dup, 1) := by decide +kernel
theorem dX7_init_106 : decode cX7_init 106 = .ok (.bipush 30, 2) := by decide +kernel
theorem dX7_init_108 : decode cX7_init 108 = .ok (.bipush 20, 2) := by decide +kernel
theorem dX7_init_110 : decode cX7_init 110 = .ok (.invokespecial 42, 3) := by decide +kernel
theorem dX7_init_113 : decode cX7_init 113 = .ok (.putfield 52, 3) := by decide +kernel
theorem dX7_init_116 : decode cX7_init 116 = .ok (.aload_n 0, 1) := by decide +kernel
theorem dX7_init_117 : decode cX7_init 117 = .ok (.new 55, 3) := by decide +kernel
theorem dX7_init_120 : decode cX7_init 120 = .ok (.dup, 1) := by decide +kernel
theorem dX7_init_121 : decode cX7_init 121 = .ok (.invokespecial 57, 3) := by decide +kernel
theorem dX7_init_124 : decode cX7_init 124 = .ok (.putfield 58, 3) := by decide +kernel
theorem dX7_init_127 : decode cX7_init 127 = .ok (.aload_n 0, 1) := by decide +kernel
theorem dX7_init_128 : decode cX7_init 128 = .ok (.new 62, 3) := by decide +kernel
theorem dX7_init_131 : decode cX7_init 131 = .ok (.dup, 1) := by decide +kernel
theorem dX7_init_132 : decode cX7_init 132 = .ok (.invokespecial 64, 3) := by decide +kernel
theorem dX7_init_135 : decode cX7_init 135 = .ok (.putfield 65, 3) := by decide +kernel
theorem dX7_init_138 : decode cX7_init 138 = .ok (.aload_n 0, 1) := by decide +kernel
theorem dX7_init_139 : decode cX7_init 139 = .ok (.new 62, 3) := by decide +kernel
theorem dX7_init_142 : decode cX7_init 142 = .ok (.dup, 1) := by decide +kernel
theorem dX7_init_143 : decode cX7_init 143 = .ok (.invokespecial 64, 3) := by decide +kernel
theorem dX7_init_146 : decode cX7_init 146 = .ok (.putfield 69, 3) := by decide +kernel
theorem dX7_init_149 : decode cX7_init 149 = .ok (.return_, 1) := by decide +kernel
set_option maxRecDepth 20000 in
theorem ggX7_readEntries_X0_copyFrom : GoodIn wsX7_readEntries wsX0_copyFrom := goodIn_r _ [10, 11, 12, 13, 14, 15, 16, 17, 18, 19, 20, 21, 22, 23, 24, 25, 26, 27, 28, 29, 30, 31, 32, 33, 34, 35, 36, 37, 38, 39, 40, 41, 42, 43, 44, 45, 46, 47, 48, 49, 50, 51, 52, 53, 54, 55, 56, 57, 312, 313, 314, 315, 316, 317, 318, 319, 320, 321, 322] (by decide +kernel) (by decide +kernel)
set_option maxRecDepth 20000 in
theorem gX7_readEntries_X0_copyFrom : GoodIn wsX7_readEntries (wsV RX7 72 RX0 yX0_copyFrom wsX0_copyFrom) := goodIn_app (goodIn_of _ (by decide +kernel)) ggX7_readEntries_X0_copyFrom
set_option maxRecDepth 20000 in
theorem ggX7_readEntries_X2_begin : GoodIn wsX7_readEntries wsX2_begin := goodIn_r _ [62, 63, 323, 324, 325, 326, 327, 328, 329] (by decide +kernel) (by decide +kernel)
set_option maxRecDepth 20000 in
theorem gX7_readEntries_X2_begin : GoodIn wsX7_readEntries (wsV RX7 76 RX2 yX2_begin wsX2_begin) := goodIn_app (goodIn_of _ (by decide +kernel)) ggX7_readEntries_X2_begin
set_option maxRecDepth 20000 in
theorem ggX7_readEntries_X2_takeEntry : GoodIn wsX7_readEntries wsX2_takeEntry := goodIn_r _ [67, 68, 63, 69, 40, 41, 28, 42, 34, 43, 70, 71, 72, 61, 73, 74, 75, 76, 77, 78, 79, 80, 81, 82, 83, 84, 85, 31, 32, 33, 86, 87, 88, 89, 45, 46, 47, 90, 49, 50, 51, 91, 92, 93, 94, 95, 96, 97, 98, 99, 100, 101, 102, 103, 104, 105, 106, 107, 108, 109, 110, 111, 112, 113, 323, 324, 325, 326, 327, 328, 329, 321, 322] (by decide +kernel) (by decide +kernel)
set_option maxRecDepth 20000 in
theorem gX7_readEntries_X2_takeEntry : GoodIn wsX7_readEntries (wsV RX7 79 RX2 yX2_takeEntry wsX2_takeEntry) := goodIn_app (goodIn_of _ (by decide +kernel)) ggX7_readEntries_X2_takeEntry
set_option maxRecDepth 20000 in
theorem ggX7_readEntries_X2_fault : GoodIn wsX7_readEntries wsX2_fault := goodIn_r _ [117, 63, 323, 324, 325, 326, 327, 328, 329] (by decide +kernel) (by decide +kernel)
set_option maxRecDepth 20000 in
theorem gX7_readEntries_X2_fault : GoodIn wsX7_readEntries (wsV RX7 83 RX2 yX2_fault wsX2_fault) := goodIn_app (goodIn_of _ (by decide +kernel)) ggX7_readEntries_X2_fault
set_option maxRecDepth 20000 in
theorem ggX7_readEntries_X0_addEntry : GoodIn wsX7_readEntries wsX0_addEntry := goodIn_r _ [121, 122, 14, 123, 124, 125, 126, 127, 9, 128, 13, 129, 11, 12, 130, 131, 132, 133, 134, 135, 136, 20, 137, 22, 48, 49, 50, 28, 51, 34, 138, 40, 41, 42, 43, 139, 140, 141, 142, 52, 143, 144, 145, 146, 24, 23, 147, 148, 149, 150, 151, 152, 153, 154, 155, 45, 46, 47, 156, 157, 158, 159, 160, 161, 162, 163, 164, 165, 166, 167, 53, 54, 55, 56, 168, 169, 170, 171, 172, 15, 16, 173, 174, 175, 176, 177, 178, 179, 323, 324, 325, 326, 327, 328, 329, 312, 313, 314, 315, 316, 317, 318, 319, 320, 321, 322] (by decide +kernel) (by decide +kernel)
set_option maxRecDepth 20000 in
theorem gX7_readEntries_X0_addEntry : GoodIn wsX7_readEntries (wsV RX7 87 RX0 yX0_addEntry wsX0_addEntry) := goodIn_app (goodIn_of _ (by decide +kernel)) ggX7_readEntries_X0_addEntry
set_option maxRecDepth 20000 in
theorem ggX7_readEntries_X2_take : GoodIn wsX7_readEntries wsX2_take := goodIn_r _ [79, 68, 63, 69, 40, 41, 28, 42, 34, 43, 323, 324, 325, 326, 327, 328, 329, 321, 322] (by decide +kernel) (by decide +kernel)
set_option maxRecDepth 20000 in
theorem gX7_readEntries_X2_take : GoodIn wsX7_readEntries (wsV RX7 91 RX2 yX2_take wsX2_take) := goodIn_app (goodIn_of _ (by decide +kernel)) ggX7_readEntries_X2_take
set_option maxRecDepth 20000 in
theorem ggX7_readEntries_X2_isAtEnd : GoodIn wsX7_readEntries wsX2_isAtEnd := goodIn_r _ [184, 63, 68, 90, 49, 50, 28, 51, 34, 323, 324, 325, 326, 327, 328, 329, 321, 322] (by decide +kernel) (by decide +kernel)
set_option maxRecDepth 20000 in
theorem gX7_readEntries_X2_isAtEnd : GoodIn wsX7_readEntries (wsV RX7 95 RX2 yX2_isAtEnd wsX2_isAtEnd) := goodIn_app (goodIn_of _ (by decide +kernel)) ggX7_readEntries_X2_isAtEnd
set_option maxRecDepth 20000 in
theorem ggX7_readEntries_X0_rules : GoodIn wsX7_readEntries wsX0_rules := goodIn_r _ [133, 11, 134, 135, 136, 20, 137, 22, 48, 49, 50, 28, 51, 34, 312, 313, 314, 315, 316, 317, 318, 319, 320, 321, 322] (by decide +kernel) (by decide +kernel)
set_option maxRecDepth 20000 in
theorem gX7_readEntries_X0_rules : GoodIn wsX7_readEntries (wsV RX7 98 RX0 yX0_rules wsX0_rules) := goodIn_app (goodIn_of _ (by decide +kernel)) ggX7_readEntries_X0_rules
set_option maxRecDepth 20000 in
theorem ggX7_readEntries_X0_words : GoodIn wsX7_readEntries wsX0_words := goodIn_r _ [189, 15, 134, 135, 136, 20, 137, 22, 48, 49, 50, 28, 51, 34, 312, 313, 314, 315, 316, 317, 318, 319, 320, 321, 322] (by decide +kernel) (by decide +kernel)
set_option maxRecDepth 20000 in
theorem gX7_readEntries_X0_words : GoodIn wsX7_readEntries (wsV RX7 101 RX0 yX0_words wsX0_words) := goodIn_app (goodIn_of _ (by decide +kernel)) ggX7_readEntries_X0_words
set_option maxRecDepth 20000 in
theorem ggX7_readEntries_X1_record : GoodIn wsX7_readEntries wsX1_record := goodIn_r _ [194, 195, 196, 197, 198, 199, 193, 200, 201, 202, 162, 203, 204, 7, 8, 9, 10, 11, 12, 13, 14, 15, 16, 17, 18, 19, 20, 21, 22, 23, 24, 25, 26, 27, 28, 29, 30, 31, 32, 33, 34, 35, 36, 37, 38, 39, 40, 41, 42, 43, 44, 45, 46, 47, 48, 49, 50, 51, 52, 53, 54, 55, 56, 57, 330, 331, 312, 313, 314, 315, 316, 317, 318, 319, 320, 321, 322] (by decide +kernel) (by decide +kernel)
set_option maxRecDepth 20000 in
theorem gX7_readEntries_X1_record : GoodIn wsX7_readEntries (wsV RX7 104 RX1 yX1_record wsX1_record) := goodIn_app (goodIn_of _ (by decide +kernel)) ggX7_readEntries_X1_record
set_option maxRecDepth 20000 in
theorem ggX7_readEntries_X6_renew : GoodIn wsX7_readEntries wsX6_renew := goodIn_r _ [209, 210, 211, 212, 213, 214, 215, 216, 217, 218, 219, 220, 221, 222, 223, 224, 225, 20, 226, 22, 227, 31, 32, 28, 33, 34, 228, 229, 131, 132, 9, 133, 11, 134, 135, 136, 137, 48, 49, 50, 51, 230, 231, 232, 233, 44, 45, 46, 47, 43, 234, 187, 188, 189, 15, 235, 236, 237, 238, 52, 40, 41, 42, 143, 144, 145, 146, 24, 23, 155, 239, 240, 241, 242, 243, 244, 245, 246, 247, 248, 249, 250, 251, 252, 253, 254, 255, 256, 257, 258, 259, 260, 261, 262, 263, 264, 265, 266, 267, 87, 268, 269, 270, 271, 272, 273, 274, 275, 276, 277, 278, 279, 280, 281, 282, 283, 284, 285, 286, 91, 92, 287, 36, 37, 38, 39, 288, 148, 149, 150, 151, 152, 153, 154, 156, 157, 158, 159, 160, 161, 162, 163, 164, 165, 166, 167, 53, 54, 55, 56, 289, 290, 291, 292, 293, 208, 294, 295, 296, 297, 298, 299, 332, 333, 334, 335, 336, 337, 338, 312, 313, 314, 315, 316, 317, 339, 340, 341, 342, 318, 319, 320, 321, 322] (by decide +kernel) (by decide +kernel)
set_option maxRecDepth 20000 in
theorem gX7_readEntries_X6_renew : GoodIn wsX7_readEntries (wsV RX7 107 RX6 yX6_renew wsX6_renew) := goodIn_app (goodIn_of _ (by decide +kernel)) ggX7_readEntries_X6_renew
theorem dX7_readEntries_0 : decode cX7_readEntries 0 = .ok (.aload_n 0, 1) := by decide +kernel
theorem dX7_readEntries_1 : decode cX7_readEntries 1 = .ok (.getfield 49, 3) := by decide +kernel
theorem dX7_readEntries_4 : decode cX7_readEntries 4 = .ok (.aload_n 0, 1) := by decide +kernel
theorem dX7_readEntries_5 : decode cX7_readEntries 5 = .ok (.getfield 45, 3) := by decide +kernel
theorem dX7_readEntries_8 : decode cX7_readEntries 8 = .ok (.invokevirtual 72, 3) := by decide +kernel
theorem dX7_readEntries_11 : decode cX7_readEntries 11 = .ok (.aload_n 0, 1) := by decide +kernel
theorem dX7_readEntries_12 : decode cX7_readEntries 12 = .ok (.getfield 29, 3) := by decide +kernel
theorem dX7_readEntries_15 : decode cX7_readEntries 15 = .ok (.invokevirtual 76, 3) := by decide +kernel
theorem dX7_readEntries_18 : decode cX7_readEntries 18 = .ok (.iconst 1, 1) := by decide +kernel
theorem dX7_readEntries_19 : decode cX7_readEntries 19 = .ok (.istore_n 1, 1) := by decide +kernel
theorem dX7_readEntries_20 : decode cX7_readEntries 20 = .ok (.iconst 0, 1) := by decide +kernel
theorem dX7_readEntries_21 : decode cX7_readEntries 21 = .ok (.istore_n 2, 1) := by decide +kernel
theorem dX7_readEntries_22 : decode cX7_readEntries 22 = .ok (.iconst 0, 1) := by decide +kernel
theorem dX7_readEntries_23 : decode cX7_readEntries 23 = .ok (.istore_n 3, 1) := by decide +kernel
theorem dX7_readEntries_24 : decode cX7_readEntries 24 = .ok (.iload_n 3, 1) := by decide +kernel
theorem dX7_readEntries_25 : decode cX7_readEntries 25 = .ok (.bipush 60, 2) := by decide +kernel
theorem dX7_readEntries_27 : decode cX7_readEntries 27 = .ok (.if_icmp .ge 69, 3) := by decide +kernel
theorem dX7_readEntries_30 : decode cX7_readEntries 30 = .ok (.aload_n 0, 1) := by decide +kernel
theorem dX7_readEntries_31 : decode cX7_readEntries 31 = .ok (.getfield 29, 3) := by decide +kernel
theorem dX7_readEntries_34 : decode cX7_readEntries 34 = .ok (.invokevirtual 79, 3) := by decide +kernel
theorem dX7_readEntries_37 : decode cX7_readEntries 37 = .ok (.ifCond .ne 11, 3) := by decide +kernel
theorem dX7_readEntries_40 : decode cX7_readEntries 40 = .ok (.aload_n 0, 1) := by decide +kernel
theorem dX7_readEntries_41 : decode cX7_readEntries 41 = .ok (.getfield 29, 3) := by decide +kernel
theorem dX7_readEntries_44 : decode cX7_readEntries 44 = .ok (.invokevirtual 83, 3) := by decide +kernel
theorem dX7_readEntries_47 : decode cX7_readEntries 47 = .ok (.ireturn, 1) := by decide +kernel
theorem dX7_readEntries_48 : decode cX7_readEntries 48 = .ok (.aload_n 0, 1) := by decide +kernel
theorem dX7_readEntries_49 : decode cX7_readEntries 49 = .ok (.getfield 49, 3) := by decide +kernel
theorem dX7_readEntries_52 : decode cX7_readEntries 52 = .ok (.aload_n 0, 1) := by decide +kernel
theorem dX7_readEntries_53 : decode cX7_readEntries 53 = .ok (.getfield 29, 3) := by decide +kernel
theorem dX7_readEntries_56 : decode cX7_readEntries 56 = .ok (.invokevirtual 87, 3) := by decide +kernel
theorem dX7_readEntries_59 : decode cX7_readEntries 59 = .ok (.ifCond .eq 11, 3) := by decide +kernel
theorem dX7_readEntries_62 : decode cX7_readEntries 62 = .ok (.iload_n 1, 1) := by decide +kernel
theorem dX7_readEntries_63 : decode cX7_readEntries 63 = .ok (.ifCond .eq 7, 3) := by decide +kernel
theorem dX7_readEntries_66 : decode cX7_readEntries 66 = .ok (.iconst 1, 1) := by decide +kernel
theorem dX7_readEntries_67 : decode cX7_readEntries 67 = .ok (.goto 4, 3) := by decide +kernel
theorem dX7_readEntries_70 : decode cX7_readEntries 70 = .ok (.iconst 0, 1) := by decide +kernel
theorem dX7_readEntries_71 : decode cX7_readEntries 71 = .ok (.istore_n 1, 1) := by decide +kernel
theorem dX7_readEntries_72 : decode cX7_readEntries 72 = .ok (.iinc 2 1, 3) := by decide +kernel
theorem dX7_readEntries_75 : decode cX7_readEntries 75 = .ok (.aload_n 0, 1) := by decide +kernel
theorem dX7_readEntries_76 : decode cX7_readEntries 76 = .ok (.getfield 29, 3) := by decide +kernel
theorem dX7_readEntries_79 : decode cX7_readEntries 79 = .ok (.bipush 44, 2) := by decide +kernel
theorem dX7_readEntries_81 : decode cX7_readEntries 81 = .ok (.invokevirtual 91, 3) := by decide +kernel
theorem dX7_readEntries_84 : decode cX7_readEntries 84 = .ok (.ifCond .ne 6, 3) := by decide +kernel
theorem dX7_readEntries_87 : decode cX7_readEntries 87 = .ok (.goto 9, 3) := by decide +kernel
theorem dX7_readEntries_90 : decode cX7_readEntries 90 = .ok (.iinc 3 1, 3) := by decide +kernel
theorem dX7_readEntries_93 : decode cX7_readEntries 93 = .ok (.goto (-69), 3) := by decide +kernel
theorem dX7_readEntries_96 : decode cX7_readEntries 96 = .ok (.aload_n 0, 1) := by decide +kernel
theorem dX7_readEntries_97 : decode cX7_readEntries 97 = .ok (.getfield 29, 3) := by decide +kernel
theorem dX7_readEntries_100 : decode cX7_readEntries 100 = .ok (.invokevirtual 95, 3) := by decide +kernel
theorem dX7_readEntries_103 : decode cX7_readEntries 103 = .ok (.ifCond .ne 11, 3) := by decide +kernel
theorem dX7_readEntries_106 : decode cX7_readEntries 106 = .ok (.aload_n 0, 1) := by decide +kernel
theorem dX7_readEntries_107 : decode cX7_readEntries 107 = .ok (.getfield 29, 3) := by decide +kernel
theorem dX7_readEntries_110 : decode cX7_readEntries 110 = .ok (.invokevirtual 83, 3) := by decide +kernel
theorem dX7_readEntries_113 : decode cX7_readEntries 113 = .ok (.ireturn, 1) := by decide +kernel
theorem dX7_readEntries_114 : decode cX7_readEntries 114 = .ok (.iload_n 1, 1) := by decide +kernel
theorem dX7_readEntries_115 : decode cX7_readEntries 115 = .ok (.ifCond .ne 6, 3) := by decide +kernel
theorem dX7_readEntries_118 : decode cX7_readEntries 118 = .ok (.bipush (-4), 2) := by decide +kernel
theorem dX7_readEntries_120 : decode cX7_readEntries 120 = .ok (.ireturn, 1) := by decide +kernel
theorem dX7_readEntries_121 : decode cX7_readEntries 121 = .ok (.aload_n 0, 1) := by decide +kernel
theorem dX7_readEntries_122 : decode cX7_readEntries 122 = .ok (.getfield 49, 3) := by decide +kernel
theorem dX7_readEntries_125 : decode cX7_readEntries 125 = .ok (.invokevirtual 98, 3) := by decide +kernel
theorem dX7_readEntries_128 : decode cX7_readEntries 128 = .ok (.bipush 30, 2) := by decide +kernel
theorem dX7_readEntries_130 : decode cX7_readEntries 130 = .ok (.if_icmp .gt 15, 3) := by decide +kernel
theorem dX7_readEntries_133 : decode cX7_readEntries 133 = .ok (.aload_n 0, 1) := by decide +kernel
theorem dX7_readEntries_134 : decode cX7_readEntries 134 = .ok (.getfield 49, 3) := by decide +kernel
theorem dX7_readEntries_137 : decode cX7_readEntries 137 = .ok (.invokevirtual 101, 3) := by decide +kernel
theorem dX7_readEntries_140 : decode cX7_readEntries 140 = .ok (.bipush 20, 2) := by decide +kernel
theorem dX7_readEntries_142 : decode cX7_readEntries 142 = .ok (.if_icmp .le 6, 3) := by decide +kernel
theorem dX7_readEntries_145 : decode cX7_readEntries 145 = .ok (.bipush (-3), 2) := by decide +kernel
theorem dX7_readEntries_147 : decode cX7_readEntries 147 = .ok (.ireturn, 1) := by decide +kernel
theorem dX7_readEntries_148 : decode cX7_readEntries 148 = .ok (.aload_n 0, 1) := by decide +kernel
theorem dX7_readEntries_149 : decode cX7_readEntries 149 = .ok (.getfield 58, 3) := by decide +kernel
theorem dX7_readEntries_152 : decode cX7_readEntries 152 = .ok (.aload_n 0, 1) := by decide +kernel
theorem dX7_readEntries_153 : decode cX7_readEntries 153 = .ok (.getfield 45, 3) := by decide +kernel
theorem dX7_readEntries_156 : decode cX7_readEntries 156 = .ok (.invokevirtual 104, 3) := by decide +kernel
theorem dX7_readEntries_159 : decode cX7_readEntries 159 = .ok (.aload_n 0, 1) := by decide +kernel
theorem dX7_readEntries_160 : decode cX7_readEntries 160 = .ok (.getfield 45, 3) := by decide +kernel
theorem dX7_readEntries_163 : decode cX7_readEntries 163 = .ok (.aload_n 0, 1) := by decide +kernel
theorem dX7_readEntries_164 : decode cX7_readEntries 164 = .ok (.getfield 49, 3) := by decide +kernel
theorem dX7_readEntries_167 : decode cX7_readEntries 167 = .ok (.invokevirtual 72, 3) := by decide +kernel
theorem dX7_readEntries_170 : decode cX7_readEntries 170 = .ok (.aload_n 0, 1) := by decide +kernel
theorem dX7_readEntries_171 : decode cX7_readEntries 171 = .ok (.getfield 65, 3) := by decide +kernel
theorem dX7_readEntries_174 : decode cX7_readEntries 174 = .ok (.aload_n 0, 1) := by decide +kernel
theorem dX7_readEntries_175 : decode cX7_readEntries 175 = .ok (.getfield 45, 3) := by decide +kernel
theorem dX7_readEntries_178 : decode cX7_readEntries 178 = .ok (.invokevirtual 107, 3) := by decide +kernel
theorem dX7_readEntries_181 : decode cX7_readEntries 181 = .ok (.iload_n 2, 1) := by decide +kernel
theorem dX7_readEntries_182 : decode cX7_readEntries 182 = .ok (.ireturn, 1) := by decide +kernel
set_option maxRecDepth 20000 in
theorem ggX7_removeRule_X0_hasRule : GoodIn wsX7_removeRule wsX0_hasRule := goodIn_r _ [8, 9, 10, 11, 12, 13, 14, 15, 16, 17, 18, 19, 20, 21, 255, 256, 257, 258, 259, 260, 261, 262, 263, 264, 265] (by decide +kernel) (by decide +kernel)
set_option maxRecDepth 20000 in
theorem gX7_removeRule_X0_hasRule : GoodIn wsX7_removeRule (wsV RX7 110 RX0 yX0_hasRule wsX0_hasRule) := goodIn_app (goodIn_of _ (by decide +kernel)) ggX7_removeRule_X0_hasRule
set_option maxRecDepth 20000 in
theorem ggX7_removeRule_X1_record : GoodIn wsX7_removeRule wsX1_record := goodIn_r _ [26, 27, 28, 29, 30, 31, 25, 32, 33, 34, 35, 36, 37, 38, 39, 7, 40, 9, 41, 42, 43, 44, 45, 46, 47, 48, 13, 49, 15, 50, 51, 52, 53, 54, 19, 55, 56, 57, 58, 59, 21, 60, 61, 62, 63, 64, 65, 66, 67, 68, 69, 70, 71, 72, 16, 17, 18, 20, 73, 74, 75, 76, 77, 78, 266, 267, 255, 256, 257, 258, 259, 260, 261, 262, 263, 264, 265] (by decide +kernel) (by decide +kernel)
set_option maxRecDepth 20000 in
theorem gX7_removeRule_X1_record : GoodIn wsX7_removeRule (wsV RX7 104 RX1 yX1_record wsX1_record) := goodIn_app (goodIn_of _ (by decide +kernel)) ggX7_removeRule_X1_record
set_option maxRecDepth 20000 in
theorem ggX7_removeRule_X0_dropRule : GoodIn wsX7_removeRule wsX0_dropRule := goodIn_r _ [82, 9, 41, 42, 83, 84, 85, 13, 86, 15, 87, 11, 12, 14, 16, 17, 18, 19, 20, 21, 88, 89, 90, 91, 92, 93, 94, 95, 50, 51, 96, 97, 98, 99, 64, 65, 66, 67, 68, 100, 75, 76, 77, 101, 102, 103, 104, 105, 34, 35, 36, 106, 107, 108, 109, 110, 111, 112, 113, 114, 115, 255, 256, 257, 258, 259, 260, 261, 262, 263, 264, 265] (by decide +kernel) (by decide +kernel)
set_option maxRecDepth 20000 in
theorem gX7_removeRule_X0_dropRule : GoodIn wsX7_removeRule (wsV RX7 113 RX0 yX0_dropRule wsX0_dropRule) := goodIn_app (goodIn_of _ (by decide +kernel)) ggX7_removeRule_X0_dropRule
set_option maxRecDepth 20000 in
theorem ggX7_removeRule_X6_renew : GoodIn wsX7_removeRule wsX6_renew := goodIn_r _ [120, 121, 122, 123, 124, 125, 126, 127, 128, 129, 130, 131, 132, 133, 134, 135, 136, 13, 137, 15, 138, 57, 58, 19, 59, 21, 139, 140, 141, 142, 7, 143, 9, 144, 145, 146, 147, 16, 17, 18, 20, 148, 149, 150, 151, 69, 70, 71, 72, 68, 152, 153, 154, 155, 44, 156, 157, 158, 159, 73, 65, 66, 67, 160, 161, 162, 163, 51, 50, 164, 165, 166, 167, 168, 169, 170, 171, 172, 173, 174, 175, 176, 177, 178, 179, 180, 181, 182, 183, 184, 185, 186, 187, 188, 189, 190, 191, 192, 193, 194, 195, 196, 197, 198, 199, 200, 201, 202, 203, 204, 205, 206, 207, 208, 209, 210, 211, 212, 213, 214, 215, 216, 61, 62, 63, 64, 217, 218, 219, 220, 221, 222, 223, 224, 225, 226, 227, 228, 229, 230, 35, 231, 87, 11, 12, 14, 74, 75, 76, 77, 232, 233, 234, 235, 236, 119, 237, 238, 239, 240, 241, 100, 268, 269, 270, 271, 272, 273, 274, 255, 256, 257, 258, 259, 260, 275, 276, 277, 278, 261, 262, 263, 264, 265] (by decide +kernel) (by decide +kernel)
set_option maxRecDepth 20000 in
theorem gX7_removeRule_X6_renew : GoodIn wsX7_removeRule (wsV RX7 107 RX6 yX6_renew wsX6_renew) := goodIn_app (goodIn_of _ (by decide +kernel)) ggX7_removeRule_X6_renew
set_option maxRecDepth 20000 in
theorem ggX7_removeRule_X0_rules : GoodIn wsX7_removeRule wsX0_rules := goodIn_r _ [143, 9, 144, 145, 146, 13, 147, 15, 16, 17, 18, 19, 20, 21, 255, 256, 257, 258, 259, 260, 261, 262, 263, 264, 265] (by decide +kernel) (by decide +kernel)
set_option maxRecDepth 20000 in
theorem gX7_removeRule_X0_rules : GoodIn wsX7_removeRule (wsV RX7 98 RX0 yX0_rules wsX0_rules) := goodIn_app (goodIn_of _ (by decide +kernel)) ggX7_removeRule_X0_rules
theorem dX7_removeRule_0 : decode cX7_removeRule 0 = .ok (.aload_n 0, 1) := by decide +kernel
theorem dX7_removeRule_1 : decode cX7_removeRule 1 = .ok (.getfield 45, 3) := by decide +kernel
theorem dX7_removeRule_4 : decode cX7_removeRule 4 = .ok (.iload_n 1, 1) := by decide +kernel
theorem dX7_removeRule_5 : decode cX7_removeRule 5 = .ok (.invokevirtual 110, 3) := by decide +kernel
theorem dX7_removeRule_8 : decode cX7_removeRule 8 = .ok (.ifCond .ne 5, 3) := by decide +kernel
theorem dX7_removeRule_11 : decode cX7_removeRule 11 = .ok (.iconst (-1), 1) := by decide +kernel
theorem dX7_removeRule_12 : decode cX7_removeRule 12 = .ok (.ireturn, 1) := by decide +kernel
theorem dX7_removeRule_13 : decode cX7_removeRule 13 = .ok (.aload_n 0, 1) := by decide +kernel
theorem dX7_removeRule_14 : decode cX7_removeRule 14 = .ok (.getfield 58, 3) := by decide +kernel
theorem dX7_removeRule_17 : decode cX7_removeRule 17 = .ok (.aload_n 0, 1) := by decide +kernel
theorem dX7_removeRule_18 : decode cX7_removeRule 18 = .ok (.getfield 45, 3) := by decide +kernel
theorem dX7_removeRule_21 : decode cX7_removeRule 21 = .ok (.invokevirtual 104, 3) := by decide +kernel
theorem dX7_removeRule_24 : decode cX7_removeRule 24 = .ok (.aload_n 0, 1) := by decide +kernel
theorem dX7_removeRule_25 : decode cX7_removeRule 25 = .ok (.getfield 45, 3) := by decide +kernel
theorem dX7_removeRule_28 : decode cX7_removeRule 28 = .ok (.iload_n 1, 1) := by decide +kernel
theorem dX7_removeRule_29 : decode cX7_removeRule 29 = .ok (.invokevirtual 113, 3) := by decide +kernel
theorem dX7_removeRule_32 : decode cX7_removeRule 32 = .ok (.aload_n 0, 1) := by decide +kernel
theorem dX7_removeRule_33 : decode cX7_removeRule 33 = .ok (.getfield 65, 3) := by decide +kernel
theorem dX7_removeRule_36 : decode cX7_removeRule 36 = .ok (.aload_n 0, 1) := by decide +kernel
theorem dX7_removeRule_37 : decode cX7_removeRule 37 = .ok (.getfield 45, 3) := by decide +kernel
theorem dX7_removeRule_40 : decode cX7_removeRule 40 = .ok (.invokevirtual 107, 3) := by decide +kernel
theorem dX7_removeRule_43 : decode cX7_removeRule 43 = .ok (.aload_n 0, 1) := by decide +kernel
theorem dX7_removeRule_44 : decode cX7_removeRule 44 = .ok (.getfield 45, 3) := by decide +kernel
theorem dX7_removeRule_47 : decode cX7_removeRule 47 = .ok (.invokevirtual 98, 3) := by decide +kernel
theorem dX7_removeRule_50 : decode cX7_removeRule 50 = .ok (.ireturn, 1) := by decide +kernel
set_option maxRecDepth 20000 in
theorem ggX7_moveRule_X0_hasRule : GoodIn wsX7_moveRule wsX0_hasRule := goodIn_r _ [9, 10, 11, 12, 13, 14, 15, 16, 17, 18, 19, 20, 21, 22, 250, 251, 252, 253, 254, 255, 256, 257, 258, 259, 260] (by decide +kernel) (by decide +kernel)
set_option maxRecDepth 20000 in
theorem gX7_moveRule_X0_hasRule : GoodIn wsX7_moveRule (wsV RX7 110 RX0 yX0_hasRule wsX0_hasRule) := goodIn_app (goodIn_of _ (by decide +kernel)) ggX7_moveRule_X0_hasRule
set_option maxRecDepth 20000 in
theorem ggX7_moveRule_X1_record : GoodIn wsX7_moveRule wsX1_record := goodIn_r _ [27, 28, 29, 30, 31, 32, 26, 33, 34, 35, 36, 37, 38, 39, 40, 8, 41, 10, 42, 43, 44, 45, 46, 47, 48, 49, 14, 50, 16, 51, 52, 53, 54, 55, 20, 56, 57, 58, 59, 60, 22, 61, 62, 63, 64, 65, 66, 67, 68, 69, 70, 71, 72, 73, 17, 18, 19, 21, 74, 75, 76, 77, 78, 79, 261, 262, 250, 251, 252, 253, 254, 255, 256, 257, 258, 259, 260] (by decide +kernel) (by decide +kernel)
set_option maxRecDepth 20000 in
theorem gX7_moveRule_X1_record : GoodIn wsX7_moveRule (wsV RX7 104 RX1 yX1_record wsX1_record) := goodIn_app (goodIn_of _ (by decide +kernel)) ggX7_moveRule_X1_record
set_option maxRecDepth 20000 in
theorem ggX7_moveRule_X6_renew : GoodIn wsX7_moveRule wsX6_renew := goodIn_r _ [84, 85, 86, 87, 88, 89, 90, 91, 92, 93, 94, 95, 96, 97, 98, 99, 100, 14, 101, 16, 102, 58, 59, 20, 60, 22, 103, 104, 105, 106, 8, 107, 10, 108, 109, 110, 111, 17, 18, 19, 21, 112, 113, 114, 115, 70, 71, 72, 73, 69, 116, 117, 118, 119, 45, 120, 121, 122, 123, 74, 66, 67, 68, 124, 125, 126, 127, 52, 51, 128, 129, 130, 131, 132, 133, 134, 135, 136, 137, 138, 139, 140, 141, 142, 143, 144, 145, 146, 147, 148, 149, 150, 151, 152, 153, 154, 155, 156, 157, 158, 159, 160, 161, 162, 163, 164, 165, 166, 167, 168, 169, 170, 171, 172, 173, 174, 175, 176, 177, 178, 179, 180, 62, 63, 64, 65, 181, 182, 183, 184, 185, 186, 187, 188, 189, 190, 191, 192, 193, 194, 36, 195, 196, 12, 13, 15, 75, 76, 77, 78, 197, 198, 199, 200, 201, 83, 202, 203, 204, 205, 206, 207, 263, 264, 265, 266, 267, 268, 269, 250, 251, 252, 253, 254, 255, 270, 271, 272, 273, 256, 257, 258, 259, 260] (by decide +kernel) (by decide +kernel)
set_option maxRecDepth 20000 in
theorem gX7_moveRule_X6_renew : GoodIn wsX7_moveRule (wsV RX7 107 RX6 yX6_renew wsX6_renew) := goodIn_app (goodIn_of _ (by decide +kernel)) ggX7_moveRule_X6_renew
set_option maxRecDepth 20000 in
theorem ggX7_moveRule_X0_shiftRule : GoodIn wsX7_moveRule wsX0_shiftRule := goodIn_r _ [211, 10, 42, 43, 212, 213, 214, 14, 215, 216, 217, 218, 219, 16, 51, 52, 220, 221, 222, 20, 223, 65, 66, 67, 68, 22, 69, 207, 76, 77, 78, 224, 225, 226, 227, 228, 250, 251, 252, 253, 254, 255, 256, 257, 258, 259, 260] (by decide +kernel) (by decide +kernel)
set_option maxRecDepth 20000 in
theorem gX7_moveRule_X0_shiftRule : GoodIn wsX7_moveRule (wsV RX7 116 RX0 yX0_shiftRule wsX0_shiftRule) := goodIn_app (goodIn_of _ (by decide +kernel)) ggX7_moveRule_X0_shiftRule
set_option maxRecDepth 20000 in
theorem ggX7_moveRule_X6_differences : GoodIn wsX7_moveRule wsX6_differences := goodIn_r _ [232, 87, 233, 109, 110, 14, 111, 16, 17, 18, 19, 20, 21, 22, 234, 235, 236, 237, 74, 66, 67, 68, 69, 124, 125, 126, 127, 52, 51, 263, 264, 265, 266, 267, 268, 269, 256, 257, 258, 259, 260] (by decide +kernel) (by decide +kernel)
set_option maxRecDepth 20000 in
theorem gX7_moveRule_X6_differences : GoodIn wsX7_moveRule (wsV RX7 119 RX6 yX6_differences wsX6_differences) := goodIn_app (goodIn_of _ (by decide +kernel)) ggX7_moveRule_X6_differences
theorem dX7_moveRule_0 : decode cX7_moveRule 0 = .ok (.aload_n 0, 1) := by decide +kernel
theorem dX7_moveRule_1 : decode cX7_moveRule 1 = .ok (.getfield 45, 3) := by decide +kernel
theorem dX7_moveRule_4 : decode cX7_moveRule 4 = .ok (.iload_n 1, 1) := by decide +kernel
theorem dX7_moveRule_5 : decode cX7_moveRule 5 = .ok (.invokevirtual 110, 3) := by decide +kernel
theorem dX7_moveRule_8 : decode cX7_moveRule 8 = .ok (.ifCond .ne 5, 3) := by decide +kernel
theorem dX7_moveRule_11 : decode cX7_moveRule 11 = .ok (.iconst (-1), 1) := by decide +kernel
theorem dX7_moveRule_12 : decode cX7_moveRule 12 = .ok (.ireturn, 1) := by decide +kernel
theorem dX7_moveRule_13 : decode cX7_moveRule 13 = .ok (.aload_n 0, 1) := by decide +kernel
theorem dX7_moveRule_14 : decode cX7_moveRule 14 = .ok (.getfield 45, 3) := by decide +kernel
theorem dX7_moveRule_17 : decode cX7_moveRule 17 = .ok (.iload_n 2, 1) := by decide +kernel
theorem dX7_moveRule_18 : decode cX7_moveRule 18 = .ok (.invokevirtual 110, 3) := by decide +kernel
theorem dX7_moveRule_21 : decode cX7_moveRule 21 = .ok (.ifCond .ne 6, 3) := by decide +kernel
theorem dX7_moveRule_24 : decode cX7_moveRule 24 = .ok (.bipush (-2), 2) := by decide +kernel
theorem dX7_moveRule_26 : decode cX7_moveRule 26 = .ok (.ireturn, 1) := by decide +kernel
theorem dX7_moveRule_27 : decode cX7_moveRule 27 = .ok (.iload_n 1, 1) := by decide +kernel
theorem dX7_moveRule_28 : decode cX7_moveRule 28 = .ok (.iload_n 2, 1) := by decide +kernel
theorem dX7_moveRule_29 : decode cX7_moveRule 29 = .ok (.if_icmp .ne 6, 3) := by decide +kernel
theorem dX7_moveRule_32 : decode cX7_moveRule 32 = .ok (.bipush (-5), 2) := by decide +kernel
theorem dX7_moveRule_34 : decode cX7_moveRule 34 = .ok (.ireturn, 1) := by decide +kernel
theorem dX7_moveRule_35 : decode cX7_moveRule 35 = .ok (.aload_n 0, 1) := by decide +kernel
theorem dX7_moveRule_36 : decode cX7_moveRule 36 = .ok (.getfield 58, 3) := by decide +kernel
theorem dX7_moveRule_39 : decode cX7_moveRule 39 = .ok (.aload_n 0, 1) := by decide +kernel
theorem dX7_moveRule_40 : decode cX7_moveRule 40 = .ok (.getfield 45, 3) := by decide +kernel
theorem dX7_moveRule_43 : decode cX7_moveRule 43 = .ok (.invokevirtual 104, 3) := by decide +kernel
theorem dX7_moveRule_46 : decode cX7_moveRule 46 = .ok (.aload_n 0, 1) := by decide +kernel
theorem dX7_moveRule_47 : decode cX7_moveRule 47 = .ok (.getfield 69, 3) := by decide +kernel
theorem dX7_moveRule_50 : decode cX7_moveRule 50 = .ok (.aload_n 0, 1) := by decide +kernel
theorem dX7_moveRule_51 : decode cX7_moveRule 51 = .ok (.getfield 45, 3) := by decide +kernel
theorem dX7_moveRule_54 : decode cX7_moveRule 54 = .ok (.invokevirtual 107, 3) := by decide +kernel
theorem dX7_moveRule_57 : decode cX7_moveRule 57 = .ok (.aload_n 0, 1) := by decide +kernel
theorem dX7_moveRule_58 : decode cX7_moveRule 58 = .ok (.getfield 45, 3) := by decide +kernel
theorem dX7_moveRule_61 : decode cX7_moveRule 61 = .ok (.iload_n 1, 1) := by decide +kernel
theorem dX7_moveRule_62 : decode cX7_moveRule 62 = .ok (.iload_n 2, 1) := by decide +kernel
theorem dX7_moveRule_63 : decode cX7_moveRule 63 = .ok (.invokevirtual 116, 3) := by decide +kernel
theorem dX7_moveRule_66 : decode cX7_moveRule 66 = .ok (.aload_n 0, 1) := by decide +kernel
theorem dX7_moveRule_67 : decode cX7_moveRule 67 = .ok (.getfield 65, 3) := by decide +kernel
theorem dX7_moveRule_70 : decode cX7_moveRule 70 = .ok (.aload_n 0, 1) := by decide +kernel
theorem dX7_moveRule_71 : decode cX7_moveRule 71 = .ok (.getfield 45, 3) := by decide +kernel
theorem dX7_moveRule_74 : decode cX7_moveRule 74 = .ok (.invokevirtual 107, 3) := by decide +kernel
theorem dX7_moveRule_77 : decode cX7_moveRule 77 = .ok (.aload_n 0, 1) := by decide +kernel
theorem dX7_moveRule_78 : decode cX7_moveRule 78 = .ok (.getfield 65, 3) := by decide +kernel
theorem dX7_moveRule_81 : decode cX7_moveRule 81 = .ok (.aload_n 0, 1) := by decide +kernel
theorem dX7_moveRule_82 : decode cX7_moveRule 82 = .ok (.getfield 69, 3) := by decide +kernel
theorem dX7_moveRule_85 : decode cX7_moveRule 85 = .ok (.invokevirtual 119, 3) := by decide +kernel
theorem dX7_moveRule_88 : decode cX7_moveRule 88 = .ok (.ireturn, 1) := by decide +kernel
set_option maxRecDepth 20000 in
theorem ggX7_removeWord_X0_hasWord : GoodIn wsX7_removeWord wsX0_hasWord := goodIn_r _ [8, 9, 10, 11, 12, 13, 14, 15, 16, 17, 18, 19, 20, 21, 255, 256, 257, 258, 259, 260, 261, 262, 263, 264, 265] (by decide +kernel) (by decide +kernel)
set_option maxRecDepth 20000 in
theorem gX7_removeWord_X0_hasWord : GoodIn wsX7_removeWord (wsV RX7 123 RX0 yX0_hasWord wsX0_hasWord) := goodIn_app (goodIn_of _ (by decide +kernel)) ggX7_removeWord_X0_hasWord
set_option maxRecDepth 20000 in
theorem ggX7_removeWord_X1_record : GoodIn wsX7_removeWord wsX1_record := goodIn_r _ [26, 27, 28, 29, 30, 31, 25, 32, 33, 34, 35, 36, 37, 38, 39, 7, 40, 41, 42, 43, 44, 9, 45, 46, 47, 48, 13, 49, 15, 50, 51, 52, 53, 54, 19, 55, 56, 57, 58, 59, 21, 60, 61, 62, 63, 64, 65, 66, 67, 68, 69, 70, 71, 72, 16, 17, 18, 20, 73, 74, 75, 76, 77, 78, 266, 267, 255, 256, 257, 258, 259, 260, 261, 262, 263, 264, 265] (by decide +kernel) (by decide +kernel)
set_option maxRecDepth 20000 in
theorem gX7_removeWord_X1_record : GoodIn wsX7_removeWord (wsV RX7 104 RX1 yX1_record wsX1_record) := goodIn_app (goodIn_of _ (by decide +kernel)) ggX7_removeWord_X1_record
set_option maxRecDepth 20000 in
theorem ggX7_removeWord_X0_dropWord : GoodIn wsX7_removeWord wsX0_dropWord := goodIn_r _ [82, 9, 45, 83, 84, 85, 13, 86, 15, 87, 11, 12, 14, 16, 17, 18, 19, 20, 21, 88, 89, 90, 91, 92, 93, 94, 95, 50, 51, 96, 97, 98, 99, 64, 65, 66, 67, 68, 100, 75, 76, 77, 101, 102, 103, 104, 105, 34, 35, 36, 106, 107, 108, 109, 110, 111, 112, 113, 114, 115, 255, 256, 257, 258, 259, 260, 261, 262, 263, 264, 265] (by decide +kernel) (by decide +kernel)
set_option maxRecDepth 20000 in
theorem gX7_removeWord_X0_dropWord : GoodIn wsX7_removeWord (wsV RX7 126 RX0 yX0_dropWord wsX0_dropWord) := goodIn_app (goodIn_of _ (by decide +kernel)) ggX7_removeWord_X0_dropWord
set_option maxRecDepth 20000 in
theorem ggX7_removeWord_X6_renew : GoodIn wsX7_removeWord wsX6_renew := goodIn_r _ [120, 121, 122, 123, 124, 125, 126, 127, 128, 129, 130, 131, 132, 133, 134, 135, 136, 13, 137, 15, 138, 57, 58, 19, 59, 21, 139, 140, 141, 142, 7, 143, 41, 144, 145, 146, 147, 16, 17, 18, 20, 148, 149, 150, 151, 69, 70, 71, 72, 68, 152, 153, 154, 155, 9, 156, 157, 158, 159, 73, 65, 66, 67, 160, 161, 162, 163, 51, 50, 164, 165, 166, 167, 168, 169, 170, 171, 172, 173, 174, 175, 176, 177, 178, 179, 180, 181, 182, 183, 184, 185, 186, 187, 188, 189, 190, 191, 192, 193, 194, 195, 196, 197, 198, 199, 200, 201, 202, 203, 204, 205, 206, 207, 208, 209, 210, 211, 212, 213, 214, 215, 216, 61, 62, 63, 64, 217, 218, 219, 220, 221, 222, 223, 224, 225, 226, 227, 228, 229, 230, 35, 231, 87, 11, 12, 14, 74, 75, 76, 77, 232, 233, 234, 235, 236, 119, 237, 238, 239, 240, 241, 100, 268, 269, 270, 271, 272, 273, 274, 255, 256, 257, 258, 259, 260, 275, 276, 277, 278, 261, 262, 263, 264, 265] (by decide +kernel) (by decide +kernel)
set_option maxRecDepth 20000 in
theorem gX7_removeWord_X6_renew : GoodIn wsX7_removeWord (wsV RX7 107 RX6 yX6_renew wsX6_renew) := goodIn_app (goodIn_of _ (by decide +kernel)) ggX7_removeWord_X6_renew
set_option maxRecDepth 20000 in
theorem ggX7_removeWord_X0_words : GoodIn wsX7_removeWord wsX0_words := goodIn_r _ [155, 9, 144, 145, 146, 13, 147, 15, 16, 17, 18, 19, 20, 21, 255, 256, 257, 258, 259, 260, 261, 262, 263, 264, 265] (by decide +kernel) (by decide +kernel)
set_option maxRecDepth 20000 in
theorem gX7_removeWord_X0_words : GoodIn wsX7_removeWord (wsV RX7 101 RX0 yX0_words wsX0_words) := goodIn_app (goodIn_of _ (by decide +kernel)) ggX7_removeWord_X0_words
theorem dX7_removeWord_0 : decode cX7_removeWord 0 = .ok (.aload_n 0, 1) := by decide +kernel
theorem dX7_removeWord_1 : decode cX7_removeWord 1 = .ok (.getfield 45, 3) := by decide +kernel
theorem dX7_removeWord_4 : decode cX7_removeWord 4 = .ok (.iload_n 1, 1) := by decide +kernel
theorem dX7_removeWord_5 : decode cX7_removeWord 5 = .ok (.invokevirtual 123, 3) := by decide +kernel
theorem dX7_removeWord_8 : decode cX7_removeWord 8 = .ok (.ifCond .ne 5, 3) := by decide +kernel
theorem dX7_removeWord_11 : decode cX7_removeWord 11 = .ok (.iconst (-1), 1) := by decide +kernel
theorem dX7_removeWord_12 : decode cX7_removeWord 12 = .ok (.ireturn, 1) := by decide +kernel
theorem dX7_removeWord_13 : decode cX7_removeWord 13 = .ok (.aload_n 0, 1) := by decide +kernel
theorem dX7_removeWord_14 : decode cX7_removeWord 14 = .ok (.getfield 58, 3) := by decide +kernel
theorem dX7_removeWord_17 : decode cX7_removeWord 17 = .ok (.aload_n 0, 1) := by decide +kernel
theorem dX7_removeWord_18 : decode cX7_removeWord 18 = .ok (.getfield 45, 3) := by decide +kernel
theorem dX7_removeWord_21 : decode cX7_removeWord 21 = .ok (.invokevirtual 104, 3) := by decide +kernel
theorem dX7_removeWord_24 : decode cX7_removeWord 24 = .ok (.aload_n 0, 1) := by decide +kernel
theorem dX7_removeWord_25 : decode cX7_removeWord 25 = .ok (.getfield 45, 3) := by decide +kernel
theorem dX7_removeWord_28 : decode cX7_removeWord 28 = .ok (.iload_n 1, 1) := by decide +kernel
theorem dX7_removeWord_29 : decode cX7_removeWord 29 = .ok (.invokevirtual 126, 3) := by decide +kernel
theorem dX7_removeWord_32 : decode cX7_removeWord 32 = .ok (.aload_n 0, 1) := by decide +kernel
theorem dX7_removeWord_33 : decode cX7_removeWord 33 = .ok (.getfield 65, 3) := by decide +kernel
theorem dX7_removeWord_36 : decode cX7_removeWord 36 = .ok (.aload_n 0, 1) := by decide +kernel
theorem dX7_removeWord_37 : decode cX7_removeWord 37 = .ok (.getfield 45, 3) := by decide +kernel
theorem dX7_removeWord_40 : decode cX7_removeWord 40 = .ok (.invokevirtual 107, 3) := by decide +kernel
theorem dX7_removeWord_43 : decode cX7_removeWord 43 = .ok (.aload_n 0, 1) := by decide +kernel
theorem dX7_removeWord_44 : decode cX7_removeWord 44 = .ok (.getfield 45, 3) := by decide +kernel
theorem dX7_removeWord_47 : decode cX7_removeWord 47 = .ok (.invokevirtual 101, 3) := by decide +kernel
theorem dX7_removeWord_50 : decode cX7_removeWord 50 = .ok (.ireturn, 1) := by decide +kernel
set_option maxRecDepth 20000 in
theorem ggX7_setKind_X0_hasWord : GoodIn wsX7_setKind wsX0_hasWord := goodIn_r _ [9, 10, 11, 12, 13, 14, 15, 16, 17, 18, 19, 20, 21, 22, 222, 223, 224, 225, 226, 227, 228, 229, 230, 231, 232] (by decide +kernel) (by decide +kernel)
set_option maxRecDepth 20000 in
theorem gX7_setKind_X0_hasWord : GoodIn wsX7_setKind (wsV RX7 123 RX0 yX0_hasWord wsX0_hasWord) := goodIn_app (goodIn_of _ (by decide +kernel)) ggX7_setKind_X0_hasWord
set_option maxRecDepth 20000 in
theorem ggX7_setKind_X3_get : GoodIn wsX7_setKind wsX3_get := goodIn_r _ [26, 22, 27, 231, 232] (by decide +kernel) (by decide +kernel)
set_option maxRecDepth 20000 in
theorem gX7_setKind_X3_get : GoodIn wsX7_setKind (wsV RX7 132 RX3 yX3_get wsX3_get) := goodIn_app (goodIn_of _ (by decide +kernel)) ggX7_setKind_X3_get
set_option maxRecDepth 20000 in
theorem ggX7_setKind_X1_record : GoodIn wsX7_setKind wsX1_record := goodIn_r _ [32, 33, 34, 35, 36, 37, 31, 38, 39, 40, 41, 42, 43, 44, 45, 8, 46, 47, 48, 49, 50, 10, 51, 52, 53, 54, 14, 55, 16, 56, 57, 58, 59, 60, 20, 61, 62, 63, 64, 65, 22, 66, 67, 68, 69, 70, 24, 25, 26, 27, 71, 72, 73, 74, 17, 18, 19, 21, 75, 76, 77, 78, 79, 80, 233, 234, 222, 223, 224, 225, 226, 227, 228, 229, 230, 231, 232] (by decide +kernel) (by decide +kernel)
set_option maxRecDepth 20000 in
theorem gX7_setKind_X1_record : GoodIn wsX7_setKind (wsV RX7 104 RX1 yX1_record wsX1_record) := goodIn_app (goodIn_of _ (by decide +kernel)) ggX7_setKind_X1_record
set_option maxRecDepth 20000 in
theorem ggX7_setKind_X3_set : GoodIn wsX7_setKind wsX3_set := goodIn_r _ [79, 22, 27, 231, 232] (by decide +kernel) (by decide +kernel)
set_option maxRecDepth 20000 in
theorem gX7_setKind_X3_set : GoodIn wsX7_setKind (wsV RX7 136 RX3 yX3_set wsX3_set) := goodIn_app (goodIn_of _ (by decide +kernel)) ggX7_setKind_X3_set
set_option maxRecDepth 20000 in
theorem ggX7_setKind_X6_renew : GoodIn wsX7_setKind wsX6_renew := goodIn_r _ [86, 87, 88, 89, 90, 91, 92, 93, 94, 95, 96, 97, 98, 99, 100, 101, 102, 14, 103, 16, 104, 63, 64, 20, 65, 22, 105, 106, 107, 108, 8, 109, 47, 110, 111, 112, 113, 17, 18, 19, 21, 114, 115, 116, 117, 71, 72, 73, 74, 27, 118, 119, 120, 121, 10, 122, 123, 124, 125, 75, 24, 25, 26, 126, 127, 128, 129, 57, 56, 130, 131, 132, 133, 134, 135, 136, 137, 138, 139, 140, 141, 142, 143, 144, 145, 146, 147, 148, 149, 150, 151, 152, 153, 154, 155, 156, 157, 158, 159, 160, 161, 162, 163, 164, 165, 166, 167, 168, 169, 170, 171, 172, 173, 174, 175, 176, 177, 178, 179, 180, 181, 182, 67, 68, 69, 70, 183, 184, 185, 186, 187, 188, 189, 190, 191, 192, 193, 194, 195, 196, 41, 197, 198, 12, 13, 15, 76, 77, 78, 79, 199, 200, 201, 202, 203, 85, 204, 205, 206, 207, 208, 209, 235, 236, 237, 238, 239, 240, 241, 222, 223, 224, 225, 226, 227, 242, 243, 244, 245, 228, 229, 230, 231, 232] (by decide +kernel) (by decide +kernel)
set_option maxRecDepth 20000 in
theorem gX7_setKind_X6_renew : GoodIn wsX7_setKind (wsV RX7 107 RX6 yX6_renew wsX6_renew) := goodIn_app (goodIn_of _ (by decide +kernel)) ggX7_setKind_X6_renew
theorem dX7_setKind_0 : decode cX7_setKind 0 = .ok (.aload_n 0, 1) := by decide +kernel
theorem dX7_setKind_1 : decode cX7_setKind 1 = .ok (.getfield 45, 3) := by decide +kernel
theorem dX7_setKind_4 : decode cX7_setKind 4 = .ok (.iload_n 1, 1) := by decide +kernel
theorem dX7_setKind_5 : decode cX7_setKind 5 = .ok (.invokevirtual 123, 3) := by decide +kernel
theorem dX7_setKind_8 : decode cX7_setKind 8 = .ok (.ifCond .ne 5, 3) := by decide +kernel
theorem dX7_setKind_11 : decode cX7_setKind 11 = .ok (.iconst (-1), 1) := by decide +kernel
theorem dX7_setKind_12 : decode cX7_setKind 12 = .ok (.ireturn, 1) := by decide +kernel
theorem dX7_setKind_13 : decode cX7_setKind 13 = .ok (.iload_n 2, 1) := by decide +kernel
theorem dX7_setKind_14 : decode cX7_setKind 14 = .ok (.ifCond .lt 8, 3) := by decide +kernel
theorem dX7_setKind_17 : decode cX7_setKind 17 = .ok (.iload_n 2, 1) := by decide +kernel
theorem dX7_setKind_18 : decode cX7_setKind 18 = .ok (.iconst 2, 1) := by decide +kernel
theorem dX7_setKind_19 : decode cX7_setKind 19 = .ok (.if_icmp .le 6, 3) := by decide +kernel
theorem dX7_setKind_22 : decode cX7_setKind 22 = .ok (.bipush (-2), 2) := by decide +kernel
theorem dX7_setKind_24 : decode cX7_setKind 24 = .ok (.ireturn, 1) := by decide +kernel
theorem dX7_setKind_25 : decode cX7_setKind 25 = .ok (.aload_n 0, 1) := by decide +kernel
theorem dX7_setKind_26 : decode cX7_setKind 26 = .ok (.getfield 45, 3) := by decide +kernel
theorem dX7_setKind_29 : decode cX7_setKind 29 = .ok (.getfield 129, 3) := by decide +kernel
theorem dX7_setKind_32 : decode cX7_setKind 32 = .ok (.iload_n 1, 1) := by decide +kernel
theorem dX7_setKind_33 : decode cX7_setKind 33 = .ok (.invokevirtual 132, 3) := by decide +kernel
theorem dX7_setKind_36 : decode cX7_setKind 36 = .ok (.istore_n 3, 1) := by decide +kernel
theorem dX7_setKind_37 : decode cX7_setKind 37 = .ok (.iload_n 3, 1) := by decide +kernel
theorem dX7_setKind_38 : decode cX7_setKind 38 = .ok (.iload_n 2, 1) := by decide +kernel
theorem dX7_setKind_39 : decode cX7_setKind 39 = .ok (.if_icmp .ne 6, 3) := by decide +kernel
theorem dX7_setKind_42 : decode cX7_setKind 42 = .ok (.bipush (-5), 2) := by decide +kernel
theorem dX7_setKind_44 : decode cX7_setKind 44 = .ok (.ireturn, 1) := by decide +kernel
theorem dX7_setKind_45 : decode cX7_setKind 45 = .ok (.aload_n 0, 1) := by decide +kernel
theorem dX7_setKind_46 : decode cX7_setKind 46 = .ok (.getfield 58, 3) := by decide +kernel
theorem dX7_setKind_49 : decode cX7_setKind 49 = .ok (.aload_n 0, 1) := by decide +kernel
theorem dX7_setKind_50 : decode cX7_setKind 50 = .ok (.getfield 45, 3) := by decide +kernel
theorem dX7_setKind_53 : decode cX7_setKind 53 = .ok (.invokevirtual 104, 3) := by decide +kernel
theorem dX7_setKind_56 : decode cX7_setKind 56 = .ok (.aload_n 0, 1) := by decide +kernel
theorem dX7_setKind_57 : decode cX7_setKind 57 = .ok (.getfield 45, 3) := by decide +kernel
theorem dX7_setKind_60 : decode cX7_setKind 60 = .ok (.getfield 129, 3) := by decide +kernel
theorem dX7_setKind_63 : decode cX7_setKind 63 = .ok (.iload_n 1, 1) := by decide +kernel
theorem dX7_setKind_64 : decode cX7_setKind 64 = .ok (.iload_n 2, 1) := by decide +kernel
theorem dX7_setKind_65 : decode cX7_setKind 65 = .ok (.invokevirtual 136, 3) := by decide +kernel
theorem dX7_setKind_68 : decode cX7_setKind 68 = .ok (.aload_n 0, 1) := by decide +kernel
theorem dX7_setKind_69 : decode cX7_setKind 69 = .ok (.getfield 65, 3) := by decide +kernel
theorem dX7_setKind_72 : decode cX7_setKind 72 = .ok (.aload_n 0, 1) := by decide +kernel
theorem dX7_setKind_73 : decode cX7_setKind 73 = .ok (.getfield 45, 3) := by decide +kernel
theorem dX7_setKind_76 : decode cX7_setKind 76 = .ok (.invokevirtual 107, 3) := by decide +kernel
theorem dX7_setKind_79 : decode cX7_setKind 79 = .ok (.iload_n 3, 1) := by decide +kernel
theorem dX7_setKind_80 : decode cX7_setKind 80 = .ok (.ireturn, 1) := by decide +kernel
set_option maxRecDepth 20000 in
theorem ggX7_markCollisions_X0_words : GoodIn wsX7_markCollisions wsX0_words := goodIn_r _ [9, 10, 11, 12, 13, 14, 15, 16, 17, 18, 19, 20, 21, 22, 234, 235, 236, 237, 238, 239, 240, 241, 242, 243, 244] (by decide +kernel) (by decide +kernel)
set_option maxRecDepth 20000 in
theorem gX7_markCollisions_X0_words : GoodIn wsX7_markCollisions (wsV RX7 101 RX0 yX0_words wsX0_words) := goodIn_app (goodIn_of _ (by decide +kernel)) ggX7_markCollisions_X0_words
set_option maxRecDepth 20000 in
theorem ggX7_markCollisions_X7_isToBeMarked : GoodIn wsX7_markCollisions wsX7_isToBeMarked := goodIn_r _ [27, 1, 3, 4, 28, 29, 30, 20, 31, 22, 32, 33, 34, 35, 36, 37, 38, 39, 40, 41, 14, 42, 43, 44, 45, 46, 16, 47, 48, 49, 50, 51, 52, 53, 222, 223, 224, 225, 226, 227, 228, 229, 230, 231, 232, 233, 234, 235, 236, 237, 238, 239, 243, 244, 245, 246, 247, 248, 249, 250, 251, 240, 241, 242] (by decide +kernel) (by decide +kernel)
set_option maxRecDepth 20000 in
theorem gX7_markCollisions_X7_isToBeMarked : GoodIn wsX7_markCollisions (wsV RX7 139 RX7 yX7_isToBeMarked wsX7_isToBeMarked) := goodIn_app (goodIn_of _ (by decide +kernel)) ggX7_markCollisions_X7_isToBeMarked
set_option maxRecDepth 20000 in
theorem ggX7_markCollisions_X1_record : GoodIn wsX7_markCollisions wsX1_record := goodIn_r _ [58, 59, 60, 61, 62, 63, 57, 64, 65, 66, 67, 68, 69, 70, 71, 8, 72, 73, 74, 75, 76, 10, 77, 78, 79, 80, 14, 81, 16, 53, 52, 82, 83, 84, 20, 85, 86, 87, 88, 89, 22, 90, 91, 92, 93, 94, 29, 30, 31, 32, 95, 96, 97, 98, 17, 18, 19, 21, 47, 99, 100, 101, 102, 103, 252, 253, 234, 235, 236, 237, 238, 239, 240, 241, 242, 243, 244] (by decide +kernel) (by decide +kernel)
set_option maxRecDepth 20000 in
theorem gX7_markCollisions_X1_record : GoodIn wsX7_markCollisions (wsV RX7 104 RX1 yX1_record wsX1_record) := goodIn_app (goodIn_of _ (by decide +kernel)) ggX7_markCollisions_X1_record
set_option maxRecDepth 20000 in
theorem ggX7_markCollisions_X3_set : GoodIn wsX7_markCollisions wsX3_set := goodIn_r _ [102, 22, 32, 243, 244] (by decide +kernel) (by decide +kernel)
set_option maxRecDepth 20000 in
theorem gX7_markCollisions_X3_set : GoodIn wsX7_markCollisions (wsV RX7 136 RX3 yX3_set wsX3_set) := goodIn_app (goodIn_of _ (by decide +kernel)) ggX7_markCollisions_X3_set
set_option maxRecDepth 20000 in
theorem ggX7_markCollisions_X6_renew : GoodIn wsX7_markCollisions wsX6_renew := goodIn_r _ [108, 109, 110, 38, 111, 112, 113, 114, 115, 116, 117, 118, 119, 120, 121, 122, 123, 14, 124, 16, 125, 87, 88, 20, 89, 22, 126, 127, 128, 129, 8, 130, 73, 11, 12, 13, 15, 17, 18, 19, 21, 131, 132, 133, 134, 95, 96, 97, 98, 32, 135, 6, 7, 9, 10, 136, 137, 138, 139, 47, 29, 30, 31, 48, 49, 50, 51, 52, 53, 140, 141, 142, 143, 144, 145, 146, 147, 148, 149, 150, 151, 152, 153, 154, 155, 156, 157, 158, 159, 160, 161, 162, 163, 164, 165, 166, 167, 168, 169, 26, 170, 171, 172, 173, 174, 175, 176, 177, 178, 179, 180, 181, 182, 183, 184, 185, 186, 187, 188, 189, 190, 191, 91, 92, 93, 94, 192, 193, 194, 195, 196, 197, 198, 199, 200, 201, 202, 203, 204, 205, 67, 206, 207, 208, 209, 210, 99, 100, 101, 102, 211, 212, 213, 214, 215, 36, 216, 217, 218, 219, 220, 221, 245, 246, 247, 248, 249, 250, 251, 234, 235, 236, 237, 238, 239, 254, 255, 256, 257, 240, 241, 242, 243, 244] (by decide +kernel) (by decide +kernel)
set_option maxRecDepth 20000 in
theorem gX7_markCollisions_X6_renew : GoodIn wsX7_markCollisions (wsV RX7 107 RX6 yX6_renew wsX6_renew) := goodIn_app (goodIn_of _ (by decide +kernel)) ggX7_markCollisions_X6_renew
theorem dX7_markCollisions_0 : decode cX7_markCollisions 0 = .ok (.iconst 0, 1) := by decide +kernel
theorem dX7_markCollisions_1 : decode cX7_markCollisions 1 = .ok (.istore_n 1, 1) := by decide +kernel
theorem dX7_markCollisions_2 : decode cX7_markCollisions 2 = .ok (.iconst 0, 1) := by decide +kernel
theorem dX7_markCollisions_3 : decode cX7_markCollisions 3 = .ok (.istore_n 2, 1) := by decide +kernel
theorem dX7_markCollisions_4 : decode cX7_markCollisions 4 = .ok (.iload_n 2, 1) := by decide +kernel
theorem dX7_markCollisions_5 : decode cX7_markCollisions 5 = .ok (.aload_n 0, 1) := by decide +kernel
theorem dX7_markCollisions_6 : decode cX7_markCollisions 6 = .ok (.getfield 45, 3) := by decide +kernel
theorem dX7_markCollisions_9 : decode cX7_markCollisions 9 = .ok (.invokevirtual 101, 3) := by decide +kernel
theorem dX7_markCollisions_12 : decode cX7_markCollisions 12 = .ok (.if_icmp .ge 20, 3) := by decide +kernel
theorem dX7_markCollisions_15 : decode cX7_markCollisions 15 = .ok (.aload_n 0, 1) := by decide +kernel
theorem dX7_markCollisions_16 : decode cX7_markCollisions 16 = .ok (.iload_n 2, 1) := by decide +kernel
theorem dX7_markCollisions_17 : decode cX7_markCollisions 17 = .ok (.invokevirtual 139, 3) := by decide +kernel
theorem dX7_markCollisions_20 : decode cX7_markCollisions 20 = .ok (.ifCond .eq 6, 3) := by decide +kernel
theorem dX7_markCollisions_23 : decode cX7_markCollisions 23 = .ok (.iinc 1 1, 3) := by decide +kernel
theorem dX7_markCollisions_26 : decode cX7_markCollisions 26 = .ok (.iinc 2 1, 3) := by decide +kernel
theorem dX7_markCollisions_29 : decode cX7_markCollisions 29 = .ok (.goto (-25), 3) := by decide +kernel
theorem dX7_markCollisions_32 : decode cX7_markCollisions 32 = .ok (.iload_n 1, 1) := by decide +kernel
theorem dX7_markCollisions_33 : decode cX7_markCollisions 33 = .ok (.ifCond .ne 6, 3) := by decide +kernel
theorem dX7_markCollisions_36 : decode cX7_markCollisions 36 = .ok (.bipush (-5), 2) := by decide +kernel
theorem dX7_markCollisions_38 : decode cX7_markCollisions 38 = .ok (.ireturn, 1) := by decide +kernel
theorem dX7_markCollisions_39 : decode cX7_markCollisions 39 = .ok (.aload_n 0, 1) := by decide +kernel
theorem dX7_markCollisions_40 : decode cX7_markCollisions 40 = .ok (.getfield 58, 3) := by decide +kernel
theorem dX7_markCollisions_43 : decode cX7_markCollisions 43 = .ok (.aload_n 0, 1) := by decide +kernel
theorem dX7_markCollisions_44 : decode cX7_markCollisions 44 = .ok (.getfield 45, 3) := by decide +kernel
theorem dX7_markCollisions_47 : decode cX7_markCollisions 47 = .ok (.invokevirtual 104, 3) := by decide +kernel
theorem dX7_markCollisions_50 : decode cX7_markCollisions 50 = .ok (.iconst 0, 1) := by decide +kernel
theorem dX7_markCollisions_51 : decode cX7_markCollisions 51 = .ok (.istore_n 2, 1) := by decide +kernel
theorem dX7_markCollisions_52 : decode cX7_markCollisions 52 = .ok (.iload_n 2, 1) := by decide +kernel
theorem dX7_markCollisions_53 : decode cX7_markCollisions 53 = .ok (.aload_n 0, 1) := by decide +kernel
theorem dX7_markCollisions_54 : decode cX7_markCollisions 54 = .ok (.getfield 45, 3) := by decide +kernel
theorem dX7_markCollisions_57 : decode cX7_markCollisions 57 = .ok (.invokevirtual 101, 3) := by decide +kernel
theorem dX7_markCollisions_60 : decode cX7_markCollisions 60 = .ok (.if_icmp .ge 29, 3) := by decide +kernel
theorem dX7_markCollisions_63 : decode cX7_markCollisions 63 = .ok (.aload_n 0, 1) := by decide +kernel
theorem dX7_markCollisions_64 : decode cX7_markCollisions 64 = .ok (.iload_n 2, 1) := by decide +kernel
theorem dX7_markCollisions_65 : decode cX7_markCollisions 65 = .ok (.invokevirtual 139, 3) := by decide +kernel
theorem dX7_markCollisions_68 : decode cX7_markCollisions 68 = .ok (.ifCond .eq 15, 3) := by decide +kernel
theorem dX7_markCollisions_71 : decode cX7_markCollisions 71 = .ok (.aload_n 0, 1) := by decide +kernel
theorem dX7_markCollisions_72 : decode cX7_markCollisions 72 = .ok (.getfield 45, 3) := by decide +kernel
theorem dX7_markCollisions_75 : decode cX7_markCollisions 75 = .ok (.getfield 129, 3) := by decide +kernel
theorem dX7_markCollisions_78 : decode cX7_markCollisions 78 = .ok (.iload_n 2, 1) := by decide +kernel
theorem dX7_markCollisions_79 : decode cX7_markCollisions 79 = .ok (.iconst 2, 1) := by decide +kernel
theorem dX7_markCollisions_80 : decode cX7_markCollisions 80 = .ok (.invokevirtual 136, 3) := by decide +kernel
theorem dX7_markCollisions_83 : decode cX7_markCollisions 83 = .ok (.iinc 2 1, 3) := by decide +kernel
theorem dX7_markCollisions_86 : decode cX7_markCollisions 86 = .ok (.goto (-34), 3) := by decide +kernel
theorem dX7_markCollisions_89 : decode cX7_markCollisions 89 = .ok (.aload_n 0, 1) := by decide +kernel
theorem dX7_markCollisions_90 : decode cX7_markCollisions 90 = .ok (.getfield 65, 3) := by decide +kernel
theorem dX7_markCollisions_93 : decode cX7_markCollisions 93 = .ok (.aload_n 0, 1) := by decide +kernel
theorem dX7_markCollisions_94 : decode cX7_markCollisions 94 = .ok (.getfield 45, 3) := by decide +kernel
theorem dX7_markCollisions_97 : decode cX7_markCollisions 97 = .ok (.invokevirtual 107, 3) := by decide +kernel
theorem dX7_markCollisions_100 : decode cX7_markCollisions 100 = .ok (.iload_n 1, 1) := by decide +kernel
theorem dX7_markCollisions_101 : decode cX7_markCollisions 101 = .ok (.ireturn, 1) := by decide +kernel
set_option maxRecDepth 20000 in
theorem ggX7_isToBeMarked_X3_get : GoodIn wsX7_isToBeMarked wsX3_get := goodIn_r _ [8, 9, 10, 52, 53] (by decide +kernel) (by decide +kernel)
set_option maxRecDepth 20000 in
theorem gX7_isToBeMarked_X3_get : GoodIn wsX7_isToBeMarked (wsV RX7 132 RX3 yX3_get wsX3_get) := goodIn_app (goodIn_of _ (by decide +kernel)) ggX7_isToBeMarked_X3_get
set_option maxRecDepth 20000 in
theorem ggX7_isToBeMarked_X6_comesBack : GoodIn wsX7_isToBeMarked wsX6_comesBack := goodIn_r _ [15, 16, 17, 18, 19, 20, 21, 22, 23, 24, 25, 26, 27, 5, 6, 7, 8, 9, 10, 28, 29, 30, 31, 32, 33, 54, 55, 56, 57, 58, 59, 60, 61, 62, 63, 52, 53] (by decide +kernel) (by decide +kernel)
set_option maxRecDepth 20000 in
theorem gX7_isToBeMarked_X6_comesBack : GoodIn wsX7_isToBeMarked (wsV RX7 142 RX6 yX6_comesBack wsX6_comesBack) := goodIn_app (goodIn_of _ (by decide +kernel)) ggX7_isToBeMarked_X6_comesBack
theorem dX7_isToBeMarked_0 : decode cX7_isToBeMarked 0 = .ok (.aload_n 0, 1) := by decide +kernel
theorem dX7_isToBeMarked_1 : decode cX7_isToBeMarked 1 = .ok (.getfield 45, 3) := by decide +kernel
theorem dX7_isToBeMarked_4 : decode cX7_isToBeMarked 4 = .ok (.getfield 129, 3) := by decide +kernel
theorem dX7_isToBeMarked_7 : decode cX7_isToBeMarked 7 = .ok (.iload_n 1, 1) := by decide +kernel
theorem dX7_isToBeMarked_8 : decode cX7_isToBeMarked 8 = .ok (.invokevirtual 132, 3) := by decide +kernel
theorem dX7_isToBeMarked_11 : decode cX7_isToBeMarked 11 = .ok (.ifCond .ne 18, 3) := by decide +kernel
theorem dX7_isToBeMarked_14 : decode cX7_isToBeMarked 14 = .ok (.aload_n 0, 1) := by decide +kernel
theorem dX7_isToBeMarked_15 : decode cX7_isToBeMarked 15 = .ok (.getfield 65, 3) := by decide +kernel
theorem dX7_isToBeMarked_18 : decode cX7_isToBeMarked 18 = .ok (.iload_n 1, 1) := by decide +kernel
theorem dX7_isToBeMarked_19 : decode cX7_isToBeMarked 19 = .ok (.invokevirtual 142, 3) := by decide +kernel
theorem dX7_isToBeMarked_22 : decode cX7_isToBeMarked 22 = .ok (.ifCond .ne 7, 3) := by decide +kernel
theorem dX7_isToBeMarked_25 : decode cX7_isToBeMarked 25 = .ok (.iconst 1, 1) := by decide +kernel
theorem dX7_isToBeMarked_26 : decode cX7_isToBeMarked 26 = .ok (.goto 4, 3) := by decide +kernel
theorem dX7_isToBeMarked_29 : decode cX7_isToBeMarked 29 = .ok (.iconst 0, 1) := by decide +kernel
theorem dX7_isToBeMarked_30 : decode cX7_isToBeMarked 30 = .ok (.ireturn, 1) := by decide +kernel
set_option maxRecDepth 20000 in
theorem ggX7_type_X3_isFull : GoodIn wsX7_type wsX3_isFull := goodIn_r _ [6, 7, 8, 29, 30] (by decide +kernel) (by decide +kernel)
set_option maxRecDepth 20000 in
theorem gX7_type_X3_isFull : GoodIn wsX7_type (wsV RX7 145 RX3 yX3_isFull wsX3_isFull) := goodIn_app (goodIn_of _ (by decide +kernel)) ggX7_type_X3_isFull
set_option maxRecDepth 20000 in
theorem ggX7_type_X3_add : GoodIn wsX7_type wsX3_add := goodIn_r _ [12, 7, 8, 29, 30] (by decide +kernel) (by decide +kernel)
set_option maxRecDepth 20000 in
theorem gX7_type_X3_add : GoodIn wsX7_type (wsV RX7 148 RX3 yX3_add wsX3_add) := goodIn_app (goodIn_of _ (by decide +kernel)) ggX7_type_X3_add
set_option maxRecDepth 20000 in
theorem ggX7_type_X3_size : GoodIn wsX7_type wsX3_size := goodIn_r _ [16, 7, 29, 30] (by decide +kernel) (by decide +kernel)
set_option maxRecDepth 20000 in
theorem gX7_type_X3_size : GoodIn wsX7_type (wsV RX7 151 RX3 yX3_size wsX3_size) := goodIn_app (goodIn_of _ (by decide +kernel)) ggX7_type_X3_size
theorem dX7_type_0 : decode cX7_type 0 = .ok (.aload_n 0, 1) := by decide +kernel
theorem dX7_type_1 : decode cX7_type 1 = .ok (.getfield 14, 3) := by decide +kernel
theorem dX7_type_4 : decode cX7_type 4 = .ok (.invokevirtual 145, 3) := by decide +kernel
theorem dX7_type_7 : decode cX7_type 7 = .ok (.ifCond .eq 6, 3) := by decide +kernel
theorem dX7_type_10 : decode cX7_type 10 = .ok (.bipush (-3), 2) := by decide +kernel
theorem dX7_type_12 : decode cX7_type 12 = .ok (.ireturn, 1) := by decide +kernel
theorem dX7_type_13 : decode cX7_type 13 = .ok (.aload_n 0, 1) := by decide +kernel
theorem dX7_type_14 : decode cX7_type 14 = .ok (.getfield 14, 3) := by decide +kernel
theorem dX7_type_17 : decode cX7_type 17 = .ok (.iload_n 1, 1) := by decide +kernel
theorem dX7_type_18 : decode cX7_type 18 = .ok (.invokevirtual 148, 3) := by decide +kernel
theorem dX7_type_21 : decode cX7_type 21 = .ok (.aload_n 0, 1) := by decide +kernel
theorem dX7_type_22 : decode cX7_type 22 = .ok (.getfield 14, 3) := by decide +kernel
theorem dX7_type_25 : decode cX7_type 25 = .ok (.invokevirtual 151, 3) := by decide +kernel
theorem dX7_type_28 : decode cX7_type 28 = .ok (.ireturn, 1) := by decide +kernel
set_option maxRecDepth 20000 in
theorem ggX7_clearText_X3_size : GoodIn wsX7_clearText wsX3_size := goodIn_r _ [6, 7, 24, 25] (by decide +kernel) (by decide +kernel)
set_option maxRecDepth 20000 in
theorem gX7_clearText_X3_size : GoodIn wsX7_clearText (wsV RX7 151 RX3 yX3_size wsX3_size) := goodIn_app (goodIn_of _ (by decide +kernel)) ggX7_clearText_X3_size
set_option maxRecDepth 20000 in
theorem ggX7_clearText_X3_clear : GoodIn wsX7_clearText wsX3_clear := goodIn_r _ [11, 7, 24, 25] (by decide +kernel) (by decide +kernel)
set_option maxRecDepth 20000 in
theorem gX7_clearText_X3_clear : GoodIn wsX7_clearText (wsV RX7 154 RX3 yX3_clear wsX3_clear) := goodIn_app (goodIn_of _ (by decide +kernel)) ggX7_clearText_X3_clear
theorem dX7_clearText_0 : decode cX7_clearText 0 = .ok (.aload_n 0, 1) := by decide +kernel
theorem dX7_clearText_1 : decode cX7_clearText 1 = .ok (.getfield 14, 3) := by decide +kernel
theorem dX7_clearText_4 : decode cX7_clearText 4 = .ok (.invokevirtual 151, 3) := by decide +kernel
theorem dX7_clearText_7 : decode cX7_clearText 7 = .ok (.istore_n 1, 1) := by decide +kernel
theorem dX7_clearText_8 : decode cX7_clearText 8 = .ok (.aload_n 0, 1) := by decide +kernel
theorem dX7_clearText_9 : decode cX7_clearText 9 = .ok (.getfield 14, 3) := by decide +kernel
theorem dX7_clearText_12 : decode cX7_clearText 12 = .ok (.invokevirtual 154, 3) := by decide +kernel
theorem dX7_clearText_15 : decode cX7_clearText 15 = .ok (.iload_n 1, 1) := by decide +kernel
theorem dX7_clearText_16 : decode cX7_clearText 16 = .ok (.ireturn, 1) := by decide +kernel
set_option maxRecDepth 20000 in
theorem ggX7_convert_X3_clear : GoodIn wsX7_convert wsX3_clear := goodIn_r _ [8, 9, 188, 189] (by decide +kernel) (by decide +kernel)
set_option maxRecDepth 20000 in
theorem gX7_convert_X3_clear : GoodIn wsX7_convert (wsV RX7 154 RX3 yX3_clear wsX3_clear) := goodIn_app (goodIn_of _ (by decide +kernel)) ggX7_convert_X3_clear
set_option maxRecDepth 20000 in
theorem ggX7_convert_X2_begin : GoodIn wsX7_convert wsX2_begin := goodIn_r _ [14, 15, 190, 191, 192, 193, 194, 195, 196] (by decide +kernel) (by decide +kernel)
set_option maxRecDepth 20000 in
theorem gX7_convert_X2_begin : GoodIn wsX7_convert (wsV RX7 76 RX2 yX2_begin wsX2_begin) := goodIn_app (goodIn_of _ (by decide +kernel)) ggX7_convert_X2_begin
set_option maxRecDepth 20000 in
theorem ggX7_convert_X2_takeLetters : GoodIn wsX7_convert wsX2_takeLetters := goodIn_r _ [19, 20, 21, 15, 22, 5, 6, 7, 8, 9, 23, 24, 25, 26, 27, 28, 29, 30, 31, 32, 33, 34, 35, 36, 37, 38, 190, 191, 192, 193, 194, 195, 196, 188, 189] (by decide +kernel) (by decide +kernel)
set_option maxRecDepth 20000 in
theorem gX7_convert_X2_takeLetters : GoodIn wsX7_convert (wsV RX7 157 RX2 yX2_takeLetters wsX2_takeLetters) := goodIn_app (goodIn_of _ (by decide +kernel)) ggX7_convert_X2_takeLetters
set_option maxRecDepth 20000 in
theorem ggX7_convert_X2_fault : GoodIn wsX7_convert wsX2_fault := goodIn_r _ [42, 15, 190, 191, 192, 193, 194, 195, 196] (by decide +kernel) (by decide +kernel)
set_option maxRecDepth 20000 in
theorem gX7_convert_X2_fault : GoodIn wsX7_convert (wsV RX7 83 RX2 yX2_fault wsX2_fault) := goodIn_app (goodIn_of _ (by decide +kernel)) ggX7_convert_X2_fault
set_option maxRecDepth 20000 in
theorem ggX7_convert_X2_take : GoodIn wsX7_convert wsX2_take := goodIn_r _ [46, 21, 15, 23, 24, 25, 7, 26, 9, 27, 190, 191, 192, 193, 194, 195, 196, 188, 189] (by decide +kernel) (by decide +kernel)
set_option maxRecDepth 20000 in
theorem gX7_convert_X2_take : GoodIn wsX7_convert (wsV RX7 91 RX2 yX2_take wsX2_take) := goodIn_app (goodIn_of _ (by decide +kernel)) ggX7_convert_X2_take
set_option maxRecDepth 20000 in
theorem ggX7_convert_X7_convertBack : GoodIn wsX7_convert wsX7_convertBack := goodIn_r _ [50, 2, 51, 52, 53, 54, 55, 1, 56, 32, 33, 7, 34, 9, 27, 57, 58, 59, 60, 61, 62, 63, 36, 37, 38, 64, 65, 66, 67, 68, 24, 25, 26, 69, 70, 71, 72, 73, 74, 75, 76, 77, 78, 79, 5, 6, 8, 80, 81, 82, 83, 84, 85, 86, 87, 88, 89, 90, 91, 92, 93, 94, 176, 177, 178, 179, 180, 181, 182, 183, 184, 185, 186, 187, 190, 191, 192, 193, 194, 195, 196, 197, 198, 199, 200, 201, 202, 203, 204, 205, 206, 207, 208, 209, 188, 189, 210, 211, 212] (by decide +kernel) (by decide +kernel)
set_option maxRecDepth 20000 in
theorem gX7_convert_X7_convertBack : GoodIn wsX7_convert (wsV RX7 160 RX7 yX7_convertBack wsX7_convertBack) := goodIn_app (goodIn_of _ (by decide +kernel)) ggX7_convert_X7_convertBack
set_option maxRecDepth 20000 in
theorem ggX7_convert_X7_convertThere : GoodIn wsX7_convert wsX7_convertThere := goodIn_r _ [98, 54, 55, 2, 51, 99, 100, 1, 101, 57, 58, 59, 60, 61, 62, 63, 36, 37, 7, 38, 9, 64, 65, 66, 67, 68, 24, 25, 26, 27, 69, 70, 71, 72, 73, 74, 102, 103, 104, 105, 106, 107, 108, 109, 110, 111, 112, 5, 6, 8, 113, 114, 115, 116, 117, 118, 119, 120, 121, 122, 123, 124, 125, 126, 127, 128, 129, 130, 131, 132, 133, 134, 135, 136, 137, 138, 139, 140, 29, 141, 142, 32, 33, 34, 143, 144, 145, 146, 147, 148, 149, 150, 151, 94, 152, 153, 154, 155, 156, 157, 158, 159, 160, 161, 162, 163, 164, 90, 91, 92, 93, 89, 176, 177, 178, 179, 180, 181, 182, 183, 184, 185, 186, 187, 204, 205, 206, 207, 208, 209, 190, 191, 192, 193, 194, 195, 196, 213, 214, 215, 216, 210, 211, 212, 188, 189] (by decide +kernel) (by decide +kernel)
set_option maxRecDepth 20000 in
theorem gX7_convert_X7_convertThere : GoodIn wsX7_convert (wsV RX7 164 RX7 yX7_convertThere wsX7_convertThere) := goodIn_app (goodIn_of _ (by decide +kernel)) ggX7_convert_X7_convertThere
set_option maxRecDepth 20000 in
theorem ggX7_convert_X3_add : GoodIn wsX7_convert wsX3_add := goodIn_r _ [34, 9, 27, 188, 189] (by decide +kernel) (by decide +kernel)
set_option maxRecDepth 20000 in
theorem gX7_convert_X3_add : GoodIn wsX7_convert (wsV RX7 148 RX3 yX3_add wsX3_add) := goodIn_app (goodIn_of _ (by decide +kernel)) ggX7_convert_X3_add
set_option maxRecDepth 20000 in
theorem ggX7_convert_X2_isAtEnd : GoodIn wsX7_convert wsX2_isAtEnd := goodIn_r _ [168, 15, 21, 35, 36, 37, 7, 38, 9, 190, 191, 192, 193, 194, 195, 196, 188, 189] (by decide +kernel) (by decide +kernel)
set_option maxRecDepth 20000 in
theorem gX7_convert_X2_isAtEnd : GoodIn wsX7_convert (wsV RX7 95 RX2 yX2_isAtEnd wsX2_isAtEnd) := goodIn_app (goodIn_of _ (by decide +kernel)) ggX7_convert_X2_isAtEnd
set_option maxRecDepth 20000 in
theorem ggX7_convert_X3_copyFrom : GoodIn wsX7_convert wsX3_copyFrom := goodIn_r _ [172, 173, 5, 6, 7, 8, 9, 174, 90, 91, 92, 93, 24, 25, 26, 27, 94, 32, 33, 34, 188, 189] (by decide +kernel) (by decide +kernel)
set_option maxRecDepth 20000 in
theorem gX7_convert_X3_copyFrom : GoodIn wsX7_convert (wsV RX7 167 RX3 yX3_copyFrom wsX3_copyFrom) := goodIn_app (goodIn_of _ (by decide +kernel)) ggX7_convert_X3_copyFrom
set_option maxRecDepth 20000 in
theorem ggX7_convert_X3_size : GoodIn wsX7_convert wsX3_size := goodIn_r _ [38, 9, 188, 189] (by decide +kernel) (by decide +kernel)
set_option maxRecDepth 20000 in
theorem gX7_convert_X3_size : GoodIn wsX7_convert (wsV RX7 151 RX3 yX3_size wsX3_size) := goodIn_app (goodIn_of _ (by decide +kernel)) ggX7_convert_X3_size
theorem dX7_convert_0 : decode cX7_convert 0 = .ok (.aload_n 0, 1) := by decide +kernel
theorem dX7_convert_1 : decode cX7_convert 1 = .ok (.getfield 21, 3) := by decide +kernel
theorem dX7_convert_4 : decode cX7_convert 4 = .ok (.invokevirtual 154, 3) := by decide +kernel
theorem dX7_convert_7 : decode cX7_convert 7 = .ok (.aload_n 0, 1) := by decide +kernel
theorem dX7_convert_8 : decode cX7_convert 8 = .ok (.getfield 29, 3) := by decide +kernel
theorem dX7_convert_11 : decode cX7_convert 11 = .ok (.invokevirtual 76, 3) := by decide +kernel
theorem dX7_convert_14 : decode cX7_convert 14 = .ok (.iload_n 1, 1) := by decide +kernel
theorem dX7_convert_15 : decode cX7_convert 15 = .ok (.ifCond .eq 8, 3) := by decide +kernel
theorem dX7_convert_18 : decode cX7_convert 18 = .ok (.bipush 24, 2) := by decide +kernel
theorem dX7_convert_20 : decode cX7_convert 20 = .ok (.goto 5, 3) := by decide +kernel
theorem dX7_convert_23 : decode cX7_convert 23 = .ok (.bipush 12, 2) := by decide +kernel
theorem dX7_convert_25 : decode cX7_convert 25 = .ok (.istore_n 2, 1) := by decide +kernel
theorem dX7_convert_26 : decode cX7_convert 26 = .ok (.iconst 0, 1) := by decide +kernel
theorem dX7_convert_27 : decode cX7_convert 27 = .ok (.istore_n 3, 1) := by decide +kernel
theorem dX7_convert_28 : decode cX7_convert 28 = .ok (.iload_n 3, 1) := by decide +kernel
theorem dX7_convert_29 : decode cX7_convert 29 = .ok (.bipush 60, 2) := by decide +kernel
theorem dX7_convert_31 : decode cX7_convert 31 = .ok (.if_icmp .ge 76, 3) := by decide +kernel
theorem dX7_convert_34 : decode cX7_convert 34 = .ok (.aload_n 0, 1) := by decide +kernel
theorem dX7_convert_35 : decode cX7_convert 35 = .ok (.getfield 29, 3) := by decide +kernel
theorem dX7_convert_38 : decode cX7_convert 38 = .ok (.iload_n 2, 1) := by decide +kernel
theorem dX7_convert_39 : decode cX7_convert 39 = .ok (.invokevirtual 157, 3) := by decide +kernel
theorem dX7_convert_42 : decode cX7_convert 42 = .ok (.ifCond .ne 11, 3) := by decide +kernel
theorem dX7_convert_45 : decode cX7_convert 45 = .ok (.aload_n 0, 1) := by decide +kernel
theorem dX7_convert_46 : decode cX7_convert 46 = .ok (.getfield 29, 3) := by decide +kernel
theorem dX7_convert_49 : decode cX7_convert 49 = .ok (.invokevirtual 83, 3) := by decide +kernel
theorem dX7_convert_52 : decode cX7_convert 52 = .ok (.ireturn, 1) := by decide +kernel
theorem dX7_convert_53 : decode cX7_convert 53 = .ok (.iload_n 1, 1) := by decide +kernel
theorem dX7_convert_54 : decode cX7_convert 54 = .ok (.ifCond .eq 19, 3) := by decide +kernel
theorem dX7_convert_57 : decode cX7_convert 57 = .ok (.aload_n 0, 1) := by decide +kernel
theorem dX7_convert_58 : decode cX7_convert 58 = .ok (.aload_n 0, 1) := by decide +kernel
theorem dX7_convert_59 : decode cX7_convert 59 = .ok (.getfield 29, 3) := by decide +kernel
theorem dX7_convert_62 : decode cX7_convert 62 = .ok (.bipush 39, 2) := by decide +kernel
theorem dX7_convert_64 : decode cX7_convert 64 = .ok (.invokevirtual 91, 3) := by decide +kernel
theorem dX7_convert_67 : decode cX7_convert 67 = .ok (.invokevirtual 160, 3) := by decide +kernel
theorem dX7_convert_70 : decode cX7_convert 70 = .ok (.goto 7, 3) := by decide +kernel
theorem dX7_convert_73 : decode cX7_convert 73 = .ok (.aload_n 0, 1) := by decide +kernel
theorem dX7_convert_74 : decode cX7_convert 74 = .ok (.invokevirtual 164, 3) := by decide +kernel
theorem dX7_convert_77 : decode cX7_convert 77 = .ok (.aload_n 0, 1) := by decide +kernel
theorem dX7_convert_78 : decode cX7_convert 78 = .ok (.getfield 29, 3) := by decide +kernel
theorem dX7_convert_81 : decode cX7_convert 81 = .ok (.bipush 32, 2) := by decide +kernel
theorem dX7_convert_83 : decode cX7_convert 83 = .ok (.invokevirtual 91, 3) := by decide +kernel
theorem dX7_convert_86 : decode cX7_convert 86 = .ok (.ifCond .ne 6, 3) := by decide +kernel
theorem dX7_convert_89 : decode cX7_convert 89 = .ok (.goto 18, 3) := by decide +kernel
theorem dX7_convert_92 : decode cX7_convert 92 = .ok (.aload_n 0, 1) := by decide +kernel
theorem dX7_convert_93 : decode cX7_convert 93 = .ok (.getfield 21, 3) := by decide +kernel
theorem dX7_convert_96 : decode cX7_convert 96 = .ok (.bipush 32, 2) := by decide +kernel
theorem dX7_convert_98 : decode cX7_convert 98 = .ok (.invokevirtual 148, 3) := by decide +kernel
theorem dX7_convert_101 : decode cX7_convert 101 = .ok (.iinc 3 1, 3) := by decide +kernel
theorem dX7_convert_104 : decode cX7_convert 104 = .ok (.goto (-76), 3) := by decide +kernel
theorem dX7_convert_107 : decode cX7_convert 107 = .ok (.aload_n 0, 1) := by decide +kernel
theorem dX7_convert_108 : decode cX7_convert 108 = .ok (.getfield 29, 3) := by decide +kernel
theorem dX7_convert_111 : decode cX7_convert 111 = .ok (.invokevirtual 95, 3) := by decide +kernel
theorem dX7_convert_114 : decode cX7_convert 114 = .ok (.ifCond .ne 11, 3) := by decide +kernel
theorem dX7_convert_117 : decode cX7_convert 117 = .ok (.aload_n 0, 1) := by decide +kernel
theorem dX7_convert_118 : decode cX7_convert 118 = .ok (.getfield 29, 3) := by decide +kernel
theorem dX7_convert_121 : decode cX7_convert 121 = .ok (.invokevirtual 83, 3) := by decide +kernel
theorem dX7_convert_124 : decode cX7_convert 124 = .ok (.ireturn, 1) := by decide +kernel
theorem dX7_convert_125 : decode cX7_convert 125 = .ok (.aload_n 0, 1) := by decide +kernel
theorem dX7_convert_126 : decode cX7_convert 126 = .ok (.getfield 18, 3) := by decide +kernel
theorem dX7_convert_129 : decode cX7_convert 129 = .ok (.aload_n 0, 1) := by decide +kernel
theorem dX7_convert_130 : decode cX7_convert 130 = .ok (.getfield 21, 3) := by decide +kernel
theorem dX7_convert_133 : decode cX7_convert 133 = .ok (.invokevirtual 167, 3) := by decide +kernel
theorem dX7_convert_136 : decode cX7_convert 136 = .ok (.aload_n 0, 1) := by decide +kernel
theorem dX7_convert_137 : decode cX7_convert 137 = .ok (.getfield 18, 3) := by decide +kernel
theorem dX7_convert_140 : decode cX7_convert 140 = .ok (.invokevirtual 151, 3) := by decide +kernel
theorem dX7_convert_143 : decode cX7_convert 143 = .ok (.ireturn, 1) := by decide +kernel
set_option maxRecDepth 20000 in
theorem ggX7_convertThere_X4_find : GoodIn wsX7_convertThere wsX4_find := goodIn_r _ [13, 14, 15, 16, 17, 18, 19, 20, 21, 22, 23, 12, 24, 25, 26, 27, 28, 29, 30, 31, 32, 33, 34, 35, 141, 142, 143, 144, 145] (by decide +kernel) (by decide +kernel)
set_option maxRecDepth 20000 in
theorem gX7_convertThere_X4_find : GoodIn wsX7_convertThere (wsV RX7 175 RX4 yX4_find wsX4_find) := goodIn_app (goodIn_of _ (by decide +kernel)) ggX7_convertThere_X4_find
set_option maxRecDepth 20000 in
theorem ggX7_convertThere_X3_get : GoodIn wsX7_convertThere wsX3_get := goodIn_r _ [28, 20, 29, 144, 145] (by decide +kernel) (by decide +kernel)
set_option maxRecDepth 20000 in
theorem gX7_convertThere_X3_get : GoodIn wsX7_convertThere (wsV RX7 132 RX3 yX3_get wsX3_get) := goodIn_app (goodIn_of _ (by decide +kernel)) ggX7_convertThere_X3_get
set_option maxRecDepth 20000 in
theorem ggX7_convertThere_X5_hear : GoodIn wsX7_convertThere wsX5_hear := goodIn_r _ [41, 42, 43, 44, 45, 46, 47, 48, 18, 49, 20, 50, 16, 17, 19, 51, 52, 40, 53, 54, 55, 56, 57, 58, 59, 60, 61, 62, 63, 12, 64, 14, 15, 65, 66, 67, 68, 25, 26, 27, 28, 29, 69, 70, 71, 72, 73, 31, 32, 33, 34, 35, 74, 75, 76, 77, 78, 79, 80, 81, 82, 83, 84, 85, 86, 87, 88, 89, 90, 91, 92, 93, 137, 138, 139, 140, 124, 125, 126, 127, 128, 129, 144, 145, 141, 142, 143] (by decide +kernel) (by decide +kernel)
set_option maxRecDepth 20000 in
theorem gX7_convertThere_X5_hear : GoodIn wsX7_convertThere (wsV RX7 181 RX5 yX5_hear wsX5_hear) := goodIn_app (goodIn_of _ (by decide +kernel)) ggX7_convertThere_X5_hear
set_option maxRecDepth 20000 in
theorem ggX7_convertThere_X5_write : GoodIn wsX7_convertThere wsX5_write := goodIn_r _ [97, 98, 42, 46, 47, 48, 18, 49, 20, 50, 16, 17, 19, 69, 26, 27, 28, 29, 99, 100, 101, 40, 102, 103, 104, 78, 105, 65, 66, 67, 12, 68, 14, 25, 73, 31, 32, 33, 34, 35, 80, 81, 82, 83, 106, 107, 108, 109, 110, 93, 137, 138, 139, 140, 144, 145, 124, 125, 126, 127, 128, 129, 141, 142, 143] (by decide +kernel) (by decide +kernel)
set_option maxRecDepth 20000 in
theorem gX7_convertThere_X5_write : GoodIn wsX7_convertThere (wsV RX7 185 RX5 yX5_write wsX5_write) := goodIn_app (goodIn_of _ (by decide +kernel)) ggX7_convertThere_X5_write
set_option maxRecDepth 20000 in
theorem ggX7_convertThere_X3_addAll : GoodIn wsX7_convertThere wsX3_addAll := goodIn_r _ [109, 20, 110, 26, 27, 18, 28, 29, 93, 81, 82, 83, 144, 145] (by decide +kernel) (by decide +kernel)
set_option maxRecDepth 20000 in
theorem gX7_convertThere_X3_addAll : GoodIn wsX7_convertThere (wsV RX7 192 RX3 yX3_addAll wsX3_addAll) := goodIn_app (goodIn_of _ (by decide +kernel)) ggX7_convertThere_X3_addAll
theorem dX7_convertThere_0 : decode cX7_convertThere 0 = .ok (.aload_n 0, 1) := by decide +kernel
theorem dX7_convertThere_1 : decode cX7_convertThere 1 = .ok (.getfield 45, 3) := by decide +kernel
theorem dX7_convertThere_4 : decode cX7_convertThere 4 = .ok (.getfield 169, 3) := by decide +kernel
theorem dX7_convertThere_7 : decode cX7_convertThere 7 = .ok (.aload_n 0, 1) := by decide +kernel
theorem dX7_convertThere_8 : decode cX7_convertThere 8 = .ok (.getfield 29, 3) := by decide +kernel
theorem dX7_convertThere_11 : decode cX7_convertThere 11 = .ok (.getfield 173, 3) := by decide +kernel
theorem dX7_convertThere_14 : decode cX7_convertThere 14 = .ok (.invokevirtual 175, 3) := by decide +kernel
theorem dX7_convertThere_17 : decode cX7_convertThere 17 = .ok (.istore_n 1, 1) := by decide +kernel
theorem dX7_convertThere_18 : decode cX7_convertThere 18 = .ok (.iload_n 1, 1) := by decide +kernel
theorem dX7_convertThere_19 : decode cX7_convertThere 19 = .ok (.bipush (-5), 2) := by decide +kernel
theorem dX7_convertThere_21 : decode cX7_convertThere 21 = .ok (.if_icmp .ne 7, 3) := by decide +kernel
theorem dX7_convertThere_24 : decode cX7_convertThere 24 = .ok (.iconst 0, 1) := by decide +kernel
theorem dX7_convertThere_25 : decode cX7_convertThere 25 = .ok (.goto 14, 3) := by decide +kernel
theorem dX7_convertThere_28 : decode cX7_convertThere 28 = .ok (.aload_n 0, 1) := by decide +kernel
theorem dX7_convertThere_29 : decode cX7_convertThere 29 = .ok (.getfield 45, 3) := by decide +kernel
theorem dX7_convertThere_32 : decode cX7_convertThere 32 = .ok (.getfield 129, 3) := by decide +kernel
theorem dX7_convertThere_35 : decode cX7_convertThere 35 = .ok (.iload_n 1, 1) := by decide +kernel
theorem dX7_convertThere_36 : decode cX7_convertThere 36 = .ok (.invokevirtual 132, 3) := by decide +kernel
theorem dX7_convertThere_39 : decode cX7_convertThere 39 = .ok (.istore_n 2, 1) := by decide +kernel
theorem dX7_convertThere_40 : decode cX7_convertThere 40 = .ok (.aload_n 0, 1) := by decide +kernel
theorem dX7_convertThere_41 : decode cX7_convertThere 41 = .ok (.getfield 36, 3) := by decide +kernel
theorem dX7_convertThere_44 : decode cX7_convertThere 44 = .ok (.aload_n 0, 1) := by decide +kernel
theorem dX7_convertThere_45 : decode cX7_convertThere 45 = .ok (.getfield 45, 3) := by decide +kernel
theorem dX7_convertThere_48 : decode cX7_convertThere 48 = .ok (.aload_n 0, 1) := by decide +kernel
theorem dX7_convertThere_49 : decode cX7_convertThere 49 = .ok (.getfield 29, 3) := by decide +kernel
theorem dX7_convertThere_52 : decode cX7_convertThere 52 = .ok (.getfield 173, 3) := by decide +kernel
theorem dX7_convertThere_55 : decode cX7_convertThere 55 = .ok (.invokevirtual 181, 3) := by decide +kernel
theorem dX7_convertThere_58 : decode cX7_convertThere 58 = .ok (.aload_n 0, 1) := by decide +kernel
theorem dX7_convertThere_59 : decode cX7_convertThere 59 = .ok (.getfield 36, 3) := by decide +kernel
theorem dX7_convertThere_62 : decode cX7_convertThere 62 = .ok (.aload_n 0, 1) := by decide +kernel
theorem dX7_convertThere_63 : decode cX7_convertThere 63 = .ok (.getfield 45, 3) := by decide +kernel
theorem dX7_convertThere_66 : decode cX7_convertThere 66 = .ok (.aload_n 0, 1) := by decide +kernel
theorem dX7_convertThere_67 : decode cX7_convertThere 67 = .ok (.getfield 29, 3) := by decide +kernel
theorem dX7_convertThere_70 : decode cX7_convertThere 70 = .ok (.getfield 173, 3) := by decide +kernel
theorem dX7_convertThere_73 : decode cX7_convertThere 73 = .ok (.iload_n 2, 1) := by decide +kernel
theorem dX7_convertThere_74 : decode cX7_convertThere 74 = .ok (.invokevirtual 185, 3) := by decide +kernel
theorem dX7_convertThere_77 : decode cX7_convertThere 77 = .ok (.aload_n 0, 1) := by decide +kernel
theorem dX7_convertThere_78 : decode cX7_convertThere 78 = .ok (.getfield 21, 3) := by decide +kernel
theorem dX7_convertThere_81 : decode cX7_convertThere 81 = .ok (.aload_n 0, 1) := by decide +kernel
theorem dX7_convertThere_82 : decode cX7_convertThere 82 = .ok (.getfield 36, 3) := by decide +kernel
theorem dX7_convertThere_85 : decode cX7_convertThere 85 = .ok (.getfield 189, 3) := by decide +kernel
theorem dX7_convertThere_88 : decode cX7_convertThere 88 = .ok (.invokevirtual 192, 3) := by decide +kernel
theorem dX7_convertThere_91 : decode cX7_convertThere 91 = .ok (.return_, 1) := by decide +kernel
set_option maxRecDepth 20000 in
theorem ggX7_convertBack_X3_add : GoodIn wsX7_convertBack wsX3_add := goodIn_r _ [12, 13, 14, 94, 95] (by decide +kernel) (by decide +kernel)
set_option maxRecDepth 20000 in
theorem gX7_convertBack_X3_add : GoodIn wsX7_convertBack (wsV RX7 148 RX3 yX3_add wsX3_add) := goodIn_app (goodIn_of _ (by decide +kernel)) ggX7_convertBack_X3_add
set_option maxRecDepth 20000 in
theorem ggX7_convertBack_X4_find : GoodIn wsX7_convertBack wsX4_find := goodIn_r _ [19, 20, 21, 22, 23, 11, 24, 13, 25, 26, 27, 18, 28, 29, 30, 31, 32, 14, 33, 34, 35, 36, 37, 38, 96, 97, 98, 94, 95] (by decide +kernel) (by decide +kernel)
set_option maxRecDepth 20000 in
theorem gX7_convertBack_X4_find : GoodIn wsX7_convertBack (wsV RX7 175 RX4 yX4_find wsX4_find) := goodIn_app (goodIn_of _ (by decide +kernel)) ggX7_convertBack_X4_find
set_option maxRecDepth 20000 in
theorem ggX7_convertBack_X4_copyTo : GoodIn wsX7_convertBack wsX4_copyTo := goodIn_r _ [42, 20, 43, 44, 45, 11, 46, 13, 29, 30, 31, 32, 14, 33, 34, 35, 18, 36, 37, 38, 47, 9, 10, 12, 96, 97, 98, 94, 95] (by decide +kernel) (by decide +kernel)
set_option maxRecDepth 20000 in
theorem gX7_convertBack_X4_copyTo : GoodIn wsX7_convertBack (wsV RX7 198 RX4 yX4_copyTo wsX4_copyTo) := goodIn_app (goodIn_of _ (by decide +kernel)) ggX7_convertBack_X4_copyTo
set_option maxRecDepth 20000 in
theorem ggX7_convertBack_X3_dropLast : GoodIn wsX7_convertBack wsX3_dropLast := goodIn_r _ [51, 13, 52, 53, 54, 55, 94, 95] (by decide +kernel) (by decide +kernel)
set_option maxRecDepth 20000 in
theorem gX7_convertBack_X3_dropLast : GoodIn wsX7_convertBack (wsV RX7 202 RX3 yX3_dropLast wsX3_dropLast) := goodIn_app (goodIn_of _ (by decide +kernel)) ggX7_convertBack_X3_dropLast
set_option maxRecDepth 20000 in
theorem ggX7_convertBack_X3_addAll : GoodIn wsX7_convertBack wsX3_addAll := goodIn_r _ [59, 13, 60, 30, 31, 11, 32, 14, 61, 9, 10, 12, 94, 95] (by decide +kernel) (by decide +kernel)
set_option maxRecDepth 20000 in
theorem gX7_convertBack_X3_addAll : GoodIn wsX7_convertBack (wsV RX7 192 RX3 yX3_addAll wsX3_addAll) := goodIn_app (goodIn_of _ (by decide +kernel)) ggX7_convertBack_X3_addAll
theorem dX7_convertBack_0 : decode cX7_convertBack 0 = .ok (.iload_n 1, 1) := by decide +kernel
theorem dX7_convertBack_1 : decode cX7_convertBack 1 = .ok (.ifCond .eq 15, 3) := by decide +kernel
theorem dX7_convertBack_4 : decode cX7_convertBack 4 = .ok (.aload_n 0, 1) := by decide +kernel
theorem dX7_convertBack_5 : decode cX7_convertBack 5 = .ok (.getfield 29, 3) := by decide +kernel
theorem dX7_convertBack_8 : decode cX7_convertBack 8 = .ok (.getfield 173, 3) := by decide +kernel
theorem dX7_convertBack_11 : decode cX7_convertBack 11 = .ok (.bipush 39, 2) := by decide +kernel
theorem dX7_convertBack_13 : decode cX7_convertBack 13 = .ok (.invokevirtual 148, 3) := by decide +kernel
theorem dX7_convertBack_16 : decode cX7_convertBack 16 = .ok (.aload_n 0, 1) := by decide +kernel
theorem dX7_convertBack_17 : decode cX7_convertBack 17 = .ok (.getfield 65, 3) := by decide +kernel
theorem dX7_convertBack_20 : decode cX7_convertBack 20 = .ok (.getfield 195, 3) := by decide +kernel
theorem dX7_convertBack_23 : decode cX7_convertBack 23 = .ok (.aload_n 0, 1) := by decide +kernel
theorem dX7_convertBack_24 : decode cX7_convertBack 24 = .ok (.getfield 29, 3) := by decide +kernel
theorem dX7_convertBack_27 : decode cX7_convertBack 27 = .ok (.getfield 173, 3) := by decide +kernel
theorem dX7_convertBack_30 : decode cX7_convertBack 30 = .ok (.invokevirtual 175, 3) := by decide +kernel
theorem dX7_convertBack_33 : decode cX7_convertBack 33 = .ok (.istore_n 2, 1) := by decide +kernel
theorem dX7_convertBack_34 : decode cX7_convertBack 34 = .ok (.iload_n 2, 1) := by decide +kernel
theorem dX7_convertBack_35 : decode cX7_convertBack 35 = .ok (.bipush (-5), 2) := by decide +kernel
theorem dX7_convertBack_37 : decode cX7_convertBack 37 = .ok (.if_icmp .eq 24, 3) := by decide +kernel
theorem dX7_convertBack_40 : decode cX7_convertBack 40 = .ok (.aload_n 0, 1) := by decide +kernel
theorem dX7_convertBack_41 : decode cX7_convertBack 41 = .ok (.getfield 45, 3) := by decide +kernel
theorem dX7_convertBack_44 : decode cX7_convertBack 44 = .ok (.getfield 169, 3) := by decide +kernel
theorem dX7_convertBack_47 : decode cX7_convertBack 47 = .ok (.iload_n 2, 1) := by decide +kernel
theorem dX7_convertBack_48 : decode cX7_convertBack 48 = .ok (.aload_n 0, 1) := by decide +kernel
theorem dX7_convertBack_49 : decode cX7_convertBack 49 = .ok (.getfield 29, 3) := by decide +kernel
theorem dX7_convertBack_52 : decode cX7_convertBack 52 = .ok (.getfield 173, 3) := by decide +kernel
theorem dX7_convertBack_55 : decode cX7_convertBack 55 = .ok (.invokevirtual 198, 3) := by decide +kernel
theorem dX7_convertBack_58 : decode cX7_convertBack 58 = .ok (.goto 17, 3) := by decide +kernel
theorem dX7_convertBack_61 : decode cX7_convertBack 61 = .ok (.iload_n 1, 1) := by decide +kernel
theorem dX7_convertBack_62 : decode cX7_convertBack 62 = .ok (.ifCond .eq 13, 3) := by decide +kernel
theorem dX7_convertBack_65 : decode cX7_convertBack 65 = .ok (.aload_n 0, 1) := by decide +kernel
theorem dX7_convertBack_66 : decode cX7_convertBack 66 = .ok (.getfield 29, 3) := by decide +kernel
theorem dX7_convertBack_69 : decode cX7_convertBack 69 = .ok (.getfield 173, 3) := by decide +kernel
theorem dX7_convertBack_72 : decode cX7_convertBack 72 = .ok (.invokevirtual 202, 3) := by decide +kernel
theorem dX7_convertBack_75 : decode cX7_convertBack 75 = .ok (.aload_n 0, 1) := by decide +kernel
theorem dX7_convertBack_76 : decode cX7_convertBack 76 = .ok (.getfield 21, 3) := by decide +kernel
theorem dX7_convertBack_79 : decode cX7_convertBack 79 = .ok (.aload_n 0, 1) := by decide +kernel
theorem dX7_convertBack_80 : decode cX7_convertBack 80 = .ok (.getfield 29, 3) := by decide +kernel
theorem dX7_convertBack_83 : decode cX7_convertBack 83 = .ok (.getfield 173, 3) := by decide +kernel
theorem dX7_convertBack_86 : decode cX7_convertBack 86 = .ok (.invokevirtual 192, 3) := by decide +kernel
theorem dX7_convertBack_89 : decode cX7_convertBack 89 = .ok (.return_, 1) := by decide +kernel
set_option maxRecDepth 20000 in
theorem ggX7_takeResult_X3_size : GoodIn wsX7_takeResult wsX3_size := goodIn_r _ [7, 8, 42, 43] (by decide +kernel) (by decide +kernel)
set_option maxRecDepth 20000 in
theorem gX7_takeResult_X3_size : GoodIn wsX7_takeResult (wsV RX7 151 RX3 yX3_size wsX3_size) := goodIn_app (goodIn_of _ (by decide +kernel)) ggX7_takeResult_X3_size
set_option maxRecDepth 20000 in
theorem ggX7_takeResult_X3_copyFrom : GoodIn wsX7_takeResult wsX3_copyFrom := goodIn_r _ [12, 13, 14, 15, 6, 16, 8, 17, 18, 19, 20, 21, 22, 23, 24, 25, 26, 27, 28, 29, 42, 43] (by decide +kernel) (by decide +kernel)
set_option maxRecDepth 20000 in
theorem gX7_takeResult_X3_copyFrom : GoodIn wsX7_takeResult (wsV RX7 167 RX3 yX3_copyFrom wsX3_copyFrom) := goodIn_app (goodIn_of _ (by decide +kernel)) ggX7_takeResult_X3_copyFrom
theorem dX7_takeResult_0 : decode cX7_takeResult 0 = .ok (.aload_n 0, 1) := by decide +kernel
theorem dX7_takeResult_1 : decode cX7_takeResult 1 = .ok (.getfield 18, 3) := by decide +kernel
theorem dX7_takeResult_4 : decode cX7_takeResult 4 = .ok (.invokevirtual 151, 3) := by decide +kernel
theorem dX7_takeResult_7 : decode cX7_takeResult 7 = .ok (.bipush 60, 2) := by decide +kernel
theorem dX7_takeResult_9 : decode cX7_takeResult 9 = .ok (.if_icmp .le 6, 3) := by decide +kernel
theorem dX7_takeResult_12 : decode cX7_takeResult 12 = .ok (.bipush (-3), 2) := by decide +kernel
theorem dX7_takeResult_14 : decode cX7_takeResult 14 = .ok (.ireturn, 1) := by decide +kernel
theorem dX7_takeResult_15 : decode cX7_takeResult 15 = .ok (.aload_n 0, 1) := by decide +kernel
theorem dX7_takeResult_16 : decode cX7_takeResult 16 = .ok (.getfield 14, 3) := by decide +kernel
theorem dX7_takeResult_19 : decode cX7_takeResult 19 = .ok (.aload_n 0, 1) := by decide +kernel
theorem dX7_takeResult_20 : decode cX7_takeResult 20 = .ok (.getfield 18, 3) := by decide +kernel
theorem dX7_takeResult_23 : decode cX7_takeResult 23 = .ok (.invokevirtual 167, 3) := by decide +kernel
theorem dX7_takeResult_26 : decode cX7_takeResult 26 = .ok (.aload_n 0, 1) := by decide +kernel
theorem dX7_takeResult_27 : decode cX7_takeResult 27 = .ok (.getfield 14, 3) := by decide +kernel
theorem dX7_takeResult_30 : decode cX7_takeResult 30 = .ok (.invokevirtual 151, 3) := by decide +kernel
theorem dX7_takeResult_33 : decode cX7_takeResult 33 = .ok (.ireturn, 1) := by decide +kernel
set_option maxRecDepth 20000 in
theorem ggX7_undo_X1_states : GoodIn wsX7_undo wsX1_states := goodIn_r _ [8, 9, 211, 212] (by decide +kernel) (by decide +kernel)
set_option maxRecDepth 20000 in
theorem gX7_undo_X1_states : GoodIn wsX7_undo (wsV RX7 205 RX1 yX1_states wsX1_states) := goodIn_app (goodIn_of _ (by decide +kernel)) ggX7_undo_X1_states
set_option maxRecDepth 20000 in
theorem ggX7_undo_X1_bringBack : GoodIn wsX7_undo wsX1_bringBack := goodIn_r _ [13, 9, 14, 15, 16, 17, 18, 19, 20, 21, 22, 23, 24, 25, 26, 27, 28, 29, 30, 31, 32, 33, 34, 35, 36, 37, 38, 39, 40, 41, 42, 43, 44, 45, 46, 47, 48, 49, 50, 51, 52, 53, 54, 55, 56, 57, 58, 59, 60, 61, 62, 63, 64, 65, 66, 211, 212, 213, 214, 215, 216, 217, 218, 219, 220, 221, 222, 223] (by decide +kernel) (by decide +kernel)
set_option maxRecDepth 20000 in
theorem gX7_undo_X1_bringBack : GoodIn wsX7_undo (wsV RX7 208 RX1 yX1_bringBack wsX1_bringBack) := goodIn_app (goodIn_of _ (by decide +kernel)) ggX7_undo_X1_bringBack
set_option maxRecDepth 20000 in
theorem ggX7_undo_X6_renew : GoodIn wsX7_undo wsX6_renew := goodIn_r _ [71, 72, 73, 74, 75, 76, 77, 78, 79, 80, 81, 82, 83, 84, 85, 86, 87, 29, 88, 31, 89, 40, 41, 37, 42, 43, 90, 91, 92, 93, 18, 94, 20, 95, 96, 97, 98, 57, 58, 59, 60, 99, 100, 101, 102, 53, 54, 55, 56, 52, 103, 104, 105, 106, 24, 107, 108, 109, 110, 61, 49, 50, 51, 111, 112, 113, 114, 33, 32, 115, 116, 117, 118, 119, 120, 121, 122, 123, 124, 125, 126, 127, 128, 129, 130, 131, 132, 133, 134, 135, 136, 137, 138, 139, 140, 141, 142, 143, 144, 145, 146, 147, 148, 149, 150, 151, 152, 153, 154, 155, 156, 157, 158, 159, 160, 161, 162, 163, 164, 165, 166, 167, 45, 46, 47, 48, 168, 169, 170, 171, 172, 173, 174, 175, 176, 177, 178, 179, 180, 181, 182, 183, 184, 185, 186, 187, 62, 63, 64, 65, 188, 189, 190, 191, 192, 70, 193, 194, 195, 196, 197, 198, 224, 225, 226, 227, 228, 229, 230, 213, 214, 215, 216, 217, 218, 231, 232, 233, 234, 219, 220, 221, 222, 223] (by decide +kernel) (by decide +kernel)
set_option maxRecDepth 20000 in
theorem gX7_undo_X6_renew : GoodIn wsX7_undo (wsV RX7 107 RX6 yX6_renew wsX6_renew) := goodIn_app (goodIn_of _ (by decide +kernel)) ggX7_undo_X6_renew
theorem dX7_undo_0 : decode cX7_undo 0 = .ok (.aload_n 0, 1) := by decide +kernel
theorem dX7_undo_1 : decode cX7_undo 1 = .ok (.getfield 58, 3) := by decide +kernel
theorem dX7_undo_4 : decode cX7_undo 4 = .ok (.invokevirtual 205, 3) := by decide +kernel
theorem dX7_undo_7 : decode cX7_undo 7 = .ok (.ifCond .ne 6, 3) := by decide +kernel
theorem dX7_undo_10 : decode cX7_undo 10 = .ok (.bipush (-5), 2) := by decide +kernel
theorem dX7_undo_12 : decode cX7_undo 12 = .ok (.ireturn, 1) := by decide +kernel
theorem dX7_undo_13 : decode cX7_undo 13 = .ok (.aload_n 0, 1) := by decide +kernel
theorem dX7_undo_14 : decode cX7_undo 14 = .ok (.getfield 58, 3) := by decide +kernel
theorem dX7_undo_17 : decode cX7_undo 17 = .ok (.aload_n 0, 1) := by decide +kernel
theorem dX7_undo_18 : decode cX7_undo 18 = .ok (.getfield 45, 3) := by decide +kernel
theorem dX7_undo_21 : decode cX7_undo 21 = .ok (.invokevirtual 208, 3) := by decide +kernel
theorem dX7_undo_24 : decode cX7_undo 24 = .ok (.aload_n 0, 1) := by decide +kernel
theorem dX7_undo_25 : decode cX7_undo 25 = .ok (.getfield 65, 3) := by decide +kernel
theorem dX7_undo_28 : decode cX7_undo 28 = .ok (.aload_n 0, 1) := by decide +kernel
theorem dX7_undo_29 : decode cX7_undo 29 = .ok (.getfield 45, 3) := by decide +kernel
theorem dX7_undo_32 : decode cX7_undo 32 = .ok (.invokevirtual 107, 3) := by decide +kernel
theorem dX7_undo_35 : decode cX7_undo 35 = .ok (.aload_n 0, 1) := by decide +kernel
theorem dX7_undo_36 : decode cX7_undo 36 = .ok (.getfield 58, 3) := by decide +kernel
theorem dX7_undo_39 : decode cX7_undo 39 = .ok (.invokevirtual 205, 3) := by decide +kernel
theorem dX7_undo_42 : decode cX7_undo 42 = .ok (.ireturn, 1) := by decide +kernel
set_option maxRecDepth 20000 in
theorem ggX7_keep_X0_copyFrom : GoodIn wsX7_keep wsX0_copyFrom := goodIn_r _ [8, 9, 10, 11, 12, 13, 14, 15, 16, 17, 18, 19, 20, 21, 22, 23, 24, 25, 26, 27, 28, 29, 30, 31, 32, 33, 34, 35, 36, 37, 38, 39, 40, 41, 42, 43, 44, 45, 46, 47, 48, 49, 50, 51, 52, 53, 54, 55, 76, 77, 78, 79, 80, 81, 82, 83, 84, 85, 86] (by decide +kernel) (by decide +kernel)
set_option maxRecDepth 20000 in
theorem gX7_keep_X0_copyFrom : GoodIn wsX7_keep (wsV RX7 72 RX0 yX0_copyFrom wsX0_copyFrom) := goodIn_app (goodIn_of _ (by decide +kernel)) ggX7_keep_X0_copyFrom
set_option maxRecDepth 20000 in
theorem ggX7_keep_X0_words : GoodIn wsX7_keep wsX0_words := goodIn_r _ [59, 13, 60, 61, 62, 18, 63, 20, 46, 47, 48, 26, 49, 32, 76, 77, 78, 79, 80, 81, 82, 83, 84, 85, 86] (by decide +kernel) (by decide +kernel)
set_option maxRecDepth 20000 in
theorem gX7_keep_X0_words : GoodIn wsX7_keep (wsV RX7 101 RX0 yX0_words wsX0_words) := goodIn_app (goodIn_of _ (by decide +kernel)) ggX7_keep_X0_words
theorem dX7_keep_0 : decode cX7_keep 0 = .ok (.aload_n 0, 1) := by decide +kernel
theorem dX7_keep_1 : decode cX7_keep 1 = .ok (.getfield 52, 3) := by decide +kernel
theorem dX7_keep_4 : decode cX7_keep 4 = .ok (.aload_n 0, 1) := by decide +kernel
theorem dX7_keep_5 : decode cX7_keep 5 = .ok (.getfield 45, 3) := by decide +kernel
theorem dX7_keep_8 : decode cX7_keep 8 = .ok (.invokevirtual 72, 3) := by decide +kernel
theorem dX7_keep_11 : decode cX7_keep 11 = .ok (.aload_n 0, 1) := by decide +kernel
theorem dX7_keep_12 : decode cX7_keep 12 = .ok (.iconst 1, 1) := by decide +kernel
theorem dX7_keep_13 : decode cX7_keep 13 = .ok (.putfield 211, 3) := by decide +kernel
theorem dX7_keep_16 : decode cX7_keep 16 = .ok (.aload_n 0, 1) := by decide +kernel
theorem dX7_keep_17 : decode cX7_keep 17 = .ok (.getfield 45, 3) := by decide +kernel
theorem dX7_keep_20 : decode cX7_keep 20 = .ok (.invokevirtual 101, 3) := by decide +kernel
theorem dX7_keep_23 : decode cX7_keep 23 = .ok (.ireturn, 1) := by decide +kernel
set_option maxRecDepth 20000 in
theorem ggX7_restore_X1_record : GoodIn wsX7_restore wsX1_record := goodIn_r _ [10, 11, 12, 13, 14, 15, 9, 16, 17, 18, 19, 20, 21, 22, 23, 24, 25, 26, 27, 28, 29, 30, 31, 32, 33, 34, 35, 36, 37, 38, 39, 40, 41, 42, 43, 44, 45, 46, 47, 48, 49, 50, 51, 52, 53, 54, 55, 56, 57, 58, 59, 60, 61, 62, 63, 64, 65, 66, 67, 68, 69, 70, 71, 72, 218, 219, 220, 221, 222, 223, 224, 225, 226, 227, 228, 229, 230] (by decide +kernel) (by decide +kernel)
set_option maxRecDepth 20000 in
theorem gX7_restore_X1_record : GoodIn wsX7_restore (wsV RX7 104 RX1 yX1_record wsX1_record) := goodIn_app (goodIn_of _ (by decide +kernel)) ggX7_restore_X1_record
set_option maxRecDepth 20000 in
theorem ggX7_restore_X0_copyFrom : GoodIn wsX7_restore wsX0_copyFrom := goodIn_r _ [25, 26, 27, 28, 29, 30, 31, 32, 33, 34, 35, 36, 37, 38, 39, 40, 41, 42, 43, 44, 45, 46, 47, 48, 49, 50, 51, 52, 53, 54, 55, 56, 57, 58, 59, 60, 61, 62, 63, 64, 65, 66, 67, 68, 69, 70, 71, 72, 220, 221, 222, 223, 224, 225, 226, 227, 228, 229, 230] (by decide +kernel) (by decide +kernel)
set_option maxRecDepth 20000 in
theorem gX7_restore_X0_copyFrom : GoodIn wsX7_restore (wsV RX7 72 RX0 yX0_copyFrom wsX0_copyFrom) := goodIn_app (goodIn_of _ (by decide +kernel)) ggX7_restore_X0_copyFrom
set_option maxRecDepth 20000 in
theorem ggX7_restore_X6_renew : GoodIn wsX7_restore wsX6_renew := goodIn_r _ [78, 79, 80, 81, 82, 83, 84, 85, 86, 87, 88, 89, 90, 91, 92, 93, 94, 35, 95, 37, 96, 46, 47, 43, 48, 49, 97, 98, 99, 100, 24, 101, 26, 102, 103, 104, 105, 63, 64, 65, 66, 106, 107, 108, 109, 59, 60, 61, 62, 58, 110, 111, 112, 113, 30, 114, 115, 116, 117, 67, 55, 56, 57, 118, 119, 120, 121, 39, 38, 122, 123, 124, 125, 126, 127, 128, 129, 130, 131, 132, 133, 134, 135, 136, 137, 138, 139, 140, 141, 142, 143, 144, 145, 146, 147, 148, 149, 150, 151, 152, 153, 154, 155, 156, 157, 158, 159, 160, 161, 162, 163, 164, 165, 166, 167, 168, 169, 170, 171, 172, 173, 174, 51, 52, 53, 54, 175, 176, 177, 178, 179, 180, 181, 182, 183, 184, 185, 186, 187, 188, 19, 189, 190, 191, 192, 193, 68, 69, 70, 71, 194, 195, 196, 197, 198, 77, 199, 200, 201, 202, 203, 204, 231, 232, 233, 234, 235, 236, 237, 220, 221, 222, 223, 224, 225, 238, 239, 240, 241, 226, 227, 228, 229, 230] (by decide +kernel) (by decide +kernel)
set_option maxRecDepth 20000 in
theorem gX7_restore_X6_renew : GoodIn wsX7_restore (wsV RX7 107 RX6 yX6_renew wsX6_renew) := goodIn_app (goodIn_of _ (by decide +kernel)) ggX7_restore_X6_renew
set_option maxRecDepth 20000 in
theorem ggX7_restore_X0_words : GoodIn wsX7_restore wsX0_words := goodIn_r _ [113, 30, 102, 103, 104, 35, 105, 37, 63, 64, 65, 43, 66, 49, 220, 221, 222, 223, 224, 225, 226, 227, 228, 229, 230] (by decide +kernel) (by decide +kernel)
set_option maxRecDepth 20000 in
theorem gX7_restore_X0_words : GoodIn wsX7_restore (wsV RX7 101 RX0 yX0_words wsX0_words) := goodIn_app (goodIn_of _ (by decide +kernel)) ggX7_restore_X0_words
theorem dX7_restore_0 : decode cX7_restore 0 = .ok (.aload_n 0, 1) := by decide +kernel
theorem dX7_restore_1 : decode cX7_restore 1 = .ok (.getfield 211, 3) := by decide +kernel
theorem dX7_restore_4 : decode cX7_restore 4 = .ok (.ifCond .ne 6, 3) := by decide +kernel
theorem dX7_restore_7 : decode cX7_restore 7 = .ok (.bipush (-5), 2) := by decide +kernel
theorem dX7_restore_9 : decode cX7_restore 9 = .ok (.ireturn, 1) := by decide +kernel
theorem dX7_restore_10 : decode cX7_restore 10 = .ok (.aload_n 0, 1) := by decide +kernel
theorem dX7_restore_11 : decode cX7_restore 11 = .ok (.getfield 58, 3) := by decide +kernel
theorem dX7_restore_14 : decode cX7_restore 14 = .ok (.aload_n 0, 1) := by decide +kernel
theorem dX7_restore_15 : decode cX7_restore 15 = .ok (.getfield 45, 3) := by decide +kernel
theorem dX7_restore_18 : decode cX7_restore 18 = .ok (.invokevirtual 104, 3) := by decide +kernel
theorem dX7_restore_21 : decode cX7_restore 21 = .ok (.aload_n 0, 1) := by decide +kernel
theorem dX7_restore_22 : decode cX7_restore 22 = .ok (.getfield 45, 3) := by decide +kernel
theorem dX7_restore_25 : decode cX7_restore 25 = .ok (.aload_n 0, 1) := by decide +kernel
theorem dX7_restore_26 : decode cX7_restore 26 = .ok (.getfield 52, 3) := by decide +kernel
theorem dX7_restore_29 : decode cX7_restore 29 = .ok (.invokevirtual 72, 3) := by decide +kernel
theorem dX7_restore_32 : decode cX7_restore 32 = .ok (.aload_n 0, 1) := by decide +kernel
theorem dX7_restore_33 : decode cX7_restore 33 = .ok (.getfield 65, 3) := by decide +kernel
theorem dX7_restore_36 : decode cX7_restore 36 = .ok (.aload_n 0, 1) := by decide +kernel
theorem dX7_restore_37 : decode cX7_restore 37 = .ok (.getfield 45, 3) := by decide +kernel
theorem dX7_restore_40 : decode cX7_restore 40 = .ok (.invokevirtual 107, 3) := by decide +kernel
theorem dX7_restore_43 : decode cX7_restore 43 = .ok (.aload_n 0, 1) := by decide +kernel
theorem dX7_restore_44 : decode cX7_restore 44 = .ok (.getfield 45, 3) := by decide +kernel
theorem dX7_restore_47 : decode cX7_restore 47 = .ok (.invokevirtual 101, 3) := by decide +kernel
theorem dX7_restore_50 : decode cX7_restore 50 = .ok (.ireturn, 1) := by decide +kernel
set_option maxRecDepth 20000 in
theorem ggX7_rule_X0_hasRule : GoodIn wsX7_rule wsX0_hasRule := goodIn_r _ [11, 12, 13, 14, 15, 16, 17, 18, 19, 20, 21, 22, 23, 24, 47, 48, 49, 50, 51, 52, 60, 61, 62, 63, 64] (by decide +kernel) (by decide +kernel)
set_option maxRecDepth 20000 in
theorem gX7_rule_X0_hasRule : GoodIn wsX7_rule (wsV RX7 110 RX0 yX0_hasRule wsX0_hasRule) := goodIn_app (goodIn_of _ (by decide +kernel)) ggX7_rule_X0_hasRule
set_option maxRecDepth 20000 in
theorem ggX7_rule_X4_length : GoodIn wsX7_rule wsX4_length := goodIn_r _ [28, 18, 29, 30, 31, 22, 32, 24, 33, 60, 61, 62, 63, 64] (by decide +kernel) (by decide +kernel)
set_option maxRecDepth 20000 in
theorem gX7_rule_X4_length : GoodIn wsX7_rule (wsV RX7 218 RX4 yX4_length wsX4_length) := goodIn_app (goodIn_of _ (by decide +kernel)) ggX7_rule_X4_length
set_option maxRecDepth 20000 in
theorem ggX7_rule_X3_get : GoodIn wsX7_rule wsX3_get := goodIn_r _ [32, 24, 33, 63, 64] (by decide +kernel) (by decide +kernel)
set_option maxRecDepth 20000 in
theorem gX7_rule_X3_get : GoodIn wsX7_rule (wsV RX7 132 RX3 yX3_get wsX3_get) := goodIn_app (goodIn_of _ (by decide +kernel)) ggX7_rule_X3_get
theorem dX7_rule_0 : decode cX7_rule 0 = .ok (.aload_n 0, 1) := by decide +kernel
theorem dX7_rule_1 : decode cX7_rule 1 = .ok (.getfield 45, 3) := by decide +kernel
theorem dX7_rule_4 : decode cX7_rule 4 = .ok (.iload_n 1, 1) := by decide +kernel
theorem dX7_rule_5 : decode cX7_rule 5 = .ok (.invokevirtual 110, 3) := by decide +kernel
theorem dX7_rule_8 : decode cX7_rule 8 = .ok (.ifCond .ne 5, 3) := by decide +kernel
theorem dX7_rule_11 : decode cX7_rule 11 = .ok (.iconst (-1), 1) := by decide +kernel
theorem dX7_rule_12 : decode cX7_rule 12 = .ok (.ireturn, 1) := by decide +kernel
theorem dX7_rule_13 : decode cX7_rule 13 = .ok (.iload_n 2, 1) := by decide +kernel
theorem dX7_rule_14 : decode cX7_rule 14 = .ok (.tableswitch 78 0 3 #[30, 42, 54, 66], 30) := by decide +kernel
theorem dX7_rule_44 : decode cX7_rule 44 = .ok (.aload_n 0, 1) := by decide +kernel
theorem dX7_rule_45 : decode cX7_rule 45 = .ok (.getfield 45, 3) := by decide +kernel
theorem dX7_rule_48 : decode cX7_rule 48 = .ok (.getfield 215, 3) := by decide +kernel
theorem dX7_rule_51 : decode cX7_rule 51 = .ok (.iload_n 1, 1) := by decide +kernel
theorem dX7_rule_52 : decode cX7_rule 52 = .ok (.invokevirtual 218, 3) := by decide +kernel
theorem dX7_rule_55 : decode cX7_rule 55 = .ok (.ireturn, 1) := by decide +kernel
theorem dX7_rule_56 : decode cX7_rule 56 = .ok (.aload_n 0, 1) := by decide +kernel
theorem dX7_rule_57 : decode cX7_rule 57 = .ok (.getfield 45, 3) := by decide +kernel
theorem dX7_rule_60 : decode cX7_rule 60 = .ok (.getfield 221, 3) := by decide +kernel
theorem dX7_rule_63 : decode cX7_rule 63 = .ok (.iload_n 1, 1) := by decide +kernel
theorem dX7_rule_64 : decode cX7_rule 64 = .ok (.invokevirtual 132, 3) := by decide +kernel
theorem dX7_rule_67 : decode cX7_rule 67 = .ok (.ireturn, 1) := by decide +kernel
theorem dX7_rule_68 : decode cX7_rule 68 = .ok (.aload_n 0, 1) := by decide +kernel
theorem dX7_rule_69 : decode cX7_rule 69 = .ok (.getfield 45, 3) := by decide +kernel
theorem dX7_rule_72 : decode cX7_rule 72 = .ok (.getfield 224, 3) := by decide +kernel
theorem dX7_rule_75 : decode cX7_rule 75 = .ok (.iload_n 1, 1) := by decide +kernel
theorem dX7_rule_76 : decode cX7_rule 76 = .ok (.invokevirtual 132, 3) := by decide +kernel
theorem dX7_rule_79 : decode cX7_rule 79 = .ok (.ireturn, 1) := by decide +kernel
theorem dX7_rule_80 : decode cX7_rule 80 = .ok (.aload_n 0, 1) := by decide +kernel
theorem dX7_rule_81 : decode cX7_rule 81 = .ok (.getfield 65, 3) := by decide +kernel
theorem dX7_rule_84 : decode cX7_rule 84 = .ok (.getfield 227, 3) := by decide +kernel
theorem dX7_rule_87 : decode cX7_rule 87 = .ok (.iload_n 1, 1) := by decide +kernel
theorem dX7_rule_88 : decode cX7_rule 88 = .ok (.invokevirtual 132, 3) := by decide +kernel
theorem dX7_rule_91 : decode cX7_rule 91 = .ok (.ireturn, 1) := by decide +kernel
theorem dX7_rule_92 : decode cX7_rule 92 = .ok (.bipush (-2), 2) := by decide +kernel
theorem dX7_rule_94 : decode cX7_rule 94 = .ok (.ireturn, 1) := by decide +kernel
set_option maxRecDepth 20000 in
theorem ggX7_letterOf_X0_hasRule : GoodIn wsX7_letterOf wsX0_hasRule := goodIn_r _ [7, 8, 9, 10, 11, 12, 13, 14, 15, 16, 17, 18, 19, 20, 44, 45, 46, 47, 48, 49, 50, 51, 52, 53, 54] (by decide +kernel) (by decide +kernel)
set_option maxRecDepth 20000 in
theorem gX7_letterOf_X0_hasRule : GoodIn wsX7_letterOf (wsV RX7 110 RX0 yX0_hasRule wsX0_hasRule) := goodIn_app (goodIn_of _ (by decide +kernel)) ggX7_letterOf_X0_hasRule
set_option maxRecDepth 20000 in
theorem ggX7_letterOf_X4_get : GoodIn wsX7_letterOf wsX4_get := goodIn_r _ [24, 14, 25, 26, 27, 28, 29, 18, 30, 20, 31, 50, 51, 52, 53, 54] (by decide +kernel) (by decide +kernel)
set_option maxRecDepth 20000 in
theorem gX7_letterOf_X4_get : GoodIn wsX7_letterOf (wsV RX7 230 RX4 yX4_get wsX4_get) := goodIn_app (goodIn_of _ (by decide +kernel)) ggX7_letterOf_X4_get
theorem dX7_letterOf_0 : decode cX7_letterOf 0 = .ok (.aload_n 0, 1) := by decide +kernel
theorem dX7_letterOf_1 : decode cX7_letterOf 1 = .ok (.getfield 45, 3) := by decide +kernel
theorem dX7_letterOf_4 : decode cX7_letterOf 4 = .ok (.iload_n 1, 1) := by decide +kernel
theorem dX7_letterOf_5 : decode cX7_letterOf 5 = .ok (.invokevirtual 110, 3) := by decide +kernel
theorem dX7_letterOf_8 : decode cX7_letterOf 8 = .ok (.ifCond .ne 5, 3) := by decide +kernel
theorem dX7_letterOf_11 : decode cX7_letterOf 11 = .ok (.iconst (-1), 1) := by decide +kernel
theorem dX7_letterOf_12 : decode cX7_letterOf 12 = .ok (.ireturn, 1) := by decide +kernel
theorem dX7_letterOf_13 : decode cX7_letterOf 13 = .ok (.iload_n 2, 1) := by decide +kernel
theorem dX7_letterOf_14 : decode cX7_letterOf 14 = .ok (.ifCond .ge 8, 3) := by decide +kernel
theorem dX7_letterOf_17 : decode cX7_letterOf 17 = .ok (.bipush (-2), 2) := by decide +kernel
theorem dX7_letterOf_19 : decode cX7_letterOf 19 = .ok (.goto 15, 3) := by decide +kernel
theorem dX7_letterOf_22 : decode cX7_letterOf 22 = .ok (.aload_n 0, 1) := by decide +kernel
theorem dX7_letterOf_23 : decode cX7_letterOf 23 = .ok (.getfield 45, 3) := by decide +kernel
theorem dX7_letterOf_26 : decode cX7_letterOf 26 = .ok (.getfield 215, 3) := by decide +kernel
theorem dX7_letterOf_29 : decode cX7_letterOf 29 = .ok (.iload_n 1, 1) := by decide +kernel
theorem dX7_letterOf_30 : decode cX7_letterOf 30 = .ok (.iload_n 2, 1) := by decide +kernel
theorem dX7_letterOf_31 : decode cX7_letterOf 31 = .ok (.invokevirtual 230, 3) := by decide +kernel
theorem dX7_letterOf_34 : decode cX7_letterOf 34 = .ok (.ireturn, 1) := by decide +kernel
set_option maxRecDepth 20000 in
theorem ggX7_sign_X7_isCapital : GoodIn wsX7_sign wsX7_isCapital := goodIn_r _ [6] (by decide +kernel) (by decide +kernel)
set_option maxRecDepth 20000 in
theorem gX7_sign_X7_isCapital : GoodIn wsX7_sign (va_wsS RX7 233 yX7_isCapital wsX7_isCapital) := goodIn_app (goodIn_of _ (by decide +kernel)) ggX7_sign_X7_isCapital
set_option maxRecDepth 20000 in
theorem ggX7_sign_X4_get : GoodIn wsX7_sign wsX4_get := goodIn_r _ [11, 12, 13, 14, 15, 16, 17, 18, 19, 20, 21, 40, 41, 42, 43, 44] (by decide +kernel) (by decide +kernel)
set_option maxRecDepth 20000 in
theorem gX7_sign_X4_get : GoodIn wsX7_sign (wsV RX7 230 RX4 yX4_get wsX4_get) := goodIn_app (goodIn_of _ (by decide +kernel)) ggX7_sign_X4_get
theorem dX7_sign_0 : decode cX7_sign 0 = .ok (.iload_n 1, 1) := by decide +kernel
theorem dX7_sign_1 : decode cX7_sign 1 = .ok (.invokestatic 233, 3) := by decide +kernel
theorem dX7_sign_4 : decode cX7_sign 4 = .ok (.ifCond .ne 5, 3) := by decide +kernel
theorem dX7_sign_7 : decode cX7_sign 7 = .ok (.iconst (-1), 1) := by decide +kernel
theorem dX7_sign_8 : decode cX7_sign 8 = .ok (.ireturn, 1) := by decide +kernel
theorem dX7_sign_9 : decode cX7_sign 9 = .ok (.iload_n 2, 1) := by decide +kernel
theorem dX7_sign_10 : decode cX7_sign 10 = .ok (.ifCond .lt 8, 3) := by decide +kernel
theorem dX7_sign_13 : decode cX7_sign 13 = .ok (.iload_n 2, 1) := by decide +kernel
theorem dX7_sign_14 : decode cX7_sign 14 = .ok (.iconst 2, 1) := by decide +kernel
theorem dX7_sign_15 : decode cX7_sign 15 = .ok (.if_icmp .lt 6, 3) := by decide +kernel
theorem dX7_sign_18 : decode cX7_sign 18 = .ok (.bipush (-2), 2) := by decide +kernel
theorem dX7_sign_20 : decode cX7_sign 20 = .ok (.ireturn, 1) := by decide +kernel
theorem dX7_sign_21 : decode cX7_sign 21 = .ok (.aload_n 0, 1) := by decide +kernel
theorem dX7_sign_22 : decode cX7_sign 22 = .ok (.getfield 45, 3) := by decide +kernel
theorem dX7_sign_25 : decode cX7_sign 25 = .ok (.getfield 236, 3) := by decide +kernel
theorem dX7_sign_28 : decode cX7_sign 28 = .ok (.iload_n 1, 1) := by decide +kernel
theorem dX7_sign_29 : decode cX7_sign 29 = .ok (.bipush 65, 2) := by decide +kernel
theorem dX7_sign_31 : decode cX7_sign 31 = .ok (.isub, 1) := by decide +kernel
theorem dX7_sign_32 : decode cX7_sign 32 = .ok (.iload_n 2, 1) := by decide +kernel
theorem dX7_sign_33 : decode cX7_sign 33 = .ok (.invokevirtual 230, 3) := by decide +kernel
theorem dX7_sign_36 : decode cX7_sign 36 = .ok (.ireturn, 1) := by decide +kernel
set_option maxRecDepth 20000 in
theorem ggX7_word_X0_hasWord : GoodIn wsX7_word wsX0_hasWord := goodIn_r _ [12, 13, 14, 15, 16, 17, 18, 19, 20, 21, 22, 23, 24, 25, 72, 73, 74, 75, 76, 77, 85, 86, 87, 88, 89] (by decide +kernel) (by decide +kernel)
set_option maxRecDepth 20000 in
theorem gX7_word_X0_hasWord : GoodIn wsX7_word (wsV RX7 123 RX0 yX0_hasWord wsX0_hasWord) := goodIn_app (goodIn_of _ (by decide +kernel)) ggX7_word_X0_hasWord
set_option maxRecDepth 20000 in
theorem ggX7_word_X3_get : GoodIn wsX7_word wsX3_get := goodIn_r _ [29, 25, 30, 88, 89] (by decide +kernel) (by decide +kernel)
set_option maxRecDepth 20000 in
theorem gX7_word_X3_get : GoodIn wsX7_word (wsV RX7 132 RX3 yX3_get wsX3_get) := goodIn_app (goodIn_of _ (by decide +kernel)) ggX7_word_X3_get
set_option maxRecDepth 20000 in
theorem ggX7_word_X4_length : GoodIn wsX7_word wsX4_length := goodIn_r _ [34, 19, 35, 27, 28, 23, 29, 25, 30, 85, 86, 87, 88, 89] (by decide +kernel) (by decide +kernel)
set_option maxRecDepth 20000 in
theorem gX7_word_X4_length : GoodIn wsX7_word (wsV RX7 218 RX4 yX4_length wsX4_length) := goodIn_app (goodIn_of _ (by decide +kernel)) ggX7_word_X4_length
set_option maxRecDepth 20000 in
theorem ggX7_word_X4_countLike : GoodIn wsX7_word wsX4_countLike := goodIn_r _ [39, 19, 20, 21, 22, 23, 24, 25, 40, 41, 42, 17, 43, 35, 27, 28, 29, 30, 44, 45, 46, 47, 48, 49, 85, 86, 87, 88, 89] (by decide +kernel) (by decide +kernel)
set_option maxRecDepth 20000 in
theorem gX7_word_X4_countLike : GoodIn wsX7_word (wsV RX7 242 RX4 yX4_countLike wsX4_countLike) := goodIn_app (goodIn_of _ (by decide +kernel)) ggX7_word_X4_countLike
set_option maxRecDepth 20000 in
theorem ggX7_word_X6_comesBack : GoodIn wsX7_word wsX6_comesBack := goodIn_r _ [54, 55, 56, 57, 58, 17, 59, 40, 41, 42, 43, 19, 35, 27, 28, 23, 29, 25, 30, 44, 45, 46, 47, 48, 49, 78, 79, 80, 81, 82, 83, 84, 85, 86, 87, 88, 89] (by decide +kernel) (by decide +kernel)
set_option maxRecDepth 20000 in
theorem gX7_word_X6_comesBack : GoodIn wsX7_word (wsV RX7 142 RX6 yX6_comesBack wsX6_comesBack) := goodIn_app (goodIn_of _ (by decide +kernel)) ggX7_word_X6_comesBack
theorem dX7_word_0 : decode cX7_word 0 = .ok (.aload_n 0, 1) := by decide +kernel
theorem dX7_word_1 : decode cX7_word 1 = .ok (.getfield 45, 3) := by decide +kernel
theorem dX7_word_4 : decode cX7_word 4 = .ok (.iload_n 1, 1) := by decide +kernel
theorem dX7_word_5 : decode cX7_word 5 = .ok (.invokevirtual 123, 3) := by decide +kernel
theorem dX7_word_8 : decode cX7_word 8 = .ok (.ifCond .ne 5, 3) := by decide +kernel
theorem dX7_word_11 : decode cX7_word 11 = .ok (.iconst (-1), 1) := by decide +kernel
theorem dX7_word_12 : decode cX7_word 12 = .ok (.ireturn, 1) := by decide +kernel
theorem dX7_word_13 : decode cX7_word 13 = .ok (.iload_n 2, 1) := by decide +kernel
theorem dX7_word_14 : decode cX7_word 14 = .ok (.tableswitch 131 0 6 #[42, 54, 66, 78, 90, 102, 119], 42) := by decide +kernel
theorem dX7_word_56 : decode cX7_word 56 = .ok (.aload_n 0, 1) := by decide +kernel
theorem dX7_word_57 : decode cX7_word 57 = .ok (.getfield 45, 3) := by decide +kernel
theorem dX7_word_60 : decode cX7_word 60 = .ok (.getfield 129, 3) := by decide +kernel
theorem dX7_word_63 : decode cX7_word 63 = .ok (.iload_n 1, 1) := by decide +kernel
theorem dX7_word_64 : decode cX7_word 64 = .ok (.invokevirtual 132, 3) := by decide +kernel
theorem dX7_word_67 : decode cX7_word 67 = .ok (.ireturn, 1) := by decide +kernel
theorem dX7_word_68 : decode cX7_word 68 = .ok (.aload_n 0, 1) := by decide +kernel
theorem dX7_word_69 : decode cX7_word 69 = .ok (.getfield 45, 3) := by decide +kernel
theorem dX7_word_72 : decode cX7_word 72 = .ok (.getfield 169, 3) := by decide +kernel
theorem dX7_word_75 : decode cX7_word 75 = .ok (.iload_n 1, 1) := by decide +kernel
theorem dX7_word_76 : decode cX7_word 76 = .ok (.invokevirtual 218, 3) := by decide +kernel
theorem dX7_word_79 : decode cX7_word 79 = .ok (.ireturn, 1) := by decide +kernel
theorem dX7_word_80 : decode cX7_word 80 = .ok (.aload_n 0, 1) := by decide +kernel
theorem dX7_word_81 : decode cX7_word 81 = .ok (.getfield 65, 3) := by decide +kernel
theorem dX7_word_84 : decode cX7_word 84 = .ok (.getfield 239, 3) := by decide +kernel
theorem dX7_word_87 : decode cX7_word 87 = .ok (.iload_n 1, 1) := by decide +kernel
theorem dX7_word_88 : decode cX7_word 88 = .ok (.invokevirtual 218, 3) := by decide +kernel
theorem dX7_word_91 : decode cX7_word 91 = .ok (.ireturn, 1) := by decide +kernel
theorem dX7_word_92 : decode cX7_word 92 = .ok (.aload_n 0, 1) := by decide +kernel
theorem dX7_word_93 : decode cX7_word 93 = .ok (.getfield 65, 3) := by decide +kernel
theorem dX7_word_96 : decode cX7_word 96 = .ok (.getfield 195, 3) := by decide +kernel
theorem dX7_word_99 : decode cX7_word 99 = .ok (.iload_n 1, 1) := by decide +kernel
theorem dX7_word_100 : decode cX7_word 100 = .ok (.invokevirtual 218, 3) := by decide +kernel
theorem dX7_word_103 : decode cX7_word 103 = .ok (.ireturn, 1) := by decide +kernel
theorem dX7_word_104 : decode cX7_word 104 = .ok (.aload_n 0, 1) := by decide +kernel
theorem dX7_word_105 : decode cX7_word 105 = .ok (.getfield 65, 3) := by decide +kernel
theorem dX7_word_108 : decode cX7_word 108 = .ok (.getfield 195, 3) := by decide +kernel
theorem dX7_word_111 : decode cX7_word 111 = .ok (.iload_n 1, 1) := by decide +kernel
theorem dX7_word_112 : decode cX7_word 112 = .ok (.invokevirtual 242, 3) := by decide +kernel
theorem dX7_word_115 : decode cX7_word 115 = .ok (.ireturn, 1) := by decide +kernel
theorem dX7_word_116 : decode cX7_word 116 = .ok (.aload_n 0, 1) := by decide +kernel
theorem dX7_word_117 : decode cX7_word 117 = .ok (.getfield 65, 3) := by decide +kernel
theorem dX7_word_120 : decode cX7_word 120 = .ok (.iload_n 1, 1) := by decide +kernel
theorem dX7_word_121 : decode cX7_word 121 = .ok (.invokevirtual 142, 3) := by decide +kernel
theorem dX7_word_124 : decode cX7_word 124 = .ok (.ifCond .eq 7, 3) := by decide +kernel
theorem dX7_word_127 : decode cX7_word 127 = .ok (.iconst 1, 1) := by decide +kernel
theorem dX7_word_128 : decode cX7_word 128 = .ok (.goto 4, 3) := by decide +kernel
theorem dX7_word_131 : decode cX7_word 131 = .ok (.iconst 0, 1) := by decide +kernel
theorem dX7_word_132 : decode cX7_word 132 = .ok (.ireturn, 1) := by decide +kernel
theorem dX7_word_133 : decode cX7_word 133 = .ok (.aload_n 0, 1) := by decide +kernel
theorem dX7_word_134 : decode cX7_word 134 = .ok (.getfield 65, 3) := by decide +kernel
theorem dX7_word_137 : decode cX7_word 137 = .ok (.getfield 245, 3) := by decide +kernel
theorem dX7_word_140 : decode cX7_word 140 = .ok (.iload_n 1, 1) := by decide +kernel
theorem dX7_word_141 : decode cX7_word 141 = .ok (.invokevirtual 132, 3) := by decide +kernel
theorem dX7_word_144 : decode cX7_word 144 = .ok (.ireturn, 1) := by decide +kernel
theorem dX7_word_145 : decode cX7_word 145 = .ok (.bipush (-2), 2) := by decide +kernel
theorem dX7_word_147 : decode cX7_word 147 = .ok (.ireturn, 1) := by decide +kernel
set_option maxRecDepth 20000 in
theorem ggX7_at_X0_hasWord : GoodIn wsX7_at wsX0_hasWord := goodIn_r _ [11, 12, 13, 14, 15, 16, 17, 18, 19, 20, 21, 22, 23, 24, 48, 49, 50, 51, 52, 53, 61, 62, 63, 64, 65] (by decide +kernel) (by decide +kernel)
set_option maxRecDepth 20000 in
theorem gX7_at_X0_hasWord : GoodIn wsX7_at (wsV RX7 123 RX0 yX0_hasWord wsX0_hasWord) := goodIn_app (goodIn_of _ (by decide +kernel)) ggX7_at_X0_hasWord
set_option maxRecDepth 20000 in
theorem ggX7_at_X4_get : GoodIn wsX7_at wsX4_get := goodIn_r _ [28, 18, 29, 30, 31, 32, 33, 22, 34, 24, 35, 61, 62, 63, 64, 65] (by decide +kernel) (by decide +kernel)
set_option maxRecDepth 20000 in
theorem gX7_at_X4_get : GoodIn wsX7_at (wsV RX7 230 RX4 yX4_get wsX4_get) := goodIn_app (goodIn_of _ (by decide +kernel)) ggX7_at_X4_get
theorem dX7_at_0 : decode cX7_at 0 = .ok (.aload_n 0, 1) := by decide +kernel
theorem dX7_at_1 : decode cX7_at 1 = .ok (.getfield 45, 3) := by decide +kernel
theorem dX7_at_4 : decode cX7_at 4 = .ok (.iload_n 1, 1) := by decide +kernel
theorem dX7_at_5 : decode cX7_at 5 = .ok (.invokevirtual 123, 3) := by decide +kernel
theorem dX7_at_8 : decode cX7_at 8 = .ok (.ifCond .ne 5, 3) := by decide +kernel
theorem dX7_at_11 : decode cX7_at 11 = .ok (.iconst (-1), 1) := by decide +kernel
theorem dX7_at_12 : decode cX7_at 12 = .ok (.ireturn, 1) := by decide +kernel
theorem dX7_at_13 : decode cX7_at 13 = .ok (.iload_n 3, 1) := by decide +kernel
theorem dX7_at_14 : decode cX7_at 14 = .ok (.ifCond .ge 6, 3) := by decide +kernel
theorem dX7_at_17 : decode cX7_at 17 = .ok (.bipush (-2), 2) := by decide +kernel
theorem dX7_at_19 : decode cX7_at 19 = .ok (.ireturn, 1) := by decide +kernel
theorem dX7_at_20 : decode cX7_at 20 = .ok (.iload_n 2, 1) := by decide +kernel
theorem dX7_at_21 : decode cX7_at 21 = .ok (.tableswitch 83 0 3 #[31, 44, 57, 70], 31) := by decide +kernel
theorem dX7_at_52 : decode cX7_at 52 = .ok (.aload_n 0, 1) := by decide +kernel
theorem dX7_at_53 : decode cX7_at 53 = .ok (.getfield 45, 3) := by decide +kernel
theorem dX7_at_56 : decode cX7_at 56 = .ok (.getfield 169, 3) := by decide +kernel
theorem dX7_at_59 : decode cX7_at 59 = .ok (.iload_n 1, 1) := by decide +kernel
theorem dX7_at_60 : decode cX7_at 60 = .ok (.iload_n 3, 1) := by decide +kernel
theorem dX7_at_61 : decode cX7_at 61 = .ok (.invokevirtual 230, 3) := by decide +kernel
theorem dX7_at_64 : decode cX7_at 64 = .ok (.ireturn, 1) := by decide +kernel
theorem dX7_at_65 : decode cX7_at 65 = .ok (.aload_n 0, 1) := by decide +kernel
theorem dX7_at_66 : decode cX7_at 66 = .ok (.getfield 65, 3) := by decide +kernel
theorem dX7_at_69 : decode cX7_at 69 = .ok (.getfield 239, 3) := by decide +kernel
theorem dX7_at_72 : decode cX7_at 72 = .ok (.iload_n 1, 1) := by decide +kernel
theorem dX7_at_73 : decode cX7_at 73 = .ok (.iload_n 3, 1) := by decide +kernel
theorem dX7_at_74 : decode cX7_at 74 = .ok (.invokevirtual 230, 3) := by decide +kernel
theorem dX7_at_77 : decode cX7_at 77 = .ok (.ireturn, 1) := by decide +kernel
theorem dX7_at_78 : decode cX7_at 78 = .ok (.aload_n 0, 1) := by decide +kernel
theorem dX7_at_79 : decode cX7_at 79 = .ok (.getfield 65, 3) := by decide +kernel
theorem dX7_at_82 : decode cX7_at 82 = .ok (.getfield 195, 3) := by decide +kernel
theorem dX7_at_85 : decode cX7_at 85 = .ok (.iload_n 1, 1) := by decide +kernel
theorem dX7_at_86 : decode cX7_at 86 = .ok (.iload_n 3, 1) := by decide +kernel
theorem dX7_at_87 : decode cX7_at 87 = .ok (.invokevirtual 230, 3) := by decide +kernel
theorem dX7_at_90 : decode cX7_at 90 = .ok (.ireturn, 1) := by decide +kernel
theorem dX7_at_91 : decode cX7_at 91 = .ok (.aload_n 0, 1) := by decide +kernel
theorem dX7_at_92 : decode cX7_at 92 = .ok (.getfield 65, 3) := by decide +kernel
theorem dX7_at_95 : decode cX7_at 95 = .ok (.getfield 248, 3) := by decide +kernel
theorem dX7_at_98 : decode cX7_at 98 = .ok (.iload_n 1, 1) := by decide +kernel
theorem dX7_at_99 : decode cX7_at 99 = .ok (.iload_n 3, 1) := by decide +kernel
theorem dX7_at_100 : decode cX7_at 100 = .ok (.invokevirtual 230, 3) := by decide +kernel
theorem dX7_at_103 : decode cX7_at 103 = .ok (.ireturn, 1) := by decide +kernel
theorem dX7_at_104 : decode cX7_at 104 = .ok (.bipush (-2), 2) := by decide +kernel
theorem dX7_at_106 : decode cX7_at 106 = .ok (.ireturn, 1) := by decide +kernel
set_option maxRecDepth 20000 in
theorem ggX7_result_X3_get : GoodIn wsX7_result wsX3_get := goodIn_r _ [6, 7, 8, 21, 22] (by decide +kernel) (by decide +kernel)
set_option maxRecDepth 20000 in
theorem gX7_result_X3_get : GoodIn wsX7_result (wsV RX7 132 RX3 yX3_get wsX3_get) := goodIn_app (goodIn_of _ (by decide +kernel)) ggX7_result_X3_get
theorem dX7_result_0 : decode cX7_result 0 = .ok (.iload_n 1, 1) := by decide +kernel
theorem dX7_result_1 : decode cX7_result 1 = .ok (.ifCond .ge 8, 3) := by decide +kernel
theorem dX7_result_4 : decode cX7_result 4 = .ok (.bipush (-2), 2) := by decide +kernel
theorem dX7_result_6 : decode cX7_result 6 = .ok (.goto 11, 3) := by decide +kernel
theorem dX7_result_9 : decode cX7_result 9 = .ok (.aload_n 0, 1) := by decide +kernel
theorem dX7_result_10 : decode cX7_result 10 = .ok (.getfield 18, 3) := by decide +kernel
theorem dX7_result_13 : decode cX7_result 13 = .ok (.iload_n 1, 1) := by decide +kernel
theorem dX7_result_14 : decode cX7_result 14 = .ok (.invokevirtual 132, 3) := by decide +kernel
theorem dX7_result_17 : decode cX7_result 17 = .ok (.ireturn, 1) := by decide +kernel
set_option maxRecDepth 20000 in
theorem ggX7_collideWith_X7_isCapital : GoodIn wsX7_collideWith wsX7_isCapital := goodIn_r _ [8] (by decide +kernel) (by decide +kernel)
set_option maxRecDepth 20000 in
theorem gX7_collideWith_X7_isCapital : GoodIn wsX7_collideWith (va_wsS RX7 233 yX7_isCapital wsX7_isCapital) := goodIn_app (goodIn_of _ (by decide +kernel)) ggX7_collideWith_X7_isCapital
set_option maxRecDepth 20000 in
theorem ggX7_collideWith_X7_isSmall : GoodIn wsX7_collideWith wsX7_isSmall := goodIn_r _ [11] (by decide +kernel) (by decide +kernel)
set_option maxRecDepth 20000 in
theorem gX7_collideWith_X7_isSmall : GoodIn wsX7_collideWith (va_wsS RX7 251 yX7_isSmall wsX7_isSmall) := goodIn_app (goodIn_of _ (by decide +kernel)) ggX7_collideWith_X7_isSmall
set_option maxRecDepth 20000 in
theorem ggX7_collideWith_X0_copyFrom : GoodIn wsX7_collideWith wsX0_copyFrom := goodIn_r _ [16, 17, 18, 19, 20, 21, 22, 23, 24, 25, 26, 27, 28, 29, 30, 31, 32, 33, 34, 35, 36, 37, 38, 39, 40, 41, 42, 43, 44, 45, 46, 47, 48, 49, 50, 51, 52, 53, 54, 55, 56, 57, 58, 59, 60, 61, 62, 63, 222, 223, 224, 225, 226, 227, 228, 229, 230, 231, 232] (by decide +kernel) (by decide +kernel)
set_option maxRecDepth 20000 in
theorem gX7_collideWith_X0_copyFrom : GoodIn wsX7_collideWith (wsV RX7 72 RX0 yX0_copyFrom wsX0_copyFrom) := goodIn_app (goodIn_of _ (by decide +kernel)) ggX7_collideWith_X0_copyFrom
set_option maxRecDepth 20000 in
theorem ggX7_collideWith_X4_putOne : GoodIn wsX7_collideWith wsX4_putOne := goodIn_r _ [67, 29, 28, 30, 68, 69, 70, 26, 71, 54, 55, 56, 34, 57, 40, 59, 60, 61, 62, 49, 228, 229, 230, 231, 232] (by decide +kernel) (by decide +kernel)
set_option maxRecDepth 20000 in
theorem gX7_collideWith_X4_putOne : GoodIn wsX7_collideWith (wsV RX7 254 RX4 yX4_putOne wsX4_putOne) := goodIn_app (goodIn_of _ (by decide +kernel)) ggX7_collideWith_X4_putOne
set_option maxRecDepth 20000 in
theorem ggX7_collideWith_X6_renew : GoodIn wsX7_collideWith wsX6_renew := goodIn_r _ [76, 77, 78, 79, 80, 81, 82, 83, 84, 85, 86, 87, 88, 89, 90, 91, 92, 26, 93, 28, 94, 37, 38, 34, 39, 40, 95, 96, 97, 98, 15, 99, 17, 100, 101, 102, 103, 54, 55, 56, 57, 104, 105, 106, 107, 50, 51, 52, 53, 49, 108, 109, 110, 111, 21, 112, 113, 114, 115, 58, 46, 47, 48, 116, 117, 118, 119, 30, 29, 120, 121, 122, 123, 124, 125, 126, 127, 128, 129, 130, 131, 132, 133, 134, 135, 136, 137, 138, 139, 140, 141, 142, 143, 144, 145, 146, 147, 148, 149, 7, 150, 151, 152, 153, 154, 155, 156, 157, 158, 159, 160, 161, 162, 163, 164, 165, 166, 167, 168, 6, 8, 169, 42, 43, 44, 45, 170, 171, 172, 173, 174, 175, 176, 177, 178, 179, 180, 181, 182, 183, 184, 185, 68, 69, 70, 71, 59, 60, 61, 62, 186, 187, 188, 189, 190, 75, 191, 192, 193, 194, 195, 196, 233, 234, 235, 236, 237, 238, 239, 222, 223, 224, 225, 226, 227, 240, 241, 242, 243, 228, 229, 230, 231, 232] (by decide +kernel) (by decide +kernel)
set_option maxRecDepth 20000 in
theorem gX7_collideWith_X6_renew : GoodIn wsX7_collideWith (wsV RX7 107 RX6 yX6_renew wsX6_renew) := goodIn_app (goodIn_of _ (by decide +kernel)) ggX7_collideWith_X6_renew
set_option maxRecDepth 20000 in
theorem ggX7_collideWith_X6_collisions : GoodIn wsX7_collideWith wsX6_collisions := goodIn_r _ [200, 79, 201, 101, 102, 26, 103, 28, 54, 55, 56, 34, 57, 40, 202, 203, 204, 205, 206, 207, 208, 209, 58, 46, 47, 48, 49, 116, 117, 118, 119, 30, 29, 233, 234, 235, 236, 237, 238, 239, 228, 229, 230, 231, 232] (by decide +kernel) (by decide +kernel)
set_option maxRecDepth 20000 in
theorem gX7_collideWith_X6_collisions : GoodIn wsX7_collideWith (wsV RX7 257 RX6 yX6_collisions wsX6_collisions) := goodIn_app (goodIn_of _ (by decide +kernel)) ggX7_collideWith_X6_collisions
theorem dX7_collideWith_0 : decode cX7_collideWith 0 = .ok (.iload_n 1, 1) := by decide +kernel
theorem dX7_collideWith_1 : decode cX7_collideWith 1 = .ok (.invokestatic 233, 3) := by decide +kernel
theorem dX7_collideWith_4 : decode cX7_collideWith 4 = .ok (.ifCond .ne 5, 3) := by decide +kernel
theorem dX7_collideWith_7 : decode cX7_collideWith 7 = .ok (.iconst (-1), 1) := by decide +kernel
theorem dX7_collideWith_8 : decode cX7_collideWith 8 = .ok (.ireturn, 1) := by decide +kernel
theorem dX7_collideWith_9 : decode cX7_collideWith 9 = .ok (.iload_n 2, 1) := by decide +kernel
theorem dX7_collideWith_10 : decode cX7_collideWith 10 = .ok (.invokestatic 251, 3) := by decide +kernel
theorem dX7_collideWith_13 : decode cX7_collideWith 13 = .ok (.ifCond .ne 6, 3) := by decide +kernel
theorem dX7_collideWith_16 : decode cX7_collideWith 16 = .ok (.bipush (-2), 2) := by decide +kernel
theorem dX7_collideWith_18 : decode cX7_collideWith 18 = .ok (.ireturn, 1) := by decide +kernel
theorem dX7_collideWith_19 : decode cX7_collideWith 19 = .ok (.aload_n 0, 1) := by decide +kernel
theorem dX7_collideWith_20 : decode cX7_collideWith 20 = .ok (.getfield 49, 3) := by decide +kernel
theorem dX7_collideWith_23 : decode cX7_collideWith 23 = .ok (.aload_n 0, 1) := by decide +kernel
theorem dX7_collideWith_24 : decode cX7_collideWith 24 = .ok (.getfield 45, 3) := by decide +kernel
theorem dX7_collideWith_27 : decode cX7_collideWith 27 = .ok (.invokevirtual 72, 3) := by decide +kernel
theorem dX7_collideWith_30 : decode cX7_collideWith 30 = .ok (.aload_n 0, 1) := by decide +kernel
theorem dX7_collideWith_31 : decode cX7_collideWith 31 = .ok (.getfield 49, 3) := by decide +kernel
theorem dX7_collideWith_34 : decode cX7_collideWith 34 = .ok (.getfield 236, 3) := by decide +kernel
theorem dX7_collideWith_37 : decode cX7_collideWith 37 = .ok (.iload_n 1, 1) := by decide +kernel
theorem dX7_collideWith_38 : decode cX7_collideWith 38 = .ok (.bipush 65, 2) := by decide +kernel
theorem dX7_collideWith_40 : decode cX7_collideWith 40 = .ok (.isub, 1) := by decide +kernel
theorem dX7_collideWith_41 : decode cX7_collideWith 41 = .ok (.iload_n 2, 1) := by decide +kernel
theorem dX7_collideWith_42 : decode cX7_collideWith 42 = .ok (.invokevirtual 254, 3) := by decide +kernel
theorem dX7_collideWith_45 : decode cX7_collideWith 45 = .ok (.aload_n 0, 1) := by decide +kernel
theorem dX7_collideWith_46 : decode cX7_collideWith 46 = .ok (.getfield 69, 3) := by decide +kernel
theorem dX7_collideWith_49 : decode cX7_collideWith 49 = .ok (.aload_n 0, 1) := by decide +kernel
theorem dX7_collideWith_50 : decode cX7_collideWith 50 = .ok (.getfield 49, 3) := by decide +kernel
theorem dX7_collideWith_53 : decode cX7_collideWith 53 = .ok (.invokevirtual 107, 3) := by decide +kernel
theorem dX7_collideWith_56 : decode cX7_collideWith 56 = .ok (.aload_n 0, 1) := by decide +kernel
theorem dX7_collideWith_57 : decode cX7_collideWith 57 = .ok (.getfield 69, 3) := by decide +kernel
theorem dX7_collideWith_60 : decode cX7_collideWith 60 = .ok (.invokevirtual 257, 3) := by decide +kernel
theorem dX7_collideWith_63 : decode cX7_collideWith 63 = .ok (.ireturn, 1) := by decide +kernel
set_option maxRecDepth 20000 in
theorem ggX7_count_X0_rules : GoodIn wsX7_count wsX0_rules := goodIn_r _ [12, 13, 14, 15, 16, 17, 18, 19, 20, 21, 22, 23, 24, 25, 108, 109, 110, 111, 112, 113, 121, 122, 123, 124, 125] (by decide +kernel) (by decide +kernel)
set_option maxRecDepth 20000 in
theorem gX7_count_X0_rules : GoodIn wsX7_count (wsV RX7 98 RX0 yX0_rules wsX0_rules) := goodIn_app (goodIn_of _ (by decide +kernel)) ggX7_count_X0_rules
set_option maxRecDepth 20000 in
theorem ggX7_count_X0_words : GoodIn wsX7_count wsX0_words := goodIn_r _ [29, 30, 14, 15, 16, 17, 18, 19, 20, 21, 22, 23, 24, 25, 108, 109, 110, 111, 112, 113, 121, 122, 123, 124, 125] (by decide +kernel) (by decide +kernel)
set_option maxRecDepth 20000 in
theorem gX7_count_X0_words : GoodIn wsX7_count (wsV RX7 101 RX0 yX0_words wsX0_words) := goodIn_app (goodIn_of _ (by decide +kernel)) ggX7_count_X0_words
set_option maxRecDepth 20000 in
theorem ggX7_count_X6_collisions : GoodIn wsX7_count wsX6_collisions := goodIn_r _ [35, 36, 37, 15, 16, 17, 18, 19, 20, 21, 22, 23, 24, 25, 38, 39, 40, 41, 42, 43, 44, 45, 46, 47, 48, 49, 50, 51, 52, 53, 54, 55, 56, 114, 115, 116, 117, 118, 119, 120, 121, 122, 123, 124, 125] (by decide +kernel) (by decide +kernel)
set_option maxRecDepth 20000 in
theorem gX7_count_X6_collisions : GoodIn wsX7_count (wsV RX7 257 RX6 yX6_collisions wsX6_collisions) := goodIn_app (goodIn_of _ (by decide +kernel)) ggX7_count_X6_collisions
set_option maxRecDepth 20000 in
theorem ggX7_count_X6_comingBack : GoodIn wsX7_count wsX6_comingBack := goodIn_r _ [60, 36, 37, 15, 16, 17, 18, 19, 20, 21, 22, 23, 24, 25, 61, 62, 63, 34, 64, 65, 66, 67, 68, 42, 43, 44, 45, 46, 47, 48, 49, 50, 51, 52, 53, 54, 55, 56, 114, 115, 116, 117, 118, 119, 120, 121, 122, 123, 124, 125] (by decide +kernel) (by decide +kernel)
set_option maxRecDepth 20000 in
theorem gX7_count_X6_comingBack : GoodIn wsX7_count (wsV RX7 260 RX6 yX6_comingBack wsX6_comingBack) := goodIn_app (goodIn_of _ (by decide +kernel)) ggX7_count_X6_comingBack
set_option maxRecDepth 20000 in
theorem ggX7_count_X6_unusedRules : GoodIn wsX7_count wsX6_unusedRules := goodIn_r _ [72, 73, 74, 21, 22, 23, 24, 25, 75, 47, 48, 49, 50, 114, 115, 116, 117, 118, 119, 120, 124, 125] (by decide +kernel) (by decide +kernel)
set_option maxRecDepth 20000 in
theorem gX7_count_X6_unusedRules : GoodIn wsX7_count (wsV RX7 263 RX6 yX6_unusedRules wsX6_unusedRules) := goodIn_app (goodIn_of _ (by decide +kernel)) ggX7_count_X6_unusedRules
set_option maxRecDepth 20000 in
theorem ggX7_count_X4_wholeLength : GoodIn wsX7_count wsX4_wholeLength := goodIn_r _ [79, 19, 20, 21, 22, 23, 24, 25, 46, 47, 48, 49, 50, 121, 122, 123, 124, 125] (by decide +kernel) (by decide +kernel)
set_option maxRecDepth 20000 in
theorem gX7_count_X4_wholeLength : GoodIn wsX7_count (wsV RX7 266 RX4 yX4_wholeLength wsX4_wholeLength) := goodIn_app (goodIn_of _ (by decide +kernel)) ggX7_count_X4_wholeLength
set_option maxRecDepth 20000 in
theorem ggX7_count_X3_size : GoodIn wsX7_count wsX3_size := goodIn_r _ [24, 25, 124, 125] (by decide +kernel) (by decide +kernel)
set_option maxRecDepth 20000 in
theorem gX7_count_X3_size : GoodIn wsX7_count (wsV RX7 151 RX3 yX3_size wsX3_size) := goodIn_app (goodIn_of _ (by decide +kernel)) ggX7_count_X3_size
set_option maxRecDepth 20000 in
theorem ggX7_count_X1_states : GoodIn wsX7_count wsX1_states := goodIn_r _ [85, 86, 126, 127] (by decide +kernel) (by decide +kernel)
set_option maxRecDepth 20000 in
theorem gX7_count_X1_states : GoodIn wsX7_count (wsV RX7 205 RX1 yX1_states wsX1_states) := goodIn_app (goodIn_of _ (by decide +kernel)) ggX7_count_X1_states
set_option maxRecDepth 20000 in
theorem ggX7_count_X0_longSigns : GoodIn wsX7_count wsX0_longSigns := goodIn_r _ [90, 91, 14, 15, 16, 17, 18, 19, 20, 21, 22, 23, 24, 25, 92, 93, 94, 95, 46, 47, 48, 49, 50, 108, 109, 110, 111, 112, 113, 121, 122, 123, 124, 125] (by decide +kernel) (by decide +kernel)
set_option maxRecDepth 20000 in
theorem gX7_count_X0_longSigns : GoodIn wsX7_count (wsV RX7 269 RX0 yX0_longSigns wsX0_longSigns) := goodIn_app (goodIn_of _ (by decide +kernel)) ggX7_count_X0_longSigns
theorem dX7_count_0 : decode cX7_count 0 = .ok (.iload_n 1, 1) := by decide +kernel
theorem dX7_count_1 : decode cX7_count 1 = .ok (.tableswitch 153 0 10 #[59, 67, 75, 83, 91, 99, 110, 121, 129, 137, 145], 59) := by decide +kernel
theorem dX7_count_60 : decode cX7_count 60 = .ok (.aload_n 0, 1) := by decide +kernel
theorem dX7_count_61 : decode cX7_count 61 = .ok (.getfield 45, 3) := by decide +kernel
theorem dX7_count_64 : decode cX7_count 64 = .ok (.invokevirtual 98, 3) := by decide +kernel
theorem dX7_count_67 : decode cX7_count 67 = .ok (.ireturn, 1) := by decide +kernel
theorem dX7_count_68 : decode cX7_count 68 = .ok (.aload_n 0, 1) := by decide +kernel
theorem dX7_count_69 : decode cX7_count 69 = .ok (.getfield 45, 3) := by decide +kernel
theorem dX7_count_72 : decode cX7_count 72 = .ok (.invokevirtual 101, 3) := by decide +kernel
theorem dX7_count_75 : decode cX7_count 75 = .ok (.ireturn, 1) := by decide +kernel
theorem dX7_count_76 : decode cX7_count 76 = .ok (.aload_n 0, 1) := by decide +kernel
theorem dX7_count_77 : decode cX7_count 77 = .ok (.getfield 65, 3) := by decide +kernel
theorem dX7_count_80 : decode cX7_count 80 = .ok (.invokevirtual 257, 3) := by decide +kernel
theorem dX7_count_83 : decode cX7_count 83 = .ok (.ireturn, 1) := by decide +kernel
theorem dX7_count_84 : decode cX7_count 84 = .ok (.aload_n 0, 1) := by decide +kernel
theorem dX7_count_85 : decode cX7_count 85 = .ok (.getfield 65, 3) := by decide +kernel
theorem dX7_count_88 : decode cX7_count 88 = .ok (.invokevirtual 260, 3) := by decide +kernel
theorem dX7_count_91 : decode cX7_count 91 = .ok (.ireturn, 1) := by decide +kernel
theorem dX7_count_92 : decode cX7_count 92 = .ok (.aload_n 0, 1) := by decide +kernel
theorem dX7_count_93 : decode cX7_count 93 = .ok (.getfield 65, 3) := by decide +kernel
theorem dX7_count_96 : decode cX7_count 96 = .ok (.invokevirtual 263, 3) := by decide +kernel
theorem dX7_count_99 : decode cX7_count 99 = .ok (.ireturn, 1) := by decide +kernel
theorem dX7_count_100 : decode cX7_count 100 = .ok (.aload_n 0, 1) := by decide +kernel
theorem dX7_count_101 : decode cX7_count 101 = .ok (.getfield 45, 3) := by decide +kernel
theorem dX7_count_104 : decode cX7_count 104 = .ok (.getfield 169, 3) := by decide +kernel
theorem dX7_count_107 : decode cX7_count 107 = .ok (.invokevirtual 266, 3) := by decide +kernel
theorem dX7_count_110 : decode cX7_count 110 = .ok (.ireturn, 1) := by decide +kernel
theorem dX7_count_111 : decode cX7_count 111 = .ok (.aload_n 0, 1) := by decide +kernel
theorem dX7_count_112 : decode cX7_count 112 = .ok (.getfield 65, 3) := by decide +kernel
theorem dX7_count_115 : decode cX7_count 115 = .ok (.getfield 195, 3) := by decide +kernel
theorem dX7_count_118 : decode cX7_count 118 = .ok (.invokevirtual 266, 3) := by decide +kernel
theorem dX7_count_121 : decode cX7_count 121 = .ok (.ireturn, 1) := by decide +kernel
theorem dX7_count_122 : decode cX7_count 122 = .ok (.aload_n 0, 1) := by decide +kernel
theorem dX7_count_123 : decode cX7_count 123 = .ok (.getfield 18, 3) := by decide +kernel
theorem dX7_count_126 : decode cX7_count 126 = .ok (.invokevirtual 151, 3) := by decide +kernel
theorem dX7_count_129 : decode cX7_count 129 = .ok (.ireturn, 1) := by decide +kernel
theorem dX7_count_130 : decode cX7_count 130 = .ok (.aload_n 0, 1) := by decide +kernel
theorem dX7_count_131 : decode cX7_count 131 = .ok (.getfield 58, 3) := by decide +kernel
theorem dX7_count_134 : decode cX7_count 134 = .ok (.invokevirtual 205, 3) := by decide +kernel
theorem dX7_count_137 : decode cX7_count 137 = .ok (.ireturn, 1) := by decide +kernel
theorem dX7_count_138 : decode cX7_count 138 = .ok (.aload_n 0, 1) := by decide +kernel
theorem dX7_count_139 : decode cX7_count 139 = .ok (.getfield 14, 3) := by decide +kernel
theorem dX7_count_142 : decode cX7_count 142 = .ok (.invokevirtual 151, 3) := by decide +kernel
theorem dX7_count_145 : decode cX7_count 145 = .ok (.ireturn, 1) := by decide +kernel
theorem dX7_count_146 : decode cX7_count 146 = .ok (.aload_n 0, 1) := by decide +kernel
theorem dX7_count_147 : decode cX7_count 147 = .ok (.getfield 45, 3) := by decide +kernel
theorem dX7_count_150 : decode cX7_count 150 = .ok (.invokevirtual 269, 3) := by decide +kernel
theorem dX7_count_153 : decode cX7_count 153 = .ok (.ireturn, 1) := by decide +kernel
theorem dX7_count_154 : decode cX7_count 154 = .ok (.bipush (-2), 2) := by decide +kernel
theorem dX7_count_156 : decode cX7_count 156 = .ok (.ireturn, 1) := by decide +kernel
theorem dX7_isSmall_0 : decode cX7_isSmall 0 = .ok (.iload_n 0, 1) := by decide +kernel
theorem dX7_isSmall_1 : decode cX7_isSmall 1 = .ok (.bipush 97, 2) := by decide +kernel
theorem dX7_isSmall_3 : decode cX7_isSmall 3 = .ok (.if_icmp .lt 13, 3) := by decide +kernel
theorem dX7_isSmall_6 : decode cX7_isSmall 6 = .ok (.iload_n 0, 1) := by decide +kernel
theorem dX7_isSmall_7 : decode cX7_isSmall 7 = .ok (.bipush 122, 2) := by decide +kernel
theorem dX7_isSmall_9 : decode cX7_isSmall 9 = .ok (.if_icmp .gt 7, 3) := by decide +kernel
theorem dX7_isSmall_12 : decode cX7_isSmall 12 = .ok (.iconst 1, 1) := by decide +kernel
theorem dX7_isSmall_13 : decode cX7_isSmall 13 = .ok (.goto 4, 3) := by decide +kernel
theorem dX7_isSmall_16 : decode cX7_isSmall 16 = .ok (.iconst 0, 1) := by decide +kernel
theorem dX7_isSmall_17 : decode cX7_isSmall 17 = .ok (.ireturn, 1) := by decide +kernel
theorem dX7_isCapital_0 : decode cX7_isCapital 0 = .ok (.iload_n 0, 1) := by decide +kernel
theorem dX7_isCapital_1 : decode cX7_isCapital 1 = .ok (.bipush 65, 2) := by decide +kernel
theorem dX7_isCapital_3 : decode cX7_isCapital 3 = .ok (.if_icmp .lt 13, 3) := by decide +kernel
theorem dX7_isCapital_6 : decode cX7_isCapital 6 = .ok (.iload_n 0, 1) := by decide +kernel
theorem dX7_isCapital_7 : decode cX7_isCapital 7 = .ok (.bipush 90, 2) := by decide +kernel
theorem dX7_isCapital_9 : decode cX7_isCapital 9 = .ok (.if_icmp .gt 7, 3) := by decide +kernel
theorem dX7_isCapital_12 : decode cX7_isCapital 12 = .ok (.iconst 1, 1) := by decide +kernel
theorem dX7_isCapital_13 : decode cX7_isCapital 13 = .ok (.goto 4, 3) := by decide +kernel
theorem dX7_isCapital_16 : decode cX7_isCapital 16 = .ok (.iconst 0, 1) := by decide +kernel
theorem dX7_isCapital_17 : decode cX7_isCapital 17 = .ok (.ireturn, 1) := by decide +kernel
theorem dX7_isVowel_0 : decode cX7_isVowel 0 = .ok (.iload_n 0, 1) := by decide +kernel
theorem dX7_isVowel_1 : decode cX7_isVowel 1 = .ok (.lookupswitch 53 #[(97, 51), (101, 51), (105, 51), (111, 51), (117, 51)], 51) := by decide +kernel
theorem dX7_isVowel_52 : decode cX7_isVowel 52 = .ok (.iconst 1, 1) := by decide +kernel
theorem dX7_isVowel_53 : decode cX7_isVowel 53 = .ok (.ireturn, 1) := by decide +kernel
theorem dX7_isVowel_54 : decode cX7_isVowel 54 = .ok (.iconst 0, 1) := by decide +kernel
theorem dX7_isVowel_55 : decode cX7_isVowel 55 = .ok (.ireturn, 1) := by decide +kernel
end
section
/-! MODULES: a world as a list of modules; a module is a list of addresses and what the cells there are. Own layer over the kit's rows. -/
abbrev Md : Type := List Nat × (va_W → Prop)
def mAt (D : va_G) (M : Md) (H : Heap) : Prop := ∃ ws : va_W, M.2 ws ∧ ws.map (fun q => q.1) = M.1 ∧ va_P D vwCl ws H
def wd (D : va_G) (Ms : List Md) (H : Heap) : Prop := ∀ M ∈ Ms, mAt D M H
def adr (Ms : List Md) : List Nat := Ms.flatMap (fun M => M.1)
def mA (Ms : List Md) (sz : Nat) : Nat → Prop := fun q => q ∈ adr Ms ∨ sz ≤ q
def cM (a : Nat) (e : va_E) : Md := ([a], fun ws => ws = [(a, e)])
theorem mAt_c {D : va_G} {a : Nat} {e : va_E} {H : Heap} : mAt D (cM a e) H ↔ va_at D vwCl (a, e) H := by
  constructor
  · rintro ⟨ws, h, -, hP⟩
    have h : ws = [(a, e)] := h
    subst h
    exact hP 0 _ rfl
  · intro h
    refine ⟨[(a, e)], rfl, rfl, fun k q hk => ?_⟩
    match k, hk with
    | 0, hk => cases hk; exact h
    | k + 1, hk => simp at hk
theorem mAt.kept {D : va_G} {M : Md} {H H1 : Heap} (h : mAt D M H) (hq : ∀ a ∈ M.1, H1[a]? = H[a]?) : mAt D M H1 := by
  obtain ⟨ws, h1, h2, h3⟩ := h
  refine ⟨ws, h1, h2, h3.kept fun k q hk => hq _ ?_⟩
  rw [← h2]
  exact List.mem_map.mpr ⟨q, List.mem_of_getElem? hk, rfl⟩
theorem mAt.lt {D : va_G} {M : Md} {H : Heap} (h : mAt D M H) {a : Nat} (ha : a ∈ M.1) : a < H.size := by
  obtain ⟨ws, h1, h2, h3⟩ := h
  rw [← h2] at ha
  obtain ⟨q, hq, rfl⟩ := List.mem_map.mp ha
  obtain ⟨k, hk⟩ := List.getElem?_of_mem hq
  exact (h3 k q hk).lt
theorem adr_map {Ms Ms' : List Md} (h : Ms'.map (fun M => M.1) = Ms.map (fun M => M.1)) : adr Ms' = adr Ms := by
  unfold adr
  rw [List.flatMap_def, List.flatMap_def, h]
theorem adr_in {Ms : List Md} {i : Nat} {M : Md} (h : Ms[i]? = some M) {a : Nat} (ha : a ∈ M.1) : a ∈ adr Ms := List.mem_flatMap.mpr ⟨M, List.mem_of_getElem? h, ha⟩
theorem adr_of {Ms : List Md} {a : Nat} (h : a ∈ adr Ms) : ∃ (i : Nat) (M : Md), Ms[i]? = some M ∧ a ∈ M.1 := by
  obtain ⟨M, h1, h2⟩ := List.mem_flatMap.mp h
  obtain ⟨i, h3⟩ := List.getElem?_of_mem h1
  exact ⟨i, M, h3, h2⟩
theorem adr_disj : ∀ {Ms : List Md}, (adr Ms).Nodup → ∀ {i j : Nat} {M N : Md}, Ms[i]? = some M → Ms[j]? = some N → i ≠ j → ∀ {a : Nat}, a ∈ M.1 → a ∉ N.1
  | [], _, i, j, M, N, hi, hj, hne, a, ha => by simp at hi
  | M0 :: Ms, hn, i, j, M, N, hi, hj, hne, a, ha => by
    have hn : (M0.1 ++ adr Ms).Nodup := hn
    have hx := List.pairwise_append.mp hn
    cases i with
    | zero =>
      cases j with
      | zero => exact absurd rfl hne
      | succ j =>
        rw [List.getElem?_cons_zero] at hi
        rw [List.getElem?_cons_succ] at hj
        cases hi
        exact fun h => hx.2.2 a ha a (adr_in hj h) rfl
    | succ i =>
      rw [List.getElem?_cons_succ] at hi
      cases j with
      | zero =>
        rw [List.getElem?_cons_zero] at hj
        cases hj
        exact fun h => hx.2.2 a h a (adr_in hi ha) rfl
      | succ j =>
        rw [List.getElem?_cons_succ] at hj
        exact adr_disj hx.2.1 hi hj (fun h => hne (by rw [h])) ha
theorem adr_nd1 {Ms : List Md} (hn : (adr Ms).Nodup) {i : Nat} {M : Md} (hi : Ms[i]? = some M) : M.1.Nodup := by
  induction Ms generalizing i with
  | nil => simp at hi
  | cons M0 Ms ih =>
    have hx := List.pairwise_append.mp (show (M0.1 ++ adr Ms).Pairwise _ from hn)
    cases i with
    | zero => rw [List.getElem?_cons_zero] at hi; cases hi; exact hx.1
    | succ i => rw [List.getElem?_cons_succ] at hi; exact ih hx.2.1 hi
theorem adr_pick {Ms : List Md} (hn : (adr Ms).Nodup) : ∀ (is : List Nat) (Mc : List Md), is.Nodup → is.map (fun i => Ms[i]?) = Mc.map some → (adr Mc).Nodup
  | [], Mc, _, h => by
    have : Mc = [] := by simpa using h.symm
    subst this
    exact List.Pairwise.nil
  | i :: is, [], _, h => by simp at h
  | i :: is, M :: Mc, hnd, h => by
    simp only [List.map_cons, List.cons.injEq] at h
    have hnd := List.pairwise_cons.mp hnd
    refine List.pairwise_append.mpr ⟨adr_nd1 hn h.1, adr_pick hn is Mc hnd.2 h.2, fun a ha b hb hab => ?_⟩
    subst hab
    obtain ⟨j, N, hj, hN⟩ := adr_of hb
    have h2 : (is.map (fun i => Ms[i]?))[j]? = some (some N) := by rw [h.2, List.getElem?_map, hj]; rfl
    rw [List.getElem?_map] at h2
    cases hi : is[j]? with
    | none => rw [hi] at h2; cases h2
    | some j2 =>
      rw [hi] at h2
      exact adr_disj hn h.1 (Option.some.inj h2) (hnd.1 j2 (List.mem_of_getElem? hi)) ha hN
theorem pick_in {Ms : List Md} {is : List Nat} {Mc : List Md} (h : is.map (fun i => Ms[i]?) = Mc.map some) {N : Md} (hN : N ∈ Mc) : ∃ i ∈ is, Ms[i]? = some N := by
  have : some N ∈ is.map (fun i => Ms[i]?) := by rw [h]; exact List.mem_map.mpr ⟨N, hN, rfl⟩
  obtain ⟨i, h1, h2⟩ := List.mem_map.mp this
  exact ⟨i, h1, h2⟩
/-- modules put anew at places -/
def rep : List Md → List Nat → List Md → List Md
  | Ms, i :: is, M :: Mc => rep (Ms.set i M) is Mc
  | Ms, _, _ => Ms
theorem set_same {α : Type} {l : List α} {i : Nat} {a : α} (h : l[i]? = some a) : l.set i a = l := by
  refine List.ext_getElem? fun j => ?_
  by_cases hj : i = j
  · subst hj
    rw [List.getElem?_set_self (List.getElem?_eq_some_iff.mp h).1, h]
  · rw [List.getElem?_set_ne hj]
theorem set_map {Ms : List Md} {i : Nat} {M : Md} (h : (Ms.map (fun M => M.1))[i]? = some M.1) : (Ms.set i M).map (fun M => M.1) = Ms.map (fun M => M.1) := by
  rw [List.map_set]
  exact set_same h
theorem rep_map : ∀ (is : List Nat) (Ms Mc : List Md), is.map (fun i => (Ms.map (fun M => M.1))[i]?) = Mc.map (fun M => some M.1) → (rep Ms is Mc).map (fun M => M.1) = Ms.map (fun M => M.1)
  | [], Ms, Mc, _ => by cases Mc <;> rfl
  | i :: is, Ms, [], h => rfl
  | i :: is, Ms, M :: Mc, h => by
    simp only [List.map_cons, List.cons.injEq] at h
    have hs := set_map h.1
    show (rep (Ms.set i M) is Mc).map _ = _
    rw [rep_map is (Ms.set i M) Mc (by rw [hs]; exact h.2), hs]
theorem rep_mem : ∀ (is : List Nat) (Ms Mc : List Md) (M : Md), is.length = Mc.length → M ∈ rep Ms is Mc → M ∈ Mc ∨ ∃ i, i ∉ is ∧ Ms[i]? = some M
  | [], Ms, Mc, M, _, h => by
    have h : M ∈ Ms := by cases Mc <;> exact h
    obtain ⟨i, hi⟩ := List.getElem?_of_mem h
    exact Or.inr ⟨i, List.not_mem_nil, hi⟩
  | i :: is, Ms, [], M, hl, h => by simp at hl
  | i :: is, Ms, M0 :: Mc, M, hl, h => by
    rcases rep_mem is (Ms.set i M0) Mc M (by simpa using hl) h with h | ⟨j, h1, h2⟩
    · exact Or.inl (List.mem_cons_of_mem _ h)
    · by_cases hj : j = i
      · subst hj
        have hlt : j < Ms.length := by
          have := (List.getElem?_eq_some_iff.mp h2).1
          simpa using this
        rw [List.getElem?_set_self hlt] at h2
        exact Or.inl (by rw [← Option.some.inj h2]; exact List.mem_cons_self)
      · rw [List.getElem?_set_ne (Ne.symm hj)] at h2
        exact Or.inr ⟨j, fun h => (List.mem_cons.mp h).elim hj h1, h2⟩
theorem wd_set {D : va_G} {Ms : List Md} {H H1 : Heap} {i a : Nat} {M M' : Md} (hw : wd D Ms H) (hn : (adr Ms).Nodup) (hi : Ms[i]? = some M) (h1 : M.1 = [a]) (hM : mAt D M' H1) (hq : ∀ q : Nat, q ≠ a → H1[q]? = H[q]?) : wd D (Ms.set i M') H1 := by
  intro N hN
  rcases rep_mem [i] Ms [M'] N rfl hN with h | ⟨j, h2, h3⟩
  · rw [List.mem_singleton.mp h]; exact hM
  · refine (hw N (List.mem_of_getElem? h3)).kept fun q hq2 => hq q fun e => ?_
    subst e
    exact adr_disj hn h3 hi (fun e => h2 (by rw [e]; exact List.mem_singleton.mpr rfl)) hq2 (by rw [h1]; exact List.mem_singleton.mpr rfl)
def lget (lv : List (Nat × Value)) (i : Nat) : Option Value := (lv.find? (fun q => q.1 == i)).map (fun q => q.2)
def lset (lv : List (Nat × Value)) (i : Nat) (v : Value) : List (Nat × Value) := (i, v) :: lv.filter (fun q => !(q.1 == i) && !(q.1 + 1 == i && q.2.category == 2))
theorem lget_at {ls : Array Slot} {nL : Nat} {lv : List (Nat × Value)} (h : lv_has ls nL lv) {i : Nat} {v : Value} (hl : lget lv i = some v) : ls[i]? = some (.val v) := by
  unfold lget at hl
  cases hf : lv.find? (fun q => q.1 == i) with
  | none => rw [hf] at hl; cases hl
  | some q =>
    rw [hf] at hl
    have h1 := List.mem_of_find?_eq_some hf
    have h2 := List.find?_some hf
    have h3 := h.2.2 q h1
    have h4 : q.1 = i := by simpa using h2
    have h5 : q.2 = v := Option.some.inj hl
    rw [h4, h5] at h3
    exact h3
theorem lget_sub {ls : Array Slot} {nL : Nat} {lv lv' : List (Nat × Value)} (h : lv_has ls nL lv) (hs : lv'.map (fun q => lget lv q.1) = lv'.map (fun q => some q.2)) : lv_has ls nL lv' := by
  refine ⟨h.1, h.2.1, fun q hq => ?_⟩
  refine lget_at h ?_
  obtain ⟨k, hk⟩ := List.getElem?_of_mem hq
  have : (lv'.map (fun q => lget lv q.1))[k]? = (lv'.map (fun q => some q.2))[k]? := by rw [hs]
  rw [List.getElem?_map, List.getElem?_map, hk] at this
  exact Option.some.inj this
/-! the context of a walk, and the judgement over it -/
abbrev Cx : Type := Program × Launch × Env × Room × State × MethodId × Array Value × List Frame × Method × Code × (Nat → Prop) × (State → Prop) × va_G × ClassId × ClassId
def Xs (X : Cx) : State := X.2.2.2.2.1
def XR (X : Cx) : Room := X.2.2.2.1
def XA (X : Cx) : Nat → Prop := X.2.2.2.2.2.2.2.2.2.2.1
def XQ (X : Cx) : State → Prop := X.2.2.2.2.2.2.2.2.2.2.2.1
def XD (X : Cx) : va_G := X.2.2.2.2.2.2.2.2.2.2.2.2.1
def XI (X : Cx) : ClassId := X.2.2.2.2.2.2.2.2.2.2.2.2.2.1
def XB (X : Cx) : ClassId := X.2.2.2.2.2.2.2.2.2.2.2.2.2.2
def Xp (X : Cx) : Program := X.1
def Xl (X : Cx) : Launch := X.2.1
def Xe (X : Cx) : Env := X.2.2.1
def Xm (X : Cx) : MethodId := X.2.2.2.2.2.1
def Xargs (X : Cx) : Array Value := X.2.2.2.2.2.2.1
def Xbelow (X : Cx) : List Frame := X.2.2.2.2.2.2.2.1
def Xmeth (X : Cx) : Method := X.2.2.2.2.2.2.2.2.1
def Xc (X : Cx) : Code := X.2.2.2.2.2.2.2.2.2.1
def Xty (cI cB : ClassId) : List (ClassId × FieldType) := [(cI, .int), (cB, .object "SoundSpeller$Book")]
def okx (X : Cx) (cc : ByteArray) (nL : Nat) (own : String) (Ts : List Cond) (R : Room) : Prop :=
  (Xp X).tables.exec = Jvm.exec ∧ (Xc X).code = cc ∧ (Xc X).maxLocals = nL ∧ (Xs X).vm.findClass own = some (Xm X).cls ∧ (∀ w ∈ Ts, w.before (Xargs X) (Xs X) = true) ∧ XR X = R ∧ (Xmeth X).locks = false ∧ va_K (XD X) vwCl (Xty (XI X) (XB X)) (Xs X) ∧ ∀ q, (Xs X).heap.size ≤ q → XA X q
abbrev WX (X : Cx) (H : Heap) (locs : List Loc) (k1 k2 : Nat) (g : JFrame) : Prop := W (Xp X) (Xl X) (Xe X) (XR X) (Xs X) (Xm X) (Xargs X) (Xbelow X) (Xmeth X) (Xc X) H locs k1 k2 (XQ X) g
def V (X : Cx) (k1 k2 pc : Nat) (lv : List (Nat × Value)) (st : List Value) (Ms : List Md) : Prop :=
  ∀ (H : Heap) (locs : List Loc) (ls : Array Slot), wd (XD X) Ms H → (adr Ms).Nodup → (∀ q ∈ adr Ms, XA X q) → va_S (XA X) (Xs X).heap H locs → lv_has ls (Xc X).maxLocals lv → WX X H locs k1 k2 (F0 (Xm X) pc ls st)
section VROWS
variable {X : Cx} {cc : ByteArray} {nL : Nat} {own : String} {Ts : List Cond} {R : Room} {k1 k2 pc : Nat} {lv : List (Nat × Value)} {st : List Value} {Ms : List Md}
theorem v_iload_n (C : okx X cc nL own Ts R) {k : Fin 4} {x : Int32} (hdg : decode cc pc = .ok (.iload_n k, 1)) (hl : lget lv k.val = some (.int x)) (kk : V X k1 k2 (pc + 1) lv (.int x :: st) Ms) : V X k1 k2 pc lv st Ms := fun H locs ls w n a s h => lv_iload_n C.1 C.2.1 hdg rfl (lget_at h hl) (kk H locs ls w n a s h)
theorem v_iload (C : okx X cc nL own Ts R) {k : Nat} {x : Int32} (hdg : decode cc pc = .ok (.iload k, 2)) (hl : lget lv k = some (.int x)) (kk : V X k1 k2 (pc + 2) lv (.int x :: st) Ms) : V X k1 k2 pc lv st Ms := fun H locs ls w n a s h => lv_iload C.1 C.2.1 hdg (lget_at h hl) (kk H locs ls w n a s h)
theorem v_lload_n (C : okx X cc nL own Ts R) {k : Fin 4} {x : Int64} (hdg : decode cc pc = .ok (.lload_n k, 1)) (hl : lget lv k.val = some (.long x)) (kk : V X k1 k2 (pc + 1) lv (.long x :: st) Ms) : V X k1 k2 pc lv st Ms := fun H locs ls w n a s h => lv_lload_n C.1 C.2.1 hdg rfl (lget_at h hl) (kk H locs ls w n a s h)
theorem v_lload (C : okx X cc nL own Ts R) {k : Nat} {x : Int64} (hdg : decode cc pc = .ok (.lload k, 2)) (hl : lget lv k = some (.long x)) (kk : V X k1 k2 (pc + 2) lv (.long x :: st) Ms) : V X k1 k2 pc lv st Ms := fun H locs ls w n a s h => lv_lload C.1 C.2.1 hdg (lget_at h hl) (kk H locs ls w n a s h)
theorem v_aload_n (C : okx X cc nL own Ts R) {k : Fin 4} {x : Nat} (hdg : decode cc pc = .ok (.aload_n k, 1)) (hl : lget lv k.val = some (.ref x)) (kk : V X k1 k2 (pc + 1) lv (.ref x :: st) Ms) : V X k1 k2 pc lv st Ms := fun H locs ls w n a s h => lv_aload_n C.1 C.2.1 hdg rfl (lget_at h hl) (kk H locs ls w n a s h)
theorem v_aload (C : okx X cc nL own Ts R) {k : Nat} {x : Nat} (hdg : decode cc pc = .ok (.aload k, 2)) (hl : lget lv k = some (.ref x)) (kk : V X k1 k2 (pc + 2) lv (.ref x :: st) Ms) : V X k1 k2 pc lv st Ms := fun H locs ls w n a s h => lv_aload C.1 C.2.1 hdg (lget_at h hl) (kk H locs ls w n a s h)
theorem v_istore_n (C : okx X cc nL own Ts R) {k : Fin 4} {x : Int32} (hdg : decode cc pc = .ok (.istore_n k, 1)) (hn : k.val < nL) (kk : V X k1 k2 (pc + 1) (lset lv k.val (.int x)) st Ms) : V X k1 k2 pc lv (.int x :: st) Ms := fun H locs ls w n a s h => lv_istore_n C.1 C.2.1 hdg rfl h (by rw [C.2.2.1]; exact hn) rfl (fun ls' h' => kk H locs ls' w n a s h')
theorem v_istore (C : okx X cc nL own Ts R) {k : Nat} {x : Int32} (hdg : decode cc pc = .ok (.istore k, 2)) (hn : k < nL) (kk : V X k1 k2 (pc + 2) (lset lv k (.int x)) st Ms) : V X k1 k2 pc lv (.int x :: st) Ms := fun H locs ls w n a s h => lv_istore C.1 C.2.1 hdg h (by rw [C.2.2.1]; exact hn) rfl (fun ls' h' => kk H locs ls' w n a s h')
theorem v_astore_n (C : okx X cc nL own Ts R) {k : Fin 4} {x : Nat} (hdg : decode cc pc = .ok (.astore_n k, 1)) (hn : k.val < nL) (kk : V X k1 k2 (pc + 1) (lset lv k.val (.ref x)) st Ms) : V X k1 k2 pc lv (.ref x :: st) Ms := fun H locs ls w n a s h => lv_astore_n C.1 C.2.1 hdg rfl h (by rw [C.2.2.1]; exact hn) rfl (fun ls' h' => kk H locs ls' w n a s h')
theorem v_iinc (C : okx X cc nL own Ts R) {i : Nat} {n : Int} {x v : Int32} (hdg : decode cc pc = .ok (.iinc i n, 3)) (hl : lget lv i = some (.int x)) (hn : i < nL) (hv : x + Int32.ofInt n = v) (kk : V X k1 k2 (pc + 3) (lset lv i (.int v)) st Ms) : V X k1 k2 pc lv st Ms := by
  intro H locs ls w nd a s h
  unfold lget at hl
  cases hf : lv.find? (fun q => q.1 == i) with
  | none => rw [hf] at hl; cases hl
  | some q =>
    rw [hf] at hl
    obtain ⟨k, hk⟩ := List.getElem?_of_mem (List.mem_of_find?_eq_some hf)
    have h4 : q.1 = i := by simpa using List.find?_some hf
    have h5 : q.2 = .int x := Option.some.inj hl
    exact lv_iinc (k := k) C.1 C.2.1 hdg h (by rw [hk, ← h4, ← h5]) hv (by rw [C.2.2.1]; exact hn) rfl (fun ls' h' => kk H locs ls' w nd a s h')
theorem v_iconst (C : okx X cc nL own Ts R) {n : Int} (v : Int32) (hdg : decode cc pc = .ok (.iconst n, 1)) (hv : Int32.ofInt n = v) (kk : V X k1 k2 (pc + 1) lv (.int v :: st) Ms) : V X k1 k2 pc lv st Ms := fun H locs ls w n a s h => lv_iconst C.1 C.2.1 hdg hv (kk H locs ls w n a s h)
theorem v_bipush (C : okx X cc nL own Ts R) {n : Int} (v : Int32) (hdg : decode cc pc = .ok (.bipush n, 2)) (hv : (Int8.ofInt n).toInt32 = v) (kk : V X k1 k2 (pc + 2) lv (.int v :: st) Ms) : V X k1 k2 pc lv st Ms := fun H locs ls w n a s h => lv_bipush C.1 C.2.1 hdg hv (kk H locs ls w n a s h)
theorem v_sipush (C : okx X cc nL own Ts R) {n : Int} (v : Int32) (hdg : decode cc pc = .ok (.sipush n, 3)) (hv : (Int16.ofInt n).toInt32 = v) (kk : V X k1 k2 (pc + 3) lv (.int v :: st) Ms) : V X k1 k2 pc lv st Ms := fun H locs ls w n a s h => lv_sipush C.1 C.2.1 hdg hv (kk H locs ls w n a s h)
theorem v_lconst (C : okx X cc nL own Ts R) {n : Fin 2} (v : Int64) (hdg : decode cc pc = .ok (.lconst n, 1)) (hv : Int64.ofNat (n : Nat) = v) (kk : V X k1 k2 (pc + 1) lv (.long v :: st) Ms) : V X k1 k2 pc lv st Ms := fun H locs ls w n a s h => lv_lconst C.1 C.2.1 hdg hv (kk H locs ls w n a s h)
theorem v_ldc2 (C : okx X cc nL own Ts R) {index : Nat} (v : Int64) (hw : Jvm.Cond.constantLong own index v ∈ Ts) (hdg : decode cc pc = .ok (.ldc2_w index, 3)) (kk : V X k1 k2 (pc + 3) lv (.long v :: st) Ms) : V X k1 k2 pc lv st Ms := fun H locs ls w n a s h => lv_ldc2 C.1 C.2.1 C.2.2.2.1 (C.2.2.2.2.1 _ hw) hdg (kk H locs ls w n a s h)
theorem v_iadd (C : okx X cc nL own Ts R) {x y : Int32} (hdg : decode cc pc = .ok (.iadd, 1)) (kk : V X k1 k2 (pc + 1) lv (.int (x + y) :: st) Ms) : V X k1 k2 pc lv (.int y :: .int x :: st) Ms := fun H locs ls w n a s h => lv_iadd C.1 C.2.1 hdg (kk H locs ls w n a s h)
theorem v_isub (C : okx X cc nL own Ts R) {x y : Int32} (hdg : decode cc pc = .ok (.isub, 1)) (kk : V X k1 k2 (pc + 1) lv (.int (x - y) :: st) Ms) : V X k1 k2 pc lv (.int y :: .int x :: st) Ms := fun H locs ls w n a s h => lv_isub C.1 C.2.1 hdg (kk H locs ls w n a s h)
theorem v_imul (C : okx X cc nL own Ts R) {x y : Int32} (hdg : decode cc pc = .ok (.imul, 1)) (kk : V X k1 k2 (pc + 1) lv (.int (x * y) :: st) Ms) : V X k1 k2 pc lv (.int y :: .int x :: st) Ms := fun H locs ls w n a s h => lv_imul C.1 C.2.1 hdg (kk H locs ls w n a s h)
theorem v_iand (C : okx X cc nL own Ts R) {x y : Int32} (hdg : decode cc pc = .ok (.iand, 1)) (kk : V X k1 k2 (pc + 1) lv (.int (x &&& y) :: st) Ms) : V X k1 k2 pc lv (.int y :: .int x :: st) Ms := fun H locs ls w n a s h => lv_iand C.1 C.2.1 hdg (kk H locs ls w n a s h)
theorem v_lsub (C : okx X cc nL own Ts R) {x y : Int64} (hdg : decode cc pc = .ok (.lsub, 1)) (kk : V X k1 k2 (pc + 1) lv (.long (x - y) :: st) Ms) : V X k1 k2 pc lv (.long y :: .long x :: st) Ms := fun H locs ls w n a s h => lv_lsub C.1 C.2.1 hdg (kk H locs ls w n a s h)
theorem v_i2l (C : okx X cc nL own Ts R) {x : Int32} (hdg : decode cc pc = .ok (.i2l, 1)) (kk : V X k1 k2 (pc + 1) lv (.long x.toInt64 :: st) Ms) : V X k1 k2 pc lv (.int x :: st) Ms := fun H locs ls w n a s h => lv_i2l C.1 C.2.1 hdg rfl (kk H locs ls w n a s h)
theorem v_i2c (C : okx X cc nL own Ts R) {x : Int32} (hdg : decode cc pc = .ok (.i2c, 1)) (kk : V X k1 k2 (pc + 1) lv (.int (x.toUInt32 % 65536).toInt32 :: st) Ms) : V X k1 k2 pc lv (.int x :: st) Ms := fun H locs ls w n a s h => lv_i2c C.1 C.2.1 hdg rfl (kk H locs ls w n a s h)
theorem v_dup (C : okx X cc nL own Ts R) {v : Value} (hdg : decode cc pc = .ok (.dup, 1)) (hv : v.category = 1) (kk : V X k1 k2 (pc + 1) lv (v :: v :: st) Ms) : V X k1 k2 pc lv (v :: st) Ms := fun H locs ls w n a s h => lv_dup C.1 C.2.1 hdg hv (kk H locs ls w n a s h)
theorem v_dup2 (C : okx X cc nL own Ts R) {v u : Value} (hdg : decode cc pc = .ok (.dup2, 1)) (hv : v.category = 1) (hu : u.category = 1) (kk : V X k1 k2 (pc + 1) lv (v :: u :: v :: u :: st) Ms) : V X k1 k2 pc lv (v :: u :: st) Ms := fun H locs ls w n a s h => lv_dup2_11 C.1 C.2.1 hdg hv hu (kk H locs ls w n a s h)
theorem v_pop (C : okx X cc nL own Ts R) {v : Value} (hdg : decode cc pc = .ok (.pop, 1)) (hv : v.category = 1) (kk : V X k1 k2 (pc + 1) lv st Ms) : V X k1 k2 pc lv (v :: st) Ms := fun H locs ls w n a s h => lv_pop C.1 C.2.1 hdg hv (kk H locs ls w n a s h)
theorem v_goto (C : okx X cc nL own Ts R) {off : Int} (tgt : Nat) (hdg : decode cc pc = .ok (.goto off, 3)) (ht : (pc : Int) + off = (tgt : Int)) (kk : V X k1 k2 tgt lv st Ms) : V X k1 k2 pc lv st Ms := fun H locs ls w n a s h => lv_goto C.1 C.2.1 hdg ht (kk H locs ls w n a s h)
theorem v_if_eq (C : okx X cc nL own Ts R) {x : Int32} {off : Int} (tgt : Nat) (hdg : decode cc pc = .ok (.ifCond .eq off, 3)) (ht : (pc : Int) + off = (tgt : Int)) (kt : x = 0 → V X k1 k2 tgt lv st Ms) (kf : ¬ x = 0 → V X k1 k2 (pc + 3) lv st Ms) : V X k1 k2 pc lv (.int x :: st) Ms := fun H locs ls w n a s h => lv_if_eq C.1 C.2.1 hdg ht (fun c => kt c H locs ls w n a s h) (fun c => kf c H locs ls w n a s h)
theorem v_ic_eq (C : okx X cc nL own Ts R) {x y : Int32} {off : Int} (tgt : Nat) (hdg : decode cc pc = .ok (.if_icmp .eq off, 3)) (ht : (pc : Int) + off = (tgt : Int)) (kt : x = y → V X k1 k2 tgt lv st Ms) (kf : ¬ x = y → V X k1 k2 (pc + 3) lv st Ms) : V X k1 k2 pc lv (.int y :: .int x :: st) Ms := fun H locs ls w n a s h => lv_icmp_eq C.1 C.2.1 hdg ht (fun c => kt c H locs ls w n a s h) (fun c => kf c H locs ls w n a s h)
theorem v_if_ne (C : okx X cc nL own Ts R) {x : Int32} {off : Int} (tgt : Nat) (hdg : decode cc pc = .ok (.ifCond .ne off, 3)) (ht : (pc : Int) + off = (tgt : Int)) (kt : ¬ x = 0 → V X k1 k2 tgt lv st Ms) (kf : x = 0 → V X k1 k2 (pc + 3) lv st Ms) : V X k1 k2 pc lv (.int x :: st) Ms := fun H locs ls w n a s h => lv_if_ne C.1 C.2.1 hdg ht (fun c => kt c H locs ls w n a s h) (fun c => kf c H locs ls w n a s h)
theorem v_ic_ne (C : okx X cc nL own Ts R) {x y : Int32} {off : Int} (tgt : Nat) (hdg : decode cc pc = .ok (.if_icmp .ne off, 3)) (ht : (pc : Int) + off = (tgt : Int)) (kt : ¬ x = y → V X k1 k2 tgt lv st Ms) (kf : x = y → V X k1 k2 (pc + 3) lv st Ms) : V X k1 k2 pc lv (.int y :: .int x :: st) Ms := fun H locs ls w n a s h => lv_icmp_ne C.1 C.2.1 hdg ht (fun c => kt c H locs ls w n a s h) (fun c => kf c H locs ls w n a s h)
theorem v_if_lt (C : okx X cc nL own Ts R) {x : Int32} {off : Int} (tgt : Nat) (hdg : decode cc pc = .ok (.ifCond .lt off, 3)) (ht : (pc : Int) + off = (tgt : Int)) (kt : x < 0 → V X k1 k2 tgt lv st Ms) (kf : ¬ x < 0 → V X k1 k2 (pc + 3) lv st Ms) : V X k1 k2 pc lv (.int x :: st) Ms := fun H locs ls w n a s h => lv_if_lt C.1 C.2.1 hdg ht (fun c => kt c H locs ls w n a s h) (fun c => kf c H locs ls w n a s h)
theorem v_ic_lt (C : okx X cc nL own Ts R) {x y : Int32} {off : Int} (tgt : Nat) (hdg : decode cc pc = .ok (.if_icmp .lt off, 3)) (ht : (pc : Int) + off = (tgt : Int)) (kt : x < y → V X k1 k2 tgt lv st Ms) (kf : ¬ x < y → V X k1 k2 (pc + 3) lv st Ms) : V X k1 k2 pc lv (.int y :: .int x :: st) Ms := fun H locs ls w n a s h => lv_icmp_lt C.1 C.2.1 hdg ht (fun c => kt c H locs ls w n a s h) (fun c => kf c H locs ls w n a s h)
theorem v_if_ge (C : okx X cc nL own Ts R) {x : Int32} {off : Int} (tgt : Nat) (hdg : decode cc pc = .ok (.ifCond .ge off, 3)) (ht : (pc : Int) + off = (tgt : Int)) (kt : 0 ≤ x → V X k1 k2 tgt lv st Ms) (kf : ¬ 0 ≤ x → V X k1 k2 (pc + 3) lv st Ms) : V X k1 k2 pc lv (.int x :: st) Ms := fun H locs ls w n a s h => lv_if_ge C.1 C.2.1 hdg ht (fun c => kt c H locs ls w n a s h) (fun c => kf c H locs ls w n a s h)
theorem v_ic_ge (C : okx X cc nL own Ts R) {x y : Int32} {off : Int} (tgt : Nat) (hdg : decode cc pc = .ok (.if_icmp .ge off, 3)) (ht : (pc : Int) + off = (tgt : Int)) (kt : y ≤ x → V X k1 k2 tgt lv st Ms) (kf : ¬ y ≤ x → V X k1 k2 (pc + 3) lv st Ms) : V X k1 k2 pc lv (.int y :: .int x :: st) Ms := fun H locs ls w n a s h => lv_icmp_ge C.1 C.2.1 hdg ht (fun c => kt c H locs ls w n a s h) (fun c => kf c H locs ls w n a s h)
theorem v_if_gt (C : okx X cc nL own Ts R) {x : Int32} {off : Int} (tgt : Nat) (hdg : decode cc pc = .ok (.ifCond .gt off, 3)) (ht : (pc : Int) + off = (tgt : Int)) (kt : 0 < x → V X k1 k2 tgt lv st Ms) (kf : ¬ 0 < x → V X k1 k2 (pc + 3) lv st Ms) : V X k1 k2 pc lv (.int x :: st) Ms := fun H locs ls w n a s h => lv_if_gt C.1 C.2.1 hdg ht (fun c => kt c H locs ls w n a s h) (fun c => kf c H locs ls w n a s h)
theorem v_ic_gt (C : okx X cc nL own Ts R) {x y : Int32} {off : Int} (tgt : Nat) (hdg : decode cc pc = .ok (.if_icmp .gt off, 3)) (ht : (pc : Int) + off = (tgt : Int)) (kt : y < x → V X k1 k2 tgt lv st Ms) (kf : ¬ y < x → V X k1 k2 (pc + 3) lv st Ms) : V X k1 k2 pc lv (.int y :: .int x :: st) Ms := fun H locs ls w n a s h => lv_icmp_gt C.1 C.2.1 hdg ht (fun c => kt c H locs ls w n a s h) (fun c => kf c H locs ls w n a s h)
theorem v_if_le (C : okx X cc nL own Ts R) {x : Int32} {off : Int} (tgt : Nat) (hdg : decode cc pc = .ok (.ifCond .le off, 3)) (ht : (pc : Int) + off = (tgt : Int)) (kt : x ≤ 0 → V X k1 k2 tgt lv st Ms) (kf : ¬ x ≤ 0 → V X k1 k2 (pc + 3) lv st Ms) : V X k1 k2 pc lv (.int x :: st) Ms := fun H locs ls w n a s h => lv_if_le C.1 C.2.1 hdg ht (fun c => kt c H locs ls w n a s h) (fun c => kf c H locs ls w n a s h)
theorem v_ic_le (C : okx X cc nL own Ts R) {x y : Int32} {off : Int} (tgt : Nat) (hdg : decode cc pc = .ok (.if_icmp .le off, 3)) (ht : (pc : Int) + off = (tgt : Int)) (kt : x ≤ y → V X k1 k2 tgt lv st Ms) (kf : ¬ x ≤ y → V X k1 k2 (pc + 3) lv st Ms) : V X k1 k2 pc lv (.int y :: .int x :: st) Ms := fun H locs ls w n a s h => lv_icmp_le C.1 C.2.1 hdg ht (fun c => kt c H locs ls w n a s h) (fun c => kf c H locs ls w n a s h)
theorem v_lcmp (C : okx X cc nL own Ts R) {x y : Int64} (hdg : decode cc pc = .ok (.lcmp, 1)) (kk : V X k1 k2 (pc + 1) lv (.int (lg_cmp x y) :: st) Ms) : V X k1 k2 pc lv (.long y :: .long x :: st) Ms := fun H locs ls w n a s h => W.lcmp C.1 C.2.1 hdg (kk H locs ls w n a s h)
/-- the locals told anew: fewer, in another order -/
theorem v_lv {lv' : List (Nat × Value)} (hs : lv'.map (fun q => lget lv q.1) = lv'.map (fun q => some q.2)) (kk : V X k1 k2 pc lv' st Ms) : V X k1 k2 pc lv st Ms := fun H locs ls w n a s h => kk H locs ls w n a s (lget_sub h hs)
theorem v_eq {lv' : List (Nat × Value)} {st' : List Value} {Ms' : List Md} (hs : lv'.map (fun q => lget lv q.1) = lv'.map (fun q => some q.2)) (h2 : st = st') (h3 : Ms = Ms') (kk : V X k1 k2 pc lv' st' Ms') : V X k1 k2 pc lv st Ms := by
  subst h2; subst h3
  exact v_lv hs kk
theorem v_to {Ms' : List Md} (hw : ∀ H, wd (XD X) Ms H → wd (XD X) Ms' H) (ha : adr Ms' = adr Ms) (kk : V X k1 k2 pc lv st Ms') : V X k1 k2 pc lv st Ms := fun H locs ls w n a s h => kk H locs ls (hw H w) (by rw [ha]; exact n) (by rw [ha]; exact a) s h
theorem v_ex {α : Type} {F : α → List Md} {φ : α → Prop} (hw : ∀ H, wd (XD X) Ms H → ∃ x, φ x ∧ wd (XD X) (F x) H) (ha : ∀ x, adr (F x) = adr Ms) (kk : ∀ x, φ x → V X k1 k2 pc lv st (F x)) : V X k1 k2 pc lv st Ms := fun H locs ls w n a s h => by
  obtain ⟨x, h1, h2⟩ := hw H w
  exact kk x h1 H locs ls h2 (by rw [ha]; exact n) (by rw [ha]; exact a) s h
/-- an object whose fields are known stands in a module -/
def hasF (M : Md) (a ci : Nat) (fs : List Value) : Prop := ∀ ws : va_W, M.2 ws → ∃ k : Nat, ws[k]? = some (a, .inr (ci, fs))
theorem hasF_c {a ci : Nat} {fs : List Value} : hasF (cM a (.inr (ci, fs))) a ci fs := fun ws h => ⟨0, by rw [show ws = [(a, .inr (ci, fs))] from h]; rfl⟩
theorem v_get (C : okx X cc nL own Ts R) {a ci index : Nat} {fs : List Value} {Cn : String} {T : u_T} {N : Nat} {nm ds : String} (i : Nat) {M : Md} (hi : Ms[i]? = some M) (hF : hasF M a ci fs) (hc : vwCl[ci]? = some (Cn, T, N)) (hin : ∀ w ∈ u_ws Cn T N, w ∈ Ts) (k : Nat) (hk : k < N) (hT : T k = (Cn, nm, ds, (T k).2.2.2)) (hlink : Cond.fieldLink own index Cn nm ds ∈ Ts) {v : Value} (hv : fs[k]? = some v) (hdg : decode cc pc = .ok (.getfield index, 3))
    (kk : V X k1 k2 (pc + 3) lv (v :: st) Ms) : V X k1 k2 pc lv (.ref a :: st) Ms := by
  intro H locs ls w n a' s h
  obtain ⟨ws, h1, h2, hP⟩ := w M (List.mem_of_getElem? hi)
  obtain ⟨k0, hk0⟩ := hF ws h1
  have e1 : (T k).1 = Cn := by rw [hT]
  have e2 : (T k).2.1 = nm := by rw [hT]
  have e3 : (T k).2.2.1 = ds := by rw [hT]
  exact va_get (ref := Cn) C.1 C.2.1 C.2.2.2.2.1 hin C.2.2.2.1 C.2.2.2.2.2.2.2.1 hP k0 hk0 hc k hk (by rw [e2, e3]; exact C.2.2.2.2.1 _ hlink) (fun x hx => by rw [e1] at hx; exact hx) hv hdg (kk H locs ls w n a' s h)
theorem v_put (C : okx X cc nL own Ts R) {a ci index : Nat} {fs : List Value} {Cn : String} {T : u_T} {N : Nat} {nm ds : String} (i : Nat) (hi : Ms[i]? = some (cM a (.inr (ci, fs)))) (hc : vwCl[ci]? = some (Cn, T, N)) (hin : ∀ w ∈ u_ws Cn T N, w ∈ Ts) (ty0 : Nat → FieldType) (hty : ∀ k, k < N → parseFieldDescriptor (T k).2.2.1 = some (ty0 k)) (hnm : ∀ a, a < N → ∀ b, b < N → a ≠ b → (T a).2.1 ≠ (T b).2.1) (k : Nat) (hk : k < N) (hT : T k = (Cn, nm, ds, false)) (hlink : Cond.fieldLink own index Cn nm ds ∈ Ts) {v : Value} (hn : narrow (ty0 k) v = v) (hfit : fits (ty0 k) v = true) (hl : k < fs.length) (hdg : decode cc pc = .ok (.putfield index, 3))
    (kk : V X k1 k2 (pc + 3) lv st (Ms.set i (cM a (.inr (ci, fs.set k v))))) : V X k1 k2 pc lv (v :: .ref a :: st) Ms := by
  intro H locs ls w n a' s h
  obtain ⟨hexec, hb, hml, hown, hts, hR, hlk, hK, hA⟩ := C
  have e1 : (T k).1 = Cn := by rw [hT]
  have e2 : (T k).2.1 = nm := by rw [hT]
  have e3 : (T k).2.2.1 = ds := by rw [hT]
  have hap := va_apart (own := own) hts hin ty0 hty hnm hK hc
  obtain ⟨r, h1, cell, q1, q2, q3, q4⟩ := mAt_c.mp (w _ (List.mem_of_getElem? hi))
  have hr : r = (Cn, T, N) := Option.some.inj (h1.symm.trans hc)
  subst hr
  obtain ⟨hS, hfc, kC, hkC, hkind⟩ := hK.1 ci _ hc
  obtain ⟨cf, kf, fi, f, hf, hsl⟩ := hS k hk
  have hlay := hts _ (hin _ (u_in_lay hk))
  unfold u_lay at hlay
  rw [if_neg (by rw [hT]; exact fun h => by cases h)] at hlay
  have hst := (u_facts hfc hkC (u_lays hts hin hk) hf).1
  have h6 := u_store hfc hkC hkind hlay hf (hty k hk) hn hfit
  have hlink2 : (Cond.fieldLink own index Cn (T k).2.1 (T k).2.2.1).before (Xargs X) (Xs X) = true := by rw [e2, e3]; exact hts _ hlink
  have hff : (Xs X).fieldFound? Cn (T k).2.1 (T k).2.2.1 = some (cf, kf, fi, f) := by
    have hf2 : (Xs X).fieldFound? (T k).1 (T k).2.1 (T k).2.2.1 = some (cf, kf, fi, f) := hf
    rw [e1] at hf2
    exact hf2
  have ha : a ∈ adr Ms := adr_in hi (List.mem_singleton.mpr rfl)
  refine W.putK hexec hb (f := f) ⟨hown, hlink2, ⟨_, _, _, hff⟩, hst⟩ (by rw [q2]; exact h6) q1 q3 (by rw [hsl]; exact k2_hasslot (q4 k hk)) rfl rfl hdg fun H' g1 g2 g3 => ?_
  rw [hsl] at g1 ⊢
  have hmap : (Ms.set i (cM a (.inr (ci, fs.set k v)))).map (fun M => M.1) = Ms.map (fun M => M.1) := set_map (by rw [List.getElem?_map, hi]; rfl)
  exact kk H' _ ls (wd_set w n hi rfl (mAt_c.mpr ⟨_, hc, t_OB.to (V := updV (vp_V fs) k v) ⟨_, g1, q2, q3, t_set q4 hap hk v⟩ (fun j _ => vp_updV_set hl v j)⟩) g3) (by rw [adr_map hmap]; exact n) (by rw [adr_map hmap]; exact a') (s.put g2 g3 (a' a ha)) h
theorem v_iald (C : okx X cc nL own Ts R) {a n : Nat} {f : Nat → Int32} (i : Nat) (hi : Ms[i]? = some (cM a (.inl (XI X, n, .inl f)))) {x : Int32} (hx : vp_in x n) (hdg : decode cc pc = .ok (.iaload, 1))
    (kk : V X k1 k2 (pc + 1) lv (.int (f x.toNatClampNeg) :: st) Ms) : V X k1 k2 pc lv (.int x :: .ref a :: st) Ms := by
  intro H locs ls w nd a' s h
  obtain ⟨ws, h1, h2, hP⟩ := w _ (List.mem_of_getElem? hi)
  have h1 : ws = [(a, .inl (XI X, n, .inl f))] := h1
  subst h1
  exact va_iald C.1 C.2.1 C.2.2.2.2.2.2.2.1 hP 0 0 rfl rfl hx hdg (kk H locs ls w nd a' s h)
theorem v_alen (C : okx X cc nL own Ts R) {a n : Nat} {f : Nat → Int32} (i : Nat) (hi : Ms[i]? = some (cM a (.inl (XI X, n, .inl f)))) (hdg : decode cc pc = .ok (.arraylength, 1))
    (kk : V X k1 k2 (pc + 1) lv (.int (nI n) :: st) Ms) : V X k1 k2 pc lv (.ref a :: st) Ms := by
  intro H locs ls w nd a' s h
  obtain ⟨ws, h1, h2, hP⟩ := w _ (List.mem_of_getElem? hi)
  have h1 : ws = [(a, .inl (XI X, n, .inl f))] := h1
  subst h1
  exact va_alen (ty := .int) C.1 C.2.1 C.2.2.2.2.2.2.2.1 hP 0 0 rfl rfl rfl hdg (kk H locs ls w nd a' s h)
theorem v_iast (C : okx X cc nL own Ts R) {a n : Nat} {f : Nat → Int32} (i : Nat) (hi : Ms[i]? = some (cM a (.inl (XI X, n, .inl f)))) {x y : Int32} (hx : vp_in x n) (hdg : decode cc pc = .ok (.iastore, 1))
    (kk : V X k1 k2 (pc + 1) lv st (Ms.set i (cM a (.inl (XI X, n, .inl (upd f x.toNatClampNeg y)))))) : V X k1 k2 pc lv (.int y :: .int x :: .ref a :: st) Ms := by
  intro H locs ls w nd a' s h
  have ha : a ∈ adr Ms := adr_in hi (List.mem_singleton.mpr rfl)
  have hcell : H[a]? = some (vp_cell (XI X) (n, .inl f)) := mAt_c.mp (w _ (List.mem_of_getElem? hi))
  have hK := C.2.2.2.2.2.2.2.1
  refine W.iast C.1 C.2.1 hcell ((hK.2 0 _ rfl).1 n (fun j => .int (f j))) (fun q => by cases q) (by show ¬ (x < 0 ∨ (arrV _ _ _).slots.size ≤ _); rw [arrV_size]; exact hx) rfl rfl hdg fun H1 g1 g2 g3 => ?_
  have hmap : (Ms.set i (cM a (.inl (XI X, n, .inl (upd f x.toNatClampNeg y))))).map (fun M => M.1) = Ms.map (fun M => M.1) := set_map (by rw [List.getElem?_map, hi]; rfl)
  refine kk H1 _ ls (wd_set w nd hi rfl (mAt_c.mpr ?_) g3) (by rw [adr_map hmap]; exact nd) (by rw [adr_map hmap]; exact a') (s.put g2 g3 (a' a ha)) h
  show H1[a]? = some (vp_cell _ _)
  rw [g1]
  rw [vp_cell_i, vp_cell_i, arrV_store]
  congr 2
  funext q
  by_cases hq : q = x.toNatClampNeg
  · subst hq
    simp [updV, upd]
  · simp [updV, upd, hq]
end VROWS
/-! contracts over modules -/
def pre (D : va_G) (cI cB : ClassId) (Ms : List Md) (sz : Nat) : State → Prop := fun U => U.heap.size = sz ∧ wd D Ms U.heap ∧ va_K D vwCl (Xty cI cB) U ∧ (adr Ms).Nodup
def Qm (D : va_G) (Ms : List Md) (sz : Nat) (post : Option Value → List Md → Prop) : Array Value → State → Outcome → State → Prop := fun _ st oc t => (∃ (ov : Option Value) (Ms' : List Md), oc = .returned ov ∧ post ov Ms' ∧ Ms'.map (fun M => M.1) = Ms.map (fun M => M.1) ∧ wd D Ms' t.heap) ∧ va_F (mA Ms sz) st t
def Ct (cI cB : ClassId) (y : MethodName) (ws : List Cond) (rm : Room) (av : List Value) (Ms : List Md) (post : Option Value → List Md → Prop) : Prop := ∀ (l : Launch) (D : va_G) (sz : Nat), Met l y ws rm (va_Pc av (pre D cI cB Ms sz)) (Qm D Ms sz post) 0 0 (mA Ms sz)
def fin (X : Cx) (Mc : List Md) (post : Option Value → List Md → Prop) (ret : Option FieldType) : Prop := XQ X = MQ (Xbelow X) (Qm (XD X) Mc (Xs X).heap.size post) (Xargs X) (Xs X) 0 0 (mA Mc (Xs X).heap.size) ∧ XA X = mA Mc (Xs X).heap.size ∧ (Xmeth X).sig.returnType = ret
section VEND
variable {X : Cx} {cc : ByteArray} {nL : Nat} {own : String} {Ts : List Cond} {R : Room} {k1 k2 pc : Nat} {lv : List (Nat × Value)} {st : List Value} {Ms Mc : List Md} {post : Option Value → List Md → Prop}
theorem v_iret (C : okx X cc nL own Ts R) (E : fin X Mc post (some .int)) {v : Int32} (hdg : decode cc pc = .ok (.ireturn, 1)) (hp : post (some (.int v)) Ms) (ha : Ms.map (fun M => M.1) = Mc.map (fun M => M.1)) : V X 0 0 pc lv [.int v] Ms := by
  intro H locs ls w nd a' s h
  unfold WX
  rw [E.1]
  have s2 := s
  rw [E.2.1] at s2
  exact W.iret C.1 C.2.1 E.2.2 (fun t ht hW => ⟨⟨_, Ms, rfl, hp, ha, by rw [ht]; exact w⟩, s2.F ht⟩) s2.2.2 hdg C.2.2.2.2.2.2.1
theorem v_zret (C : okx X cc nL own Ts R) (E : fin X Mc post (some .boolean)) {v : Int32} (hdg : decode cc pc = .ok (.ireturn, 1)) (hv : v = 0 ∨ v = 1) (hp : post (some (.int v)) Ms) (ha : Ms.map (fun M => M.1) = Mc.map (fun M => M.1)) : V X 0 0 pc lv [.int v] Ms := by
  intro H locs ls w nd a' s h
  unfold WX
  rw [E.1]
  have s2 := s
  rw [E.2.1] at s2
  exact W.zret C.1 C.2.1 E.2.2 (by rcases hv with rfl | rfl <;> decide) (fun t ht hW => ⟨⟨_, Ms, rfl, hp, ha, by rw [ht]; exact w⟩, s2.F ht⟩) s2.2.2 hdg C.2.2.2.2.2.2.1
theorem v_ret (C : okx X cc nL own Ts R) (E : fin X Mc post none) (hdg : decode cc pc = .ok (.return_, 1)) (hp : post none Ms) (ha : Ms.map (fun M => M.1) = Mc.map (fun M => M.1)) : V X 0 0 pc lv [] Ms := by
  intro H locs ls w nd a' s h
  unfold WX
  rw [E.1]
  have s2 := s
  rw [E.2.1] at s2
  exact W.vret C.1 C.2.1 E.2.2 (fun t ht hW => ⟨⟨_, Ms, rfl, hp, ha, by rw [ht]; exact w⟩, s2.F ht⟩) s2.2.2 hdg C.2.2.2.2.2.2.1
end VEND
theorem ct_of {cI cB : ClassId} {y : MethodName} {ws ws' : List Cond} {rm : Room} {av : List Value} {Mc : List Md} {post : Option Value → List Md → Prop} {cc : ByteArray} {maxL : Nat} {ret : Option FieldType} (hy : plainName y.cls = true) (hw : ws = Cond.code y cc maxL ret :: ws') (hl : (lg_sl av).length ≤ maxL) (lv0 : List (Nat × Value)) (hl0 : lv_args 0 av = lv0)
    (body : ∀ X : Cx, XI X = cI → XB X = cB → okx X cc maxL y.cls ws rm → fin X Mc post ret → V X 0 0 0 lv0 [] Mc) : Ct cI cB y ws rm av Mc post := by
  intro l D sz
  refine Met.ofW (cc := cc) (maxL := maxL) (ret := ret) hy hw ?_
  intro p e s m args below meth c s₁ B hml hv
  obtain ⟨rfl, hsz, hwd, hK, hnd⟩ := hv
  subst hsz
  have b := body (p, l, e, (headSpec ws rm).room, s, m, av.toArray, below, meth, c, mA Mc s.heap.size, MQ below (Qm D Mc s.heap.size post) av.toArray s 0 0 (mA Mc s.heap.size), D, cI, cB) rfl rfl
    ⟨B.exec, B.bytes, hml, findClass_of_methodNamed B.named, atoms_spec (ws := ws) B.pre, rfl, B.notSynchronized, hK, fun q h => Or.inr h⟩ ⟨rfl, rfl, B.returns⟩
  have h0 := lv_entry av hl
  rw [← hl0] at b
  rw [lg_entry_eq]
  exact b s.heap [] _ hwd hnd (fun q h => Or.inl h) va_S.rf (by show lv_has _ c.maxLocals _; rw [hml]; exact h0)
section VCALL
variable {X : Cx} {cc : ByteArray} {nL : Nat} {own : String} {Ts : List Cond} {R : Room} {k1 k2 pc : Nat} {lv : List (Nat × Value)} {st : List Value} {Ms Mc : List Md} {post : Option Value → List Md → Prop}
/-- behind a call: the modules that it had come anew, the others stay -/
theorem v_run {rest : List Value} {is : List Nat} (C : okx X cc nL own Ts R) (hp : is.map (fun i => Ms[i]?) = Mc.map some) (hnd : is.Nodup) {a0 : Array Value}
    {H : Heap} {locs : List Loc} {ls : Array Slot} (w : wd (XD X) Ms H) (nd : (adr Ms).Nodup) (a : ∀ q ∈ adr Ms, XA X q) (s : va_S (XA X) (Xs X).heap H locs) (h : lv_has ls (Xc X).maxLocals lv)
    (hr : va_Run (Xp X) (Xl X) (Xe X) (XR X) (Xs X) (Xm X) (Xargs X) (Xbelow X) (Xmeth X) (Xc X) H locs k1 k2 0 0 (F0 (Xm X) pc ls st) rest (Qm (XD X) Mc H.size post a0) (mA Mc H.size))
    (kk : ∀ (ov : Option Value) (Mc' : List Md), post ov Mc' → Mc'.map (fun M => M.1) = Mc.map (fun M => M.1) → V X k1 k2 (pc + 3) lv (ov.toList ++ rest) (rep Ms is Mc')) : WX X H locs k1 k2 (F0 (Xm X) pc ls st) := by
  intro T hT XX
  obtain ⟨v, st₀, t, T', L, h0, X', hL, e1, e2, hq, stp⟩ := hr T hT XX
  obtain ⟨⟨ov, Mc', hv, hpo, hm, hw⟩, hz, hk⟩ := hq
  cases hv
  rw [h0] at hz hk
  have hsame : (rep Ms is Mc').map (fun M => M.1) = Ms.map (fun M => M.1) := by
    refine rep_map is Ms Mc' ?_
    have h2 : is.map (fun i => (Ms.map (fun M => M.1))[i]?) = Mc.map (fun M => some M.1) := by
      have : (is.map (fun i => Ms[i]?)).map (fun o => o.map (fun M => M.1)) = (Mc.map some).map (fun o => o.map (fun M => M.1)) := by rw [hp]
      rw [List.map_map, List.map_map] at this
      refine Eq.trans (List.map_congr_left fun i _ => ?_) this
      rw [List.getElem?_map]; rfl
    rw [h2]
    have h3 : (Mc'.map (fun M => M.1)).map some = (Mc.map (fun M => M.1)).map some := by rw [hm]
    rw [List.map_map, List.map_map] at h3
    exact h3.symm
  have hlen : is.length = Mc'.length := by
    have h1 := congrArg List.length hp
    have h2 := congrArg List.length hm
    simp only [List.length_map] at h1 h2
    omega
  have hin : ∀ q ∈ adr Mc, q ∈ adr Ms := fun q hq => by
    obtain ⟨j, N, hj, hN⟩ := adr_of hq
    obtain ⟨i, -, hi⟩ := pick_in hp (List.mem_of_getElem? hj)
    exact adr_in hi hN
  have hfree : ∀ q, mA Mc H.size q → XA X q := fun q hq => hq.elim (fun h => a q (hin q h)) (fun h => C.2.2.2.2.2.2.2.2 q (Nat.le_trans s.1 h))
  have hwn : wd (XD X) (rep Ms is Mc') T'.heap := by
    rw [e1]
    intro N hN
    rcases rep_mem is Ms Mc' N hlen hN with h1 | ⟨i, hi1, hi2⟩
    · exact hw N h1
    · have hN2 := w N (List.mem_of_getElem? hi2)
      refine hN2.kept fun q hq2 => hk q (hN2.lt hq2) fun hq3 => ?_
      rcases hq3 with hq3 | hq3
      · obtain ⟨j, M, hj, hM⟩ := adr_of hq3
        obtain ⟨i2, hi3, hi4⟩ := pick_in hp (List.mem_of_getElem? hj)
        exact adr_disj nd hi2 hi4 (fun e => hi1 (by rw [e]; exact hi3)) hq2 hM
      · exact absurd (hN2.lt hq2) (Nat.not_lt.mpr hq3)
  obtain ⟨t2, a1, b1⟩ := kk _ Mc' hpo hm T'.heap (locs ++ L) ls hwn (by rw [adr_map hsame]; exact nd) (by rw [adr_map hsame]; exact a)
    ⟨Nat.le_trans s.1 (by rw [e1]; exact hz), fun q h1 h2 => by rw [e1, hk q (Nat.lt_of_lt_of_le h1 s.1) (fun z => h2 (hfree q z))]; exact s.2.1 q h1 h2, fun q hq => by
      rcases List.mem_append.mp hq with h | h
      · exact s.2.2 q h
      · exact hfree _ (hL q h)⟩ h T' rfl X'
  exact ⟨t2, stp t2 a1, b1⟩
theorem pre_blind {D : va_G} {cI cB : ClassId} {sz : Nat} {av : List Value} : FrameBlind (va_Pc av (pre D cI cB Mc sz)) := fun a U g mk q => by
  obtain ⟨q0, q1, q2, q3, q4⟩ := q
  exact ⟨q0, q1, q2, va_K.moved (u := U) (U := U.calling g mk a) (Vm.Alike.refl U.vm) q3, q4⟩
theorem pre_at (C : okx X cc nL own Ts R) {is : List Nat} {av : List Value} (hp : is.map (fun i => Ms[i]?) = Mc.map some) (hnd : is.Nodup) {H : Heap} (w : wd (XD X) Ms H) (nd : (adr Ms).Nodup) : ∀ U : State, U.heap = H → (Xs X).WarmedH U.vm → va_Pc av (pre (XD X) (XI X) (XB X) Mc H.size) av.toArray U := fun U hU hW =>
  ⟨rfl, by rw [hU], by rw [hU]; exact fun N hN => by obtain ⟨i, -, hi⟩ := pick_in hp hN; exact w N (List.mem_of_getElem? hi), va_K.moved hW.alike C.2.2.2.2.2.2.2.1, adr_pick nd is Mc hnd hp⟩
theorem v_callV (C : okx X cc nL own Ts R) {y : MethodName} {wsY ws' : List Cond} {rm : Room} {b : Nat} {As rest : List Value} {bytes : ByteArray} {maxL index n : Nat} {ret : Option FieldType} {Cn : String} (is : List Nat)
    (hM : Ct (XI X) (XB X) y wsY rm (.ref b :: As) Mc post) (hp : is.map (fun i => Ms[i]?) = Mc.map some) (hG : GoodIn Ts (wsV own index Cn y wsY)) (hw : wsY = Cond.code y bytes maxL ret :: ws') (hn : As.length = n)
    (hd : y.cls = Cn ∧ y.cls ≠ "java/lang/invoke/MethodHandle" ∧ y.cls ≠ "java/lang/invoke/VarHandle" ∧ (parseMethodDescriptor y.desc).map (fun d => d.parameters.length) = some n) (hrm : rm.cells = 0 ∧ rm.slots = 0) (hR : rm.frames + 1 ≤ R.frames ∧ 8 + (maxL + 11) + rm.locals ≤ R.locals)
    (i0 : Nat) {M0 : Md} {ci : Nat} {fs : List Value} {T : u_T} {N : Nat} (hi0 : Ms[i0]? = some M0) (hF : hasF M0 b ci fs) (hc : vwCl[ci]? = some (Cn, T, N)) (hnd : is.Nodup) (hroom : (rest.map fun v => v.category).sum ≤ 8) (hk : k1 ≤ R.cells ∧ k2 ≤ R.slots) (hst : st = As.reverse ++ .ref b :: rest) (hdg : decode cc pc = .ok (.invokevirtual index, 3))
    (kk : ∀ (ov : Option Value) (Mc' : List Md), post ov Mc' → Mc'.map (fun M => M.1) = Mc.map (fun M => M.1) → V X k1 k2 (pc + 3) lv (ov.toList ++ rest) (rep Ms is Mc')) : V X k1 k2 pc lv st Ms := by
  intro H locs ls w nd a s h
  obtain ⟨ws, h1, h2, hP⟩ := w M0 (List.mem_of_getElem? hi0)
  obtain ⟨k0, hk0⟩ := hF ws h1
  have hRR := C.2.2.2.2.2.1
  exact v_run C hp hnd w nd a s h (va_runV (As := As) (rest := rest) ⟨C.1, C.2.1, C.2.2.1, C.2.2.2.1, C.2.2.2.2.1⟩ (hM (Xl X) (XD X) H.size) (cwV n C.2.2.2.2.1 hG hw hrm.1 hrm.2 hd (by rw [hRR]; exact hR)) ⟨pre_blind, va_recv C.2.2.2.2.2.2.2.1 hP hc hk0, pre_at C hp hnd w nd⟩ rfl hn (h.1.trans C.2.2.1) hst (lv_room hroom) hdg (by rw [hRR]; exact hk)) kk
theorem v_callS (C : okx X cc nL own Ts R) {y : MethodName} {wsY ws' : List Cond} {rm : Room} {As rest : List Value} {bytes : ByteArray} {maxL index n : Nat} {ret : Option FieldType} (is : List Nat)
    (hM : Ct (XI X) (XB X) y wsY rm As Mc post) (hp : is.map (fun i => Ms[i]?) = Mc.map some) (hG : GoodIn Ts (va_wsS own index y wsY)) (hw : wsY = Cond.code y bytes maxL ret :: ws') (hn : As.length = n)
    (hd : y.cls ≠ "java/lang/invoke/MethodHandle" ∧ y.cls ≠ "java/lang/invoke/VarHandle" ∧ (parseMethodDescriptor y.desc).map (fun d => d.parameters.length) = some n) (hrm : rm.cells = 0 ∧ rm.slots = 0) (hR : rm.frames + 1 ≤ R.frames ∧ 8 + (maxL + 11) + rm.locals ≤ R.locals)
    (hnd : is.Nodup) (hroom : (rest.map fun v => v.category).sum ≤ 8) (hk : k1 ≤ R.cells ∧ k2 ≤ R.slots) (hst : st = As.reverse ++ rest) (hdg : decode cc pc = .ok (.invokestatic index, 3))
    (kk : ∀ (ov : Option Value) (Mc' : List Md), post ov Mc' → Mc'.map (fun M => M.1) = Mc.map (fun M => M.1) → V X k1 k2 (pc + 3) lv (ov.toList ++ rest) (rep Ms is Mc')) : V X k1 k2 pc lv st Ms := by
  intro H locs ls w nd a s h
  have hRR := C.2.2.2.2.2.1
  exact v_run C hp hnd w nd a s h (va_runS (As := As) (rest := rest) ⟨C.1, C.2.1, C.2.2.1, C.2.2.2.1, C.2.2.2.2.1⟩ (hM (Xl X) (XD X) H.size) (va_cwS n C.2.2.2.2.1 hG hw hrm.1 hrm.2 hd (by rw [hRR]; exact hR)) ⟨pre_blind, pre_at C hp hnd w nd⟩ rfl hn (h.1.trans C.2.2.1) hst (lv_room hroom) hdg (by rw [hRR]; exact hk)) kk
end VCALL
section VMORE
variable {X : Cx} {cc : ByteArray} {nL : Nat} {own : String} {Ts : List Cond} {R : Room} {k1 k2 pc : Nat} {lv : List (Nat × Value)} {st : List Value} {Ms Mc : List Md}
def dv (v : Int32) (M' : List Md) : Option Value → List Md → Prop := fun ov M => ov = some (.int v) ∧ M = M'
def dn (M' : List Md) : Option Value → List Md → Prop := fun ov M => ov = none ∧ M = M'
theorem v_callVi (C : okx X cc nL own Ts R) {y : MethodName} {wsY ws' : List Cond} {rm : Room} {b : Nat} {As rest : List Value} {bytes : ByteArray} {maxL index n : Nat} {ret : Option FieldType} {Cn : String} {v : Int32} {Mc' : List Md} (is : List Nat)
    (hM : Ct (XI X) (XB X) y wsY rm (.ref b :: As) Mc (dv v Mc')) (hp : is.map (fun i => Ms[i]?) = Mc.map some) (hG : GoodIn Ts (wsV own index Cn y wsY)) (hw : wsY = Cond.code y bytes maxL ret :: ws') (hn : As.length = n)
    (hd : y.cls = Cn ∧ y.cls ≠ "java/lang/invoke/MethodHandle" ∧ y.cls ≠ "java/lang/invoke/VarHandle" ∧ (parseMethodDescriptor y.desc).map (fun d => d.parameters.length) = some n) (hrm : rm.cells = 0 ∧ rm.slots = 0) (hR : rm.frames + 1 ≤ R.frames ∧ 8 + (maxL + 11) + rm.locals ≤ R.locals)
    (i0 : Nat) {M0 : Md} {ci : Nat} {fs : List Value} {T : u_T} {N : Nat} (hi0 : Ms[i0]? = some M0) (hF : hasF M0 b ci fs) (hc : vwCl[ci]? = some (Cn, T, N)) (hnd : is.Nodup) (hroom : (rest.map fun v => v.category).sum ≤ 8) (hk : k1 ≤ R.cells ∧ k2 ≤ R.slots) (hst : st = As.reverse ++ .ref b :: rest) (hdg : decode cc pc = .ok (.invokevirtual index, 3))
    (kk : V X k1 k2 (pc + 3) lv (.int v :: rest) (rep Ms is Mc')) : V X k1 k2 pc lv st Ms :=
  v_callV C is hM hp hG hw hn hd hrm hR i0 hi0 hF hc hnd hroom hk hst hdg fun ov M h _ => by
    obtain ⟨rfl, rfl⟩ := h
    exact kk
theorem v_callVv (C : okx X cc nL own Ts R) {y : MethodName} {wsY ws' : List Cond} {rm : Room} {b : Nat} {As rest : List Value} {bytes : ByteArray} {maxL index n : Nat} {ret : Option FieldType} {Cn : String} {Mc' : List Md} (is : List Nat)
    (hM : Ct (XI X) (XB X) y wsY rm (.ref b :: As) Mc (dn Mc')) (hp : is.map (fun i => Ms[i]?) = Mc.map some) (hG : GoodIn Ts (wsV own index Cn y wsY)) (hw : wsY = Cond.code y bytes maxL ret :: ws') (hn : As.length = n)
    (hd : y.cls = Cn ∧ y.cls ≠ "java/lang/invoke/MethodHandle" ∧ y.cls ≠ "java/lang/invoke/VarHandle" ∧ (parseMethodDescriptor y.desc).map (fun d => d.parameters.length) = some n) (hrm : rm.cells = 0 ∧ rm.slots = 0) (hR : rm.frames + 1 ≤ R.frames ∧ 8 + (maxL + 11) + rm.locals ≤ R.locals)
    (i0 : Nat) {M0 : Md} {ci : Nat} {fs : List Value} {T : u_T} {N : Nat} (hi0 : Ms[i0]? = some M0) (hF : hasF M0 b ci fs) (hc : vwCl[ci]? = some (Cn, T, N)) (hnd : is.Nodup) (hroom : (rest.map fun v => v.category).sum ≤ 8) (hk : k1 ≤ R.cells ∧ k2 ≤ R.slots) (hst : st = As.reverse ++ .ref b :: rest) (hdg : decode cc pc = .ok (.invokevirtual index, 3))
    (kk : V X k1 k2 (pc + 3) lv rest (rep Ms is Mc')) : V X k1 k2 pc lv st Ms :=
  v_callV C is hM hp hG hw hn hd hrm hR i0 hi0 hF hc hnd hroom hk hst hdg fun ov M h _ => by
    obtain ⟨rfl, rfl⟩ := h
    exact kk
theorem v_callSi (C : okx X cc nL own Ts R) {y : MethodName} {wsY ws' : List Cond} {rm : Room} {As rest : List Value} {bytes : ByteArray} {maxL index n : Nat} {ret : Option FieldType} {v : Int32} {Mc' : List Md} (is : List Nat)
    (hM : Ct (XI X) (XB X) y wsY rm As Mc (dv v Mc')) (hp : is.map (fun i => Ms[i]?) = Mc.map some) (hG : GoodIn Ts (va_wsS own index y wsY)) (hw : wsY = Cond.code y bytes maxL ret :: ws') (hn : As.length = n)
    (hd : y.cls ≠ "java/lang/invoke/MethodHandle" ∧ y.cls ≠ "java/lang/invoke/VarHandle" ∧ (parseMethodDescriptor y.desc).map (fun d => d.parameters.length) = some n) (hrm : rm.cells = 0 ∧ rm.slots = 0) (hR : rm.frames + 1 ≤ R.frames ∧ 8 + (maxL + 11) + rm.locals ≤ R.locals)
    (hnd : is.Nodup) (hroom : (rest.map fun v => v.category).sum ≤ 8) (hk : k1 ≤ R.cells ∧ k2 ≤ R.slots) (hst : st = As.reverse ++ rest) (hdg : decode cc pc = .ok (.invokestatic index, 3))
    (kk : V X k1 k2 (pc + 3) lv (.int v :: rest) (rep Ms is Mc')) : V X k1 k2 pc lv st Ms :=
  v_callS C is hM hp hG hw hn hd hrm hR hnd hroom hk hst hdg fun ov M h _ => by
    obtain ⟨rfl, rfl⟩ := h
    exact kk
theorem v_mmax (C : okx X cc nL own Ts R) {index : Nat} {x y : Int32} (h1 : Cond.methodLink own index Lib.Math.max.name ∈ Ts) (h2 : Cond.static Lib.Math.max.name ∈ Ts) (h3 : Cond.initialized "java/lang/Math" ∈ Ts) (h4 : Cond.code Lib.Math.max.name Lib.Math.max.code 2 (some .int) ∈ Ts) (hf : 1 ≤ R.frames) (hl : (st.map fun v => v.category).sum + 13 ≤ R.locals) (hk : k1 ≤ R.cells ∧ k2 ≤ R.slots) (hdg : decode cc pc = .ok (.invokestatic index, 3))
    (kk : V X k1 k2 (pc + 3) lv (.int (if x < y then y else x) :: st) Ms) : V X k1 k2 pc lv (.int y :: .int x :: st) Ms := by
  intro H locs ls w nd a s h
  have hRR := C.2.2.2.2.2.1
  exact va_mmax C.1 C.2.1 h.1.symm C.2.2.2.1 (C.2.2.2.2.1 _ h1) (C.2.2.2.2.1 _ h2) (C.2.2.2.2.1 _ h3) (C.2.2.2.2.1 _ h4) (by rw [hRR]; exact hf) (by rw [hRR]; exact hl) (by rw [hRR]; exact hk.1) (by rw [hRR]; exact hk.2) hdg (kk H locs ls w nd a s h)
theorem v_mmin (C : okx X cc nL own Ts R) {index : Nat} {x y : Int32} (h1 : Cond.methodLink own index Lib.Math.min.name ∈ Ts) (h2 : Cond.static Lib.Math.min.name ∈ Ts) (h3 : Cond.initialized "java/lang/Math" ∈ Ts) (h4 : Cond.code Lib.Math.min.name Lib.Math.min.code 2 (some .int) ∈ Ts) (hf : 1 ≤ R.frames) (hl : (st.map fun v => v.category).sum + 13 ≤ R.locals) (hk : k1 ≤ R.cells ∧ k2 ≤ R.slots) (hdg : decode cc pc = .ok (.invokestatic index, 3))
    (kk : V X k1 k2 (pc + 3) lv (.int (if y < x then y else x) :: st) Ms) : V X k1 k2 pc lv (.int y :: .int x :: st) Ms := by
  intro H locs ls w nd a s h
  have hRR := C.2.2.2.2.2.1
  exact va_mmin C.1 C.2.1 h.1.symm C.2.2.2.1 (C.2.2.2.2.1 _ h1) (C.2.2.2.2.1 _ h2) (C.2.2.2.2.1 _ h3) (C.2.2.2.2.1 _ h4) (by rw [hRR]; exact hf) (by rw [hRR]; exact hl) (by rw [hRR]; exact hk.1) (by rw [hRR]; exact hk.2) hdg (kk H locs ls w nd a s h)
theorem v_j {lv' : List (Nat × Value)} {st' : List Value} {Ms' : List Md} (kk : V X k1 k2 pc lv' st' Ms') (hs : lv'.map (fun q => lget lv q.1) = lv'.map (fun q => some q.2)) (h2 : st = st') (h3 : Ms = Ms') : V X k1 k2 pc lv st Ms := v_eq hs h2 h3 kk
theorem iinc_1 {x : Int32} : x + Int32.ofInt 1 = x + 1 := rfl
theorem iinc_m1 {x : Int32} : x + Int32.ofInt (-1) = x - 1 := by rw [Int32.sub_eq_add_neg]; rfl
theorem iinc_3 {x : Int32} : x + Int32.ofInt 3 = x + 3 := rfl
theorem iinc_4 {x : Int32} : x + Int32.ofInt 4 = x + 4 := rfl
end VMORE
/-! whole numbers -/
theorem i_le {a b : Int32} : a ≤ b ↔ a.toInt ≤ b.toInt := Int32.le_iff_toInt_le
theorem i_lt {a b : Int32} : a < b ↔ a.toInt < b.toInt := Int32.lt_iff_toInt_lt
theorem i_cl (x : Int32) : x.toNatClampNeg = x.toInt.toNat := rfl
theorem i_n {n : Nat} (h : n < 2147483648) : (nI n).toInt = (n : Int) := nI_toInt h
theorem i_0 : (0 : Int32).toInt = 0 := rfl
theorem i_eq {a b : Int32} : a = b ↔ a.toInt = b.toInt := Int32.toInt_inj.symm
/-! rows of numbers as lists -/
def gt (xs : List Int32) (i : Int32) : Int32 := if i < 0 then -5 else xs.getD i.toNatClampNeg (-5)
def stL (xs : List Int32) (i v : Int32) : List Int32 := if i < 0 then xs else xs.set i.toNatClampNeg v
def adL (cap : Nat) (xs : List Int32) (v : Int32) : List Int32 := if xs.length < cap then xs ++ [v] else xs
def aaL (cap : Nat) (xs ys : List Int32) : List Int32 := ys.foldl (adL cap) xs
def amL (cap : Nat) (v : Int32) : Nat → List Int32 → List Int32
  | 0, xs => xs
  | k + 1, xs => amL cap v k (adL cap xs v)
def swL (xs : List Int32) (i j : Int32) : List Int32 := stL (stL xs i (gt xs j)) j (gt xs i)
def layf (xs : List Int32) (cap : Nat) (f : Nat → Int32) : Prop := xs.length ≤ cap ∧ cap < 1000000000 ∧ ∀ k, k < xs.length → f k = xs.getD k 0
def rowM (cI : ClassId) (r a cap : Nat) (xs : List Int32) : Md := ([r, a], fun ws => ∃ f : Nat → Int32, layf xs cap f ∧ ws = [(r, .inr (3, [.ref a, .int (nI xs.length)])), (a, .inl (cI, cap, .inl f))])
theorem rowF {cI : ClassId} {r a cap : Nat} {xs : List Int32} : hasF (rowM cI r a cap xs) r 3 [.ref a, .int (nI xs.length)] := fun ws h => by
  obtain ⟨f, -, h⟩ := h
  exact ⟨0, by rw [h]; rfl⟩
section ROW
variable {X : Cx} {k1 k2 pc : Nat} {lv : List (Nat × Value)} {st : List Value}
theorem v_orow {r a cap : Nat} {xs : List Int32} (kk : ∀ f : Nat → Int32, layf xs cap f → V X k1 k2 pc lv st [cM r (.inr (3, [.ref a, .int (nI xs.length)])), cM a (.inl (XI X, cap, .inl f))]) : V X k1 k2 pc lv st [rowM (XI X) r a cap xs] := by
  refine v_ex (F := fun f => [cM r (.inr (3, [.ref a, .int (nI xs.length)])), cM a (.inl (XI X, cap, .inl f))]) (φ := fun f => layf xs cap f) (fun H w => ?_) (fun _ => rfl) kk
  obtain ⟨ws, ⟨f, hf, rfl⟩, -, hP⟩ := w _ (List.mem_singleton.mpr rfl)
  refine ⟨f, hf, fun M hM => ?_⟩
  rcases List.mem_cons.mp hM with rfl | hM
  · exact mAt_c.mpr (hP 0 _ rfl)
  · rw [List.mem_singleton.mp hM]
    exact mAt_c.mpr (hP 1 _ rfl)
theorem v_crow {r a cap : Nat} {xs : List Int32} {n : Int32} {f : Nat → Int32} (hf : layf xs cap f) (hn : n = nI xs.length) (kk : V X k1 k2 pc lv st [rowM (XI X) r a cap xs]) : V X k1 k2 pc lv st [cM r (.inr (3, [.ref a, .int n])), cM a (.inl (XI X, cap, .inl f))] := by
  subst hn
  refine v_to (Ms' := [rowM (XI X) r a cap xs]) (fun H w => ?_) rfl kk
  intro M hM
  rw [List.mem_singleton.mp hM]
  refine ⟨_, ⟨f, hf, rfl⟩, rfl, fun k q hk => ?_⟩
  match k, hk with
  | 0, hk => cases hk; exact mAt_c.mp (w _ List.mem_cons_self)
  | 1, hk => cases hk; exact mAt_c.mp (w _ (List.mem_cons_of_mem _ List.mem_cons_self))
  | k + 2, hk => simp at hk
end ROW
end
section
theorem gd_out {α : Type} {l : List α} {i : Nat} {d : α} (h : l.length ≤ i) : l.getD i d = d := by simp [List.getD_eq_getElem?_getD, h]
theorem gd_in {α : Type} {l : List α} {i : Nat} {d : α} (h : i < l.length) : l.getD i d = l[i] := by simp [List.getD_eq_getElem?_getD, h]
theorem gt_neg {xs : List Int32} {i : Int32} (h : i < 0) : gt xs i = -5 := if_pos h
theorem gt_n {xs : List Int32} {k : Nat} (h : k < 2147483648) : gt xs (nI k) = xs.getD k (-5) := by
  unfold gt
  rw [if_neg (nI_pos h), nI_clamp h]
theorem gt_out {xs : List Int32} {i : Int32} {cap : Nat} {f : Nat → Int32} (hf : layf xs cap f) (h : nI xs.length ≤ i) : gt xs i = -5 := by
  obtain ⟨h1, h2, h3⟩ := hf
  have h4 := i_le.mp h
  rw [i_n (by omega)] at h4
  unfold gt
  rw [if_neg (by rw [i_lt, i_0]; omega)]
  exact gd_out (by rw [i_cl]; omega)
theorem gt_in {xs : List Int32} {i : Int32} {cap : Nat} {f : Nat → Int32} (hf : layf xs cap f) (h0 : ¬ i < 0) (h : ¬ nI xs.length ≤ i) : f i.toNatClampNeg = gt xs i := by
  obtain ⟨h1, h2, h3⟩ := hf
  rw [i_le, i_n (by omega)] at h
  rw [i_lt, i_0] at h0
  unfold gt
  rw [if_neg (by rw [i_lt, i_0]; exact h0)]
  have hk : i.toNatClampNeg < xs.length := by rw [i_cl]; omega
  rw [h3 _ hk, gd_in hk, gd_in hk]
theorem lay_in {xs : List Int32} {i : Int32} {cap : Nat} {f : Nat → Int32} (hf : layf xs cap f) (h0 : ¬ i < 0) (h : ¬ nI xs.length ≤ i) : vp_in i cap := by
  obtain ⟨h1, h2, h3⟩ := hf
  rw [i_le, i_n (by omega)] at h
  rw [i_lt, i_0] at h0
  unfold vp_in
  rw [i_lt, i_0, i_cl]
  omega
theorem lay_cap {xs : List Int32} {cap : Nat} {f : Nat → Int32} (hf : layf xs cap f) : nI xs.length ≤ nI cap := by
  obtain ⟨h1, h2, h3⟩ := hf
  exact nI_le h1 (by omega)
theorem stL_neg {xs : List Int32} {i v : Int32} (h : i < 0) : stL xs i v = xs := if_pos h
theorem stL_out {xs : List Int32} {i v : Int32} {cap : Nat} {f : Nat → Int32} (hf : layf xs cap f) (h : nI xs.length ≤ i) : stL xs i v = xs := by
  obtain ⟨h1, h2, h3⟩ := hf
  have h4 := i_le.mp h
  rw [i_n (by omega)] at h4
  unfold stL
  rw [if_neg (by rw [i_lt, i_0]; omega)]
  exact List.set_eq_of_length_le (by rw [i_cl]; omega)
theorem stL_len {xs : List Int32} {i v : Int32} : (stL xs i v).length = xs.length := by
  unfold stL
  split
  · rfl
  · exact List.length_set
theorem stL_lay {xs : List Int32} {i : Int32} {cap : Nat} {f : Nat → Int32} (hf : layf xs cap f) (v : Int32) (h0 : ¬ i < 0) (h : ¬ nI xs.length ≤ i) : layf (stL xs i v) cap (upd f i.toNatClampNeg v) := by
  obtain ⟨h1, h2, h3⟩ := hf
  rw [i_le, i_n (by omega)] at h
  unfold stL
  rw [if_neg h0]
  rw [i_lt, i_0] at h0
  have hk : i.toNatClampNeg < xs.length := by rw [i_cl]; omega
  refine ⟨by rw [List.length_set]; exact h1, h2, fun k hk2 => ?_⟩
  rw [List.length_set] at hk2
  rw [gd_in (by rw [List.length_set]; exact hk2), List.getElem_set]
  by_cases e : k = i.toNatClampNeg
  · rw [if_pos e.symm, e, pk_us]
  · rw [if_neg (fun z => e z.symm), pk_un e, h3 k hk2, gd_in hk2]
theorem lay_pos {xs : List Int32} {cap : Nat} {f : Nat → Int32} (hf : layf xs cap f) : ¬ nI xs.length < 0 := by
  obtain ⟨h1, h2, h3⟩ := hf
  exact nI_pos (by omega)
theorem lay_add {xs : List Int32} {cap : Nat} {f : Nat → Int32} (hf : layf xs cap f) (h : ¬ nI cap ≤ nI xs.length) : vp_in (nI xs.length) cap := by
  obtain ⟨h1, h2, h3⟩ := hf
  rw [nI_leI (by omega) (by omega)] at h
  exact vp_in_nI (by omega) (by omega)
theorem adL_full {xs : List Int32} {cap : Nat} {f : Nat → Int32} (hf : layf xs cap f) (v : Int32) (h : nI cap ≤ nI xs.length) : adL cap xs v = xs := by
  obtain ⟨h1, h2, h3⟩ := hf
  rw [nI_leI (by omega) (by omega)] at h
  exact if_neg (by omega)
theorem adL_in {xs : List Int32} {cap : Nat} {f : Nat → Int32} (hf : layf xs cap f) (v : Int32) (h : ¬ nI cap ≤ nI xs.length) : adL cap xs v = xs ++ [v] := by
  obtain ⟨h1, h2, h3⟩ := hf
  rw [nI_leI (by omega) (by omega)] at h
  exact if_pos (by omega)
theorem adL_lay {xs : List Int32} {cap : Nat} {f : Nat → Int32} (hf : layf xs cap f) (v : Int32) (h : ¬ nI cap ≤ nI xs.length) : layf (adL cap xs v) cap (upd f (nI xs.length).toNatClampNeg v) := by
  rw [adL_in hf v h]
  obtain ⟨h1, h2, h3⟩ := hf
  rw [nI_leI (by omega) (by omega)] at h
  rw [nI_clamp (by omega)]
  refine ⟨by rw [List.length_append, List.length_singleton]; omega, h2, fun k hk => ?_⟩
  rw [List.length_append, List.length_singleton] at hk
  rw [gd_in (by rw [List.length_append, List.length_singleton]; exact hk)]
  by_cases e : k = xs.length
  · subst e
    rw [pk_us, List.getElem_append_right (Nat.le_refl _)]
    simp
  · have hk2 : k < xs.length := by omega
    rw [pk_un e, h3 k hk2, gd_in hk2, List.getElem_append_left hk2]
theorem adL_len {xs : List Int32} {cap : Nat} {f : Nat → Int32} (hf : layf xs cap f) (v : Int32) (h : ¬ nI cap ≤ nI xs.length) : nI xs.length + 1 = nI (adL cap xs v).length := by
  rw [adL_in hf v h, List.length_append, List.length_singleton, nI_1]
def bI (b : Bool) : Int32 := if b = true then 1 else 0
theorem bI_01 (b : Bool) : bI b = 0 ∨ bI b = 1 := by cases b <;> decide
theorem full_0 {xs : List Int32} {cap : Nat} {f : Nat → Int32} (hf : layf xs cap f) (h : nI xs.length < nI cap) : bI (decide (cap ≤ xs.length)) = 0 := by
  obtain ⟨h1, h2, h3⟩ := hf
  rw [nI_ltI (by omega) (by omega)] at h
  rw [decide_eq_false (by omega)]; rfl
theorem full_1 {xs : List Int32} {cap : Nat} {f : Nat → Int32} (hf : layf xs cap f) (h : ¬ nI xs.length < nI cap) : bI (decide (cap ≤ xs.length)) = 1 := by
  obtain ⟨h1, h2, h3⟩ := hf
  rw [nI_ltI (by omega) (by omega)] at h
  rw [decide_eq_true (by omega)]; rfl
theorem lay_nil {xs : List Int32} {cap : Nat} {f : Nat → Int32} (hf : layf xs cap f) : layf [] cap f := ⟨Nat.zero_le _, hf.2.1, fun k h => absurd h (Nat.not_lt_zero k)⟩
theorem lay_drop {xs : List Int32} {cap : Nat} {f : Nat → Int32} (hf : layf xs cap f) : layf xs.dropLast cap f := by
  obtain ⟨h1, h2, h3⟩ := hf
  refine ⟨by rw [List.length_dropLast]; omega, h2, fun k hk => ?_⟩
  have hk' := hk
  rw [List.length_dropLast] at hk'
  have hk2 : k < xs.length := by omega
  rw [h3 k hk2, gd_in hk2, gd_in hk, List.getElem_dropLast]
theorem sub1 {n : Nat} (h : 1 ≤ n) : nI n - 1 = nI (n - 1) := pk_sub (b := 1) h
theorem drop_len {xs : List Int32} {cap : Nat} {f : Nat → Int32} (hf : layf xs cap f) : (if nI xs.length - 1 < 0 then (0 : Int32) else nI xs.length - 1) = nI xs.dropLast.length := by
  obtain ⟨h1, h2, h3⟩ := hf
  rw [List.length_dropLast]
  by_cases h : xs.length = 0
  · rw [h]; rfl
  · rw [sub1 (by omega), if_neg (nI_pos (by omega))]
theorem loop_up {P : Nat → Prop} (N : Nat) (h : ∀ k, k ≤ N → (k < N → P (k + 1)) → P k) : ∀ k, k ≤ N → P k := by
  have key : ∀ d k, k + d = N → P k := by
    intro d
    induction d with
    | zero => intro k hk; exact h k (by omega) (fun h2 => absurd h2 (by omega))
    | succ d ih => intro k hk; exact h k (by omega) (fun _ => ih (k + 1) (by omega))
  exact fun k hk => key (N - k) k (by omega)
theorem loop_dn {P : Nat → Prop} (N : Nat) (h : ∀ k, k ≤ N → (∀ k2, k = k2 + 1 → P k2) → P k) : ∀ k, k ≤ N → P k := by
  intro k
  induction k with
  | zero => intro hk; exact h 0 hk (fun k2 h2 => by cases h2)
  | succ k ih => intro hk; exact h (k + 1) hk (fun k2 h2 => by cases h2; exact ih (by omega))
theorem up_lt {k N : Nat} {x : Int32} (hx : x = nI k) (hN : N < 1000000000) (hk : k ≤ N) (c : ¬ nI N ≤ x) : k < N := by
  rw [hx, nI_leI (by omega) (by omega)] at c
  omega
theorem up_end {k N : Nat} {x : Int32} (hx : x = nI k) (hN : N < 1000000000) (hk : k ≤ N) (c : nI N ≤ x) : k = N := by
  rw [hx, nI_leI (by omega) (by omega)] at c
  omega
theorem amL_step {cap : Nat} {v : Int32} {N k : Nat} {ys : List Int32} (h : k < N) : amL cap v (N - k) ys = amL cap v (N - (k + 1)) (adL cap ys v) := by
  rw [show N - k = (N - (k + 1)) + 1 by omega]; rfl
theorem aaL_step {cap k : Nat} {zs ys : List Int32} (h : k < ys.length) (hN : ys.length < 1000000000) : aaL cap zs (ys.drop k) = aaL cap (adL cap zs (gt ys (nI k))) (ys.drop (k + 1)) := by
  rw [List.drop_eq_getElem_cons h, gt_n (by omega), gd_in h]; rfl
def mvU : Nat → Nat → List Int32 → List Int32
  | 0, _, xs => xs
  | n + 1, k, xs => mvU n (k + 1) (swL xs (nI k) (nI (k + 1)))
def mvD : Nat → Nat → List Int32 → List Int32
  | 0, _, xs => xs
  | n + 1, k, xs => mvD n (k - 1) (swL xs (nI k) (nI (k - 1)))
def mvL (xs : List Int32) (I J : Nat) : List Int32 := mvD (I - J) I (mvU (J - I) I xs)
def rmL (xs : List Int32) (I : Nat) : List Int32 := if I < xs.length then (mvL xs I (xs.length - 1)).dropLast else xs
theorem dn_lt {I J k : Nat} {x : Int32} (hx : x = nI k) (hI : I < 1000000000) (hJ : J < 1000000000) (hk : k ≤ I) (c : ¬ x ≤ nI J) : J < k := by
  rw [hx, nI_leI (by omega) (by omega)] at c
  omega
theorem dn_end {I J k : Nat} {x : Int32} (hx : x = nI k) (hI : I < 1000000000) (hJ : J < 1000000000) (hk : k ≤ I) (c : x ≤ nI J) : k ≤ J := by
  rw [hx, nI_leI (by omega) (by omega)] at c
  omega
theorem dn_1 (k : Nat) : nI (k + 1) - 1 = nI k := by rw [sub1 (by omega)]; rfl
theorem mvD_step {J k : Nat} {ys : List Int32} (h : J < k + 1) : mvD (k + 1 - J) (k + 1) ys = mvD (k - J) k (swL ys (nI (k + 1)) (nI k)) := by
  rw [show k + 1 - J = (k - J) + 1 by omega]; rfl
theorem mv_lt {I J k : Nat} {x : Int32} (hx : x = nI k) (hI : I < 1000000000) (hJ : J < 1000000000) (hk : k ≤ max I J) (c : ¬ nI J ≤ x) : k < J := by
  rw [hx, nI_leI (by omega) (by omega)] at c
  omega
theorem mv_end {I J k : Nat} {x : Int32} (hx : x = nI k) (hI : I < 1000000000) (hJ : J < 1000000000) (hk : k ≤ max I J) (c : nI J ≤ x) : J ≤ k := by
  rw [hx, nI_leI (by omega) (by omega)] at c
  omega
theorem mvU_step {J k : Nat} {ys : List Int32} (h : k < J) : mvU (J - k) k ys = mvU (J - (k + 1)) (k + 1) (swL ys (nI k) (nI (k + 1))) := by
  rw [show J - k = (J - (k + 1)) + 1 by omega]; rfl
theorem rm_lt {I N : Nat} (hI : I < 1000000000) (hN : N < 1000000000) (c : ¬ nI N ≤ nI I) : I < N := by
  rw [nI_leI (by omega) (by omega)] at c
  omega
theorem rmL_out {xs : List Int32} {I : Nat} (hI : I < 1000000000) (hN : xs.length < 1000000000) (c : nI xs.length ≤ nI I) : rmL xs I = xs := by
  rw [nI_leI (by omega) (by omega)] at c
  exact if_neg (by omega)
theorem rmL_in {xs : List Int32} {I : Nat} (h : I < xs.length) : rmL xs I = (mvL xs I (xs.length - 1)).dropLast := if_pos h
theorem v_rowlen {X : Cx} {k1 k2 pc : Nat} {lv : List (Nat × Value)} {st : List Value} {Ms : List Md} {cI : ClassId} {r a cap : Nat} {xs : List Int32} (i : Nat) (hi : Ms[i]? = some (rowM cI r a cap xs)) (kk : xs.length < 1000000000 → V X k1 k2 pc lv st Ms) : V X k1 k2 pc lv st Ms := fun H locs ls w n a s h => by
  obtain ⟨ws, ⟨f, hf, -⟩, -⟩ := w _ (List.mem_of_getElem? hi)
  exact kk (Nat.lt_of_le_of_lt hf.1 hf.2.1) H locs ls w n a s h
end
section
theorem hd_X3_get : yX3_get.cls = RX3 ∧ yX3_get.cls ≠ "java/lang/invoke/MethodHandle" ∧ yX3_get.cls ≠ "java/lang/invoke/VarHandle" ∧ (parseMethodDescriptor yX3_get.desc).map (fun d => d.parameters.length) = some 1 := by decide +kernel
set_option maxHeartbeats 4000000 in
set_option maxRecDepth 100000 in
theorem c_X3_get (cI cB : ClassId) (r a cap : Nat) (xs : List Int32) (i : Int32)  : Ct cI cB yX3_get wsX3_get { frames := 0, cells := 0, slots := 0, locals := 0 } [.ref r, .int i] [rowM cI r a cap xs] (dv (gt xs i) [rowM cI r a cap xs]) := by
  refine ct_of (cc := cX3_get) (maxL := 2) (ret := (some .int)) (by decide) rfl (Nat.le_of_ble_eq_true rfl) [(0, .ref r), (1, .int i)] rfl ?_
  intro X hI hB K E
  subst hI
  subst hB
  have iX3 : ∀ w ∈ u_ws RX3 TX3 2, w ∈ wsX3_get := by decide +kernel
  refine v_orow (fun f hf => ?_)
  refine v_iload_n K dX3_get_0 rfl ?_
  refine v_if_lt K 30 dX3_get_1 (by decide) (fun c1 => ?_) (fun c1 => ?_)
  · refine v_bipush K (-5) dX3_get_30 (by decide) ?_
    refine v_crow hf rfl ?_
    refine v_iret K E dX3_get_32 ?_ rfl
    exact ⟨by rw [gt_neg c1], rfl⟩
  · refine v_iload_n K dX3_get_4 rfl ?_
    refine v_aload_n K dX3_get_5 rfl ?_
    refine v_get K 0 rfl hasF_c rfl iX3 1 (by decide) rfl (by decide +kernel) rfl dX3_get_6 ?_
    refine v_ic_ge K 30 dX3_get_9 (by decide) (fun c9 => ?_) (fun c9 => ?_)
    · refine v_bipush K (-5) dX3_get_30 (by decide) ?_
      refine v_crow hf rfl ?_
      refine v_iret K E dX3_get_32 ?_ rfl
      exact ⟨by rw [gt_out hf c9], rfl⟩
    · refine v_iload_n K dX3_get_12 rfl ?_
      refine v_aload_n K dX3_get_13 rfl ?_
      refine v_get K 0 rfl hasF_c rfl iX3 0 (by decide) rfl (by decide +kernel) rfl dX3_get_14 ?_
      refine v_alen K 1 rfl dX3_get_17 ?_
      refine v_ic_ge K 30 dX3_get_18 (by decide) (fun c18 => ?_) (fun c18 => ?_)
      · refine v_bipush K (-5) dX3_get_30 (by decide) ?_
        refine v_crow hf rfl ?_
        refine v_iret K E dX3_get_32 ?_ rfl
        exact ⟨by rw [gt_out hf (Int32.le_trans (lay_cap hf) c18)], rfl⟩
      · refine v_aload_n K dX3_get_21 rfl ?_
        refine v_get K 0 rfl hasF_c rfl iX3 0 (by decide) rfl (by decide +kernel) rfl dX3_get_22 ?_
        refine v_iload_n K dX3_get_25 rfl ?_
        refine v_iald K 1 rfl ?ix26 dX3_get_26 ?_
        case ix26 => exact lay_in hf c1 c9
        refine v_goto K 32 dX3_get_27 (by decide) ?_
        refine v_crow hf rfl ?_
        refine v_iret K E dX3_get_32 ?_ rfl
        exact ⟨by rw [gt_in hf c1 c9], rfl⟩

theorem hd_X3_set : yX3_set.cls = RX3 ∧ yX3_set.cls ≠ "java/lang/invoke/MethodHandle" ∧ yX3_set.cls ≠ "java/lang/invoke/VarHandle" ∧ (parseMethodDescriptor yX3_set.desc).map (fun d => d.parameters.length) = some 2 := by decide +kernel
set_option maxHeartbeats 4000000 in
set_option maxRecDepth 100000 in
theorem c_X3_set (cI cB : ClassId) (r a cap : Nat) (xs : List Int32) (i v : Int32)  : Ct cI cB yX3_set wsX3_set { frames := 0, cells := 0, slots := 0, locals := 0 } [.ref r, .int i, .int v] [rowM cI r a cap xs] (dn [rowM cI r a cap (stL xs i v)]) := by
  refine ct_of (cc := cX3_set) (maxL := 3) (ret := none) (by decide) rfl (Nat.le_of_ble_eq_true rfl) [(0, .ref r), (1, .int i), (2, .int v)] rfl ?_
  intro X hI hB K E
  subst hI
  subst hB
  have iX3 : ∀ w ∈ u_ws RX3 TX3 2, w ∈ wsX3_set := by decide +kernel
  refine v_orow (fun f hf => ?_)
  refine v_iload_n K dX3_set_0 rfl ?_
  refine v_if_lt K 28 dX3_set_1 (by decide) (fun c1 => ?_) (fun c1 => ?_)
  · refine v_crow hf rfl ?_
    refine v_ret K E dX3_set_28 ?_ rfl
    exact ⟨rfl, by rw [stL_neg c1]⟩
  · refine v_iload_n K dX3_set_4 rfl ?_
    refine v_aload_n K dX3_set_5 rfl ?_
    refine v_get K 0 rfl hasF_c rfl iX3 1 (by decide) rfl (by decide +kernel) rfl dX3_set_6 ?_
    refine v_ic_ge K 28 dX3_set_9 (by decide) (fun c9 => ?_) (fun c9 => ?_)
    · refine v_crow hf rfl ?_
      refine v_ret K E dX3_set_28 ?_ rfl
      exact ⟨rfl, by rw [stL_out hf c9]⟩
    · refine v_iload_n K dX3_set_12 rfl ?_
      refine v_aload_n K dX3_set_13 rfl ?_
      refine v_get K 0 rfl hasF_c rfl iX3 0 (by decide) rfl (by decide +kernel) rfl dX3_set_14 ?_
      refine v_alen K 1 rfl dX3_set_17 ?_
      refine v_ic_ge K 28 dX3_set_18 (by decide) (fun c18 => ?_) (fun c18 => ?_)
      · refine v_crow hf rfl ?_
        refine v_ret K E dX3_set_28 ?_ rfl
        exact ⟨rfl, by rw [stL_out hf (Int32.le_trans (lay_cap hf) c18)]⟩
      · refine v_aload_n K dX3_set_21 rfl ?_
        refine v_get K 0 rfl hasF_c rfl iX3 0 (by decide) rfl (by decide +kernel) rfl dX3_set_22 ?_
        refine v_iload_n K dX3_set_25 rfl ?_
        refine v_iload_n K dX3_set_26 rfl ?_
        refine v_iast K 1 rfl ?ix27 dX3_set_27 ?_
        case ix27 => exact lay_in hf c1 c9
        refine v_crow (xs := stL xs i v) (stL_lay hf v c1 c9) (by rw [stL_len]) ?_
        refine v_ret K E dX3_set_28 ?_ rfl
        exact ⟨rfl, rfl⟩

theorem hd_X3_add : yX3_add.cls = RX3 ∧ yX3_add.cls ≠ "java/lang/invoke/MethodHandle" ∧ yX3_add.cls ≠ "java/lang/invoke/VarHandle" ∧ (parseMethodDescriptor yX3_add.desc).map (fun d => d.parameters.length) = some 1 := by decide +kernel
set_option maxHeartbeats 4000000 in
set_option maxRecDepth 100000 in
theorem c_X3_add (cI cB : ClassId) (r a cap : Nat) (xs : List Int32) (v : Int32)  : Ct cI cB yX3_add wsX3_add { frames := 0, cells := 0, slots := 0, locals := 0 } [.ref r, .int v] [rowM cI r a cap xs] (dn [rowM cI r a cap (adL cap xs v)]) := by
  refine ct_of (cc := cX3_add) (maxL := 2) (ret := none) (by decide) rfl (Nat.le_of_ble_eq_true rfl) [(0, .ref r), (1, .int v)] rfl ?_
  intro X hI hB K E
  subst hI
  subst hB
  have iX3 : ∀ w ∈ u_ws RX3 TX3 2, w ∈ wsX3_add := by decide +kernel
  refine v_orow (fun f hf => ?_)
  refine v_aload_n K dX3_add_0 rfl ?_
  refine v_get K 0 rfl hasF_c rfl iX3 1 (by decide) rfl (by decide +kernel) rfl dX3_add_1 ?_
  refine v_if_lt K 39 dX3_add_4 (by decide) (fun c4 => ?_) (fun c4 => ?_)
  · exact absurd c4 (lay_pos hf)
  · refine v_aload_n K dX3_add_7 rfl ?_
    refine v_get K 0 rfl hasF_c rfl iX3 1 (by decide) rfl (by decide +kernel) rfl dX3_add_8 ?_
    refine v_aload_n K dX3_add_11 rfl ?_
    refine v_get K 0 rfl hasF_c rfl iX3 0 (by decide) rfl (by decide +kernel) rfl dX3_add_12 ?_
    refine v_alen K 1 rfl dX3_add_15 ?_
    refine v_ic_ge K 39 dX3_add_16 (by decide) (fun c16 => ?_) (fun c16 => ?_)
    · refine v_crow hf rfl ?_
      refine v_ret K E dX3_add_39 ?_ rfl
      exact ⟨rfl, by rw [adL_full hf v c16]⟩
    · refine v_aload_n K dX3_add_19 rfl ?_
      refine v_get K 0 rfl hasF_c rfl iX3 0 (by decide) rfl (by decide +kernel) rfl dX3_add_20 ?_
      refine v_aload_n K dX3_add_23 rfl ?_
      refine v_get K 0 rfl hasF_c rfl iX3 1 (by decide) rfl (by decide +kernel) rfl dX3_add_24 ?_
      refine v_iload_n K dX3_add_27 rfl ?_
      refine v_iast K 1 rfl ?ix28 dX3_add_28 ?_
      case ix28 => exact lay_add hf c16
      refine v_aload_n K dX3_add_29 rfl ?_
      refine v_dup K dX3_add_30 rfl ?_
      refine v_get K 0 rfl hasF_c rfl iX3 1 (by decide) rfl (by decide +kernel) rfl dX3_add_31 ?_
      refine v_iconst K (1) dX3_add_34 (by decide) ?_
      refine v_iadd K dX3_add_35 ?_
      refine v_put K 0 rfl rfl iX3 tyX3 tyX3_ok nmX3 1 (by decide) rfl (by decide +kernel) rfl rfl (Nat.le_of_ble_eq_true rfl) dX3_add_36 ?_
      refine v_crow (xs := adL cap xs v) (adL_lay hf v c16) (adL_len hf v c16) ?_
      refine v_ret K E dX3_add_39 ?_ rfl
      exact ⟨rfl, rfl⟩

theorem hd_X3_isFull : yX3_isFull.cls = RX3 ∧ yX3_isFull.cls ≠ "java/lang/invoke/MethodHandle" ∧ yX3_isFull.cls ≠ "java/lang/invoke/VarHandle" ∧ (parseMethodDescriptor yX3_isFull.desc).map (fun d => d.parameters.length) = some 0 := by decide +kernel
set_option maxHeartbeats 4000000 in
set_option maxRecDepth 100000 in
theorem c_X3_isFull (cI cB : ClassId) (r a cap : Nat) (xs : List Int32)  : Ct cI cB yX3_isFull wsX3_isFull { frames := 0, cells := 0, slots := 0, locals := 0 } [.ref r] [rowM cI r a cap xs] (dv (bI (decide (cap ≤ xs.length))) [rowM cI r a cap xs]) := by
  refine ct_of (cc := cX3_isFull) (maxL := 1) (ret := (some .boolean)) (by decide) rfl (Nat.le_of_ble_eq_true rfl) [(0, .ref r)] rfl ?_
  intro X hI hB K E
  subst hI
  subst hB
  have iX3 : ∀ w ∈ u_ws RX3 TX3 2, w ∈ wsX3_isFull := by decide +kernel
  refine v_orow (fun f hf => ?_)
  refine v_aload_n K dX3_isFull_0 rfl ?_
  refine v_get K 0 rfl hasF_c rfl iX3 1 (by decide) rfl (by decide +kernel) rfl dX3_isFull_1 ?_
  refine v_aload_n K dX3_isFull_4 rfl ?_
  refine v_get K 0 rfl hasF_c rfl iX3 0 (by decide) rfl (by decide +kernel) rfl dX3_isFull_5 ?_
  refine v_alen K 1 rfl dX3_isFull_8 ?_
  refine v_ic_lt K 16 dX3_isFull_9 (by decide) (fun c9 => ?_) (fun c9 => ?_)
  · refine v_iconst K (0) dX3_isFull_16 (by decide) ?_
    refine v_crow hf rfl ?_
    refine v_zret K E dX3_isFull_17 (by first | exact Or.inl rfl | exact Or.inr rfl) ?_ rfl
    exact ⟨by rw [full_0 hf c9], rfl⟩
  · refine v_iconst K (1) dX3_isFull_12 (by decide) ?_
    refine v_goto K 17 dX3_isFull_13 (by decide) ?_
    refine v_crow hf rfl ?_
    refine v_zret K E dX3_isFull_17 (by first | exact Or.inl rfl | exact Or.inr rfl) ?_ rfl
    exact ⟨by rw [full_1 hf c9], rfl⟩

theorem hd_X3_size : yX3_size.cls = RX3 ∧ yX3_size.cls ≠ "java/lang/invoke/MethodHandle" ∧ yX3_size.cls ≠ "java/lang/invoke/VarHandle" ∧ (parseMethodDescriptor yX3_size.desc).map (fun d => d.parameters.length) = some 0 := by decide +kernel
set_option maxHeartbeats 4000000 in
set_option maxRecDepth 100000 in
theorem c_X3_size (cI cB : ClassId) (r a cap : Nat) (xs : List Int32)  : Ct cI cB yX3_size wsX3_size { frames := 0, cells := 0, slots := 0, locals := 0 } [.ref r] [rowM cI r a cap xs] (dv (nI xs.length) [rowM cI r a cap xs]) := by
  refine ct_of (cc := cX3_size) (maxL := 1) (ret := (some .int)) (by decide) rfl (Nat.le_of_ble_eq_true rfl) [(0, .ref r)] rfl ?_
  intro X hI hB K E
  subst hI
  subst hB
  have iX3 : ∀ w ∈ u_ws RX3 TX3 2, w ∈ wsX3_size := by decide +kernel
  refine v_aload_n K dX3_size_0 rfl ?_
  refine v_get K 0 rfl rowF rfl iX3 1 (by decide) rfl (by decide +kernel) rfl dX3_size_1 ?_
  refine v_iret K E dX3_size_4 ?_ rfl
  exact ⟨rfl, rfl⟩

theorem hd_X3_clear : yX3_clear.cls = RX3 ∧ yX3_clear.cls ≠ "java/lang/invoke/MethodHandle" ∧ yX3_clear.cls ≠ "java/lang/invoke/VarHandle" ∧ (parseMethodDescriptor yX3_clear.desc).map (fun d => d.parameters.length) = some 0 := by decide +kernel
set_option maxHeartbeats 4000000 in
set_option maxRecDepth 100000 in
theorem c_X3_clear (cI cB : ClassId) (r a cap : Nat) (xs : List Int32)  : Ct cI cB yX3_clear wsX3_clear { frames := 0, cells := 0, slots := 0, locals := 0 } [.ref r] [rowM cI r a cap xs] (dn [rowM cI r a cap []]) := by
  refine ct_of (cc := cX3_clear) (maxL := 1) (ret := none) (by decide) rfl (Nat.le_of_ble_eq_true rfl) [(0, .ref r)] rfl ?_
  intro X hI hB K E
  subst hI
  subst hB
  have iX3 : ∀ w ∈ u_ws RX3 TX3 2, w ∈ wsX3_clear := by decide +kernel
  refine v_orow (fun f hf => ?_)
  refine v_aload_n K dX3_clear_0 rfl ?_
  refine v_iconst K (0) dX3_clear_1 (by decide) ?_
  refine v_put K 0 rfl rfl iX3 tyX3 tyX3_ok nmX3 1 (by decide) rfl (by decide +kernel) rfl rfl (Nat.le_of_ble_eq_true rfl) dX3_clear_2 ?_
  refine v_crow (xs := []) (lay_nil hf) rfl ?_
  refine v_ret K E dX3_clear_5 ?_ rfl
  exact ⟨rfl, rfl⟩

theorem hd_X3_dropLast : yX3_dropLast.cls = RX3 ∧ yX3_dropLast.cls ≠ "java/lang/invoke/MethodHandle" ∧ yX3_dropLast.cls ≠ "java/lang/invoke/VarHandle" ∧ (parseMethodDescriptor yX3_dropLast.desc).map (fun d => d.parameters.length) = some 0 := by decide +kernel
set_option maxHeartbeats 4000000 in
set_option maxRecDepth 100000 in
theorem c_X3_dropLast (cI cB : ClassId) (r a cap : Nat) (xs : List Int32)  : Ct cI cB yX3_dropLast wsX3_dropLast { frames := 1, cells := 0, slots := 0, locals := 21 } [.ref r] [rowM cI r a cap xs] (dn [rowM cI r a cap xs.dropLast]) := by
  refine ct_of (cc := cX3_dropLast) (maxL := 1) (ret := none) (by decide) rfl (Nat.le_of_ble_eq_true rfl) [(0, .ref r)] rfl ?_
  intro X hI hB K E
  subst hI
  subst hB
  have iX3 : ∀ w ∈ u_ws RX3 TX3 2, w ∈ wsX3_dropLast := by decide +kernel
  refine v_orow (fun f hf => ?_)
  refine v_aload_n K dX3_dropLast_0 rfl ?_
  refine v_aload_n K dX3_dropLast_1 rfl ?_
  refine v_get K 0 rfl hasF_c rfl iX3 1 (by decide) rfl (by decide +kernel) rfl dX3_dropLast_2 ?_
  refine v_iconst K (1) dX3_dropLast_5 (by decide) ?_
  refine v_isub K dX3_dropLast_6 ?_
  refine v_iconst K (0) dX3_dropLast_7 (by decide) ?_
  refine v_mmax K (by decide +kernel) (by decide +kernel) (by decide +kernel) (by decide +kernel) (by decide) (Nat.le_of_ble_eq_true rfl) ⟨Nat.zero_le _, Nat.zero_le _⟩ dX3_dropLast_8 ?_
  refine v_put K 0 rfl rfl iX3 tyX3 tyX3_ok nmX3 1 (by decide) rfl (by decide +kernel) rfl rfl (Nat.le_of_ble_eq_true rfl) dX3_dropLast_11 ?_
  refine v_crow (xs := xs.dropLast) (lay_drop hf) (drop_len hf) ?_
  refine v_ret K E dX3_dropLast_14 ?_ rfl
  exact ⟨rfl, rfl⟩

theorem hd_X3_addMany : yX3_addMany.cls = RX3 ∧ yX3_addMany.cls ≠ "java/lang/invoke/MethodHandle" ∧ yX3_addMany.cls ≠ "java/lang/invoke/VarHandle" ∧ (parseMethodDescriptor yX3_addMany.desc).map (fun d => d.parameters.length) = some 2 := by decide +kernel
set_option maxHeartbeats 4000000 in
set_option maxRecDepth 100000 in
theorem c_X3_addMany (cI cB : ClassId) (r a cap : Nat) (xs : List Int32) (v : Int32) (N : Nat) (hN : N < 1000000000) : Ct cI cB yX3_addMany wsX3_addMany { frames := 1, cells := 0, slots := 0, locals := 21 } [.ref r, .int v, .int (nI N)] [rowM cI r a cap xs] (dn [rowM cI r a cap (amL cap v N xs)]) := by
  refine ct_of (cc := cX3_addMany) (maxL := 4) (ret := none) (by decide) rfl (Nat.le_of_ble_eq_true rfl) [(0, .ref r), (1, .int v), (2, .int (nI N))] rfl ?_
  intro X hI hB K E
  subst hI
  subst hB
  have lp : ∀ k, k ≤ N → ∀ (x : Int32) (ys : List Int32), x = nI k → amL cap v (N - k) ys = amL cap v N xs → V X 0 0 2 [(0, .ref r), (1, .int v), (2, .int (nI N)), (3, .int x)] [] [rowM (XI X) r a cap ys] := by
    refine loop_up N ?_
    intro k hk ih x ys hx hy
    refine v_iload_n K dX3_addMany_2 rfl ?_
    refine v_iload_n K dX3_addMany_3 rfl ?_
    refine v_ic_ge K 18 dX3_addMany_4 (by decide) (fun c4 => ?_) (fun c4 => ?_)
    · refine v_ret K E dX3_addMany_18 ?_ rfl
      exact ⟨rfl, by rw [← hy, up_end hx hN hk c4, Nat.sub_self]; rfl⟩
    · refine v_aload_n K dX3_addMany_7 rfl ?_
      refine v_iload_n K dX3_addMany_8 rfl ?_
      refine v_callVv K [0] (c_X3_add (XI X) (XB X) _ _ _ _ _ ) rfl gX3_addMany_X3_add rfl rfl hd_X3_add ⟨rfl, rfl⟩ ⟨by decide, by decide⟩ 0 rfl rowF rfl (by decide) (Nat.le_of_ble_eq_true rfl) ⟨Nat.zero_le _, Nat.zero_le _⟩ rfl dX3_addMany_9 ?_
      refine v_iinc K dX3_addMany_12 rfl (by decide) iinc_1 ?_
      refine v_goto K 2 dX3_addMany_15 (by decide) ?_
      have hlt := up_lt hx hN hk c4
      exact v_j (ih hlt _ _ (by rw [hx]; exact nI_1 k) (by rw [← hy]; exact (amL_step hlt).symm)) rfl rfl rfl
  refine v_iconst K (0) dX3_addMany_0 (by decide) ?_
  refine v_istore_n K dX3_addMany_1 (by decide) ?_
  exact v_j (lp 0 (Nat.zero_le _) 0 xs rfl rfl) rfl rfl rfl

theorem hd_X3_increase : yX3_increase.cls = RX3 ∧ yX3_increase.cls ≠ "java/lang/invoke/MethodHandle" ∧ yX3_increase.cls ≠ "java/lang/invoke/VarHandle" ∧ (parseMethodDescriptor yX3_increase.desc).map (fun d => d.parameters.length) = some 1 := by decide +kernel
set_option maxHeartbeats 4000000 in
set_option maxRecDepth 100000 in
theorem c_X3_increase (cI cB : ClassId) (r a cap : Nat) (xs : List Int32) (i : Int32)  : Ct cI cB yX3_increase wsX3_increase { frames := 1, cells := 0, slots := 0, locals := 22 } [.ref r, .int i] [rowM cI r a cap xs] (dn [rowM cI r a cap (stL xs i (gt xs i + 1))]) := by
  refine ct_of (cc := cX3_increase) (maxL := 2) (ret := none) (by decide) rfl (Nat.le_of_ble_eq_true rfl) [(0, .ref r), (1, .int i)] rfl ?_
  intro X hI hB K E
  subst hI
  subst hB
  refine v_aload_n K dX3_increase_0 rfl ?_
  refine v_iload_n K dX3_increase_1 rfl ?_
  refine v_aload_n K dX3_increase_2 rfl ?_
  refine v_iload_n K dX3_increase_3 rfl ?_
  refine v_callVi K [0] (c_X3_get (XI X) (XB X) _ _ _ _ _ ) rfl gX3_increase_X3_get rfl rfl hd_X3_get ⟨rfl, rfl⟩ ⟨by decide, by decide⟩ 0 rfl rowF rfl (by decide) (Nat.le_of_ble_eq_true rfl) ⟨Nat.zero_le _, Nat.zero_le _⟩ rfl dX3_increase_4 ?_
  refine v_iconst K (1) dX3_increase_7 (by decide) ?_
  refine v_iadd K dX3_increase_8 ?_
  refine v_callVv K [0] (c_X3_set (XI X) (XB X) _ _ _ _ _ _ ) rfl gX3_increase_X3_set rfl rfl hd_X3_set ⟨rfl, rfl⟩ ⟨by decide, by decide⟩ 0 rfl rowF rfl (by decide) (Nat.le_of_ble_eq_true rfl) ⟨Nat.zero_le _, Nat.zero_le _⟩ rfl dX3_increase_9 ?_
  refine v_ret K E dX3_increase_12 ?_ rfl
  exact ⟨rfl, rfl⟩

theorem hd_X3_addAll : yX3_addAll.cls = RX3 ∧ yX3_addAll.cls ≠ "java/lang/invoke/MethodHandle" ∧ yX3_addAll.cls ≠ "java/lang/invoke/VarHandle" ∧ (parseMethodDescriptor yX3_addAll.desc).map (fun d => d.parameters.length) = some 1 := by decide +kernel
set_option maxHeartbeats 4000000 in
set_option maxRecDepth 100000 in
theorem c_X3_addAll (cI cB : ClassId) (r a cap : Nat) (xs : List Int32) (r2 a2 cap2 : Nat) (ys : List Int32)  : Ct cI cB yX3_addAll wsX3_addAll { frames := 1, cells := 0, slots := 0, locals := 21 } [.ref r, .ref r2] [rowM cI r a cap xs, rowM cI r2 a2 cap2 ys] (dn [rowM cI r a cap (aaL cap xs ys), rowM cI r2 a2 cap2 ys]) := by
  refine ct_of (cc := cX3_addAll) (maxL := 3) (ret := none) (by decide) rfl (Nat.le_of_ble_eq_true rfl) [(0, .ref r), (1, .ref r2)] rfl ?_
  intro X hI hB K E
  subst hI
  subst hB
  have iX3 : ∀ w ∈ u_ws RX3 TX3 2, w ∈ wsX3_addAll := by decide +kernel
  have lp : ∀ k, k ≤ ys.length → ∀ (x : Int32) (zs : List Int32), x = nI k → aaL cap zs (ys.drop k) = aaL cap xs ys → V X 0 0 2 [(0, .ref r), (1, .ref r2), (2, .int x)] [] [rowM (XI X) r a cap zs, rowM (XI X) r2 a2 cap2 ys] := by
    refine loop_up ys.length ?_
    intro k hk ih x zs hx hy
    refine v_rowlen 1 rfl (fun hN => ?_)
    refine v_iload_n K dX3_addAll_2 rfl ?_
    refine v_aload_n K dX3_addAll_3 rfl ?_
    refine v_get K 1 rfl rowF rfl iX3 1 (by decide) rfl (by decide +kernel) rfl dX3_addAll_4 ?_
    refine v_ic_ge K 25 dX3_addAll_7 (by decide) (fun c7 => ?_) (fun c7 => ?_)
    · refine v_ret K E dX3_addAll_25 ?_ rfl
      exact ⟨rfl, by rw [← hy, up_end hx hN hk c7, List.drop_length]; rfl⟩
    · refine v_aload_n K dX3_addAll_10 rfl ?_
      refine v_aload_n K dX3_addAll_11 rfl ?_
      refine v_iload_n K dX3_addAll_12 rfl ?_
      refine v_callVi K [1] (c_X3_get (XI X) (XB X) _ _ _ _ _ ) rfl gX3_addAll_X3_get rfl rfl hd_X3_get ⟨rfl, rfl⟩ ⟨by decide, by decide⟩ 1 rfl rowF rfl (by decide) (Nat.le_of_ble_eq_true rfl) ⟨Nat.zero_le _, Nat.zero_le _⟩ rfl dX3_addAll_13 ?_
      refine v_callVv K [0] (c_X3_add (XI X) (XB X) _ _ _ _ _ ) rfl gX3_addAll_X3_add rfl rfl hd_X3_add ⟨rfl, rfl⟩ ⟨by decide, by decide⟩ 0 rfl rowF rfl (by decide) (Nat.le_of_ble_eq_true rfl) ⟨Nat.zero_le _, Nat.zero_le _⟩ rfl dX3_addAll_16 ?_
      refine v_iinc K dX3_addAll_19 rfl (by decide) iinc_1 ?_
      refine v_goto K 2 dX3_addAll_22 (by decide) ?_
      have hlt := up_lt hx hN hk c7
      exact v_j (ih hlt _ _ (by rw [hx]; exact nI_1 k) (by rw [← hy, hx]; exact (aaL_step hlt hN).symm)) rfl rfl rfl
  refine v_iconst K (0) dX3_addAll_0 (by decide) ?_
  refine v_istore_n K dX3_addAll_1 (by decide) ?_
  exact v_j (lp 0 (Nat.zero_le _) 0 xs rfl rfl) rfl rfl rfl

theorem hd_X3_copyFrom : yX3_copyFrom.cls = RX3 ∧ yX3_copyFrom.cls ≠ "java/lang/invoke/MethodHandle" ∧ yX3_copyFrom.cls ≠ "java/lang/invoke/VarHandle" ∧ (parseMethodDescriptor yX3_copyFrom.desc).map (fun d => d.parameters.length) = some 1 := by decide +kernel
set_option maxHeartbeats 4000000 in
set_option maxRecDepth 100000 in
theorem c_X3_copyFrom (cI cB : ClassId) (r a cap : Nat) (xs : List Int32) (r2 a2 cap2 : Nat) (ys : List Int32)  : Ct cI cB yX3_copyFrom wsX3_copyFrom { frames := 2, cells := 0, slots := 0, locals := 43 } [.ref r, .ref r2] [rowM cI r a cap xs, rowM cI r2 a2 cap2 ys] (dn [rowM cI r a cap (aaL cap [] ys), rowM cI r2 a2 cap2 ys]) := by
  refine ct_of (cc := cX3_copyFrom) (maxL := 2) (ret := none) (by decide) rfl (Nat.le_of_ble_eq_true rfl) [(0, .ref r), (1, .ref r2)] rfl ?_
  intro X hI hB K E
  subst hI
  subst hB
  refine v_aload_n K dX3_copyFrom_0 rfl ?_
  refine v_callVv K [0] (c_X3_clear (XI X) (XB X) _ _ _ _ ) rfl gX3_copyFrom_X3_clear rfl rfl hd_X3_clear ⟨rfl, rfl⟩ ⟨by decide, by decide⟩ 0 rfl rowF rfl (by decide) (Nat.le_of_ble_eq_true rfl) ⟨Nat.zero_le _, Nat.zero_le _⟩ rfl dX3_copyFrom_1 ?_
  refine v_aload_n K dX3_copyFrom_4 rfl ?_
  refine v_aload_n K dX3_copyFrom_5 rfl ?_
  refine v_callVv K [0, 1] (c_X3_addAll (XI X) (XB X) _ _ _ _ _ _ _ _ ) rfl gX3_copyFrom_X3_addAll rfl rfl hd_X3_addAll ⟨rfl, rfl⟩ ⟨by decide, by decide⟩ 0 rfl rowF rfl (by decide) (Nat.le_of_ble_eq_true rfl) ⟨Nat.zero_le _, Nat.zero_le _⟩ rfl dX3_copyFrom_6 ?_
  refine v_ret K E dX3_copyFrom_9 ?_ rfl
  exact ⟨rfl, rfl⟩

theorem hd_X3_swap : yX3_swap.cls = RX3 ∧ yX3_swap.cls ≠ "java/lang/invoke/MethodHandle" ∧ yX3_swap.cls ≠ "java/lang/invoke/VarHandle" ∧ (parseMethodDescriptor yX3_swap.desc).map (fun d => d.parameters.length) = some 2 := by decide +kernel
set_option maxHeartbeats 4000000 in
set_option maxRecDepth 100000 in
theorem c_X3_swap (cI cB : ClassId) (r a cap : Nat) (xs : List Int32) (i j : Int32)  : Ct cI cB yX3_swap wsX3_swap { frames := 1, cells := 0, slots := 0, locals := 22 } [.ref r, .int i, .int j] [rowM cI r a cap xs] (dn [rowM cI r a cap (swL xs i j)]) := by
  refine ct_of (cc := cX3_swap) (maxL := 4) (ret := none) (by decide) rfl (Nat.le_of_ble_eq_true rfl) [(0, .ref r), (1, .int i), (2, .int j)] rfl ?_
  intro X hI hB K E
  subst hI
  subst hB
  refine v_aload_n K dX3_swap_0 rfl ?_
  refine v_iload_n K dX3_swap_1 rfl ?_
  refine v_callVi K [0] (c_X3_get (XI X) (XB X) _ _ _ _ _ ) rfl gX3_swap_X3_get rfl rfl hd_X3_get ⟨rfl, rfl⟩ ⟨by decide, by decide⟩ 0 rfl rowF rfl (by decide) (Nat.le_of_ble_eq_true rfl) ⟨Nat.zero_le _, Nat.zero_le _⟩ rfl dX3_swap_2 ?_
  refine v_istore_n K dX3_swap_5 (by decide) ?_
  refine v_aload_n K dX3_swap_6 rfl ?_
  refine v_iload_n K dX3_swap_7 rfl ?_
  refine v_aload_n K dX3_swap_8 rfl ?_
  refine v_iload_n K dX3_swap_9 rfl ?_
  refine v_callVi K [0] (c_X3_get (XI X) (XB X) _ _ _ _ _ ) rfl gX3_swap_X3_get rfl rfl hd_X3_get ⟨rfl, rfl⟩ ⟨by decide, by decide⟩ 0 rfl rowF rfl (by decide) (Nat.le_of_ble_eq_true rfl) ⟨Nat.zero_le _, Nat.zero_le _⟩ rfl dX3_swap_10 ?_
  refine v_callVv K [0] (c_X3_set (XI X) (XB X) _ _ _ _ _ _ ) rfl gX3_swap_X3_set rfl rfl hd_X3_set ⟨rfl, rfl⟩ ⟨by decide, by decide⟩ 0 rfl rowF rfl (by decide) (Nat.le_of_ble_eq_true rfl) ⟨Nat.zero_le _, Nat.zero_le _⟩ rfl dX3_swap_13 ?_
  refine v_aload_n K dX3_swap_16 rfl ?_
  refine v_iload_n K dX3_swap_17 rfl ?_
  refine v_iload_n K dX3_swap_18 rfl ?_
  refine v_callVv K [0] (c_X3_set (XI X) (XB X) _ _ _ _ _ _ ) rfl gX3_swap_X3_set rfl rfl hd_X3_set ⟨rfl, rfl⟩ ⟨by decide, by decide⟩ 0 rfl rowF rfl (by decide) (Nat.le_of_ble_eq_true rfl) ⟨Nat.zero_le _, Nat.zero_le _⟩ rfl dX3_swap_19 ?_
  refine v_ret K E dX3_swap_22 ?_ rfl
  exact ⟨rfl, rfl⟩

theorem hd_X3_move : yX3_move.cls = RX3 ∧ yX3_move.cls ≠ "java/lang/invoke/MethodHandle" ∧ yX3_move.cls ≠ "java/lang/invoke/VarHandle" ∧ (parseMethodDescriptor yX3_move.desc).map (fun d => d.parameters.length) = some 2 := by decide +kernel
set_option maxHeartbeats 4000000 in
set_option maxRecDepth 100000 in
theorem c_X3_move (cI cB : ClassId) (r a cap : Nat) (xs : List Int32) (I J : Nat) (hI : I < 1000000000) (hJJ : J < 1000000000) : Ct cI cB yX3_move wsX3_move { frames := 2, cells := 0, slots := 0, locals := 45 } [.ref r, .int (nI I), .int (nI J)] [rowM cI r a cap xs] (dn [rowM cI r a cap (mvL xs I J)]) := by
  refine ct_of (cc := cX3_move) (maxL := 4) (ret := none) (by decide) rfl (Nat.le_of_ble_eq_true rfl) [(0, .ref r), (1, .int (nI I)), (2, .int (nI J))] rfl ?_
  intro X hI hB K E
  subst hI
  subst hB
  have lp2 : ∀ k, k ≤ I → ∀ (x : Int32) (ys : List Int32), (J ≤ k ∨ I ≤ J) → x = nI k → mvD (k - J) k ys = mvL xs I J → V X 0 0 23 [(0, .ref r), (2, .int (nI J)), (3, .int x)] [] [rowM (XI X) r a cap ys] := by
    refine loop_dn I ?_
    intro k hk ih x ys hJ hx hy
    refine v_iload_n K dX3_move_23 rfl ?_
    refine v_iload_n K dX3_move_24 rfl ?_
    refine v_ic_le K 42 dX3_move_25 (by decide) (fun c25 => ?_) (fun c25 => ?_)
    · refine v_ret K E dX3_move_42 ?_ rfl
      exact ⟨rfl, by rw [← hy, Nat.sub_eq_zero_of_le (dn_end hx hI hJJ hk c25)]; rfl⟩
    · refine v_aload_n K dX3_move_28 rfl ?_
      refine v_iload_n K dX3_move_29 rfl ?_
      refine v_iload_n K dX3_move_30 rfl ?_
      refine v_iconst K (1) dX3_move_31 (by decide) ?_
      refine v_isub K dX3_move_32 ?_
      refine v_callVv K [0] (c_X3_swap (XI X) (XB X) _ _ _ _ _ _ ) rfl gX3_move_X3_swap rfl rfl hd_X3_swap ⟨rfl, rfl⟩ ⟨by decide, by decide⟩ 0 rfl rowF rfl (by decide) (Nat.le_of_ble_eq_true rfl) ⟨Nat.zero_le _, Nat.zero_le _⟩ rfl dX3_move_33 ?_
      refine v_iinc K dX3_move_36 rfl (by decide) iinc_m1 ?_
      refine v_goto K 23 dX3_move_39 (by decide) ?_
      have hlt := dn_lt hx hI hJJ hk c25
      obtain ⟨k, rfl⟩ : ∃ k2, k = k2 + 1 := ⟨k - 1, by omega⟩
      exact v_j (ih k rfl _ _ (by omega) (by rw [hx]; exact dn_1 k) (by rw [← hy, hx, mvD_step hlt, dn_1 k])) rfl rfl rfl
  have lp : ∀ k, k ≤ max I J → ∀ (x : Int32) (ys : List Int32), I ≤ k → x = nI k → mvD (I - J) I (mvU (J - k) k ys) = mvL xs I J → V X 0 0 2 [(0, .ref r), (1, .int (nI I)), (2, .int (nI J)), (3, .int x)] [] [rowM (XI X) r a cap ys] := by
    refine loop_up (max I J) ?_
    intro k hk ih x ys hI2 hx hy
    refine v_iload_n K dX3_move_2 rfl ?_
    refine v_iload_n K dX3_move_3 rfl ?_
    refine v_ic_ge K 21 dX3_move_4 (by decide) (fun c4 => ?_) (fun c4 => ?_)
    · refine v_iload_n K dX3_move_21 rfl ?_
      refine v_istore_n K dX3_move_22 (by decide) ?_
      exact v_j (lp2 I (Nat.le_refl I) (nI I) ys (Nat.le_total J I) rfl (by rw [← hy, Nat.sub_eq_zero_of_le (mv_end hx hI hJJ hk c4)]; rfl)) rfl rfl rfl
    · refine v_aload_n K dX3_move_7 rfl ?_
      refine v_iload_n K dX3_move_8 rfl ?_
      refine v_iload_n K dX3_move_9 rfl ?_
      refine v_iconst K (1) dX3_move_10 (by decide) ?_
      refine v_iadd K dX3_move_11 ?_
      refine v_callVv K [0] (c_X3_swap (XI X) (XB X) _ _ _ _ _ _ ) rfl gX3_move_X3_swap rfl rfl hd_X3_swap ⟨rfl, rfl⟩ ⟨by decide, by decide⟩ 0 rfl rowF rfl (by decide) (Nat.le_of_ble_eq_true rfl) ⟨Nat.zero_le _, Nat.zero_le _⟩ rfl dX3_move_12 ?_
      refine v_iinc K dX3_move_15 rfl (by decide) iinc_1 ?_
      refine v_goto K 2 dX3_move_18 (by decide) ?_
      have hlt := mv_lt hx hI hJJ hk c4
      exact v_j (ih (by omega) _ _ (by omega) (by rw [hx]; exact nI_1 k) (by rw [← hy, hx, mvU_step hlt, nI_1 k])) rfl rfl rfl
  refine v_iload_n K dX3_move_0 rfl ?_
  refine v_istore_n K dX3_move_1 (by decide) ?_
  exact v_j (lp I (Nat.le_max_left I J) (nI I) xs (Nat.le_refl I) rfl rfl) rfl rfl rfl

theorem hd_X3_remove : yX3_remove.cls = RX3 ∧ yX3_remove.cls ≠ "java/lang/invoke/MethodHandle" ∧ yX3_remove.cls ≠ "java/lang/invoke/VarHandle" ∧ (parseMethodDescriptor yX3_remove.desc).map (fun d => d.parameters.length) = some 1 := by decide +kernel
set_option maxHeartbeats 4000000 in
set_option maxRecDepth 100000 in
theorem c_X3_remove (cI cB : ClassId) (r a cap : Nat) (xs : List Int32) (I : Nat) (hI : I < 1000000000) : Ct cI cB yX3_remove wsX3_remove { frames := 3, cells := 0, slots := 0, locals := 68 } [.ref r, .int (nI I)] [rowM cI r a cap xs] (dn [rowM cI r a cap (rmL xs I)]) := by
  refine ct_of (cc := cX3_remove) (maxL := 2) (ret := none) (by decide) rfl (Nat.le_of_ble_eq_true rfl) [(0, .ref r), (1, .int (nI I))] rfl ?_
  intro X hI hB K E
  subst hI
  subst hB
  have iX3 : ∀ w ∈ u_ws RX3 TX3 2, w ∈ wsX3_remove := by decide +kernel
  refine v_rowlen 0 rfl (fun hN => ?_)
  refine v_iload_n K dX3_remove_0 rfl ?_
  refine v_if_lt K 27 dX3_remove_1 (by decide) (fun c1 => ?_) (fun c1 => ?_)
  · exact absurd c1 (nI_pos (by omega))
  · refine v_iload_n K dX3_remove_4 rfl ?_
    refine v_aload_n K dX3_remove_5 rfl ?_
    refine v_get K 0 rfl rowF rfl iX3 1 (by decide) rfl (by decide +kernel) rfl dX3_remove_6 ?_
    refine v_ic_ge K 27 dX3_remove_9 (by decide) (fun c9 => ?_) (fun c9 => ?_)
    · refine v_ret K E dX3_remove_27 ?_ rfl
      exact ⟨rfl, by rw [rmL_out hI hN c9]⟩
    · refine v_aload_n K dX3_remove_12 rfl ?_
      refine v_iload_n K dX3_remove_13 rfl ?_
      refine v_aload_n K dX3_remove_14 rfl ?_
      refine v_get K 0 rfl rowF rfl iX3 1 (by decide) rfl (by decide +kernel) rfl dX3_remove_15 ?_
      refine v_iconst K (1) dX3_remove_18 (by decide) ?_
      refine v_isub K dX3_remove_19 ?_
      have hlt := rm_lt hI hN c9
      rw [sub1 (by omega : 1 ≤ xs.length)]
      refine v_callVv K [0] (c_X3_move (XI X) (XB X) _ _ _ _ _ _ ?hc20_0 ?hc20_1) rfl gX3_remove_X3_move rfl rfl hd_X3_move ⟨rfl, rfl⟩ ⟨by decide, by decide⟩ 0 rfl rowF rfl (by decide) (Nat.le_of_ble_eq_true rfl) ⟨Nat.zero_le _, Nat.zero_le _⟩ rfl dX3_remove_20 ?_
      case hc20_0 => exact hI
      case hc20_1 => omega
      refine v_aload_n K dX3_remove_23 rfl ?_
      refine v_callVv K [0] (c_X3_dropLast (XI X) (XB X) _ _ _ _ ) rfl gX3_remove_X3_dropLast rfl rfl hd_X3_dropLast ⟨rfl, rfl⟩ ⟨by decide, by decide⟩ 0 rfl rowF rfl (by decide) (Nat.le_of_ble_eq_true rfl) ⟨Nat.zero_le _, Nat.zero_le _⟩ rfl dX3_remove_24 ?_
      refine v_ret K E dX3_remove_27 ?_ rfl
      exact ⟨rfl, by rw [rmL_in hlt] <;> rfl⟩
end
section
/-! modules made of modules -/
def jnP : List Md → va_W → Prop
  | [], ws => ws = []
  | M :: Ms, ws => ∃ w1 w2 : va_W, M.2 w1 ∧ w1.map (fun q => q.1) = M.1 ∧ jnP Ms w2 ∧ ws = w1 ++ w2
def jn (Ms : List Md) : Md := (adr Ms, jnP Ms)
theorem va_P_l {D : va_G} {w1 w2 : va_W} {H : Heap} (h : va_P D vwCl (w1 ++ w2) H) : va_P D vwCl w1 H := fun k q hk => h k q (by rw [List.getElem?_append_left (List.getElem?_eq_some_iff.mp hk).1]; exact hk)
theorem va_P_r {D : va_G} {w1 w2 : va_W} {H : Heap} (h : va_P D vwCl (w1 ++ w2) H) : va_P D vwCl w2 H := fun k q hk => h (w1.length + k) q (by rw [List.getElem?_append_right (by omega), Nat.add_sub_cancel_left]; exact hk)
theorem jnP_adr : ∀ (Ms : List Md) (ws : va_W), jnP Ms ws → ws.map (fun q => q.1) = adr Ms
  | [], ws, h => by rw [show ws = [] from h]; rfl
  | M :: Ms, ws, h => by
    obtain ⟨w1, w2, h1, h2, h3, rfl⟩ := h
    rw [List.map_append, h2, jnP_adr Ms w2 h3]; rfl
theorem jnP_wd {D : va_G} {H : Heap} : ∀ (Ms : List Md) (ws : va_W), jnP Ms ws → va_P D vwCl ws H → wd D Ms H
  | [], ws, h, hP => fun M hM => by cases hM
  | M :: Ms, ws, h, hP => by
    obtain ⟨w1, w2, h1, h2, h3, rfl⟩ := h
    intro N hN
    rcases List.mem_cons.mp hN with rfl | hN
    · exact ⟨w1, h1, h2, va_P_l hP⟩
    · exact jnP_wd Ms w2 h3 (va_P_r hP) N hN
theorem wd_jnP {D : va_G} {H : Heap} : ∀ (Ms : List Md), wd D Ms H → ∃ ws, jnP Ms ws ∧ va_P D vwCl ws H
  | [], _ => ⟨[], rfl, fun k q hk => by simp at hk⟩
  | M :: Ms, h => by
    obtain ⟨w1, h1, h2, h3⟩ := h M List.mem_cons_self
    obtain ⟨w2, h4, h5⟩ := wd_jnP Ms (fun N hN => h N (List.mem_cons_of_mem _ hN))
    exact ⟨w1 ++ w2, ⟨w1, w2, h1, h2, h4, rfl⟩, h3.app h5⟩
theorem mAt_jn {D : va_G} {Ms : List Md} {H : Heap} : mAt D (jn Ms) H ↔ wd D Ms H := by
  constructor
  · rintro ⟨ws, h, -, hP⟩
    exact jnP_wd Ms ws h hP
  · intro h
    obtain ⟨ws, h1, h2⟩ := wd_jnP Ms h
    exact ⟨ws, h1, jnP_adr Ms ws h1, h2⟩
def exM {α : Type} (as : List Nat) (φ : α → Prop) (F : α → Md) : Md := (as, fun ws => ∃ x, φ x ∧ (F x).2 ws)
theorem mAt_ex {α : Type} {as : List Nat} {φ : α → Prop} {F : α → Md} {D : va_G} {H : Heap} (ha : ∀ x, (F x).1 = as) : mAt D (exM as φ F) H ↔ ∃ x, φ x ∧ mAt D (F x) H := by
  constructor
  · rintro ⟨ws, ⟨x, h1, h2⟩, h3, h4⟩
    exact ⟨x, h1, ws, h2, h3.trans (ha x).symm, h4⟩
  · rintro ⟨x, h1, ws, h2, h3, h4⟩
    exact ⟨ws, ⟨x, h1, h2⟩, h3.trans (ha x), h4⟩
theorem hasF_jn {Ms : List Md} {M : Md} {i a ci : Nat} {fs : List Value} (hi : Ms[i]? = some M) (h : hasF M a ci fs) : hasF (jn Ms) a ci fs := by
  intro ws hw
  have hw : jnP Ms ws := hw
  induction Ms generalizing i ws with
  | nil => simp at hi
  | cons M0 Ms ih =>
    obtain ⟨w1, w2, h1, h2, h3, rfl⟩ := hw
    cases i with
    | zero =>
      rw [List.getElem?_cons_zero] at hi
      cases hi
      obtain ⟨k, hk⟩ := h w1 h1
      exact ⟨k, by rw [List.getElem?_append_left (List.getElem?_eq_some_iff.mp hk).1]; exact hk⟩
    | succ i =>
      rw [List.getElem?_cons_succ] at hi
      obtain ⟨k, hk⟩ := ih hi w2 h3 h3
      exact ⟨w1.length + k, by rw [List.getElem?_append_right (by omega), Nat.add_sub_cancel_left]; exact hk⟩
theorem hasF_ex {α : Type} {as : List Nat} {φ : α → Prop} {F : α → Md} {a ci : Nat} {fs : List Value} (h : ∀ x, hasF (F x) a ci fs) : hasF (exM as φ F) a ci fs := fun ws hw => by
  obtain ⟨x, -, h2⟩ := hw
  exact h x ws h2
theorem adr_app (A B : List Md) : adr (A ++ B) = adr A ++ adr B := by unfold adr; rw [List.flatMap_append]
theorem split_at {Ms : List Md} {i : Nat} {M : Md} (hi : Ms[i]? = some M) : Ms.take i ++ M :: Ms.drop (i + 1) = Ms := by
  have hl := (List.getElem?_eq_some_iff.mp hi)
  obtain ⟨h1, h2⟩ := hl
  rw [← h2, ← List.drop_eq_getElem_cons h1, List.take_append_drop]
section SPLICE
variable {X : Cx} {k1 k2 pc : Nat} {lv : List (Nat × Value)} {st : List Value} {Ms : List Md}
theorem v_open {M : Md} {α : Type} {φ : α → Prop} {F : α → List Md} (i : Nat) (hi : Ms[i]? = some M) (h : ∀ H, mAt (XD X) M H → ∃ x, φ x ∧ wd (XD X) (F x) H) (ha : ∀ x, adr (F x) = M.1) (kk : ∀ x, φ x → V X k1 k2 pc lv st (Ms.take i ++ (F x ++ Ms.drop (i + 1)))) : V X k1 k2 pc lv st Ms := by
  intro H locs ls w n a s hl
  obtain ⟨x, h1, h2⟩ := h H (w M (List.mem_of_getElem? hi))
  have hadr : adr (Ms.take i ++ (F x ++ Ms.drop (i + 1))) = adr Ms := by
    conv => rhs; rw [← split_at hi]
    rw [adr_app, adr_app, adr_app, ha x]; rfl
  refine kk x h1 H locs ls (fun N hN => ?_) (by rw [hadr]; exact n) (by rw [hadr]; exact a) s hl
  rcases List.mem_append.mp hN with hN | hN
  · exact w N (List.mem_of_mem_take hN)
  · rcases List.mem_append.mp hN with hN | hN
    · exact h2 N hN
    · exact w N (List.mem_of_mem_drop hN)
theorem v_close {M : Md} {Ns T : List Md} (i : Nat) (hs : Ms.drop i = Ns ++ T) (h : ∀ H, wd (XD X) Ns H → mAt (XD X) M H) (ha : M.1 = adr Ns) (kk : V X k1 k2 pc lv st (Ms.take i ++ (M :: T))) : V X k1 k2 pc lv st Ms := by
  intro H locs ls w n a s hl
  have hadr : adr (Ms.take i ++ (M :: T)) = adr Ms := by
    conv => rhs; rw [← List.take_append_drop i Ms, hs]
    rw [adr_app, adr_app, adr_app, ← ha]; rfl
  have hin : ∀ N ∈ Ns ++ T, mAt (XD X) N H := fun N hN => w N (List.mem_of_mem_drop (by rw [hs]; exact hN))
  refine kk H locs ls (fun N hN => ?_) (by rw [hadr]; exact n) (by rw [hadr]; exact a) s hl
  rcases List.mem_append.mp hN with hN | hN
  · exact w N (List.mem_of_mem_take hN)
  · rcases List.mem_cons.mp hN with rfl | hN
    · exact h H (fun K hK => hin K (List.mem_append_left _ hK))
    · exact hin N (List.mem_append_right _ hN)
end SPLICE
/-! rows of rows -/
def lens (L : List (List Int32)) : List Int32 := L.map (fun x => nI x.length)
theorem lens_len (L : List (List Int32)) : (lens L).length = L.length := List.length_map _
def rl (most w : Nat) (L : List (List Int32)) (C : List Int32) : Prop := (most < 1000000000 ∧ w < 1000000000 ∧ most * w < 1000000000) ∧ C.length = most * w ∧ L.length ≤ most ∧ ∀ i x, L[i]? = some x → x.length ≤ w ∧ ∀ j, j < x.length → C.getD (i * w + j) 0 = x.getD j 0
def rowsM (cI : ClassId) (rs c ca l la most w : Nat) (L : List (List Int32)) : Md := exM [rs, c, ca, l, la] (fun C => rl most w L C) (fun C => jn [cM rs (.inr (4, [.int (nI w), .ref c, .ref l])), rowM cI c ca (most * w) C, rowM cI l la most (lens L)])
theorem rowsF {cI : ClassId} {rs c ca l la most w : Nat} {L : List (List Int32)} : hasF (rowsM cI rs c ca l la most w L) rs 4 [.int (nI w), .ref c, .ref l] := hasF_ex fun C => hasF_jn (i := 0) rfl hasF_c
theorem rows_at {D : va_G} {cI : ClassId} {rs c ca l la most w : Nat} {L : List (List Int32)} {H : Heap} : mAt D (rowsM cI rs c ca l la most w L) H ↔ ∃ C, rl most w L C ∧ wd D [cM rs (.inr (4, [.int (nI w), .ref c, .ref l])), rowM cI c ca (most * w) C, rowM cI l la most (lens L)] H := by
  refine Iff.trans (mAt_ex (as := [rs, c, ca, l, la]) (fun _ => rfl)) ?_
  exact exists_congr fun C => and_congr_right fun _ => mAt_jn
section ROWS
variable {X : Cx} {k1 k2 pc : Nat} {lv : List (Nat × Value)} {st : List Value} {Ms : List Md}
theorem v_orows (i : Nat) {rs c ca l la most w : Nat} {L : List (List Int32)} (hi : Ms[i]? = some (rowsM (XI X) rs c ca l la most w L)) (kk : ∀ C, rl most w L C → V X k1 k2 pc lv st (Ms.take i ++ ([cM rs (.inr (4, [.int (nI w), .ref c, .ref l])), rowM (XI X) c ca (most * w) C, rowM (XI X) l la most (lens L)] ++ Ms.drop (i + 1)))) : V X k1 k2 pc lv st Ms :=
  v_open (F := fun C => [cM rs (.inr (4, [.int (nI w), .ref c, .ref l])), rowM (XI X) c ca (most * w) C, rowM (XI X) l la most (lens L)]) (φ := fun C => rl most w L C) i hi (fun H h => rows_at.mp h) (fun _ => rfl) kk
theorem v_crows (i : Nat) {rs c ca l la most w mw : Nat} (L : List (List Int32)) {C N : List Int32} {T : List Md} (hs : Ms.drop i = [cM rs (.inr (4, [.int (nI w), .ref c, .ref l])), rowM (XI X) c ca mw C, rowM (XI X) l la most N] ++ T) (hw : mw = most * w) (hC : rl most w L C) (hN : N = lens L) (kk : V X k1 k2 pc lv st (Ms.take i ++ (rowsM (XI X) rs c ca l la most w L :: T))) : V X k1 k2 pc lv st Ms := by
  subst hN; subst hw
  exact v_close (M := rowsM (XI X) rs c ca l la most w L) i hs (fun H h => rows_at.mpr ⟨C, hC, h⟩) rfl kk
end ROWS
def ln (L : List (List Int32)) (i : Int32) : List Int32 := if i < 0 then [] else L.getD i.toNatClampNeg []
def gg (L : List (List Int32)) (i j : Int32) : Int32 := gt (ln L i) j
def hasL (L : List (List Int32)) (i : Int32) : Bool := decide (¬ i < 0 ∧ i.toNatClampNeg < L.length)
theorem rl_N {most w : Nat} {L : List (List Int32)} {C : List Int32} (h : rl most w L C) : L.length < 1000000000 := by
  obtain ⟨⟨h1, -, -⟩, -, h2, -⟩ := h
  omega
theorem has_neg {L : List (List Int32)} {i : Int32} (h : i < 0) : bI (hasL L i) = 0 := by
  unfold hasL
  rw [decide_eq_false (fun z => z.1 h)]; rfl
theorem has_out {L : List (List Int32)} {i : Int32} (hN : L.length < 1000000000) (h : nI (lens L).length ≤ i) : bI (hasL L i) = 0 := by
  rw [lens_len, i_le, i_n (by omega)] at h
  unfold hasL
  rw [decide_eq_false (fun z => by have := z.2; rw [i_cl] at this; omega)]; rfl
theorem has_in {L : List (List Int32)} {i : Int32} (hN : L.length < 1000000000) (h0 : ¬ i < 0) (h : ¬ nI (lens L).length ≤ i) : bI (hasL L i) = 1 := by
  rw [lens_len, i_le, i_n (by omega)] at h
  have h0' := h0
  rw [i_lt, i_0] at h0'
  unfold hasL
  rw [decide_eq_true ⟨h0, by rw [i_cl]; omega⟩]; rfl
theorem hasL_of {L : List (List Int32)} {i : Int32} (hN : L.length < 1000000000) (h : hasL L i = true) : ∃ k, k < L.length ∧ i = nI k := by
  have h := of_decide_eq_true h
  refine ⟨i.toNatClampNeg, h.2, ?_⟩
  rw [i_eq, i_n (by omega), i_cl]
  have h0 := h.1
  rw [i_lt, i_0] at h0
  omega
theorem hasL_n {L : List (List Int32)} {k : Nat} (hk : k < 1000000000) : hasL L (nI k) = decide (k < L.length) := by
  unfold hasL
  have h1 : ¬ nI k < 0 := nI_pos (by omega)
  rw [nI_clamp (by omega)]
  by_cases h : k < L.length
  · rw [decide_eq_true ⟨h1, h⟩, decide_eq_true h]
  · rw [decide_eq_false (fun z => h z.2), decide_eq_false h]
theorem ln_n {L : List (List Int32)} {k : Nat} (hk : k < 1000000000) : ln L (nI k) = L.getD k [] := by
  unfold ln
  rw [if_neg (nI_pos (by omega)), nI_clamp (by omega)]
theorem gt_lens {L : List (List Int32)} (hN : L.length < 1000000000) (i : Int32) : (∃ k, k < L.length ∧ i = nI k ∧ gt (lens L) i = nI (L.getD k []).length ∧ ln L i = L.getD k []) ∨ (hasL L i = false ∧ gt (lens L) i = -5 ∧ ln L i = []) := by
  by_cases h : hasL L i = true
  · obtain ⟨k, h1, h2⟩ := hasL_of hN h
    refine Or.inl ⟨k, h1, h2, ?_, by rw [h2, ln_n (by omega)]⟩
    rw [h2, gt_n (by omega), gd_in (by rw [lens_len]; exact h1), gd_in h1]
    simp [lens]
  · have h : hasL L i = false := by simpa using h
    have h2 := of_decide_eq_false h
    refine Or.inr ⟨h, ?_, ?_⟩
    · unfold gt
      by_cases h0 : i < 0
      · rw [if_pos h0]
      · rw [if_neg h0]
        exact gd_out (by rw [lens_len]; exact Nat.not_lt.mp fun z => h2 ⟨h0, z⟩)
    · unfold ln
      by_cases h0 : i < 0
      · rw [if_pos h0]
      · rw [if_neg h0]
        exact gd_out (Nat.not_lt.mp fun z => h2 ⟨h0, z⟩)
theorem gg_neg {L : List (List Int32)} {i j : Int32} (h : j < 0) : gg L i j = -5 := gt_neg h
theorem gt_outN {xs : List Int32} {j : Int32} (hN : xs.length < 1000000000) (h : nI xs.length ≤ j) : gt xs j = -5 := gt_out (cap := xs.length) (f := fun k => xs.getD k 0) ⟨Nat.le_refl _, hN, fun _ _ => rfl⟩ h
theorem rl_len {most w : Nat} {L : List (List Int32)} {C : List Int32} (h : rl most w L C) {k : Nat} : (L.getD k []).length ≤ w := by
  by_cases hk : k < L.length
  · rw [gd_in hk]
    exact (h.2.2.2 k _ (List.getElem?_eq_getElem hk)).1
  · rw [gd_out (by omega)]; exact Nat.zero_le _
theorem gg_out {most w : Nat} {L : List (List Int32)} {C : List Int32} (hC : rl most w L C) {i j : Int32} (h : gt (lens L) i ≤ j) : gg L i j = -5 := by
  unfold gg
  rcases gt_lens (rl_N hC) i with ⟨k, h1, h2, h3, h4⟩ | ⟨-, h3, h4⟩
  · rw [h4]
    rw [h3] at h
    exact gt_outN (Nat.lt_of_le_of_lt (rl_len hC) hC.1.2.1) h
  · rw [h4]
    unfold gt
    split
    · rfl
    · rfl
theorem rl_at {most w : Nat} {L : List (List Int32)} {C : List Int32} (hC : rl most w L C) {k j : Nat} (hk : k < L.length) (hj : j < (L.getD k []).length) : k * w + j < most * w ∧ C.getD (k * w + j) 0 = (L.getD k []).getD j 0 := by
  have h := hC.2.2.2 k _ (List.getElem?_eq_getElem hk)
  rw [gd_in hk] at hj ⊢
  refine ⟨?_, h.2 j hj⟩
  have h1 := hC.2.2.1
  have h2 : (k + 1) * w ≤ most * w := Nat.mul_le_mul_right w (by omega)
  rw [Nat.add_mul, Nat.one_mul] at h2
  have := h.1
  omega
theorem ix_n {k w j : Nat} : nI k * nI w + nI j = nI (k * w + j) := by rw [pk_mul, nI_add]
theorem gg_in {most w : Nat} {L : List (List Int32)} {C : List Int32} (hC : rl most w L C) {i j : Int32} (h0 : ¬ j < 0) (h : ¬ gt (lens L) i ≤ j) : gt C (i * nI w + j) = gg L i j := by
  unfold gg
  rcases gt_lens (rl_N hC) i with ⟨k, h1, h2, h3, h4⟩ | ⟨-, h3, h4⟩
  · rw [h4]
    rw [h3] at h
    have hl : (L.getD k []).length < 1000000000 := Nat.lt_of_le_of_lt (rl_len hC) hC.1.2.1
    obtain ⟨m, hm, rfl⟩ := nI_of h0
    rw [nI_leI (by omega) (by omega)] at h
    have hm2 : m < (L.getD k []).length := by omega
    obtain ⟨e1, e2⟩ := rl_at hC h1 hm2
    have hb := hC.1.2.2
    have hlen := hC.2.1
    rw [h2, ix_n, gt_n (by omega), gt_n (by omega), gd_in hm2, gd_in (by omega)]
    rw [gd_in (by omega), gd_in hm2] at e2
    exact e2
  · rw [h3] at h
    have h5 : (-5 : Int32).toInt = -5 := by decide
    rw [i_lt, i_0] at h0
    rw [i_le, h5] at h
    omega
end
section
def fdo (x : List Int32) : List (List Int32) → Nat → Option Nat
  | [], _ => none
  | y :: L, k => if y = x then some k else fdo x L (k + 1)
def opI : Option Nat → Int32
  | none => -5
  | some k => nI k
def cnt (x : List Int32) (L : List (List Int32)) : Nat := (L.filter (fun y => decide (y = x))).length
def sumL (L : List (List Int32)) : Nat := (L.map (fun y => y.length)).sum
def adLn (most w : Nat) (L : List (List Int32)) (xs : List Int32) : List (List Int32) := if L.length < most then L ++ [xs.take w] else L
def ptL (w : Nat) (L : List (List Int32)) (i : Int32) (xs : List Int32) : List (List Int32) := if hasL L i = true then L.set i.toNatClampNeg (xs.take w) else L
def poL (L : List (List Int32)) (i v : Int32) : List (List Int32) := if hasL L i = true then L.set i.toNatClampNeg [v] else L
def swG {α : Type} (d : α) (L : List α) (i j : Nat) : List α := (L.set i (L.getD j d)).set j (L.getD i d)
def mvUG {α : Type} (d : α) : Nat → Nat → List α → List α
  | 0, _, L => L
  | n + 1, k, L => mvUG d n (k + 1) (swG d L k (k + 1))
def mvDG {α : Type} (d : α) : Nat → Nat → List α → List α
  | 0, _, L => L
  | n + 1, k, L => mvDG d n (k - 1) (swG d L k (k - 1))
def mvG {α : Type} (d : α) (L : List α) (I J : Nat) : List α := mvDG d (I - J) I (mvUG d (J - I) I L)
def rmG {α : Type} (d : α) (L : List α) (I : Nat) : List α := (mvG d L I (L.length - 1)).dropLast
theorem swG_len {α : Type} {d : α} {L : List α} {i j : Nat} : (swG d L i j).length = L.length := by unfold swG; rw [List.length_set, List.length_set]
theorem mvUG_step {α : Type} {d : α} {J k : Nat} {ys : List α} (h : k < J) : mvUG d (J - k) k ys = mvUG d (J - (k + 1)) (k + 1) (swG d ys k (k + 1)) := by
  rw [show J - k = (J - (k + 1)) + 1 by omega]; rfl
theorem mvDG_step {α : Type} {d : α} {J k : Nat} {ys : List α} (h : J < k + 1) : mvDG d (k + 1 - J) (k + 1) ys = mvDG d (k - J) k (swG d ys (k + 1) k) := by
  rw [show k + 1 - J = (k - J) + 1 by omega]; rfl
theorem v_rowsrl {X : Cx} {k1 k2 pc : Nat} {lv : List (Nat × Value)} {st : List Value} {Ms : List Md} {cI : ClassId} {rs c ca l la most w : Nat} {L : List (List Int32)} (i : Nat) (hi : Ms[i]? = some (rowsM cI rs c ca l la most w L)) (kk : (∃ C, rl most w L C) → V X k1 k2 pc lv st Ms) : V X k1 k2 pc lv st Ms := fun H locs ls ww n a s h => by
  obtain ⟨C, hC, -⟩ := rows_at.mp (ww _ (List.mem_of_getElem? hi))
  exact kk ⟨C, hC⟩ H locs ls ww n a s h
theorem bI_0 {b : Bool} (h : bI b = 0) : b = false := by cases b; rfl; exact absurd h (by decide)
theorem bI_1 {b : Bool} (h : ¬ bI b = 0) : b = true := by cases b; exact absurd rfl h; rfl
theorem gl_n {L : List (List Int32)} {k : Nat} (hk : k < L.length) (hN : L.length < 1000000000) : gt (lens L) (nI k) = nI (L.getD k []).length := by
  rw [gt_n (by omega), gd_in (by rw [lens_len]; exact hk), gd_in hk]
  simp [lens]
theorem gg_n {L : List (List Int32)} {k j : Nat} (hk : k < L.length) (hN : L.length < 1000000000) (hj : j < 1000000000) : gg L (nI k) (nI j) = (L.getD k []).getD j (-5) := by
  unfold gg
  rw [ln_n (by omega), gt_n (by omega)]
theorem like_0 {x y : List Int32} (hx : x.length < 1000000000) (hy : y.length < 1000000000) (c : ¬ nI x.length = nI y.length) : bI (decide (x = y)) = 0 := by
  rw [decide_eq_false (fun z => c (by rw [z]))]; rfl
theorem like_len {x y : List Int32} (hx : x.length < 1000000000) (hy : y.length < 1000000000) (c : nI x.length = nI y.length) : x.length = y.length := (nI_eq (by omega) (by omega)).mp c
theorem like_ne {x y : List Int32} {k : Nat} (h : ¬ x.getD k (-5) = y.getD k (-5)) : bI (decide (x = y)) = 0 := by
  rw [decide_eq_false (fun z => h (by rw [z]))]; rfl
theorem like_1 {x y : List Int32} (hl : x.length = y.length) (h : ∀ j, j < y.length → x.getD j (-5) = y.getD j (-5)) : bI (decide (x = y)) = 1 := by
  have : x = y := List.ext_getElem hl fun j h1 h2 => by
    have := h j h2
    rw [gd_in h1, gd_in h2] at this
    exact this
  rw [decide_eq_true this]; rfl
theorem fdo_hit {x : List Int32} {L : List (List Int32)} {k : Nat} (hk : k < L.length) (h : L.getD k [] = x) : fdo x (L.drop k) k = some k := by
  rw [gd_in hk] at h
  rw [List.drop_eq_getElem_cons hk]
  exact if_pos h
theorem fdo_step {x : List Int32} {L : List (List Int32)} {k : Nat} (hk : k < L.length) (h : ¬ L.getD k [] = x) : fdo x (L.drop k) k = fdo x (L.drop (k + 1)) (k + 1) := by
  rw [gd_in hk] at h
  rw [List.drop_eq_getElem_cons hk]
  exact if_neg h
theorem cnt_hit {x : List Int32} {L : List (List Int32)} {k : Nat} (hk : k < L.length) (h : L.getD k [] = x) : cnt x (L.drop k) = cnt x (L.drop (k + 1)) + 1 := by
  rw [gd_in hk] at h
  rw [List.drop_eq_getElem_cons hk]
  unfold cnt
  rw [List.filter_cons_of_pos (by simpa using h), List.length_cons]
theorem cnt_step {x : List Int32} {L : List (List Int32)} {k : Nat} (hk : k < L.length) (h : ¬ L.getD k [] = x) : cnt x (L.drop k) = cnt x (L.drop (k + 1)) := by
  rw [gd_in hk] at h
  rw [List.drop_eq_getElem_cons hk]
  unfold cnt
  rw [List.filter_cons_of_neg (by simpa using h)]
theorem sumL_step {L : List (List Int32)} {k : Nat} (hk : k < L.length) : sumL (L.drop k) = (L.getD k []).length + sumL (L.drop (k + 1)) := by
  rw [gd_in hk, List.drop_eq_getElem_cons hk]
  unfold sumL
  rw [List.map_cons, List.sum_cons]
theorem lens_add {most : Nat} {L : List (List Int32)} (h : L.length < most) : adL most (lens L) 0 = lens (L ++ [[]]) := by
  unfold adL
  rw [lens_len, if_pos h]
  simp [lens]
  rfl
theorem rl_add {most w : Nat} {L : List (List Int32)} {C : List Int32} (hC : rl most w L C) (h : L.length < most) : rl most w (L ++ [[]]) C := by
  refine ⟨hC.1, hC.2.1, by rw [List.length_append, List.length_singleton]; omega, fun i x hi => ?_⟩
  by_cases hl : i < L.length
  · rw [List.getElem?_append_left hl] at hi
    exact hC.2.2.2 i x hi
  · have h3 := (List.getElem?_eq_some_iff.mp hi).1
    rw [List.length_append, List.length_singleton] at h3
    rw [List.getElem?_append_right (by omega), show i - L.length = 0 by omega] at hi
    cases hi
    exact ⟨Nat.zero_le _, fun j hj => absurd hj (Nat.not_lt_zero j)⟩
theorem lens_set {L : List (List Int32)} {k : Nat} {x : List Int32} (hk : k < 1000000000) : stL (lens L) (nI k) (nI x.length) = lens (L.set k x) := by
  unfold stL
  rw [if_neg (nI_pos (by omega)), nI_clamp (by omega)]
  unfold lens
  rw [List.map_set]
/-- line I is written to its first k numbers -/
def prl (most w I k : Nat) (xs C0 C : List Int32) : Prop := C.length = most * w ∧ (∀ p, (p < I * w ∨ I * w + k ≤ p) → C.getD p 0 = C0.getD p 0) ∧ ∀ j, j < k → C.getD (I * w + j) 0 = xs.getD j 0
theorem st_n {xs : List Int32} {k : Nat} (hk : k < 1000000000) (v : Int32) : stL xs (nI k) v = xs.set k v := by
  unfold stL
  rw [if_neg (nI_pos (by omega)), nI_clamp (by omega)]
theorem gd_set {C : List Int32} {p q : Nat} {v : Int32} (hp : p < C.length) : (C.set p v).getD q 0 = if q = p then v else C.getD q 0 := by
  by_cases h : q = p
  · subst h
    rw [if_pos rfl, gd_in (by rw [List.length_set]; exact hp), List.getElem_set_self]
  · rw [if_neg h, List.getD_eq_getElem?_getD, List.getD_eq_getElem?_getD, List.getElem?_set_ne (fun z => h z.symm)]
theorem prl_step {most w I k : Nat} {xs C0 C : List Int32} (h : prl most w I k xs C0 C) (hk : k < xs.length) (hI : I * w + k < most * w) : prl most w I (k + 1) xs C0 (C.set (I * w + k) (xs.getD k (-5))) := by
  obtain ⟨h1, h2, h3⟩ := h
  refine ⟨by rw [List.length_set]; exact h1, fun p hp => ?_, fun j hj => ?_⟩
  · rw [gd_set (by omega), if_neg (by omega)]
    exact h2 p (by omega)
  · rw [gd_set (by omega)]
    by_cases e : j = k
    · rw [if_pos (by omega), e, gd_in hk, gd_in hk]
    · rw [if_neg (by omega)]
      exact h3 j (by omega)
theorem prl_0 {most w I : Nat} {xs C0 : List Int32} (h : C0.length = most * w) : prl most w I 0 xs C0 C0 := ⟨h, fun _ _ => rfl, fun j hj => absurd hj (Nat.not_lt_zero j)⟩
theorem prl_end {most w I : Nat} {xs : List Int32} {L : List (List Int32)} {C0 C : List Int32} (hC : rl most w L C0) (h : prl most w I (min xs.length w) xs C0 C) : rl most w (L.set I (xs.take w)) C := by
  obtain ⟨h1, h2, h3⟩ := h
  refine ⟨hC.1, h1, by rw [List.length_set]; exact hC.2.2.1, fun i x hi => ?_⟩
  by_cases e : I = i
  · subst e
    have hl : I < L.length := by
      have := (List.getElem?_eq_some_iff.mp hi).1
      rwa [List.length_set] at this
    rw [List.getElem?_set_self hl] at hi
    cases hi
    refine ⟨by rw [List.length_take]; omega, fun j hj => ?_⟩
    rw [List.length_take] at hj
    rw [h3 j (by omega), gd_in (by omega), gd_in (by rw [List.length_take]; exact hj), List.getElem_take]
  · rw [List.getElem?_set_ne e] at hi
    obtain ⟨g1, g2⟩ := hC.2.2.2 i x hi
    refine ⟨g1, fun j hj => ?_⟩
    rw [h2 _ ?_]
    · exact g2 j hj
    · rcases Nat.lt_or_ge i I with q | q
      · left
        have : (i + 1) * w ≤ I * w := Nat.mul_le_mul_right w (by omega)
        rw [Nat.add_mul, Nat.one_mul] at this
        omega
      · right
        have : (I + 1) * w ≤ i * w := Nat.mul_le_mul_right w (by omega)
        rw [Nat.add_mul, Nat.one_mul] at this
        omega
theorem min_nI {a b : Nat} (ha : a < 1000000000) (hb : b < 1000000000) : (if nI b < nI a then nI b else nI a) = nI (min a b) := by
  by_cases h : b < a
  · rw [if_pos (nI_lt h (by omega)), Nat.min_eq_right (by omega)]
  · rw [if_neg (nI_nlt (by omega) (by omega)), Nat.min_eq_left (by omega)]
theorem mul_lt {I most w k : Nat} (hI : I < most) (hk : k < w) : I * w + k < most * w := by
  have : (I + 1) * w ≤ most * w := Nat.mul_le_mul_right w (by omega)
  rw [Nat.add_mul, Nat.one_mul] at this
  omega
theorem rl_one {most w I : Nat} {L : List (List Int32)} {C : List Int32} (hC : rl most w L C) (hI : I < L.length) (hw : 0 < w) (v : Int32) : rl most w (L.set I [v]) (C.set (I * w) v) := by
  have h0 := prl_step (prl_0 (I := I) (xs := [v]) hC.2.1) (show 0 < [v].length from Nat.one_pos) (mul_lt (Nat.lt_of_lt_of_le hI hC.2.2.1) hw)
  have := prl_end (xs := [v]) (I := I) hC (by rw [show min [v].length w = 0 + 1 by simp; omega]; exact h0)
  rw [List.take_of_length_le (by simp; omega)] at this
  exact this
theorem rl_nil {most w : Nat} {L : List (List Int32)} {C : List Int32} (hC : rl most w L C) : rl most w [] C := ⟨hC.1, hC.2.1, Nat.zero_le _, fun i x h => by simp at h⟩
theorem rl_drop {most w : Nat} {L : List (List Int32)} {C : List Int32} (hC : rl most w L C) : rl most w L.dropLast C := ⟨hC.1, hC.2.1, by rw [List.length_dropLast]; have := hC.2.2.1; omega, fun i x h => hC.2.2.2 i x (by
  rw [List.getElem?_dropLast] at h
  split at h
  · exact h
  · cases h)⟩
theorem lens_drop (L : List (List Int32)) : (lens L).dropLast = lens L.dropLast := by unfold lens; rw [List.map_dropLast]
theorem ad_all {cap : Nat} : ∀ (ys xs : List Int32), aaL cap xs ys = xs ++ ys.take (cap - xs.length)
  | [], xs => by simp [aaL]
  | y :: ys, xs => by
    show aaL cap (adL cap xs y) ys = _
    rw [ad_all ys]
    unfold adL
    by_cases h : xs.length < cap
    · rw [if_pos h, List.length_append, List.length_singleton, show cap - xs.length = (cap - (xs.length + 1)) + 1 by omega, List.take_succ_cons, List.append_assoc]; rfl
    · rw [if_neg h, show cap - xs.length = 0 by omega]; simp
theorem lens_take {most : Nat} (L : List (List Int32)) : aaL most [] (lens L) = lens (L.take most) := by
  rw [ad_all]
  simp [lens, List.map_take]
/-- the first k numbers of another row -/
theorem rl_copy {most w most2 : Nat} {L2 : List (List Int32)} {C0 C C2 : List Int32} {L : List (List Int32)} (hC : rl most w L C0) (h2 : rl most2 w L2 C2) (hl : C.length = most * w) (h : ∀ p, p < (L2.take most).length * w → C.getD p 0 = C2.getD p 0) : rl most w (L2.take most) C := by
  refine ⟨hC.1, hl, by rw [List.length_take]; omega, fun i x hi => ?_⟩
  have hi2 := (List.getElem?_eq_some_iff.mp hi).1
  have hi3 : L2[i]? = some x := by
    rw [List.getElem?_take] at hi
    split at hi
    · exact hi
    · cases hi
  obtain ⟨g1, g2⟩ := h2.2.2.2 i x hi3
  refine ⟨g1, fun j hj => ?_⟩
  rw [h _ (mul_lt hi2 (by omega)), g2 j hj]
theorem sw_n {C : List Int32} {p q : Nat} (hp : p < C.length) (hq : q < C.length) (hN : C.length < 1000000000) : swL C (nI p) (nI q) = swG 0 C p q := by
  unfold swL swG
  rw [st_n (by omega), st_n (by omega), gt_n (by omega), gt_n (by omega), gd_in hp, gd_in hq, gd_in hp, gd_in hq]
theorem sw_len {xs : List Int32} {i j : Int32} : (swL xs i j).length = xs.length := by unfold swL; rw [stL_len, stL_len]
theorem gd_sw {C : List Int32} {p q x : Nat} (hp : p < C.length) (hq : q < C.length) : (swG 0 C p q).getD x 0 = if x = q then C.getD p 0 else if x = p then C.getD q 0 else C.getD x 0 := by
  unfold swG
  rw [gd_set (by rw [List.length_set]; exact hq), gd_set hp]
/-- k numbers of two lines have changed places -/
def prs (most w I J k : Nat) (C0 C : List Int32) : Prop := C.length = most * w ∧ ∀ p, C.getD p 0 = if I * w ≤ p ∧ p < I * w + k then C0.getD (J * w + (p - I * w)) 0 else if J * w ≤ p ∧ p < J * w + k then C0.getD (I * w + (p - J * w)) 0 else C0.getD p 0
theorem blk {I J w : Nat} (h : I < J) : I * w + w ≤ J * w := by
  have : (I + 1) * w ≤ J * w := Nat.mul_le_mul_right w (by omega)
  rw [Nat.add_mul, Nat.one_mul] at this
  exact this
theorem prs_0 {most w I J : Nat} {C0 : List Int32} (h : C0.length = most * w) : prs most w I J 0 C0 C0 := ⟨h, fun p => by rw [if_neg (by omega), if_neg (by omega)]⟩
theorem prs_step {most w I J k : Nat} {C0 C : List Int32} (h : prs most w I J k C0 C) (hk : k < w) (hI : I < most) (hJ : J < most) : prs most w I J (k + 1) C0 (swG 0 C (I * w + k) (J * w + k)) := by
  obtain ⟨h1, h2⟩ := h
  have b1 := mul_lt hI hk
  have b2 := mul_lt hJ hk
  refine ⟨by rw [swG_len]; exact h1, fun p => ?_⟩
  rw [gd_sw (by omega) (by omega), h2, h2, h2]
  have tri : I = J ∨ I * w + w ≤ J * w ∨ J * w + w ≤ I * w := by
    rcases Nat.lt_trichotomy I J with q | q | q
    · exact Or.inr (Or.inl (blk q))
    · exact Or.inl q
    · exact Or.inr (Or.inr (blk q))
  rcases tri with rfl | q | q
  · repeat' split
    all_goals first | rfl | omega | (congr 1; omega)
  · repeat' split
    all_goals first | rfl | omega | (congr 1; omega)
  · repeat' split
    all_goals first | rfl | omega | (congr 1; omega)
theorem gd_swG {L : List (List Int32)} {I J i : Nat} (hI : I < L.length) (hJ : J < L.length) : (swG [] L I J)[i]? = if i = J then some (L.getD I []) else if i = I then some (L.getD J []) else L[i]? := by
  unfold swG
  by_cases e : i = J
  · subst e
    rw [if_pos rfl, List.getElem?_set_self (by rw [List.length_set]; exact hJ)]
  · rw [if_neg e, List.getElem?_set_ne (fun z => e z.symm)]
    by_cases e2 : i = I
    · subst e2
      rw [if_pos rfl, List.getElem?_set_self hI]
    · rw [if_neg e2, List.getElem?_set_ne (fun z => e2 z.symm)]
theorem prs_end {most w I J : Nat} {L : List (List Int32)} {C0 C : List Int32} (hC : rl most w L C0) (h : prs most w I J w C0 C) (hI : I < L.length) (hJ : J < L.length) : rl most w (swG [] L I J) C := by
  obtain ⟨h1, h2⟩ := h
  refine ⟨hC.1, h1, by rw [swG_len]; exact hC.2.2.1, fun i x hi => ?_⟩
  rw [gd_swG hI hJ] at hi
  have gI := hC.2.2.2 I _ (List.getElem?_eq_getElem hI)
  have gJ := hC.2.2.2 J _ (List.getElem?_eq_getElem hJ)
  by_cases e : i = J
  · rw [if_pos e] at hi
    cases hi
    subst e
    rw [gd_in hI]
    refine ⟨gI.1, fun j hj => ?_⟩
    have hjw : j < w := Nat.lt_of_lt_of_le hj gI.1
    rw [h2, ← gI.2 j hj]
    by_cases q : I * w ≤ i * w + j ∧ i * w + j < I * w + w
    · rw [if_pos q]
      have : i = I := by
        rcases Nat.lt_trichotomy i I with z | z | z
        · have := blk (w := w) z; omega
        · exact z
        · have := blk (w := w) z; omega
      subst this
      congr 1; omega
    · rw [if_neg q, if_pos (by omega)]
      congr 1; omega
  · rw [if_neg e] at hi
    by_cases e2 : i = I
    · rw [if_pos e2] at hi
      cases hi
      subst e2
      rw [gd_in hJ]
      refine ⟨gJ.1, fun j hj => ?_⟩
      have hjw : j < w := Nat.lt_of_lt_of_le hj gJ.1
      rw [h2, ← gJ.2 j hj, if_pos (by omega)]
      congr 1; omega
    · rw [if_neg e2] at hi
      obtain ⟨g1, g2⟩ := hC.2.2.2 i x hi
      refine ⟨g1, fun j hj => ?_⟩
      rw [h2, if_neg ?_, if_neg ?_]
      · exact g2 j hj
      · rcases Nat.lt_trichotomy i J with z | z | z
        · have := blk (w := w) z; omega
        · exact absurd z e
        · have := blk (w := w) z; omega
      · rcases Nat.lt_trichotomy i I with z | z | z
        · have := blk (w := w) z; omega
        · exact absurd z e2
        · have := blk (w := w) z; omega
theorem lens_sw {L : List (List Int32)} {I J : Nat} (hI : I < L.length) (hJ : J < L.length) (hN : L.length < 1000000000) : swL (lens L) (nI I) (nI J) = lens (swG [] L I J) := by
  unfold swL
  rw [gl_n hI hN, gl_n hJ hN, lens_set (by omega), lens_set (by omega)]
  rfl
theorem sub5 : ¬ (0 : Int32) ≤ -5 := by decide
theorem adLn_put {most w : Nat} {L : List (List Int32)} {xs : List Int32} (hN : L.length < 1000000000) (h : L.length < most) : ptL w (L ++ [[]]) (nI L.length) xs = adLn most w L xs := by
  unfold ptL adLn
  rw [if_pos h, if_pos (by rw [hasL_n (by omega)]; simp), nI_clamp (by omega)]
  rw [List.set_append_right _ _ (Nat.le_refl _), Nat.sub_self]
  rfl
theorem ln_len {most w : Nat} {L : List (List Int32)} {C : List Int32} (hC : rl most w L C) {i : Int32} : (ln L i).length < 1000000000 := by
  rcases gt_lens (rl_N hC) i with ⟨k, -, -, -, h4⟩ | ⟨-, -, h4⟩
  · rw [h4]; exact Nat.lt_of_le_of_lt (rl_len hC) hC.1.2.1
  · rw [h4]; decide
theorem cp_lt {L : List (List Int32)} {i : Int32} {k : Nat} (hN : L.length < 1000000000) (hY : (ln L i).length < 1000000000) (hk : k ≤ (ln L i).length) (c : ¬ gt (lens L) i ≤ nI k) : k < (ln L i).length := by
  rcases gt_lens hN i with ⟨m, h1, h2, h3, h4⟩ | ⟨-, h3, h4⟩
  · rw [h3, ← h4] at c
    exact up_lt rfl hY hk c
  · have h5 : (-5 : Int32).toInt = -5 := by decide
    rw [h3, i_le, h5, i_n (by omega)] at c
    omega
theorem cp_end {L : List (List Int32)} {i : Int32} {k : Nat} (hN : L.length < 1000000000) (hY : (ln L i).length < 1000000000) (hk : k ≤ (ln L i).length) (c : gt (lens L) i ≤ nI k) : k = (ln L i).length := by
  rcases gt_lens hN i with ⟨m, h1, h2, h3, h4⟩ | ⟨-, h3, h4⟩
  · rw [h3, ← h4] at c
    exact up_end rfl hY hk c
  · rw [h4] at hk ⊢
    exact Nat.le_zero.mp hk
theorem cp_set {C1 C2 : List Int32} {n1 n2 k p : Nat} (h1 : C1.length = n1) (h2 : C2.length = n2) (hk : k < n1) (hk2 : k < n2) (h : ∀ p, p < k → C1.getD p 0 = C2.getD p 0) (hp : p < k + 1) : (C1.set k (C2.getD k (-5))).getD p 0 = C2.getD p 0 := by
  rw [gd_set (by omega)]
  by_cases e : p = k
  · rw [if_pos e, e, gd_in (by omega), gd_in (by omega)]
  · rw [if_neg e]; exact h p (by omega)
end
section
theorem hd_X4_lines : yX4_lines.cls = RX4 ∧ yX4_lines.cls ≠ "java/lang/invoke/MethodHandle" ∧ yX4_lines.cls ≠ "java/lang/invoke/VarHandle" ∧ (parseMethodDescriptor yX4_lines.desc).map (fun d => d.parameters.length) = some 0 := by decide +kernel
set_option maxHeartbeats 4000000 in
set_option maxRecDepth 100000 in
theorem c_X4_lines (cI cB : ClassId) (rs c ca l la most w : Nat) (L : List (List Int32))  : Ct cI cB yX4_lines wsX4_lines { frames := 1, cells := 0, slots := 0, locals := 20 } [.ref rs] [rowsM cI rs c ca l la most w L] (dv (nI L.length) [rowsM cI rs c ca l la most w L]) := by
  refine ct_of (cc := cX4_lines) (maxL := 1) (ret := (some .int)) (by decide) rfl (Nat.le_of_ble_eq_true rfl) [(0, .ref rs)] rfl ?_
  intro X hI hB K E
  subst hI
  subst hB
  have iX4 : ∀ w ∈ u_ws RX4 TX4 3, w ∈ wsX4_lines := by decide +kernel
  refine v_orows 0 rfl (fun C hC => ?_)
  refine v_aload_n K dX4_lines_0 rfl ?_
  refine v_get K 0 rfl hasF_c rfl iX4 2 (by decide) rfl (by decide +kernel) rfl dX4_lines_1 ?_
  refine v_callVi K [2] (c_X3_size (XI X) (XB X) _ _ _ _ ) rfl gX4_lines_X3_size rfl rfl hd_X3_size ⟨rfl, rfl⟩ ⟨by decide, by decide⟩ 2 rfl rowF rfl (by decide) (Nat.le_of_ble_eq_true rfl) ⟨Nat.zero_le _, Nat.zero_le _⟩ rfl dX4_lines_4 ?_
  refine v_crows 0 _ rfl rfl hC rfl ?_
  refine v_iret K E dX4_lines_7 ?_ rfl
  exact ⟨by rw [lens_len], rfl⟩

theorem hd_X4_has : yX4_has.cls = RX4 ∧ yX4_has.cls ≠ "java/lang/invoke/MethodHandle" ∧ yX4_has.cls ≠ "java/lang/invoke/VarHandle" ∧ (parseMethodDescriptor yX4_has.desc).map (fun d => d.parameters.length) = some 1 := by decide +kernel
set_option maxHeartbeats 4000000 in
set_option maxRecDepth 100000 in
theorem c_X4_has (cI cB : ClassId) (rs c ca l la most w : Nat) (L : List (List Int32)) (i : Int32)  : Ct cI cB yX4_has wsX4_has { frames := 1, cells := 0, slots := 0, locals := 20 } [.ref rs, .int i] [rowsM cI rs c ca l la most w L] (dv (bI (hasL L i)) [rowsM cI rs c ca l la most w L]) := by
  refine ct_of (cc := cX4_has) (maxL := 2) (ret := (some .boolean)) (by decide) rfl (Nat.le_of_ble_eq_true rfl) [(0, .ref rs), (1, .int i)] rfl ?_
  intro X hI hB K E
  subst hI
  subst hB
  have iX4 : ∀ w ∈ u_ws RX4 TX4 3, w ∈ wsX4_has := by decide +kernel
  refine v_orows 0 rfl (fun C hC => ?_)
  refine v_iload_n K dX4_has_0 rfl ?_
  refine v_if_lt K 19 dX4_has_1 (by decide) (fun c1 => ?_) (fun c1 => ?_)
  · refine v_iconst K (0) dX4_has_19 (by decide) ?_
    refine v_crows 0 _ rfl rfl hC rfl ?_
    refine v_zret K E dX4_has_20 (by first | exact Or.inl rfl | exact Or.inr rfl) ?_ rfl
    exact ⟨by rw [has_neg c1], rfl⟩
  · refine v_iload_n K dX4_has_4 rfl ?_
    refine v_aload_n K dX4_has_5 rfl ?_
    refine v_get K 0 rfl hasF_c rfl iX4 2 (by decide) rfl (by decide +kernel) rfl dX4_has_6 ?_
    refine v_callVi K [2] (c_X3_size (XI X) (XB X) _ _ _ _ ) rfl gX4_has_X3_size rfl rfl hd_X3_size ⟨rfl, rfl⟩ ⟨by decide, by decide⟩ 2 rfl rowF rfl (by decide) (Nat.le_of_ble_eq_true rfl) ⟨Nat.zero_le _, Nat.zero_le _⟩ rfl dX4_has_9 ?_
    refine v_ic_ge K 19 dX4_has_12 (by decide) (fun c12 => ?_) (fun c12 => ?_)
    · refine v_iconst K (0) dX4_has_19 (by decide) ?_
      refine v_crows 0 _ rfl rfl hC rfl ?_
      refine v_zret K E dX4_has_20 (by first | exact Or.inl rfl | exact Or.inr rfl) ?_ rfl
      exact ⟨by rw [has_out (rl_N hC) c12], rfl⟩
    · refine v_iconst K (1) dX4_has_15 (by decide) ?_
      refine v_goto K 20 dX4_has_16 (by decide) ?_
      refine v_crows 0 _ rfl rfl hC rfl ?_
      refine v_zret K E dX4_has_20 (by first | exact Or.inl rfl | exact Or.inr rfl) ?_ rfl
      exact ⟨by rw [has_in (rl_N hC) c1 c12], rfl⟩

theorem hd_X4_length : yX4_length.cls = RX4 ∧ yX4_length.cls ≠ "java/lang/invoke/MethodHandle" ∧ yX4_length.cls ≠ "java/lang/invoke/VarHandle" ∧ (parseMethodDescriptor yX4_length.desc).map (fun d => d.parameters.length) = some 1 := by decide +kernel
set_option maxHeartbeats 4000000 in
set_option maxRecDepth 100000 in
theorem c_X4_length (cI cB : ClassId) (rs c ca l la most w : Nat) (L : List (List Int32)) (i : Int32)  : Ct cI cB yX4_length wsX4_length { frames := 1, cells := 0, slots := 0, locals := 21 } [.ref rs, .int i] [rowsM cI rs c ca l la most w L] (dv (gt (lens L) i) [rowsM cI rs c ca l la most w L]) := by
  refine ct_of (cc := cX4_length) (maxL := 2) (ret := (some .int)) (by decide) rfl (Nat.le_of_ble_eq_true rfl) [(0, .ref rs), (1, .int i)] rfl ?_
  intro X hI hB K E
  subst hI
  subst hB
  have iX4 : ∀ w ∈ u_ws RX4 TX4 3, w ∈ wsX4_length := by decide +kernel
  refine v_orows 0 rfl (fun C hC => ?_)
  refine v_aload_n K dX4_length_0 rfl ?_
  refine v_get K 0 rfl hasF_c rfl iX4 2 (by decide) rfl (by decide +kernel) rfl dX4_length_1 ?_
  refine v_iload_n K dX4_length_4 rfl ?_
  refine v_callVi K [2] (c_X3_get (XI X) (XB X) _ _ _ _ _ ) rfl gX4_length_X3_get rfl rfl hd_X3_get ⟨rfl, rfl⟩ ⟨by decide, by decide⟩ 2 rfl rowF rfl (by decide) (Nat.le_of_ble_eq_true rfl) ⟨Nat.zero_le _, Nat.zero_le _⟩ rfl dX4_length_5 ?_
  refine v_crows 0 _ rfl rfl hC rfl ?_
  refine v_iret K E dX4_length_8 ?_ rfl
  exact ⟨rfl, rfl⟩

theorem hd_X4_wholeLength : yX4_wholeLength.cls = RX4 ∧ yX4_wholeLength.cls ≠ "java/lang/invoke/MethodHandle" ∧ yX4_wholeLength.cls ≠ "java/lang/invoke/VarHandle" ∧ (parseMethodDescriptor yX4_wholeLength.desc).map (fun d => d.parameters.length) = some 0 := by decide +kernel
set_option maxHeartbeats 4000000 in
set_option maxRecDepth 100000 in
theorem c_X4_wholeLength (cI cB : ClassId) (rs c ca l la most w : Nat) (L : List (List Int32))  : Ct cI cB yX4_wholeLength wsX4_wholeLength { frames := 1, cells := 0, slots := 0, locals := 21 } [.ref rs] [rowsM cI rs c ca l la most w L] (dv (nI (sumL L)) [rowsM cI rs c ca l la most w L]) := by
  refine ct_of (cc := cX4_wholeLength) (maxL := 3) (ret := (some .int)) (by decide) rfl (Nat.le_of_ble_eq_true rfl) [(0, .ref rs)] rfl ?_
  intro X hI hB K E
  subst hI
  subst hB
  have iX4 : ∀ w ∈ u_ws RX4 TX4 3, w ∈ wsX4_wholeLength := by decide +kernel
  refine v_rowsrl 0 rfl (fun hE => ?_)
  obtain ⟨C0, hC0⟩ := hE
  have hN := rl_N hC0
  have lp : ∀ k, k ≤ L.length → ∀ (x : Int32) (n : Nat), x = nI k → n + sumL (L.drop k) = sumL L → V X 0 0 4 [(0, .ref rs), (1, .int (nI n)), (2, .int x)] [] [rowsM (XI X) rs c ca l la most w L] := by
    refine loop_up L.length ?_
    intro k hk ih x n hx hn
    subst hx
    refine v_iload_n K dX4_wholeLength_4 rfl ?_
    refine v_orows 0 rfl (fun C hC => ?_)
    refine v_aload_n K dX4_wholeLength_5 rfl ?_
    refine v_get K 0 rfl hasF_c rfl iX4 2 (by decide) rfl (by decide +kernel) rfl dX4_wholeLength_6 ?_
    refine v_callVi K [2] (c_X3_size (XI X) (XB X) _ _ _ _ ) rfl gX4_wholeLength_X3_size rfl rfl hd_X3_size ⟨rfl, rfl⟩ ⟨by decide, by decide⟩ 2 rfl rowF rfl (by decide) (Nat.le_of_ble_eq_true rfl) ⟨Nat.zero_le _, Nat.zero_le _⟩ rfl dX4_wholeLength_9 ?_
    refine v_ic_ge K 32 dX4_wholeLength_12 (by decide) (fun c12 => ?_) (fun c12 => ?_)
    · refine v_crows 0 _ rfl rfl hC rfl ?_
      rw [lens_len] at c12
      refine v_iload_n K dX4_wholeLength_32 rfl ?_
      refine v_iret K E dX4_wholeLength_33 ?_ rfl
      exact ⟨by rw [up_end rfl hN hk c12] at hn; rw [List.drop_length] at hn; rw [← hn]; rfl, rfl⟩
    · refine v_iload_n K dX4_wholeLength_15 rfl ?_
      refine v_aload_n K dX4_wholeLength_16 rfl ?_
      refine v_get K 0 rfl hasF_c rfl iX4 2 (by decide) rfl (by decide +kernel) rfl dX4_wholeLength_17 ?_
      refine v_iload_n K dX4_wholeLength_20 rfl ?_
      refine v_callVi K [2] (c_X3_get (XI X) (XB X) _ _ _ _ _ ) rfl gX4_wholeLength_X3_get rfl rfl hd_X3_get ⟨rfl, rfl⟩ ⟨by decide, by decide⟩ 2 rfl rowF rfl (by decide) (Nat.le_of_ble_eq_true rfl) ⟨Nat.zero_le _, Nat.zero_le _⟩ rfl dX4_wholeLength_21 ?_
      refine v_crows 0 _ rfl rfl hC rfl ?_
      rw [lens_len] at c12
      have hlt := up_lt rfl hN hk c12
      rw [gl_n hlt hN]
      refine v_iadd K dX4_wholeLength_24 ?_
      rw [nI_add]
      refine v_istore_n K dX4_wholeLength_25 (by decide) ?_
      refine v_iinc K dX4_wholeLength_26 rfl (by decide) iinc_1 ?_
      refine v_goto K 4 dX4_wholeLength_29 (by decide) ?_
      exact v_j (ih hlt _ (n + (L.getD k []).length) (nI_1 k) (by rw [← hn, sumL_step hlt]; omega)) rfl rfl rfl
  refine v_iconst K (0) dX4_wholeLength_0 (by decide) ?_
  refine v_istore_n K dX4_wholeLength_1 (by decide) ?_
  refine v_iconst K (0) dX4_wholeLength_2 (by decide) ?_
  refine v_istore_n K dX4_wholeLength_3 (by decide) ?_
  exact v_j (lp 0 (Nat.zero_le _) 0 0 rfl (Nat.zero_add _)) rfl rfl rfl

theorem hd_X4_get : yX4_get.cls = RX4 ∧ yX4_get.cls ≠ "java/lang/invoke/MethodHandle" ∧ yX4_get.cls ≠ "java/lang/invoke/VarHandle" ∧ (parseMethodDescriptor yX4_get.desc).map (fun d => d.parameters.length) = some 2 := by decide +kernel
set_option maxHeartbeats 4000000 in
set_option maxRecDepth 100000 in
theorem c_X4_get (cI cB : ClassId) (rs c ca l la most w : Nat) (L : List (List Int32)) (i j : Int32)  : Ct cI cB yX4_get wsX4_get { frames := 1, cells := 0, slots := 0, locals := 21 } [.ref rs, .int i, .int j] [rowsM cI rs c ca l la most w L] (dv (gg L i j) [rowsM cI rs c ca l la most w L]) := by
  refine ct_of (cc := cX4_get) (maxL := 4) (ret := (some .int)) (by decide) rfl (Nat.le_of_ble_eq_true rfl) [(0, .ref rs), (1, .int i), (2, .int j)] rfl ?_
  intro X hI hB K E
  subst hI
  subst hB
  have iX4 : ∀ w ∈ u_ws RX4 TX4 3, w ∈ wsX4_get := by decide +kernel
  refine v_orows 0 rfl (fun C hC => ?_)
  refine v_iload_n K dX4_get_0 rfl ?_
  refine v_if_lt K 20 dX4_get_1 (by decide) (fun c1 => ?_) (fun c1 => ?_)
  · refine v_iconst K (0) dX4_get_20 (by decide) ?_
    refine v_istore_n K dX4_get_21 (by decide) ?_
    refine v_iload_n K dX4_get_22 rfl ?_
    refine v_if_eq K 44 dX4_get_23 (by decide) (fun _ => ?_) (fun c => absurd (by decide) c)
    refine v_bipush K (-5) dX4_get_44 (by decide) ?_
    refine v_crows 0 _ rfl rfl hC rfl ?_
    refine v_iret K E dX4_get_46 ?_ rfl
    exact ⟨by rw [gg_neg c1], rfl⟩
  · refine v_iload_n K dX4_get_4 rfl ?_
    refine v_aload_n K dX4_get_5 rfl ?_
    refine v_get K 0 rfl hasF_c rfl iX4 2 (by decide) rfl (by decide +kernel) rfl dX4_get_6 ?_
    refine v_iload_n K dX4_get_9 rfl ?_
    refine v_callVi K [2] (c_X3_get (XI X) (XB X) _ _ _ _ _ ) rfl gX4_get_X3_get rfl rfl hd_X3_get ⟨rfl, rfl⟩ ⟨by decide, by decide⟩ 2 rfl rowF rfl (by decide) (Nat.le_of_ble_eq_true rfl) ⟨Nat.zero_le _, Nat.zero_le _⟩ rfl dX4_get_10 ?_
    refine v_ic_ge K 20 dX4_get_13 (by decide) (fun c13 => ?_) (fun c13 => ?_)
    · refine v_iconst K (0) dX4_get_20 (by decide) ?_
      refine v_istore_n K dX4_get_21 (by decide) ?_
      refine v_iload_n K dX4_get_22 rfl ?_
      refine v_if_eq K 44 dX4_get_23 (by decide) (fun _ => ?_) (fun c => absurd (by decide) c)
      refine v_bipush K (-5) dX4_get_44 (by decide) ?_
      refine v_crows 0 _ rfl rfl hC rfl ?_
      refine v_iret K E dX4_get_46 ?_ rfl
      exact ⟨by rw [gg_out hC c13], rfl⟩
    · refine v_iconst K (1) dX4_get_16 (by decide) ?_
      refine v_goto K 21 dX4_get_17 (by decide) ?_
      refine v_istore_n K dX4_get_21 (by decide) ?_
      refine v_iload_n K dX4_get_22 rfl ?_
      refine v_if_eq K 44 dX4_get_23 (by decide) (fun c => absurd c (by decide)) (fun _ => ?_)
      refine v_aload_n K dX4_get_26 rfl ?_
      refine v_get K 0 rfl hasF_c rfl iX4 1 (by decide) rfl (by decide +kernel) rfl dX4_get_27 ?_
      refine v_iload_n K dX4_get_30 rfl ?_
      refine v_aload_n K dX4_get_31 rfl ?_
      refine v_get K 0 rfl hasF_c rfl iX4 0 (by decide) rfl (by decide +kernel) rfl dX4_get_32 ?_
      refine v_imul K dX4_get_35 ?_
      refine v_iload_n K dX4_get_36 rfl ?_
      refine v_iadd K dX4_get_37 ?_
      refine v_callVi K [1] (c_X3_get (XI X) (XB X) _ _ _ _ _ ) rfl gX4_get_X3_get rfl rfl hd_X3_get ⟨rfl, rfl⟩ ⟨by decide, by decide⟩ 1 rfl rowF rfl (by decide) (Nat.le_of_ble_eq_true rfl) ⟨Nat.zero_le _, Nat.zero_le _⟩ rfl dX4_get_38 ?_
      refine v_goto K 46 dX4_get_41 (by decide) ?_
      refine v_crows 0 _ rfl rfl hC rfl ?_
      refine v_iret K E dX4_get_46 ?_ rfl
      exact ⟨by rw [gg_in hC c1 c13], rfl⟩

theorem hd_X4_put : yX4_put.cls = RX4 ∧ yX4_put.cls ≠ "java/lang/invoke/MethodHandle" ∧ yX4_put.cls ≠ "java/lang/invoke/VarHandle" ∧ (parseMethodDescriptor yX4_put.desc).map (fun d => d.parameters.length) = some 2 := by decide +kernel
set_option maxHeartbeats 4000000 in
set_option maxRecDepth 100000 in
theorem c_X4_put (cI cB : ClassId) (rs c ca l la most w : Nat) (L : List (List Int32)) (i : Int32) (r a cap : Nat) (xs : List Int32)  : Ct cI cB yX4_put wsX4_put { frames := 2, cells := 0, slots := 0, locals := 41 } [.ref rs, .int i, .ref r] [rowsM cI rs c ca l la most w L, rowM cI r a cap xs] (dn [rowsM cI rs c ca l la most w (ptL w L i xs), rowM cI r a cap xs]) := by
  refine ct_of (cc := cX4_put) (maxL := 5) (ret := none) (by decide) rfl (Nat.le_of_ble_eq_true rfl) [(0, .ref rs), (1, .int i), (2, .ref r)] rfl ?_
  intro X hI hB K E
  subst hI
  subst hB
  have iX4 : ∀ w ∈ u_ws RX4 TX4 3, w ∈ wsX4_put := by decide +kernel
  refine v_rowsrl 0 rfl (fun hE => ?_)
  obtain ⟨C0, hC0⟩ := hE
  have hN := rl_N hC0
  refine v_rowlen 1 rfl (fun hX => ?_)
  refine v_aload_n K dX4_put_0 rfl ?_
  refine v_iload_n K dX4_put_1 rfl ?_
  refine v_callVi K [0] (c_X4_has (XI X) (XB X) _ _ _ _ _ _ _ _ _ ) rfl gX4_put_X4_has rfl rfl hd_X4_has ⟨rfl, rfl⟩ ⟨by decide, by decide⟩ 0 rfl rowsF rfl (by decide) (Nat.le_of_ble_eq_true rfl) ⟨Nat.zero_le _, Nat.zero_le _⟩ rfl dX4_put_2 ?_
  refine v_if_eq K 66 dX4_put_5 (by decide) (fun c5 => ?_) (fun c5 => ?_)
  · refine v_ret K E dX4_put_66 ?_ rfl
    exact ⟨rfl, by unfold ptL; rw [if_neg (by rw [bI_0 c5]; exact Bool.false_ne_true)] <;> rfl⟩
  · refine v_aload_n K dX4_put_8 rfl ?_
    refine v_callVi K [1] (c_X3_size (XI X) (XB X) _ _ _ _ ) rfl gX4_put_X3_size rfl rfl hd_X3_size ⟨rfl, rfl⟩ ⟨by decide, by decide⟩ 1 rfl rowF rfl (by decide) (Nat.le_of_ble_eq_true rfl) ⟨Nat.zero_le _, Nat.zero_le _⟩ rfl dX4_put_9 ?_
    refine v_aload_n K dX4_put_12 rfl ?_
    refine v_get K 0 rfl rowsF rfl iX4 0 (by decide) rfl (by decide +kernel) rfl dX4_put_13 ?_
    refine v_mmin K (by decide +kernel) (by decide +kernel) (by decide +kernel) (by decide +kernel) (by decide) (Nat.le_of_ble_eq_true rfl) ⟨Nat.zero_le _, Nat.zero_le _⟩ dX4_put_16 ?_
    have hL := bI_1 c5
    obtain ⟨I, hI, rfl⟩ := hasL_of hN hL
    rw [min_nI hX hC0.1.2.1]
    refine v_istore_n K dX4_put_19 (by decide) ?_
    refine v_orows 0 rfl (fun C hC => ?_)
    refine v_aload_n K dX4_put_20 rfl ?_
    refine v_get K 0 rfl hasF_c rfl iX4 2 (by decide) rfl (by decide +kernel) rfl dX4_put_21 ?_
    refine v_iload_n K dX4_put_24 rfl ?_
    refine v_iload_n K dX4_put_25 rfl ?_
    refine v_callVv K [2] (c_X3_set (XI X) (XB X) _ _ _ _ _ _ ) rfl gX4_put_X3_set rfl rfl hd_X3_set ⟨rfl, rfl⟩ ⟨by decide, by decide⟩ 2 rfl rowF rfl (by decide) (Nat.le_of_ble_eq_true rfl) ⟨Nat.zero_le _, Nat.zero_le _⟩ rfl dX4_put_26 ?_
    refine v_iconst K (0) dX4_put_29 (by decide) ?_
    refine v_istore K dX4_put_30 (by decide) ?_
    have lp : ∀ k, k ≤ min xs.length w → ∀ (x : Int32) (C1 : List Int32), x = nI k → prl most w I k xs C C1 → V X 0 0 32 [(0, .ref rs), (1, .int (nI I)), (2, .ref r), (3, .int (nI (min xs.length w))), (4, .int x)] [] [cM rs (.inr (4, [.int (nI w), .ref c, .ref l])), rowM (XI X) c ca (most * w) C1, rowM (XI X) l la most (stL (lens L) (nI I) (nI (min xs.length w))), rowM (XI X) r a cap xs] := by
      refine loop_up (min xs.length w) ?_
      intro k hk ih x C1 hx hp
      subst hx
      refine v_iload K dX4_put_32 rfl ?_
      refine v_iload_n K dX4_put_34 rfl ?_
      refine v_ic_ge K 66 dX4_put_35 (by decide) (fun c35 => ?_) (fun c35 => ?_)
      · refine v_crows 0 (L.set I (xs.take w)) rfl rfl (prl_end hC (by rw [← up_end rfl (by omega) hk c35]; exact hp)) (by rw [← lens_set (by omega), List.length_take, Nat.min_comm]) ?_
        refine v_ret K E dX4_put_66 ?_ rfl
        exact ⟨rfl, by unfold ptL; rw [if_pos hL, nI_clamp (by omega)] <;> rfl⟩
      · refine v_aload_n K dX4_put_38 rfl ?_
        refine v_get K 0 rfl hasF_c rfl iX4 1 (by decide) rfl (by decide +kernel) rfl dX4_put_39 ?_
        refine v_iload_n K dX4_put_42 rfl ?_
        refine v_aload_n K dX4_put_43 rfl ?_
        refine v_get K 0 rfl hasF_c rfl iX4 0 (by decide) rfl (by decide +kernel) rfl dX4_put_44 ?_
        refine v_imul K dX4_put_47 ?_
        refine v_iload K dX4_put_48 rfl ?_
        refine v_iadd K dX4_put_50 ?_
        refine v_aload_n K dX4_put_51 rfl ?_
        refine v_iload K dX4_put_52 rfl ?_
        have hlt := up_lt rfl (by omega) hk c35
        have hm := mul_lt (w := w) (k := k) (Nat.lt_of_lt_of_le hI hC.2.2.1) (by omega)
        have hb := hC.1.2.2
        refine v_callVi K [3] (c_X3_get (XI X) (XB X) _ _ _ _ _ ) rfl gX4_put_X3_get rfl rfl hd_X3_get ⟨rfl, rfl⟩ ⟨by decide, by decide⟩ 3 rfl rowF rfl (by decide) (Nat.le_of_ble_eq_true rfl) ⟨Nat.zero_le _, Nat.zero_le _⟩ rfl dX4_put_54 ?_
        rw [ix_n, gt_n (by omega)]
        refine v_callVv K [1] (c_X3_set (XI X) (XB X) _ _ _ _ _ _ ) rfl gX4_put_X3_set rfl rfl hd_X3_set ⟨rfl, rfl⟩ ⟨by decide, by decide⟩ 1 rfl rowF rfl (by decide) (Nat.le_of_ble_eq_true rfl) ⟨Nat.zero_le _, Nat.zero_le _⟩ rfl dX4_put_57 ?_
        refine v_iinc K dX4_put_60 rfl (by decide) iinc_1 ?_
        refine v_goto K 32 dX4_put_63 (by decide) ?_
        exact v_j (ih hlt _ (C1.set (I * w + k) (xs.getD k (-5))) (nI_1 k) (prl_step hp (by omega) hm)) rfl rfl (by rw [← st_n (xs := C1) (k := I * w + k) (by omega)]; rfl)
    exact v_j (lp 0 (Nat.zero_le _) 0 C rfl (prl_0 hC.2.1)) rfl rfl rfl

theorem hd_X4_add : yX4_add.cls = RX4 ∧ yX4_add.cls ≠ "java/lang/invoke/MethodHandle" ∧ yX4_add.cls ≠ "java/lang/invoke/VarHandle" ∧ (parseMethodDescriptor yX4_add.desc).map (fun d => d.parameters.length) = some 1 := by decide +kernel
set_option maxHeartbeats 4000000 in
set_option maxRecDepth 100000 in
theorem c_X4_add (cI cB : ClassId) (rs c ca l la most w : Nat) (L : List (List Int32)) (r a cap : Nat) (xs : List Int32)  : Ct cI cB yX4_add wsX4_add { frames := 3, cells := 0, slots := 0, locals := 65 } [.ref rs, .ref r] [rowsM cI rs c ca l la most w L, rowM cI r a cap xs] (dn [rowsM cI rs c ca l la most w (adLn most w L xs), rowM cI r a cap xs]) := by
  refine ct_of (cc := cX4_add) (maxL := 2) (ret := none) (by decide) rfl (Nat.le_of_ble_eq_true rfl) [(0, .ref rs), (1, .ref r)] rfl ?_
  intro X hI hB K E
  subst hI
  subst hB
  have iX4 : ∀ w ∈ u_ws RX4 TX4 3, w ∈ wsX4_add := by decide +kernel
  refine v_orows 0 rfl (fun C hC => ?_)
  have hN := rl_N hC
  refine v_aload_n K dX4_add_0 rfl ?_
  refine v_get K 0 rfl hasF_c rfl iX4 2 (by decide) rfl (by decide +kernel) rfl dX4_add_1 ?_
  refine v_callVi K [2] (c_X3_isFull (XI X) (XB X) _ _ _ _ ) rfl gX4_add_X3_isFull rfl rfl hd_X3_isFull ⟨rfl, rfl⟩ ⟨by decide, by decide⟩ 2 rfl rowF rfl (by decide) (Nat.le_of_ble_eq_true rfl) ⟨Nat.zero_le _, Nat.zero_le _⟩ rfl dX4_add_4 ?_
  refine v_if_ne K 32 dX4_add_7 (by decide) (fun c7 => ?_) (fun c7 => ?_)
  · refine v_crows 0 _ rfl rfl hC rfl ?_
    refine v_ret K E dX4_add_32 ?_ rfl
    exact ⟨rfl, by unfold adLn; rw [if_neg (by have h := of_decide_eq_true (bI_1 c7); rw [lens_len] at h; omega)] <;> rfl⟩
  · replace c7 := bI_0 c7
    refine v_aload_n K dX4_add_10 rfl ?_
    refine v_get K 0 rfl hasF_c rfl iX4 2 (by decide) rfl (by decide +kernel) rfl dX4_add_11 ?_
    refine v_iconst K (0) dX4_add_14 (by decide) ?_
    refine v_callVv K [2] (c_X3_add (XI X) (XB X) _ _ _ _ _ ) rfl gX4_add_X3_add rfl rfl hd_X3_add ⟨rfl, rfl⟩ ⟨by decide, by decide⟩ 2 rfl rowF rfl (by decide) (Nat.le_of_ble_eq_true rfl) ⟨Nat.zero_le _, Nat.zero_le _⟩ rfl dX4_add_15 ?_
    refine v_aload_n K dX4_add_18 rfl ?_
    refine v_aload_n K dX4_add_19 rfl ?_
    refine v_get K 0 rfl hasF_c rfl iX4 2 (by decide) rfl (by decide +kernel) rfl dX4_add_20 ?_
    refine v_callVi K [2] (c_X3_size (XI X) (XB X) _ _ _ _ ) rfl gX4_add_X3_size rfl rfl hd_X3_size ⟨rfl, rfl⟩ ⟨by decide, by decide⟩ 2 rfl rowF rfl (by decide) (Nat.le_of_ble_eq_true rfl) ⟨Nat.zero_le _, Nat.zero_le _⟩ rfl dX4_add_23 ?_
    refine v_iconst K (1) dX4_add_26 (by decide) ?_
    refine v_isub K dX4_add_27 ?_
    have hm : L.length < most := by have h := of_decide_eq_false c7; rw [lens_len] at h; omega
    refine v_crows 0 (L ++ [[]]) rfl rfl (rl_add hC hm) (lens_add hm) ?_
    rw [lens_add hm, lens_len, List.length_append, List.length_singleton, sub1 (by omega), Nat.add_sub_cancel]
    refine v_aload_n K dX4_add_28 rfl ?_
    refine v_callVv K [0, 1] (c_X4_put (XI X) (XB X) _ _ _ _ _ _ _ _ _ _ _ _ _ ) rfl gX4_add_X4_put rfl rfl hd_X4_put ⟨rfl, rfl⟩ ⟨by decide, by decide⟩ 0 rfl rowsF rfl (by decide) (Nat.le_of_ble_eq_true rfl) ⟨Nat.zero_le _, Nat.zero_le _⟩ rfl dX4_add_29 ?_
    refine v_ret K E dX4_add_32 ?_ rfl
    exact ⟨rfl, by rw [← adLn_put hN hm] <;> rfl⟩

theorem hd_X4_putOne : yX4_putOne.cls = RX4 ∧ yX4_putOne.cls ≠ "java/lang/invoke/MethodHandle" ∧ yX4_putOne.cls ≠ "java/lang/invoke/VarHandle" ∧ (parseMethodDescriptor yX4_putOne.desc).map (fun d => d.parameters.length) = some 2 := by decide +kernel
set_option maxHeartbeats 4000000 in
set_option maxRecDepth 100000 in
theorem c_X4_putOne (cI cB : ClassId) (rs c ca l la most w : Nat) (L : List (List Int32)) (i v : Int32) (hw : 0 < w) : Ct cI cB yX4_putOne wsX4_putOne { frames := 2, cells := 0, slots := 0, locals := 41 } [.ref rs, .int i, .int v] [rowsM cI rs c ca l la most w L] (dn [rowsM cI rs c ca l la most w (poL L i v)]) := by
  refine ct_of (cc := cX4_putOne) (maxL := 3) (ret := none) (by decide) rfl (Nat.le_of_ble_eq_true rfl) [(0, .ref rs), (1, .int i), (2, .int v)] rfl ?_
  intro X hI hB K E
  subst hI
  subst hB
  have iX4 : ∀ w ∈ u_ws RX4 TX4 3, w ∈ wsX4_putOne := by decide +kernel
  refine v_rowsrl 0 rfl (fun hE => ?_)
  obtain ⟨C0, hC0⟩ := hE
  have hN := rl_N hC0
  refine v_aload_n K dX4_putOne_0 rfl ?_
  refine v_iload_n K dX4_putOne_1 rfl ?_
  refine v_callVi K [0] (c_X4_has (XI X) (XB X) _ _ _ _ _ _ _ _ _ ) rfl gX4_putOne_X4_has rfl rfl hd_X4_has ⟨rfl, rfl⟩ ⟨by decide, by decide⟩ 0 rfl rowsF rfl (by decide) (Nat.le_of_ble_eq_true rfl) ⟨Nat.zero_le _, Nat.zero_le _⟩ rfl dX4_putOne_2 ?_
  refine v_if_eq K 38 dX4_putOne_5 (by decide) (fun c5 => ?_) (fun c5 => ?_)
  · refine v_ret K E dX4_putOne_38 ?_ rfl
    exact ⟨rfl, by unfold poL; rw [if_neg (by rw [bI_0 c5]; exact Bool.false_ne_true)] <;> rfl⟩
  · refine v_aload_n K dX4_putOne_8 rfl ?_
    refine v_get K 0 rfl rowsF rfl iX4 0 (by decide) rfl (by decide +kernel) rfl dX4_putOne_9 ?_
    refine v_if_le K 38 dX4_putOne_12 (by decide) (fun c12 => ?_) (fun c12 => ?_)
    · exact absurd c12 (nI_nle hw (by have := hC0.1.2.1; omega))
    · have hL := bI_1 c5
      obtain ⟨I, hI, rfl⟩ := hasL_of hN hL
      refine v_orows 0 rfl (fun C hC => ?_)
      refine v_aload_n K dX4_putOne_15 rfl ?_
      refine v_get K 0 rfl hasF_c rfl iX4 2 (by decide) rfl (by decide +kernel) rfl dX4_putOne_16 ?_
      refine v_iload_n K dX4_putOne_19 rfl ?_
      refine v_iconst K (1) dX4_putOne_20 (by decide) ?_
      refine v_callVv K [2] (c_X3_set (XI X) (XB X) _ _ _ _ _ _ ) rfl gX4_putOne_X3_set rfl rfl hd_X3_set ⟨rfl, rfl⟩ ⟨by decide, by decide⟩ 2 rfl rowF rfl (by decide) (Nat.le_of_ble_eq_true rfl) ⟨Nat.zero_le _, Nat.zero_le _⟩ rfl dX4_putOne_21 ?_
      refine v_aload_n K dX4_putOne_24 rfl ?_
      refine v_get K 0 rfl hasF_c rfl iX4 1 (by decide) rfl (by decide +kernel) rfl dX4_putOne_25 ?_
      refine v_iload_n K dX4_putOne_28 rfl ?_
      refine v_aload_n K dX4_putOne_29 rfl ?_
      refine v_get K 0 rfl hasF_c rfl iX4 0 (by decide) rfl (by decide +kernel) rfl dX4_putOne_30 ?_
      refine v_imul K dX4_putOne_33 ?_
      refine v_iload_n K dX4_putOne_34 rfl ?_
      refine v_callVv K [1] (c_X3_set (XI X) (XB X) _ _ _ _ _ _ ) rfl gX4_putOne_X3_set rfl rfl hd_X3_set ⟨rfl, rfl⟩ ⟨by decide, by decide⟩ 1 rfl rowF rfl (by decide) (Nat.le_of_ble_eq_true rfl) ⟨Nat.zero_le _, Nat.zero_le _⟩ rfl dX4_putOne_35 ?_
      refine v_crows 0 (L.set I [v]) rfl rfl (by rw [show nI I * nI w = nI (I * w) from pk_mul I w, st_n (by have := mul_lt (Nat.lt_of_lt_of_le hI hC.2.2.1) hw; have := hC.1.2.2; omega)]; exact rl_one hC hI hw v) (by rw [← lens_set (by omega)]; rfl) ?_
      refine v_ret K E dX4_putOne_38 ?_ rfl
      exact ⟨rfl, by unfold poL; rw [if_pos hL, nI_clamp (by omega)] <;> rfl⟩

theorem hd_X4_copyTo : yX4_copyTo.cls = RX4 ∧ yX4_copyTo.cls ≠ "java/lang/invoke/MethodHandle" ∧ yX4_copyTo.cls ≠ "java/lang/invoke/VarHandle" ∧ (parseMethodDescriptor yX4_copyTo.desc).map (fun d => d.parameters.length) = some 2 := by decide +kernel
set_option maxHeartbeats 4000000 in
set_option maxRecDepth 100000 in
theorem c_X4_copyTo (cI cB : ClassId) (rs c ca l la most w : Nat) (L : List (List Int32)) (i : Int32) (r a cap : Nat) (xs : List Int32)  : Ct cI cB yX4_copyTo wsX4_copyTo { frames := 2, cells := 0, slots := 0, locals := 44 } [.ref rs, .int i, .ref r] [rowsM cI rs c ca l la most w L, rowM cI r a cap xs] (dn [rowsM cI rs c ca l la most w L, rowM cI r a cap (aaL cap [] (ln L i))]) := by
  refine ct_of (cc := cX4_copyTo) (maxL := 4) (ret := none) (by decide) rfl (Nat.le_of_ble_eq_true rfl) [(0, .ref rs), (1, .int i), (2, .ref r)] rfl ?_
  intro X hI hB K E
  subst hI
  subst hB
  have iX4 : ∀ w ∈ u_ws RX4 TX4 3, w ∈ wsX4_copyTo := by decide +kernel
  refine v_rowsrl 0 rfl (fun hE => ?_)
  obtain ⟨C0, hC0⟩ := hE
  have hN := rl_N hC0
  have hw := hC0.1.2.1
  have hY : (ln L i).length < 1000000000 := ln_len hC0
  have lp : ∀ k, k ≤ (ln L i).length → ∀ (x : Int32) (zs : List Int32), x = nI k → aaL cap zs ((ln L i).drop k) = aaL cap [] (ln L i) → V X 0 0 6 [(0, .ref rs), (1, .int i), (2, .ref r), (3, .int x)] [] [rowsM (XI X) rs c ca l la most w L, rowM (XI X) r a cap zs] := by
    refine loop_up (ln L i).length ?_
    intro k hk ih x zs hx hy
    subst hx
    refine v_iload_n K dX4_copyTo_6 rfl ?_
    refine v_orows 0 rfl (fun C hC => ?_)
    refine v_aload_n K dX4_copyTo_7 rfl ?_
    refine v_get K 0 rfl hasF_c rfl iX4 2 (by decide) rfl (by decide +kernel) rfl dX4_copyTo_8 ?_
    refine v_iload_n K dX4_copyTo_11 rfl ?_
    refine v_callVi K [2] (c_X3_get (XI X) (XB X) _ _ _ _ _ ) rfl gX4_copyTo_X3_get rfl rfl hd_X3_get ⟨rfl, rfl⟩ ⟨by decide, by decide⟩ 2 rfl rowF rfl (by decide) (Nat.le_of_ble_eq_true rfl) ⟨Nat.zero_le _, Nat.zero_le _⟩ rfl dX4_copyTo_12 ?_
    refine v_ic_ge K 34 dX4_copyTo_15 (by decide) (fun c15 => ?_) (fun c15 => ?_)
    · refine v_crows 0 _ rfl rfl hC rfl ?_
      refine v_ret K E dX4_copyTo_34 ?_ rfl
      exact ⟨rfl, by rw [← hy, cp_end hN hY hk c15, List.drop_length] <;> rfl⟩
    · refine v_crows 0 _ rfl rfl hC rfl ?_
      refine v_aload_n K dX4_copyTo_18 rfl ?_
      refine v_aload_n K dX4_copyTo_19 rfl ?_
      refine v_iload_n K dX4_copyTo_20 rfl ?_
      refine v_iload_n K dX4_copyTo_21 rfl ?_
      refine v_callVi K [0] (c_X4_get (XI X) (XB X) _ _ _ _ _ _ _ _ _ _ ) rfl gX4_copyTo_X4_get rfl rfl hd_X4_get ⟨rfl, rfl⟩ ⟨by decide, by decide⟩ 0 rfl rowsF rfl (by decide) (Nat.le_of_ble_eq_true rfl) ⟨Nat.zero_le _, Nat.zero_le _⟩ rfl dX4_copyTo_22 ?_
      have hlt := cp_lt hN hY hk c15
      rw [show gg L i (nI k) = gt (ln L i) (nI k) from rfl]
      refine v_callVv K [1] (c_X3_add (XI X) (XB X) _ _ _ _ _ ) rfl gX4_copyTo_X3_add rfl rfl hd_X3_add ⟨rfl, rfl⟩ ⟨by decide, by decide⟩ 1 rfl rowF rfl (by decide) (Nat.le_of_ble_eq_true rfl) ⟨Nat.zero_le _, Nat.zero_le _⟩ rfl dX4_copyTo_25 ?_
      refine v_iinc K dX4_copyTo_28 rfl (by decide) iinc_1 ?_
      refine v_goto K 6 dX4_copyTo_31 (by decide) ?_
      exact v_j (ih hlt _ _ (nI_1 k) (by rw [← hy]; exact (aaL_step hlt hY).symm)) rfl rfl rfl
  refine v_aload_n K dX4_copyTo_0 rfl ?_
  refine v_callVv K [1] (c_X3_clear (XI X) (XB X) _ _ _ _ ) rfl gX4_copyTo_X3_clear rfl rfl hd_X3_clear ⟨rfl, rfl⟩ ⟨by decide, by decide⟩ 1 rfl rowF rfl (by decide) (Nat.le_of_ble_eq_true rfl) ⟨Nat.zero_le _, Nat.zero_le _⟩ rfl dX4_copyTo_1 ?_
  refine v_iconst K (0) dX4_copyTo_4 (by decide) ?_
  refine v_istore_n K dX4_copyTo_5 (by decide) ?_
  exact v_j (lp 0 (Nat.zero_le _) 0 [] rfl rfl) rfl rfl rfl

theorem hd_X4_copyFrom : yX4_copyFrom.cls = RX4 ∧ yX4_copyFrom.cls ≠ "java/lang/invoke/MethodHandle" ∧ yX4_copyFrom.cls ≠ "java/lang/invoke/VarHandle" ∧ (parseMethodDescriptor yX4_copyFrom.desc).map (fun d => d.parameters.length) = some 1 := by decide +kernel
set_option maxHeartbeats 4000000 in
set_option maxRecDepth 100000 in
theorem c_X4_copyFrom (cI cB : ClassId) (rs c ca l la most w : Nat) (L : List (List Int32)) (rs2 c2 ca2 l2 la2 most2 : Nat) (L2 : List (List Int32))  : Ct cI cB yX4_copyFrom wsX4_copyFrom { frames := 3, cells := 0, slots := 0, locals := 64 } [.ref rs, .ref rs2] [rowsM cI rs c ca l la most w L, rowsM cI rs2 c2 ca2 l2 la2 most2 w L2] (dn [rowsM cI rs c ca l la most w (L2.take most), rowsM cI rs2 c2 ca2 l2 la2 most2 w L2]) := by
  refine ct_of (cc := cX4_copyFrom) (maxL := 3) (ret := none) (by decide) rfl (Nat.le_of_ble_eq_true rfl) [(0, .ref rs), (1, .ref rs2)] rfl ?_
  intro X hI hB K E
  subst hI
  subst hB
  have iX4 : ∀ w ∈ u_ws RX4 TX4 3, w ∈ wsX4_copyFrom := by decide +kernel
  refine v_orows 0 rfl (fun C hC => ?_)
  refine v_orows 3 rfl (fun C2 h2 => ?_)
  have hN := rl_N hC
  have hN2 := rl_N h2
  have hb := hC.1.2.2
  have hb2 := h2.1.2.2
  refine v_aload_n K dX4_copyFrom_0 rfl ?_
  refine v_get K 0 rfl hasF_c rfl iX4 2 (by decide) rfl (by decide +kernel) rfl dX4_copyFrom_1 ?_
  refine v_aload_n K dX4_copyFrom_4 rfl ?_
  refine v_get K 3 rfl hasF_c rfl iX4 2 (by decide) rfl (by decide +kernel) rfl dX4_copyFrom_5 ?_
  refine v_callVv K [2, 5] (c_X3_copyFrom (XI X) (XB X) _ _ _ _ _ _ _ _ ) rfl gX4_copyFrom_X3_copyFrom rfl rfl hd_X3_copyFrom ⟨rfl, rfl⟩ ⟨by decide, by decide⟩ 2 rfl rowF rfl (by decide) (Nat.le_of_ble_eq_true rfl) ⟨Nat.zero_le _, Nat.zero_le _⟩ rfl dX4_copyFrom_8 ?_
  refine v_iconst K (0) dX4_copyFrom_11 (by decide) ?_
  refine v_istore_n K dX4_copyFrom_12 (by decide) ?_
  have hT : (L2.take most).length * w ≤ most * w := Nat.mul_le_mul_right w (by rw [List.length_take]; omega)
  have hT2 : (L2.take most).length * w ≤ most2 * w := Nat.mul_le_mul_right w (by rw [List.length_take]; have := h2.2.2.1; omega)
  have lp : ∀ k, k ≤ (L2.take most).length * w → ∀ (x : Int32) (C1 : List Int32), x = nI k → C1.length = most * w → (∀ p, p < k → C1.getD p 0 = C2.getD p 0) → V X 0 0 13 [(0, .ref rs), (1, .ref rs2), (2, .int x)] [] [cM rs (.inr (4, [.int (nI w), .ref c, .ref l])), rowM (XI X) c ca (most * w) C1, rowM (XI X) l la most (lens (L2.take most)), cM rs2 (.inr (4, [.int (nI w), .ref c2, .ref l2])), rowM (XI X) c2 ca2 (most2 * w) C2, rowM (XI X) l2 la2 most2 (lens L2)] := by
    refine loop_up ((L2.take most).length * w) ?_
    intro k hk ih x C1 hx h1 hp
    subst hx
    refine v_iload_n K dX4_copyFrom_13 rfl ?_
    refine v_aload_n K dX4_copyFrom_14 rfl ?_
    refine v_get K 0 rfl hasF_c rfl iX4 2 (by decide) rfl (by decide +kernel) rfl dX4_copyFrom_15 ?_
    refine v_callVi K [2] (c_X3_size (XI X) (XB X) _ _ _ _ ) rfl gX4_copyFrom_X3_size rfl rfl hd_X3_size ⟨rfl, rfl⟩ ⟨by decide, by decide⟩ 2 rfl rowF rfl (by decide) (Nat.le_of_ble_eq_true rfl) ⟨Nat.zero_le _, Nat.zero_le _⟩ rfl dX4_copyFrom_18 ?_
    refine v_aload_n K dX4_copyFrom_21 rfl ?_
    refine v_get K 0 rfl hasF_c rfl iX4 0 (by decide) rfl (by decide +kernel) rfl dX4_copyFrom_22 ?_
    refine v_imul K dX4_copyFrom_25 ?_
    rw [lens_len, pk_mul]
    refine v_ic_ge K 51 dX4_copyFrom_26 (by decide) (fun c26 => ?_) (fun c26 => ?_)
    · refine v_crows 0 (L2.take most) rfl rfl (rl_copy hC h2 h1 (fun p hp2 => hp p (by rw [up_end rfl (by omega) hk c26]; exact hp2))) rfl ?_
      refine v_crows 1 L2 rfl rfl h2 rfl ?_
      refine v_ret K E dX4_copyFrom_51 ?_ rfl
      exact ⟨rfl, rfl⟩
    · have hlt := up_lt rfl (by omega) hk c26
      refine v_aload_n K dX4_copyFrom_29 rfl ?_
      refine v_get K 0 rfl hasF_c rfl iX4 1 (by decide) rfl (by decide +kernel) rfl dX4_copyFrom_30 ?_
      refine v_iload_n K dX4_copyFrom_33 rfl ?_
      refine v_aload_n K dX4_copyFrom_34 rfl ?_
      refine v_get K 3 rfl hasF_c rfl iX4 1 (by decide) rfl (by decide +kernel) rfl dX4_copyFrom_35 ?_
      refine v_iload_n K dX4_copyFrom_38 rfl ?_
      refine v_callVi K [4] (c_X3_get (XI X) (XB X) _ _ _ _ _ ) rfl gX4_copyFrom_X3_get rfl rfl hd_X3_get ⟨rfl, rfl⟩ ⟨by decide, by decide⟩ 4 rfl rowF rfl (by decide) (Nat.le_of_ble_eq_true rfl) ⟨Nat.zero_le _, Nat.zero_le _⟩ rfl dX4_copyFrom_39 ?_
      refine v_callVv K [1] (c_X3_set (XI X) (XB X) _ _ _ _ _ _ ) rfl gX4_copyFrom_X3_set rfl rfl hd_X3_set ⟨rfl, rfl⟩ ⟨by decide, by decide⟩ 1 rfl rowF rfl (by decide) (Nat.le_of_ble_eq_true rfl) ⟨Nat.zero_le _, Nat.zero_le _⟩ rfl dX4_copyFrom_42 ?_
      refine v_iinc K dX4_copyFrom_45 rfl (by decide) iinc_1 ?_
      refine v_goto K 13 dX4_copyFrom_48 (by decide) ?_
      exact v_j (ih hlt _ (C1.set k (C2.getD k (-5))) (nI_1 k) (by rw [List.length_set]; exact h1) (fun p hp2 => cp_set h1 h2.2.1 (by omega) (by omega) hp hp2)) rfl rfl (by rw [← st_n (xs := C1) (k := k) (by omega), ← gt_n (xs := C2) (k := k) (by omega)]; rfl)
  exact v_j (lp 0 (Nat.zero_le _) 0 C rfl hC.2.1 (fun p hp => absurd hp (Nat.not_lt_zero p))) rfl rfl (by rw [← lens_take]; rfl)

theorem hd_X4_clear : yX4_clear.cls = RX4 ∧ yX4_clear.cls ≠ "java/lang/invoke/MethodHandle" ∧ yX4_clear.cls ≠ "java/lang/invoke/VarHandle" ∧ (parseMethodDescriptor yX4_clear.desc).map (fun d => d.parameters.length) = some 0 := by decide +kernel
set_option maxHeartbeats 4000000 in
set_option maxRecDepth 100000 in
theorem c_X4_clear (cI cB : ClassId) (rs c ca l la most w : Nat) (L : List (List Int32))  : Ct cI cB yX4_clear wsX4_clear { frames := 1, cells := 0, slots := 0, locals := 20 } [.ref rs] [rowsM cI rs c ca l la most w L] (dn [rowsM cI rs c ca l la most w []]) := by
  refine ct_of (cc := cX4_clear) (maxL := 1) (ret := none) (by decide) rfl (Nat.le_of_ble_eq_true rfl) [(0, .ref rs)] rfl ?_
  intro X hI hB K E
  subst hI
  subst hB
  have iX4 : ∀ w ∈ u_ws RX4 TX4 3, w ∈ wsX4_clear := by decide +kernel
  refine v_orows 0 rfl (fun C hC => ?_)
  refine v_aload_n K dX4_clear_0 rfl ?_
  refine v_get K 0 rfl hasF_c rfl iX4 2 (by decide) rfl (by decide +kernel) rfl dX4_clear_1 ?_
  refine v_callVv K [2] (c_X3_clear (XI X) (XB X) _ _ _ _ ) rfl gX4_clear_X3_clear rfl rfl hd_X3_clear ⟨rfl, rfl⟩ ⟨by decide, by decide⟩ 2 rfl rowF rfl (by decide) (Nat.le_of_ble_eq_true rfl) ⟨Nat.zero_le _, Nat.zero_le _⟩ rfl dX4_clear_4 ?_
  refine v_crows 0 [] rfl rfl (rl_nil hC) rfl ?_
  refine v_ret K E dX4_clear_7 ?_ rfl
  exact ⟨rfl, rfl⟩

theorem hd_X4_isLike : yX4_isLike.cls = RX4 ∧ yX4_isLike.cls ≠ "java/lang/invoke/MethodHandle" ∧ yX4_isLike.cls ≠ "java/lang/invoke/VarHandle" ∧ (parseMethodDescriptor yX4_isLike.desc).map (fun d => d.parameters.length) = some 2 := by decide +kernel
set_option maxHeartbeats 4000000 in
set_option maxRecDepth 100000 in
theorem c_X4_isLike (cI cB : ClassId) (rs c ca l la most w : Nat) (L : List (List Int32)) (I : Nat) (r a cap : Nat) (xs : List Int32) (hI : I < L.length) : Ct cI cB yX4_isLike wsX4_isLike { frames := 2, cells := 0, slots := 0, locals := 44 } [.ref rs, .int (nI I), .ref r] [rowsM cI rs c ca l la most w L, rowM cI r a cap xs] (dv (bI (decide (L.getD I [] = xs))) [rowsM cI rs c ca l la most w L, rowM cI r a cap xs]) := by
  refine ct_of (cc := cX4_isLike) (maxL := 4) (ret := (some .boolean)) (by decide) rfl (Nat.le_of_ble_eq_true rfl) [(0, .ref rs), (1, .int (nI I)), (2, .ref r)] rfl ?_
  intro X hI hB K E
  subst hI
  subst hB
  have iX4 : ∀ w ∈ u_ws RX4 TX4 3, w ∈ wsX4_isLike := by decide +kernel
  refine v_rowlen 1 rfl (fun hX => ?_)
  refine v_orows 0 rfl (fun C hC => ?_)
  have hN := rl_N hC
  have hl := Nat.lt_of_le_of_lt (rl_len (k := I) hC) hC.1.2.1
  refine v_aload_n K dX4_isLike_0 rfl ?_
  refine v_get K 0 rfl hasF_c rfl iX4 2 (by decide) rfl (by decide +kernel) rfl dX4_isLike_1 ?_
  refine v_iload_n K dX4_isLike_4 rfl ?_
  refine v_callVi K [2] (c_X3_get (XI X) (XB X) _ _ _ _ _ ) rfl gX4_isLike_X3_get rfl rfl hd_X3_get ⟨rfl, rfl⟩ ⟨by decide, by decide⟩ 2 rfl rowF rfl (by decide) (Nat.le_of_ble_eq_true rfl) ⟨Nat.zero_le _, Nat.zero_le _⟩ rfl dX4_isLike_5 ?_
  rw [gl_n hI hN]
  refine v_aload_n K dX4_isLike_8 rfl ?_
  refine v_callVi K [3] (c_X3_size (XI X) (XB X) _ _ _ _ ) rfl gX4_isLike_X3_size rfl rfl hd_X3_size ⟨rfl, rfl⟩ ⟨by decide, by decide⟩ 3 rfl rowF rfl (by decide) (Nat.le_of_ble_eq_true rfl) ⟨Nat.zero_le _, Nat.zero_le _⟩ rfl dX4_isLike_9 ?_
  refine v_ic_eq K 17 dX4_isLike_12 (by decide) (fun c12 => ?_) (fun c12 => ?_)
  · refine v_crows 0 _ rfl rfl hC rfl ?_
    refine v_iconst K (0) dX4_isLike_17 (by decide) ?_
    refine v_istore_n K dX4_isLike_18 (by decide) ?_
    have he := like_len hl hX c12
    have lp : ∀ k, k ≤ xs.length → ∀ (x : Int32), x = nI k → (∀ j, j < k → (L.getD I []).getD j (-5) = xs.getD j (-5)) → V X 0 0 19 [(0, .ref rs), (1, .int (nI I)), (2, .ref r), (3, .int x)] [] [rowsM (XI X) rs c ca l la most w L, rowM (XI X) r a cap xs] := by
      refine loop_up xs.length ?_
      intro k hk ih x hx hp
      subst hx
      refine v_iload_n K dX4_isLike_19 rfl ?_
      refine v_aload_n K dX4_isLike_20 rfl ?_
      refine v_callVi K [1] (c_X3_size (XI X) (XB X) _ _ _ _ ) rfl gX4_isLike_X3_size rfl rfl hd_X3_size ⟨rfl, rfl⟩ ⟨by decide, by decide⟩ 1 rfl rowF rfl (by decide) (Nat.le_of_ble_eq_true rfl) ⟨Nat.zero_le _, Nat.zero_le _⟩ rfl dX4_isLike_21 ?_
      refine v_ic_ge K 49 dX4_isLike_24 (by decide) (fun c24 => ?_) (fun c24 => ?_)
      · refine v_iconst K (1) dX4_isLike_49 (by decide) ?_
        refine v_zret K E dX4_isLike_50 (by first | exact Or.inl rfl | exact Or.inr rfl) ?_ rfl
        exact ⟨by rw [like_1 he (fun j hj => hp j (by rw [up_end rfl hX hk c24]; exact hj))], rfl⟩
      · have hlt := up_lt rfl hX hk c24
        refine v_aload_n K dX4_isLike_27 rfl ?_
        refine v_iload_n K dX4_isLike_28 rfl ?_
        refine v_iload_n K dX4_isLike_29 rfl ?_
        refine v_callVi K [0] (c_X4_get (XI X) (XB X) _ _ _ _ _ _ _ _ _ _ ) rfl gX4_isLike_X4_get rfl rfl hd_X4_get ⟨rfl, rfl⟩ ⟨by decide, by decide⟩ 0 rfl rowsF rfl (by decide) (Nat.le_of_ble_eq_true rfl) ⟨Nat.zero_le _, Nat.zero_le _⟩ rfl dX4_isLike_30 ?_
        refine v_aload_n K dX4_isLike_33 rfl ?_
        refine v_iload_n K dX4_isLike_34 rfl ?_
        refine v_callVi K [1] (c_X3_get (XI X) (XB X) _ _ _ _ _ ) rfl gX4_isLike_X3_get rfl rfl hd_X3_get ⟨rfl, rfl⟩ ⟨by decide, by decide⟩ 1 rfl rowF rfl (by decide) (Nat.le_of_ble_eq_true rfl) ⟨Nat.zero_le _, Nat.zero_le _⟩ rfl dX4_isLike_35 ?_
        rw [gg_n hI hN (by omega), gt_n (by omega)]
        refine v_ic_eq K 43 dX4_isLike_38 (by decide) (fun c38 => ?_) (fun c38 => ?_)
        · refine v_iinc K dX4_isLike_43 rfl (by decide) iinc_1 ?_
          refine v_goto K 19 dX4_isLike_46 (by decide) ?_
          exact v_j (ih hlt _ (nI_1 k) (fun j hj => (Nat.lt_or_ge j k).elim (hp j) (fun h => by rw [show j = k by omega]; exact c38))) rfl rfl rfl
        · refine v_iconst K (0) dX4_isLike_41 (by decide) ?_
          refine v_zret K E dX4_isLike_42 (by first | exact Or.inl rfl | exact Or.inr rfl) ?_ rfl
          exact ⟨by rw [like_ne c38], rfl⟩
    exact v_j (lp 0 (Nat.zero_le _) 0 rfl (fun j hj => absurd hj (Nat.not_lt_zero j))) rfl rfl rfl
  · refine v_iconst K (0) dX4_isLike_15 (by decide) ?_
    refine v_crows 0 _ rfl rfl hC rfl ?_
    refine v_zret K E dX4_isLike_16 (by first | exact Or.inl rfl | exact Or.inr rfl) ?_ rfl
    exact ⟨by rw [like_0 hl hX c12], rfl⟩

theorem hd_X4_isLike_ : yX4_isLike_.cls = RX4 ∧ yX4_isLike_.cls ≠ "java/lang/invoke/MethodHandle" ∧ yX4_isLike_.cls ≠ "java/lang/invoke/VarHandle" ∧ (parseMethodDescriptor yX4_isLike_.desc).map (fun d => d.parameters.length) = some 3 := by decide +kernel
set_option maxHeartbeats 4000000 in
set_option maxRecDepth 100000 in
theorem c_X4_isLike_same (cI cB : ClassId) (rs c ca l la most w : Nat) (L : List (List Int32)) (I J : Nat) (hI : I < L.length) (hJ : J < L.length) : Ct cI cB yX4_isLike_ wsX4_isLike_ { frames := 2, cells := 0, slots := 0, locals := 44 } [.ref rs, .int (nI I), .ref rs, .int (nI J)] [rowsM cI rs c ca l la most w L] (dv (bI (decide (L.getD I [] = L.getD J []))) [rowsM cI rs c ca l la most w L]) := by
  refine ct_of (cc := cX4_isLike_) (maxL := 5) (ret := (some .boolean)) (by decide) rfl (Nat.le_of_ble_eq_true rfl) [(0, .ref rs), (1, .int (nI I)), (2, .ref rs), (3, .int (nI J))] rfl ?_
  intro X hI hB K E
  subst hI
  subst hB
  have iX4 : ∀ w ∈ u_ws RX4 TX4 3, w ∈ wsX4_isLike_ := by decide +kernel
  refine v_orows 0 rfl (fun C hC => ?_)
  have hN := rl_N hC
  have hl := Nat.lt_of_le_of_lt (rl_len (k := I) hC) hC.1.2.1
  have hN2 := hN
  have hl2 := Nat.lt_of_le_of_lt (rl_len (k := J) hC) hC.1.2.1
  refine v_aload_n K dX4_isLike__0 rfl ?_
  refine v_get K 0 rfl hasF_c rfl iX4 2 (by decide) rfl (by decide +kernel) rfl dX4_isLike__1 ?_
  refine v_iload_n K dX4_isLike__4 rfl ?_
  refine v_callVi K [2] (c_X3_get (XI X) (XB X) _ _ _ _ _ ) rfl gX4_isLike__X3_get rfl rfl hd_X3_get ⟨rfl, rfl⟩ ⟨by decide, by decide⟩ 2 rfl rowF rfl (by decide) (Nat.le_of_ble_eq_true rfl) ⟨Nat.zero_le _, Nat.zero_le _⟩ rfl dX4_isLike__5 ?_
  refine v_aload_n K dX4_isLike__8 rfl ?_
  refine v_get K 0 rfl hasF_c rfl iX4 2 (by decide) rfl (by decide +kernel) rfl dX4_isLike__9 ?_
  refine v_iload_n K dX4_isLike__12 rfl ?_
  refine v_callVi K [2] (c_X3_get (XI X) (XB X) _ _ _ _ _ ) rfl gX4_isLike__X3_get rfl rfl hd_X3_get ⟨rfl, rfl⟩ ⟨by decide, by decide⟩ 2 rfl rowF rfl (by decide) (Nat.le_of_ble_eq_true rfl) ⟨Nat.zero_le _, Nat.zero_le _⟩ rfl dX4_isLike__13 ?_
  rw [gl_n hI hN, gl_n hJ hN2]
  refine v_ic_eq K 21 dX4_isLike__16 (by decide) (fun c16 => ?_) (fun c16 => ?_)
  · refine v_crows 0 _ rfl rfl hC rfl ?_
    refine v_iconst K (0) dX4_isLike__21 (by decide) ?_
    refine v_istore K dX4_isLike__22 (by decide) ?_
    have he := like_len hl hl2 c16
    have lp : ∀ k, k ≤ (L.getD I []).length → ∀ (x : Int32), x = nI k → (∀ j, j < k → (L.getD I []).getD j (-5) = (L.getD J []).getD j (-5)) → V X 0 0 24 [(0, .ref rs), (1, .int (nI I)), (2, .ref rs), (3, .int (nI J)), (4, .int x)] [] [rowsM (XI X) rs c ca l la most w L] := by
      refine loop_up (L.getD I []).length ?_
      intro k hk ih x hx hp
      subst hx
      refine v_iload K dX4_isLike__24 rfl ?_
      refine v_orows 0 rfl (fun C3 hC3 => ?_)
      refine v_aload_n K dX4_isLike__26 rfl ?_
      refine v_get K 0 rfl hasF_c rfl iX4 2 (by decide) rfl (by decide +kernel) rfl dX4_isLike__27 ?_
      refine v_iload_n K dX4_isLike__30 rfl ?_
      refine v_callVi K [2] (c_X3_get (XI X) (XB X) _ _ _ _ _ ) rfl gX4_isLike__X3_get rfl rfl hd_X3_get ⟨rfl, rfl⟩ ⟨by decide, by decide⟩ 2 rfl rowF rfl (by decide) (Nat.le_of_ble_eq_true rfl) ⟨Nat.zero_le _, Nat.zero_le _⟩ rfl dX4_isLike__31 ?_
      refine v_crows 0 _ rfl rfl hC3 rfl ?_
      rw [gl_n hI hN]
      refine v_ic_ge K 62 dX4_isLike__34 (by decide) (fun c34 => ?_) (fun c34 => ?_)
      · refine v_iconst K (1) dX4_isLike__62 (by decide) ?_
        refine v_zret K E dX4_isLike__63 (by first | exact Or.inl rfl | exact Or.inr rfl) ?_ rfl
        exact ⟨by rw [like_1 he (fun j hj => hp j (by rw [up_end rfl hl hk c34, he]; exact hj))], rfl⟩
      · have hlt := up_lt rfl hl hk c34
        refine v_aload_n K dX4_isLike__37 rfl ?_
        refine v_iload_n K dX4_isLike__38 rfl ?_
        refine v_iload K dX4_isLike__39 rfl ?_
        refine v_callVi K [0] (c_X4_get (XI X) (XB X) _ _ _ _ _ _ _ _ _ _ ) rfl gX4_isLike__X4_get rfl rfl hd_X4_get ⟨rfl, rfl⟩ ⟨by decide, by decide⟩ 0 rfl rowsF rfl (by decide) (Nat.le_of_ble_eq_true rfl) ⟨Nat.zero_le _, Nat.zero_le _⟩ rfl dX4_isLike__41 ?_
        refine v_aload_n K dX4_isLike__44 rfl ?_
        refine v_iload_n K dX4_isLike__45 rfl ?_
        refine v_iload K dX4_isLike__46 rfl ?_
        refine v_callVi K [0] (c_X4_get (XI X) (XB X) _ _ _ _ _ _ _ _ _ _ ) rfl gX4_isLike__X4_get rfl rfl hd_X4_get ⟨rfl, rfl⟩ ⟨by decide, by decide⟩ 0 rfl rowsF rfl (by decide) (Nat.le_of_ble_eq_true rfl) ⟨Nat.zero_le _, Nat.zero_le _⟩ rfl dX4_isLike__48 ?_
        rw [gg_n hI hN (by omega), gg_n hJ hN2 (by omega)]
        refine v_ic_eq K 56 dX4_isLike__51 (by decide) (fun c51 => ?_) (fun c51 => ?_)
        · refine v_iinc K dX4_isLike__56 rfl (by decide) iinc_1 ?_
          refine v_goto K 24 dX4_isLike__59 (by decide) ?_
          exact v_j (ih hlt _ (nI_1 k) (fun j hj => (Nat.lt_or_ge j k).elim (hp j) (fun h => by rw [show j = k by omega]; exact c51))) rfl rfl rfl
        · refine v_iconst K (0) dX4_isLike__54 (by decide) ?_
          refine v_zret K E dX4_isLike__55 (by first | exact Or.inl rfl | exact Or.inr rfl) ?_ rfl
          exact ⟨by rw [like_ne c51], rfl⟩
    exact v_j (lp 0 (Nat.zero_le _) 0 rfl (fun j hj => absurd hj (Nat.not_lt_zero j))) rfl rfl rfl
  · refine v_iconst K (0) dX4_isLike__19 (by decide) ?_
    refine v_crows 0 _ rfl rfl hC rfl ?_
    refine v_zret K E dX4_isLike__20 (by first | exact Or.inl rfl | exact Or.inr rfl) ?_ rfl
    exact ⟨by rw [like_0 hl hl2 c16], rfl⟩

set_option maxHeartbeats 4000000 in
set_option maxRecDepth 100000 in
theorem c_X4_isLike_ (cI cB : ClassId) (rs c ca l la most w : Nat) (L : List (List Int32)) (I : Nat) (rs2 c2 ca2 l2 la2 most2 w2 : Nat) (L2 : List (List Int32)) (J : Nat) (hI : I < L.length) (hJ : J < L2.length) : Ct cI cB yX4_isLike_ wsX4_isLike_ { frames := 2, cells := 0, slots := 0, locals := 44 } [.ref rs, .int (nI I), .ref rs2, .int (nI J)] [rowsM cI rs c ca l la most w L, rowsM cI rs2 c2 ca2 l2 la2 most2 w2 L2] (dv (bI (decide (L.getD I [] = L2.getD J []))) [rowsM cI rs c ca l la most w L, rowsM cI rs2 c2 ca2 l2 la2 most2 w2 L2]) := by
  refine ct_of (cc := cX4_isLike_) (maxL := 5) (ret := (some .boolean)) (by decide) rfl (Nat.le_of_ble_eq_true rfl) [(0, .ref rs), (1, .int (nI I)), (2, .ref rs2), (3, .int (nI J))] rfl ?_
  intro X hI hB K E
  subst hI
  subst hB
  have iX4 : ∀ w ∈ u_ws RX4 TX4 3, w ∈ wsX4_isLike_ := by decide +kernel
  refine v_orows 0 rfl (fun C hC => ?_)
  refine v_orows 3 rfl (fun C2 hC2 => ?_)
  have hN := rl_N hC
  have hl := Nat.lt_of_le_of_lt (rl_len (k := I) hC) hC.1.2.1
  have hN2 := rl_N hC2
  have hl2 := Nat.lt_of_le_of_lt (rl_len (k := J) hC2) hC2.1.2.1
  refine v_aload_n K dX4_isLike__0 rfl ?_
  refine v_get K 0 rfl hasF_c rfl iX4 2 (by decide) rfl (by decide +kernel) rfl dX4_isLike__1 ?_
  refine v_iload_n K dX4_isLike__4 rfl ?_
  refine v_callVi K [2] (c_X3_get (XI X) (XB X) _ _ _ _ _ ) rfl gX4_isLike__X3_get rfl rfl hd_X3_get ⟨rfl, rfl⟩ ⟨by decide, by decide⟩ 2 rfl rowF rfl (by decide) (Nat.le_of_ble_eq_true rfl) ⟨Nat.zero_le _, Nat.zero_le _⟩ rfl dX4_isLike__5 ?_
  refine v_aload_n K dX4_isLike__8 rfl ?_
  refine v_get K 3 rfl hasF_c rfl iX4 2 (by decide) rfl (by decide +kernel) rfl dX4_isLike__9 ?_
  refine v_iload_n K dX4_isLike__12 rfl ?_
  refine v_callVi K [5] (c_X3_get (XI X) (XB X) _ _ _ _ _ ) rfl gX4_isLike__X3_get rfl rfl hd_X3_get ⟨rfl, rfl⟩ ⟨by decide, by decide⟩ 5 rfl rowF rfl (by decide) (Nat.le_of_ble_eq_true rfl) ⟨Nat.zero_le _, Nat.zero_le _⟩ rfl dX4_isLike__13 ?_
  rw [gl_n hI hN, gl_n hJ hN2]
  refine v_ic_eq K 21 dX4_isLike__16 (by decide) (fun c16 => ?_) (fun c16 => ?_)
  · refine v_crows 0 _ rfl rfl hC rfl ?_
    refine v_crows 1 _ rfl rfl hC2 rfl ?_
    refine v_iconst K (0) dX4_isLike__21 (by decide) ?_
    refine v_istore K dX4_isLike__22 (by decide) ?_
    have he := like_len hl hl2 c16
    have lp : ∀ k, k ≤ (L.getD I []).length → ∀ (x : Int32), x = nI k → (∀ j, j < k → (L.getD I []).getD j (-5) = (L2.getD J []).getD j (-5)) → V X 0 0 24 [(0, .ref rs), (1, .int (nI I)), (2, .ref rs2), (3, .int (nI J)), (4, .int x)] [] [rowsM (XI X) rs c ca l la most w L, rowsM (XI X) rs2 c2 ca2 l2 la2 most2 w2 L2] := by
      refine loop_up (L.getD I []).length ?_
      intro k hk ih x hx hp
      subst hx
      refine v_iload K dX4_isLike__24 rfl ?_
      refine v_orows 0 rfl (fun C3 hC3 => ?_)
      refine v_aload_n K dX4_isLike__26 rfl ?_
      refine v_get K 0 rfl hasF_c rfl iX4 2 (by decide) rfl (by decide +kernel) rfl dX4_isLike__27 ?_
      refine v_iload_n K dX4_isLike__30 rfl ?_
      refine v_callVi K [2] (c_X3_get (XI X) (XB X) _ _ _ _ _ ) rfl gX4_isLike__X3_get rfl rfl hd_X3_get ⟨rfl, rfl⟩ ⟨by decide, by decide⟩ 2 rfl rowF rfl (by decide) (Nat.le_of_ble_eq_true rfl) ⟨Nat.zero_le _, Nat.zero_le _⟩ rfl dX4_isLike__31 ?_
      refine v_crows 0 _ rfl rfl hC3 rfl ?_
      rw [gl_n hI hN]
      refine v_ic_ge K 62 dX4_isLike__34 (by decide) (fun c34 => ?_) (fun c34 => ?_)
      · refine v_iconst K (1) dX4_isLike__62 (by decide) ?_
        refine v_zret K E dX4_isLike__63 (by first | exact Or.inl rfl | exact Or.inr rfl) ?_ rfl
        exact ⟨by rw [like_1 he (fun j hj => hp j (by rw [up_end rfl hl hk c34, he]; exact hj))], rfl⟩
      · have hlt := up_lt rfl hl hk c34
        refine v_aload_n K dX4_isLike__37 rfl ?_
        refine v_iload_n K dX4_isLike__38 rfl ?_
        refine v_iload K dX4_isLike__39 rfl ?_
        refine v_callVi K [0] (c_X4_get (XI X) (XB X) _ _ _ _ _ _ _ _ _ _ ) rfl gX4_isLike__X4_get rfl rfl hd_X4_get ⟨rfl, rfl⟩ ⟨by decide, by decide⟩ 0 rfl rowsF rfl (by decide) (Nat.le_of_ble_eq_true rfl) ⟨Nat.zero_le _, Nat.zero_le _⟩ rfl dX4_isLike__41 ?_
        refine v_aload_n K dX4_isLike__44 rfl ?_
        refine v_iload_n K dX4_isLike__45 rfl ?_
        refine v_iload K dX4_isLike__46 rfl ?_
        refine v_callVi K [1] (c_X4_get (XI X) (XB X) _ _ _ _ _ _ _ _ _ _ ) rfl gX4_isLike__X4_get rfl rfl hd_X4_get ⟨rfl, rfl⟩ ⟨by decide, by decide⟩ 1 rfl rowsF rfl (by decide) (Nat.le_of_ble_eq_true rfl) ⟨Nat.zero_le _, Nat.zero_le _⟩ rfl dX4_isLike__48 ?_
        rw [gg_n hI hN (by omega), gg_n hJ hN2 (by omega)]
        refine v_ic_eq K 56 dX4_isLike__51 (by decide) (fun c51 => ?_) (fun c51 => ?_)
        · refine v_iinc K dX4_isLike__56 rfl (by decide) iinc_1 ?_
          refine v_goto K 24 dX4_isLike__59 (by decide) ?_
          exact v_j (ih hlt _ (nI_1 k) (fun j hj => (Nat.lt_or_ge j k).elim (hp j) (fun h => by rw [show j = k by omega]; exact c51))) rfl rfl rfl
        · refine v_iconst K (0) dX4_isLike__54 (by decide) ?_
          refine v_zret K E dX4_isLike__55 (by first | exact Or.inl rfl | exact Or.inr rfl) ?_ rfl
          exact ⟨by rw [like_ne c51], rfl⟩
    exact v_j (lp 0 (Nat.zero_le _) 0 rfl (fun j hj => absurd hj (Nat.not_lt_zero j))) rfl rfl rfl
  · refine v_iconst K (0) dX4_isLike__19 (by decide) ?_
    refine v_crows 0 _ rfl rfl hC rfl ?_
    refine v_crows 1 _ rfl rfl hC2 rfl ?_
    refine v_zret K E dX4_isLike__20 (by first | exact Or.inl rfl | exact Or.inr rfl) ?_ rfl
    exact ⟨by rw [like_0 hl hl2 c16], rfl⟩

theorem hd_X4_find : yX4_find.cls = RX4 ∧ yX4_find.cls ≠ "java/lang/invoke/MethodHandle" ∧ yX4_find.cls ≠ "java/lang/invoke/VarHandle" ∧ (parseMethodDescriptor yX4_find.desc).map (fun d => d.parameters.length) = some 1 := by decide +kernel
set_option maxHeartbeats 4000000 in
set_option maxRecDepth 100000 in
theorem c_X4_find (cI cB : ClassId) (rs c ca l la most w : Nat) (L : List (List Int32)) (r a cap : Nat) (xs : List Int32)  : Ct cI cB yX4_find wsX4_find { frames := 3, cells := 0, slots := 0, locals := 67 } [.ref rs, .ref r] [rowsM cI rs c ca l la most w L, rowM cI r a cap xs] (dv (opI (fdo xs L 0)) [rowsM cI rs c ca l la most w L, rowM cI r a cap xs]) := by
  refine ct_of (cc := cX4_find) (maxL := 3) (ret := (some .int)) (by decide) rfl (Nat.le_of_ble_eq_true rfl) [(0, .ref rs), (1, .ref r)] rfl ?_
  intro X hI hB K E
  subst hI
  subst hB
  have iX4 : ∀ w ∈ u_ws RX4 TX4 3, w ∈ wsX4_find := by decide +kernel
  refine v_rowsrl 0 rfl (fun hE => ?_)
  obtain ⟨C0, hC0⟩ := hE
  have hN := rl_N hC0
  have lp : ∀ k, k ≤ L.length → ∀ (x : Int32), x = nI k → fdo xs (L.drop k) k = fdo xs L 0 → V X 0 0 2 [(0, .ref rs), (1, .ref r), (2, .int x)] [] [rowsM (XI X) rs c ca l la most w L, rowM (XI X) r a cap xs] := by
    refine loop_up L.length ?_
    intro k hk ih x hx hp
    subst hx
    refine v_iload_n K dX4_find_2 rfl ?_
    refine v_orows 0 rfl (fun C hC => ?_)
    refine v_aload_n K dX4_find_3 rfl ?_
    refine v_get K 0 rfl hasF_c rfl iX4 2 (by decide) rfl (by decide +kernel) rfl dX4_find_4 ?_
    refine v_callVi K [2] (c_X3_size (XI X) (XB X) _ _ _ _ ) rfl gX4_find_X3_size rfl rfl hd_X3_size ⟨rfl, rfl⟩ ⟨by decide, by decide⟩ 2 rfl rowF rfl (by decide) (Nat.le_of_ble_eq_true rfl) ⟨Nat.zero_le _, Nat.zero_le _⟩ rfl dX4_find_7 ?_
    refine v_ic_ge K 30 dX4_find_10 (by decide) (fun c10 => ?_) (fun c10 => ?_)
    · refine v_crows 0 _ rfl rfl hC rfl ?_
      rw [lens_len] at c10
      refine v_bipush K (-5) dX4_find_30 (by decide) ?_
      refine v_iret K E dX4_find_32 ?_ rfl
      exact ⟨by rw [← hp, up_end rfl hN hk c10, List.drop_length] <;> rfl, rfl⟩
    · refine v_crows 0 _ rfl rfl hC rfl ?_
      rw [lens_len] at c10
      have hlt := up_lt rfl hN hk c10
      refine v_aload_n K dX4_find_13 rfl ?_
      refine v_iload_n K dX4_find_14 rfl ?_
      refine v_aload_n K dX4_find_15 rfl ?_
      refine v_callVi K [0, 1] (c_X4_isLike (XI X) (XB X) _ _ _ _ _ _ _ _ _ _ _ _ _ ?hc16_0) rfl gX4_find_X4_isLike rfl rfl hd_X4_isLike ⟨rfl, rfl⟩ ⟨by decide, by decide⟩ 0 rfl rowsF rfl (by decide) (Nat.le_of_ble_eq_true rfl) ⟨Nat.zero_le _, Nat.zero_le _⟩ rfl dX4_find_16 ?_
      case hc16_0 => exact hlt
      refine v_if_eq K 24 dX4_find_19 (by decide) (fun c19 => ?_) (fun c19 => ?_)
      · refine v_iinc K dX4_find_24 rfl (by decide) iinc_1 ?_
        refine v_goto K 2 dX4_find_27 (by decide) ?_
        exact v_j (ih hlt _ (nI_1 k) (by rw [← hp, fdo_step hlt (of_decide_eq_false (bI_0 c19))])) rfl rfl rfl
      · refine v_iload_n K dX4_find_22 rfl ?_
        refine v_iret K E dX4_find_23 ?_ rfl
        exact ⟨by rw [← hp, fdo_hit hlt (of_decide_eq_true (bI_1 c19))] <;> rfl, rfl⟩
  refine v_iconst K (0) dX4_find_0 (by decide) ?_
  refine v_istore_n K dX4_find_1 (by decide) ?_
  exact v_j (lp 0 (Nat.zero_le _) 0 rfl rfl) rfl rfl rfl

theorem hd_X4_lowestLike : yX4_lowestLike.cls = RX4 ∧ yX4_lowestLike.cls ≠ "java/lang/invoke/MethodHandle" ∧ yX4_lowestLike.cls ≠ "java/lang/invoke/VarHandle" ∧ (parseMethodDescriptor yX4_lowestLike.desc).map (fun d => d.parameters.length) = some 1 := by decide +kernel
set_option maxHeartbeats 4000000 in
set_option maxRecDepth 100000 in
theorem c_X4_lowestLike (cI cB : ClassId) (rs c ca l la most w : Nat) (L : List (List Int32)) (I : Nat) (hI : I < L.length) : Ct cI cB yX4_lowestLike wsX4_lowestLike { frames := 3, cells := 0, slots := 0, locals := 68 } [.ref rs, .int (nI I)] [rowsM cI rs c ca l la most w L] (dv (opI (fdo (L.getD I []) L 0)) [rowsM cI rs c ca l la most w L]) := by
  refine ct_of (cc := cX4_lowestLike) (maxL := 3) (ret := (some .int)) (by decide) rfl (Nat.le_of_ble_eq_true rfl) [(0, .ref rs), (1, .int (nI I))] rfl ?_
  intro X hI hB K E
  subst hI
  subst hB
  refine v_rowsrl 0 rfl (fun hE => ?_)
  obtain ⟨C0, hC0⟩ := hE
  have hN := rl_N hC0
  have lp : ∀ k, k ≤ I → ∀ (x : Int32), x = nI k → fdo (L.getD I []) (L.drop k) k = fdo (L.getD I []) L 0 → V X 0 0 2 [(0, .ref rs), (1, .int (nI I)), (2, .int x)] [] [rowsM (XI X) rs c ca l la most w L] := by
    refine loop_up I ?_
    intro k hk ih x hx hp
    subst hx
    refine v_iload_n K dX4_lowestLike_2 rfl ?_
    refine v_iload_n K dX4_lowestLike_3 rfl ?_
    refine v_ic_ge K 25 dX4_lowestLike_4 (by decide) (fun c4 => ?_) (fun c4 => ?_)
    · refine v_iload_n K dX4_lowestLike_25 rfl ?_
      refine v_iret K E dX4_lowestLike_26 ?_ rfl
      exact ⟨by rw [← hp, up_end rfl (by omega) hk c4, fdo_hit hI rfl] <;> rfl, rfl⟩
    · have hlt := up_lt rfl (by omega) hk c4
      refine v_aload_n K dX4_lowestLike_7 rfl ?_
      refine v_iload_n K dX4_lowestLike_8 rfl ?_
      refine v_aload_n K dX4_lowestLike_9 rfl ?_
      refine v_iload_n K dX4_lowestLike_10 rfl ?_
      refine v_callVi K [0] (c_X4_isLike_same (XI X) (XB X) _ _ _ _ _ _ _ _ _ _ ?hc11_0 ?hc11_1) rfl gX4_lowestLike_X4_isLike_ rfl rfl hd_X4_isLike_ ⟨rfl, rfl⟩ ⟨by decide, by decide⟩ 0 rfl rowsF rfl (by decide) (Nat.le_of_ble_eq_true rfl) ⟨Nat.zero_le _, Nat.zero_le _⟩ rfl dX4_lowestLike_11 ?_
      case hc11_0 => omega
      case hc11_1 => exact hI
      refine v_if_eq K 19 dX4_lowestLike_14 (by decide) (fun c14 => ?_) (fun c14 => ?_)
      · refine v_iinc K dX4_lowestLike_19 rfl (by decide) iinc_1 ?_
        refine v_goto K 2 dX4_lowestLike_22 (by decide) ?_
        exact v_j (ih hlt _ (nI_1 k) (by rw [← hp, fdo_step (by omega) (of_decide_eq_false (bI_0 c14))])) rfl rfl rfl
      · refine v_iload_n K dX4_lowestLike_17 rfl ?_
        refine v_iret K E dX4_lowestLike_18 ?_ rfl
        exact ⟨by rw [← hp, fdo_hit (by omega) (of_decide_eq_true (bI_1 c14))] <;> rfl, rfl⟩
  refine v_iconst K (0) dX4_lowestLike_0 (by decide) ?_
  refine v_istore_n K dX4_lowestLike_1 (by decide) ?_
  exact v_j (lp 0 (Nat.zero_le _) 0 rfl rfl) rfl rfl rfl

theorem hd_X4_countLike : yX4_countLike.cls = RX4 ∧ yX4_countLike.cls ≠ "java/lang/invoke/MethodHandle" ∧ yX4_countLike.cls ≠ "java/lang/invoke/VarHandle" ∧ (parseMethodDescriptor yX4_countLike.desc).map (fun d => d.parameters.length) = some 1 := by decide +kernel
set_option maxHeartbeats 4000000 in
set_option maxRecDepth 100000 in
theorem c_X4_countLike (cI cB : ClassId) (rs c ca l la most w : Nat) (L : List (List Int32)) (I : Nat) (hI : I < L.length) : Ct cI cB yX4_countLike wsX4_countLike { frames := 3, cells := 0, slots := 0, locals := 68 } [.ref rs, .int (nI I)] [rowsM cI rs c ca l la most w L] (dv (nI (cnt (L.getD I []) L)) [rowsM cI rs c ca l la most w L]) := by
  refine ct_of (cc := cX4_countLike) (maxL := 4) (ret := (some .int)) (by decide) rfl (Nat.le_of_ble_eq_true rfl) [(0, .ref rs), (1, .int (nI I))] rfl ?_
  intro X hI hB K E
  subst hI
  subst hB
  have iX4 : ∀ w ∈ u_ws RX4 TX4 3, w ∈ wsX4_countLike := by decide +kernel
  refine v_rowsrl 0 rfl (fun hE => ?_)
  obtain ⟨C0, hC0⟩ := hE
  have hN := rl_N hC0
  have lp : ∀ k, k ≤ L.length → ∀ (x : Int32) (n : Nat), x = nI k → n + cnt (L.getD I []) (L.drop k) = cnt (L.getD I []) L → V X 0 0 4 [(0, .ref rs), (1, .int (nI I)), (2, .int (nI n)), (3, .int x)] [] [rowsM (XI X) rs c ca l la most w L] := by
    refine loop_up L.length ?_
    intro k hk ih x n hx hp
    subst hx
    refine v_iload_n K dX4_countLike_4 rfl ?_
    refine v_orows 0 rfl (fun C hC => ?_)
    refine v_aload_n K dX4_countLike_5 rfl ?_
    refine v_get K 0 rfl hasF_c rfl iX4 2 (by decide) rfl (by decide +kernel) rfl dX4_countLike_6 ?_
    refine v_callVi K [2] (c_X3_size (XI X) (XB X) _ _ _ _ ) rfl gX4_countLike_X3_size rfl rfl hd_X3_size ⟨rfl, rfl⟩ ⟨by decide, by decide⟩ 2 rfl rowF rfl (by decide) (Nat.le_of_ble_eq_true rfl) ⟨Nat.zero_le _, Nat.zero_le _⟩ rfl dX4_countLike_9 ?_
    refine v_ic_ge K 34 dX4_countLike_12 (by decide) (fun c12 => ?_) (fun c12 => ?_)
    · refine v_crows 0 _ rfl rfl hC rfl ?_
      rw [lens_len] at c12
      refine v_iload_n K dX4_countLike_34 rfl ?_
      refine v_iret K E dX4_countLike_35 ?_ rfl
      exact ⟨by rw [← hp, up_end rfl hN hk c12, List.drop_length] <;> rfl, rfl⟩
    · refine v_crows 0 _ rfl rfl hC rfl ?_
      rw [lens_len] at c12
      have hlt := up_lt rfl hN hk c12
      refine v_aload_n K dX4_countLike_15 rfl ?_
      refine v_iload_n K dX4_countLike_16 rfl ?_
      refine v_aload_n K dX4_countLike_17 rfl ?_
      refine v_iload_n K dX4_countLike_18 rfl ?_
      refine v_callVi K [0] (c_X4_isLike_same (XI X) (XB X) _ _ _ _ _ _ _ _ _ _ ?hc19_0 ?hc19_1) rfl gX4_countLike_X4_isLike_ rfl rfl hd_X4_isLike_ ⟨rfl, rfl⟩ ⟨by decide, by decide⟩ 0 rfl rowsF rfl (by decide) (Nat.le_of_ble_eq_true rfl) ⟨Nat.zero_le _, Nat.zero_le _⟩ rfl dX4_countLike_19 ?_
      case hc19_0 => exact hlt
      case hc19_1 => exact hI
      refine v_if_eq K 28 dX4_countLike_22 (by decide) (fun c22 => ?_) (fun c22 => ?_)
      · refine v_iinc K dX4_countLike_28 rfl (by decide) iinc_1 ?_
        refine v_goto K 4 dX4_countLike_31 (by decide) ?_
        exact v_j (ih hlt _ n (nI_1 k) (by rw [← hp, cnt_step hlt (of_decide_eq_false (bI_0 c22))])) rfl rfl rfl
      · refine v_iinc K dX4_countLike_25 rfl (by decide) iinc_1 ?_
        refine v_iinc K dX4_countLike_28 rfl (by decide) iinc_1 ?_
        refine v_goto K 4 dX4_countLike_31 (by decide) ?_
        exact v_j (ih hlt _ (n + 1) (nI_1 k) (by rw [← hp, cnt_hit hlt (of_decide_eq_true (bI_1 c22))]; omega)) (by rw [← nI_1]; rfl) rfl rfl
  refine v_iconst K (0) dX4_countLike_0 (by decide) ?_
  refine v_istore_n K dX4_countLike_1 (by decide) ?_
  refine v_iconst K (0) dX4_countLike_2 (by decide) ?_
  refine v_istore_n K dX4_countLike_3 (by decide) ?_
  exact v_j (lp 0 (Nat.zero_le _) 0 0 rfl (Nat.zero_add _)) rfl rfl rfl

theorem hd_X4_swap : yX4_swap.cls = RX4 ∧ yX4_swap.cls ≠ "java/lang/invoke/MethodHandle" ∧ yX4_swap.cls ≠ "java/lang/invoke/VarHandle" ∧ (parseMethodDescriptor yX4_swap.desc).map (fun d => d.parameters.length) = some 2 := by decide +kernel
set_option maxHeartbeats 4000000 in
set_option maxRecDepth 100000 in
theorem c_X4_swap (cI cB : ClassId) (rs c ca l la most w : Nat) (L : List (List Int32)) (I J : Nat) (hI : I < L.length) (hJ : J < L.length) : Ct cI cB yX4_swap wsX4_swap { frames := 2, cells := 0, slots := 0, locals := 45 } [.ref rs, .int (nI I), .int (nI J)] [rowsM cI rs c ca l la most w L] (dn [rowsM cI rs c ca l la most w (swG [] L I J)]) := by
  refine ct_of (cc := cX4_swap) (maxL := 4) (ret := none) (by decide) rfl (Nat.le_of_ble_eq_true rfl) [(0, .ref rs), (1, .int (nI I)), (2, .int (nI J))] rfl ?_
  intro X hI hB K E
  subst hI
  subst hB
  have iX4 : ∀ w ∈ u_ws RX4 TX4 3, w ∈ wsX4_swap := by decide +kernel
  refine v_orows 0 rfl (fun C hC => ?_)
  have hN := rl_N hC
  have hw := hC.1.2.1
  have hb := hC.1.2.2
  have hI2 := Nat.lt_of_lt_of_le hI hC.2.2.1
  have hJ2 := Nat.lt_of_lt_of_le hJ hC.2.2.1
  have lp : ∀ k, k ≤ w → ∀ (x : Int32) (C1 : List Int32), x = nI k → prs most w I J k C C1 → V X 0 0 11 [(0, .ref rs), (1, .int (nI I)), (2, .int (nI J)), (3, .int x)] [] [cM rs (.inr (4, [.int (nI w), .ref c, .ref l])), rowM (XI X) c ca (most * w) C1, rowM (XI X) l la most (lens (swG [] L I J))] := by
    refine loop_up w ?_
    intro k hk ih x C1 hx hp
    subst hx
    refine v_iload_n K dX4_swap_11 rfl ?_
    refine v_aload_n K dX4_swap_12 rfl ?_
    refine v_get K 0 rfl hasF_c rfl iX4 0 (by decide) rfl (by decide +kernel) rfl dX4_swap_13 ?_
    refine v_ic_ge K 48 dX4_swap_16 (by decide) (fun c16 => ?_) (fun c16 => ?_)
    · refine v_crows 0 (swG [] L I J) rfl rfl (prs_end hC (by have h := hp; rw [up_end rfl hw hk c16] at h; exact h) hI hJ) rfl ?_
      refine v_ret K E dX4_swap_48 ?_ rfl
      exact ⟨rfl, rfl⟩
    · have hlt := up_lt rfl hw hk c16
      have m1 := mul_lt hI2 hlt
      have m2 := mul_lt hJ2 hlt
      have hl := hp.1
      refine v_aload_n K dX4_swap_19 rfl ?_
      refine v_get K 0 rfl hasF_c rfl iX4 1 (by decide) rfl (by decide +kernel) rfl dX4_swap_20 ?_
      refine v_iload_n K dX4_swap_23 rfl ?_
      refine v_aload_n K dX4_swap_24 rfl ?_
      refine v_get K 0 rfl hasF_c rfl iX4 0 (by decide) rfl (by decide +kernel) rfl dX4_swap_25 ?_
      refine v_imul K dX4_swap_28 ?_
      refine v_iload_n K dX4_swap_29 rfl ?_
      refine v_iadd K dX4_swap_30 ?_
      refine v_iload_n K dX4_swap_31 rfl ?_
      refine v_aload_n K dX4_swap_32 rfl ?_
      refine v_get K 0 rfl hasF_c rfl iX4 0 (by decide) rfl (by decide +kernel) rfl dX4_swap_33 ?_
      refine v_imul K dX4_swap_36 ?_
      refine v_iload_n K dX4_swap_37 rfl ?_
      refine v_iadd K dX4_swap_38 ?_
      rw [ix_n, ix_n]
      refine v_callVv K [1] (c_X3_swap (XI X) (XB X) _ _ _ _ _ _ ) rfl gX4_swap_X3_swap rfl rfl hd_X3_swap ⟨rfl, rfl⟩ ⟨by decide, by decide⟩ 1 rfl rowF rfl (by decide) (Nat.le_of_ble_eq_true rfl) ⟨Nat.zero_le _, Nat.zero_le _⟩ rfl dX4_swap_39 ?_
      refine v_iinc K dX4_swap_42 rfl (by decide) iinc_1 ?_
      refine v_goto K 11 dX4_swap_45 (by decide) ?_
      exact v_j (ih hlt _ (swG 0 C1 (I * w + k) (J * w + k)) (nI_1 k) (prs_step hp hlt hI2 hJ2)) rfl rfl (by rw [← sw_n (by omega) (by omega) (by omega)]; rfl)
  refine v_aload_n K dX4_swap_0 rfl ?_
  refine v_get K 0 rfl hasF_c rfl iX4 2 (by decide) rfl (by decide +kernel) rfl dX4_swap_1 ?_
  refine v_iload_n K dX4_swap_4 rfl ?_
  refine v_iload_n K dX4_swap_5 rfl ?_
  refine v_callVv K [2] (c_X3_swap (XI X) (XB X) _ _ _ _ _ _ ) rfl gX4_swap_X3_swap rfl rfl hd_X3_swap ⟨rfl, rfl⟩ ⟨by decide, by decide⟩ 2 rfl rowF rfl (by decide) (Nat.le_of_ble_eq_true rfl) ⟨Nat.zero_le _, Nat.zero_le _⟩ rfl dX4_swap_6 ?_
  refine v_iconst K (0) dX4_swap_9 (by decide) ?_
  refine v_istore_n K dX4_swap_10 (by decide) ?_
  exact v_j (lp 0 (Nat.zero_le _) 0 C rfl (prs_0 hC.2.1)) rfl rfl (by rw [← lens_sw hI hJ hN]; rfl)

theorem hd_X4_move : yX4_move.cls = RX4 ∧ yX4_move.cls ≠ "java/lang/invoke/MethodHandle" ∧ yX4_move.cls ≠ "java/lang/invoke/VarHandle" ∧ (parseMethodDescriptor yX4_move.desc).map (fun d => d.parameters.length) = some 2 := by decide +kernel
set_option maxHeartbeats 4000000 in
set_option maxRecDepth 100000 in
theorem c_X4_move (cI cB : ClassId) (rs c ca l la most w : Nat) (L : List (List Int32)) (I J : Nat) (hI : I < L.length) (hJ : J < L.length) : Ct cI cB yX4_move wsX4_move { frames := 3, cells := 0, slots := 0, locals := 68 } [.ref rs, .int (nI I), .int (nI J)] [rowsM cI rs c ca l la most w L] (dn [rowsM cI rs c ca l la most w (mvG [] L I J)]) := by
  refine ct_of (cc := cX4_move) (maxL := 4) (ret := none) (by decide) rfl (Nat.le_of_ble_eq_true rfl) [(0, .ref rs), (1, .int (nI I)), (2, .int (nI J))] rfl ?_
  intro X hI hB K E
  subst hI
  subst hB
  refine v_rowsrl 0 rfl (fun hE => ?_)
  obtain ⟨C0, hC0⟩ := hE
  have hN := rl_N hC0
  have lp2 : ∀ k, k ≤ I → ∀ (x : Int32) (ys : List (List Int32)), (J ≤ k ∨ I ≤ J) → x = nI k → ys.length = L.length → mvDG [] (k - J) k ys = mvG [] L I J → V X 0 0 23 [(0, .ref rs), (2, .int (nI J)), (3, .int x)] [] [rowsM (XI X) rs c ca l la most w ys] := by
    refine loop_dn I ?_
    intro k hk ih x ys hJ2 hx hl hy
    subst hx
    refine v_iload_n K dX4_move_23 rfl ?_
    refine v_iload_n K dX4_move_24 rfl ?_
    refine v_ic_le K 42 dX4_move_25 (by decide) (fun c25 => ?_) (fun c25 => ?_)
    · refine v_ret K E dX4_move_42 ?_ rfl
      exact ⟨rfl, by rw [← hy, Nat.sub_eq_zero_of_le (dn_end rfl (by omega) (by omega) hk c25)]; rfl⟩
    · have hlt := dn_lt rfl (by omega) (by omega) hk c25
      obtain ⟨k, rfl⟩ : ∃ k2, k = k2 + 1 := ⟨k - 1, by omega⟩
      refine v_aload_n K dX4_move_28 rfl ?_
      refine v_iload_n K dX4_move_29 rfl ?_
      refine v_iload_n K dX4_move_30 rfl ?_
      refine v_iconst K (1) dX4_move_31 (by decide) ?_
      refine v_isub K dX4_move_32 ?_
      rw [dn_1 k]
      refine v_callVv K [0] (c_X4_swap (XI X) (XB X) _ _ _ _ _ _ _ _ _ _ ?hc33_0 ?hc33_1) rfl gX4_move_X4_swap rfl rfl hd_X4_swap ⟨rfl, rfl⟩ ⟨by decide, by decide⟩ 0 rfl rowsF rfl (by decide) (Nat.le_of_ble_eq_true rfl) ⟨Nat.zero_le _, Nat.zero_le _⟩ rfl dX4_move_33 ?_
      case hc33_0 => omega
      case hc33_1 => omega
      refine v_iinc K dX4_move_36 rfl (by decide) iinc_m1 ?_
      refine v_goto K 23 dX4_move_39 (by decide) ?_
      exact v_j (ih k rfl _ _ (by omega) (dn_1 k) (by rw [swG_len]; exact hl) (by rw [← hy, mvDG_step hlt])) rfl rfl rfl
  have lp : ∀ k, k ≤ max I J → ∀ (x : Int32) (ys : List (List Int32)), I ≤ k → x = nI k → ys.length = L.length → mvDG [] (I - J) I (mvUG [] (J - k) k ys) = mvG [] L I J → V X 0 0 2 [(0, .ref rs), (1, .int (nI I)), (2, .int (nI J)), (3, .int x)] [] [rowsM (XI X) rs c ca l la most w ys] := by
    refine loop_up (max I J) ?_
    intro k hk ih x ys hI2 hx hl hy
    subst hx
    refine v_iload_n K dX4_move_2 rfl ?_
    refine v_iload_n K dX4_move_3 rfl ?_
    refine v_ic_ge K 21 dX4_move_4 (by decide) (fun c4 => ?_) (fun c4 => ?_)
    · refine v_iload_n K dX4_move_21 rfl ?_
      refine v_istore_n K dX4_move_22 (by decide) ?_
      exact v_j (lp2 I (Nat.le_refl I) (nI I) ys (Nat.le_total J I) rfl hl (by rw [← hy, Nat.sub_eq_zero_of_le (mv_end rfl (by omega) (by omega) hk c4)]; rfl)) rfl rfl rfl
    · have hlt := mv_lt rfl (by omega) (by omega) hk c4
      refine v_aload_n K dX4_move_7 rfl ?_
      refine v_iload_n K dX4_move_8 rfl ?_
      refine v_iload_n K dX4_move_9 rfl ?_
      refine v_iconst K (1) dX4_move_10 (by decide) ?_
      refine v_iadd K dX4_move_11 ?_
      rw [nI_1 k]
      refine v_callVv K [0] (c_X4_swap (XI X) (XB X) _ _ _ _ _ _ _ _ _ _ ?hc12_0 ?hc12_1) rfl gX4_move_X4_swap rfl rfl hd_X4_swap ⟨rfl, rfl⟩ ⟨by decide, by decide⟩ 0 rfl rowsF rfl (by decide) (Nat.le_of_ble_eq_true rfl) ⟨Nat.zero_le _, Nat.zero_le _⟩ rfl dX4_move_12 ?_
      case hc12_0 => omega
      case hc12_1 => omega
      refine v_iinc K dX4_move_15 rfl (by decide) iinc_1 ?_
      refine v_goto K 2 dX4_move_18 (by decide) ?_
      exact v_j (ih (by omega) _ _ (by omega) (nI_1 k) (by rw [swG_len]; exact hl) (by rw [← hy, mvUG_step hlt])) rfl rfl rfl
  refine v_iload_n K dX4_move_0 rfl ?_
  refine v_istore_n K dX4_move_1 (by decide) ?_
  exact v_j (lp I (Nat.le_max_left I J) (nI I) L (Nat.le_refl I) rfl rfl rfl) rfl rfl rfl

theorem hd_X4_remove : yX4_remove.cls = RX4 ∧ yX4_remove.cls ≠ "java/lang/invoke/MethodHandle" ∧ yX4_remove.cls ≠ "java/lang/invoke/VarHandle" ∧ (parseMethodDescriptor yX4_remove.desc).map (fun d => d.parameters.length) = some 1 := by decide +kernel
set_option maxHeartbeats 4000000 in
set_option maxRecDepth 100000 in
theorem c_X4_remove (cI cB : ClassId) (rs c ca l la most w : Nat) (L : List (List Int32)) (I : Nat) (hI : I < L.length) : Ct cI cB yX4_remove wsX4_remove { frames := 4, cells := 0, slots := 0, locals := 91 } [.ref rs, .int (nI I)] [rowsM cI rs c ca l la most w L] (dn [rowsM cI rs c ca l la most w (rmG [] L I)]) := by
  refine ct_of (cc := cX4_remove) (maxL := 2) (ret := none) (by decide) rfl (Nat.le_of_ble_eq_true rfl) [(0, .ref rs), (1, .int (nI I))] rfl ?_
  intro X hI hB K E
  subst hI
  subst hB
  have iX4 : ∀ w ∈ u_ws RX4 TX4 3, w ∈ wsX4_remove := by decide +kernel
  refine v_rowsrl 0 rfl (fun hE => ?_)
  obtain ⟨C0, hC0⟩ := hE
  have hN := rl_N hC0
  refine v_aload_n K dX4_remove_0 rfl ?_
  refine v_iload_n K dX4_remove_1 rfl ?_
  refine v_callVi K [0] (c_X4_has (XI X) (XB X) _ _ _ _ _ _ _ _ _ ) rfl gX4_remove_X4_has rfl rfl hd_X4_has ⟨rfl, rfl⟩ ⟨by decide, by decide⟩ 0 rfl rowsF rfl (by decide) (Nat.le_of_ble_eq_true rfl) ⟨Nat.zero_le _, Nat.zero_le _⟩ rfl dX4_remove_2 ?_
  refine v_if_eq K 29 dX4_remove_5 (by decide) (fun c5 => ?_) (fun c5 => ?_)
  · exact absurd (bI_0 c5) (by rw [hasL_n (by omega), decide_eq_true hI]; decide)
  · refine v_aload_n K dX4_remove_8 rfl ?_
    refine v_iload_n K dX4_remove_9 rfl ?_
    refine v_aload_n K dX4_remove_10 rfl ?_
    refine v_orows 0 rfl (fun C hC => ?_)
    refine v_get K 0 rfl hasF_c rfl iX4 2 (by decide) rfl (by decide +kernel) rfl dX4_remove_11 ?_
    refine v_callVi K [2] (c_X3_size (XI X) (XB X) _ _ _ _ ) rfl gX4_remove_X3_size rfl rfl hd_X3_size ⟨rfl, rfl⟩ ⟨by decide, by decide⟩ 2 rfl rowF rfl (by decide) (Nat.le_of_ble_eq_true rfl) ⟨Nat.zero_le _, Nat.zero_le _⟩ rfl dX4_remove_14 ?_
    refine v_iconst K (1) dX4_remove_17 (by decide) ?_
    refine v_isub K dX4_remove_18 ?_
    refine v_crows 0 _ rfl rfl hC rfl ?_
    rw [lens_len, sub1 (by omega)]
    refine v_callVv K [0] (c_X4_move (XI X) (XB X) _ _ _ _ _ _ _ _ _ _ ?hc19_0 ?hc19_1) rfl gX4_remove_X4_move rfl rfl hd_X4_move ⟨rfl, rfl⟩ ⟨by decide, by decide⟩ 0 rfl rowsF rfl (by decide) (Nat.le_of_ble_eq_true rfl) ⟨Nat.zero_le _, Nat.zero_le _⟩ rfl dX4_remove_19 ?_
    case hc19_0 => exact hI
    case hc19_1 => omega
    refine v_orows 0 rfl (fun C2 hC2 => ?_)
    refine v_aload_n K dX4_remove_22 rfl ?_
    refine v_get K 0 rfl hasF_c rfl iX4 2 (by decide) rfl (by decide +kernel) rfl dX4_remove_23 ?_
    refine v_callVv K [2] (c_X3_dropLast (XI X) (XB X) _ _ _ _ ) rfl gX4_remove_X3_dropLast rfl rfl hd_X3_dropLast ⟨rfl, rfl⟩ ⟨by decide, by decide⟩ 2 rfl rowF rfl (by decide) (Nat.le_of_ble_eq_true rfl) ⟨Nat.zero_le _, Nat.zero_le _⟩ rfl dX4_remove_26 ?_
    refine v_crows 0 (mvG [] L I (L.length - 1)).dropLast rfl rfl (rl_drop hC2) (lens_drop _) ?_
    refine v_ret K E dX4_remove_29 ?_ rfl
    exact ⟨rfl, rfl⟩
end
section
section BUND
variable {X : Cx} {k1 k2 pc : Nat} {lv : List (Nat × Value)} {st : List Value} {Ms : List Md}
theorem v_ojn (i : Nat) {Ns : List Md} (hi : Ms[i]? = some (jn Ns)) (kk : V X k1 k2 pc lv st (Ms.take i ++ (Ns ++ Ms.drop (i + 1)))) : V X k1 k2 pc lv st Ms :=
  v_open (α := Unit) (φ := fun _ => True) (F := fun _ => Ns) i hi (fun H h => ⟨(), trivial, mAt_jn.mp h⟩) (fun _ => rfl) (fun _ _ => kk)
theorem v_cjn (i : Nat) {Ns T : List Md} (hs : Ms.drop i = Ns ++ T) (kk : V X k1 k2 pc lv st (Ms.take i ++ (jn Ns :: T))) : V X k1 k2 pc lv st Ms :=
  v_close (M := jn Ns) i hs (fun H h => mAt_jn.mpr h) rfl kk
variable {cc : ByteArray} {nL : Nat} {own : String} {Ts : List Cond} {R : Room}
theorem v_case (k : Int32) {x : Int32} (h1 : x = k → V X k1 k2 pc lv (.int x :: st) Ms) (h2 : ¬ x = k → V X k1 k2 pc lv (.int x :: st) Ms) : V X k1 k2 pc lv (.int x :: st) Ms := by
  by_cases h : x = k
  · exact h1 h
  · exact h2 h
theorem v_tabHit (C : okx X cc nL own Ts R) {dflt lo hi : Int} {offs : Array Int} {len : Nat} {x k : Int32} {off : Int} (tgt : Nat) (hdg : decode cc pc = .ok (.tableswitch dflt lo hi offs, len)) (hx : x = k) (h1 : ¬ k.toInt < lo) (h2 : ¬ hi < k.toInt) (ho : offs[(k.toInt - lo).toNat]? = some off) (ht : (pc : Int) + off = (tgt : Int)) (kk : V X k1 k2 tgt lv st Ms) : V X k1 k2 pc lv (.int x :: st) Ms := fun H locs ls w n a s h => by
  subst hx
  exact lv_tableIn C.1 C.2.1 hdg h1 h2 ho ht (kk H locs ls w n a s h)
theorem v_tabOut (C : okx X cc nL own Ts R) {dflt lo hi : Int} {offs : Array Int} {len : Nat} {x : Int32} (tgt : Nat) (hdg : decode cc pc = .ok (.tableswitch dflt lo hi offs, len)) (hx : x.toInt < lo ∨ hi < x.toInt) (ht : (pc : Int) + dflt = (tgt : Int)) (kk : V X k1 k2 tgt lv st Ms) : V X k1 k2 pc lv (.int x :: st) Ms := fun H locs ls w n a s h => lv_tableOut C.1 C.2.1 hdg hx ht (kk H locs ls w n a s h)
theorem v_lk (C : okx X cc nL own Ts R) {dflt : Int} {ps : Array (Int × Int)} {len : Nat} {x : Int32} {off : Int} (tgt : Nat) (hdg : decode cc pc = .ok (.lookupswitch dflt ps, len)) (hp : (ps.toList.zip (ps.toList.drop 1)).all (fun (a, next) => a.1 < next.1) = true) (ho : Op.lookupswitch.offset ps.toList dflt x.toInt = off) (ht : (pc : Int) + off = (tgt : Int)) (kk : V X k1 k2 tgt lv st Ms) : V X k1 k2 pc lv (.int x :: st) Ms := fun H locs ls w n a s h => lv_lookup C.1 C.2.1 hdg hp ho ht (kk H locs ls w n a s h)
end BUND
/-! a book -/
abbrev Bk : Type := List (List Int32) × List Int32 × List Int32 × List (List Int32) × List (List Int32) × List Int32
def bookL (cI : ClassId) (A : Nat → Nat) (nr nw : Nat) (a : List (List Int32)) (b c : List Int32) (d e : List (List Int32)) (f : List Int32) : List Md := [cM (A 0) (.inr (0, [.ref (A 1), .ref (A 6), .ref (A 8), .ref (A 10), .ref (A 15), .ref (A 20)])), rowsM cI (A 1) (A 2) (A 3) (A 4) (A 5) nr 4 a, rowM cI (A 6) (A 7) nr b, rowM cI (A 8) (A 9) nr c, rowsM cI (A 10) (A 11) (A 12) (A 13) (A 14) 26 2 d, rowsM cI (A 15) (A 16) (A 17) (A 18) (A 19) nw 12 e, rowM cI (A 20) (A 21) nw f]
def bookM (cI : ClassId) (A : Nat → Nat) (nr nw : Nat) (S : Bk) : Md := jn (bookL cI A nr nw S.1 S.2.1 S.2.2.1 S.2.2.2.1 S.2.2.2.2.1 S.2.2.2.2.2)
theorem bookF {cI : ClassId} {A : Nat → Nat} {nr nw : Nat} {S : Bk} : hasF (bookM cI A nr nw S) (A 0) 0 [.ref (A 1), .ref (A 6), .ref (A 8), .ref (A 10), .ref (A 15), .ref (A 20)] := hasF_jn (i := 0) rfl hasF_c
/-- copied into a book of nr rules and nw words -/
def cpB (nr nw : Nat) (S : Bk) : Bk := (S.1.take nr, S.2.1.take nr, S.2.2.1.take nr, S.2.2.2.1.take 26, S.2.2.2.2.1.take nw, S.2.2.2.2.2.take nw)
section BOOK
variable {X : Cx} {k1 k2 pc : Nat} {lv : List (Nat × Value)} {st : List Value} {Ms : List Md}
theorem v_obook (i : Nat) {A : Nat → Nat} {nr nw : Nat} {S : Bk} (hi : Ms[i]? = some (bookM (XI X) A nr nw S)) (kk : V X k1 k2 pc lv st (Ms.take i ++ ([cM (A 0) (.inr (0, [.ref (A 1), .ref (A 6), .ref (A 8), .ref (A 10), .ref (A 15), .ref (A 20)])), rowsM (XI X) (A 1) (A 2) (A 3) (A 4) (A 5) nr 4 S.1, rowM (XI X) (A 6) (A 7) nr S.2.1, rowM (XI X) (A 8) (A 9) nr S.2.2.1, rowsM (XI X) (A 10) (A 11) (A 12) (A 13) (A 14) 26 2 S.2.2.2.1, rowsM (XI X) (A 15) (A 16) (A 17) (A 18) (A 19) nw 12 S.2.2.2.2.1, rowM (XI X) (A 20) (A 21) nw S.2.2.2.2.2] ++ Ms.drop (i + 1)))) : V X k1 k2 pc lv st Ms := v_ojn i hi kk
theorem v_cbook (i : Nat) {A : Nat → Nat} {nr nw : Nat} {a : List (List Int32)} {b c : List Int32} {d e : List (List Int32)} {f : List Int32} {T : List Md} (hs : Ms.drop i = [cM (A 0) (.inr (0, [.ref (A 1), .ref (A 6), .ref (A 8), .ref (A 10), .ref (A 15), .ref (A 20)])), rowsM (XI X) (A 1) (A 2) (A 3) (A 4) (A 5) nr 4 a, rowM (XI X) (A 6) (A 7) nr b, rowM (XI X) (A 8) (A 9) nr c, rowsM (XI X) (A 10) (A 11) (A 12) (A 13) (A 14) 26 2 d, rowsM (XI X) (A 15) (A 16) (A 17) (A 18) (A 19) nw 12 e, rowM (XI X) (A 20) (A 21) nw f] ++ T) (kk : V X k1 k2 pc lv st (Ms.take i ++ (bookM (XI X) A nr nw (a, b, c, d, e, f) :: T))) : V X k1 k2 pc lv st Ms := v_cjn i hs kk
end BOOK
/-- the reader: its letters, the text; place, entry, sound, side, kind -/
def rdM (rd lt tx : Nat) (p e s d k : Int32) : Md := cM rd (.inr (2, [.ref lt, .ref tx, .int p, .int e, .int s, .int d, .int k]))
theorem rdF {rd lt tx : Nat} {p e s d k : Int32} : hasF (rdM rd lt tx p e s d k) rd 2 [.ref lt, .ref tx, .int p, .int e, .int s, .int d, .int k] := hasF_c
def hasRl (RL : List (List Int32)) (RD : List Int32) (xs : List Int32) (d : Int32) : Bool := (List.range RL.length).any (fun k => decide (RD.getD k (-5) = d) && decide (RL.getD k [] = xs))
theorem hasRl_t {RL : List (List Int32)} {RD xs : List Int32} {d : Int32} {k : Nat} (hk : k < RL.length) (h1 : RD.getD k (-5) = d) (h2 : RL.getD k [] = xs) : hasRl RL RD xs d = true := List.any_eq_true.mpr ⟨k, List.mem_range.mpr hk, by rw [decide_eq_true h1, decide_eq_true h2]; rfl⟩
theorem hasRl_f {RL : List (List Int32)} {RD xs : List Int32} {d : Int32} (h : ∀ k, k < RL.length → ¬ (RD.getD k (-5) = d ∧ RL.getD k [] = xs)) : hasRl RL RD xs d = false := by
  rw [hasRl, List.any_eq_false]
  intro k hk
  have := h k (List.mem_range.mp hk)
  rw [Bool.and_eq_true]
  exact fun z => this ⟨of_decide_eq_true z.1, of_decide_eq_true z.2⟩
def addRule (nr : Nat) (S : Bk) (xs : List Int32) (s d : Int32) : Bk := if hasRl S.1 S.2.2.1 xs d = true then S else (adLn nr 4 S.1 xs, adL nr S.2.1 s, adL nr S.2.2.1 d, S.2.2.2.1, S.2.2.2.2.1, S.2.2.2.2.2)
def addWord (nw : Nat) (S : Bk) (xs : List Int32) (k : Int32) : Bk := if fdo xs S.2.2.2.2.1 0 = none then (S.1, S.2.1, S.2.2.1, S.2.2.2.1, adLn nw 12 S.2.2.2.2.1 xs, adL nw S.2.2.2.2.2 k) else S
def hasWd (S : Bk) (xs : List Int32) : Bool := (fdo xs S.2.2.2.2.1 0).isSome
def addEnt (nr nw : Nat) (S : Bk) (xs : List Int32) (e s d k : Int32) : Bk := if e = 0 then addRule nr S xs s d else if e = 1 then addWord nw S xs k else (S.1, S.2.1, S.2.2.1, ptL 2 S.2.2.2.1 (s - 65) xs, S.2.2.2.2.1, S.2.2.2.2.2)
def newEnt (S : Bk) (xs : List Int32) (e d : Int32) : Bool := if e = 0 then !hasRl S.1 S.2.2.1 xs d else if e = 1 then !hasWd S xs else true
def dropR (S : Bk) (I : Nat) : Bk := (rmG [] S.1 I, rmL S.2.1 I, rmL S.2.2.1 I, S.2.2.2.1, S.2.2.2.2.1, S.2.2.2.2.2)
def shiftR (S : Bk) (I J : Nat) : Bk := (mvG [] S.1 I J, mvL S.2.1 I J, mvL S.2.2.1 I J, S.2.2.2.1, S.2.2.2.2.1, S.2.2.2.2.2)
def dropW (S : Bk) (I : Nat) : Bk := (S.1, S.2.1, S.2.2.1, S.2.2.2.1, rmG [] S.2.2.2.2.1 I, rmL S.2.2.2.2.2 I)
def longS (L : List (List Int32)) : Nat := (L.filter (fun y => decide (y.length = 2))).length
theorem longS_hit {L : List (List Int32)} {k : Nat} (hk : k < L.length) (h : (L.getD k []).length = 2) : longS (L.drop k) = longS (L.drop (k + 1)) + 1 := by
  rw [gd_in hk] at h
  rw [List.drop_eq_getElem_cons hk]
  unfold longS
  rw [List.filter_cons_of_pos (by simpa using h), List.length_cons]
theorem longS_step {L : List (List Int32)} {k : Nat} (hk : k < L.length) (h : ¬ (L.getD k []).length = 2) : longS (L.drop k) = longS (L.drop (k + 1)) := by
  rw [gd_in hk] at h
  rw [List.drop_eq_getElem_cons hk]
  unfold longS
  rw [List.filter_cons_of_neg (by simpa using h)]
theorem opI_none {o : Option Nat} (ho : ∀ k, o = some k → k < 1000000000) (h : opI o = -5) : o = none := by
  cases o with
  | none => rfl
  | some k =>
    have hk := ho k rfl
    have h : nI k = -5 := h
    rw [i_eq, i_n (by omega)] at h
    have h5 : (-5 : Int32).toInt = -5 := by decide
    rw [h5] at h
    omega
theorem fdo_lt {x : List Int32} : ∀ {L : List (List Int32)} {k m : Nat}, fdo x L k = some m → k ≤ m ∧ m < k + L.length ∧ L.getD (m - k) [] = x
  | [], k, m, h => by cases h
  | y :: L, k, m, h => by
    unfold fdo at h
    by_cases e : y = x
    · rw [if_pos e] at h
      cases h
      exact ⟨Nat.le_refl _, by simp, by rw [Nat.sub_self]; simpa using e⟩
    · rw [if_neg e] at h
      obtain ⟨h1, h2, h3⟩ := fdo_lt h
      refine ⟨by omega, by rw [List.length_cons]; omega, ?_⟩
      rw [show m - k = (m - (k + 1)) + 1 by omega]
      simpa using h3
theorem fdo_lt0 {x : List Int32} {L : List (List Int32)} (hN : L.length < 1000000000) : ∀ m, fdo x L 0 = some m → m < 1000000000 := fun m h => by
  have := (fdo_lt h).2.1
  omega
theorem wd_t {S : Bk} {xs : List Int32} (h : ¬ opI (fdo xs S.2.2.2.2.1 0) = -5) : hasWd S xs = true := by
  unfold hasWd
  cases hf : fdo xs S.2.2.2.2.1 0 with
  | none => rw [hf] at h; exact absurd rfl h
  | some k => rfl
end
section
theorem hd_X0_rules : yX0_rules.cls = RX0 ∧ yX0_rules.cls ≠ "java/lang/invoke/MethodHandle" ∧ yX0_rules.cls ≠ "java/lang/invoke/VarHandle" ∧ (parseMethodDescriptor yX0_rules.desc).map (fun d => d.parameters.length) = some 0 := by decide +kernel
set_option maxHeartbeats 4000000 in
set_option maxRecDepth 100000 in
theorem c_X0_rules (cI cB : ClassId) (A : Nat → Nat) (nr nw : Nat) (S : Bk)  : Ct cI cB yX0_rules wsX0_rules { frames := 2, cells := 0, slots := 0, locals := 40 } [.ref (A 0)] [bookM cI A nr nw S] (dv (nI S.1.length) [bookM cI A nr nw S]) := by
  refine ct_of (cc := cX0_rules) (maxL := 1) (ret := (some .int)) (by decide) rfl (Nat.le_of_ble_eq_true rfl) [(0, .ref (A 0))] rfl ?_
  intro X hI hB K E
  subst hI
  subst hB
  have iX0 : ∀ w ∈ u_ws RX0 TX0 6, w ∈ wsX0_rules := by decide +kernel
  refine v_obook 0 rfl ?_
  refine v_aload_n K dX0_rules_0 rfl ?_
  refine v_get K 0 rfl hasF_c rfl iX0 0 (by decide) rfl (by decide +kernel) rfl dX0_rules_1 ?_
  refine v_callVi K [1] (c_X4_lines (XI X) (XB X) _ _ _ _ _ _ _ _ ) rfl gX0_rules_X4_lines rfl rfl hd_X4_lines ⟨rfl, rfl⟩ ⟨by decide, by decide⟩ 1 rfl rowsF rfl (by decide) (Nat.le_of_ble_eq_true rfl) ⟨Nat.zero_le _, Nat.zero_le _⟩ rfl dX0_rules_4 ?_
  refine v_cbook 0 rfl ?_
  refine v_iret K E dX0_rules_7 ?_ rfl
  exact ⟨rfl, rfl⟩

theorem hd_X0_words : yX0_words.cls = RX0 ∧ yX0_words.cls ≠ "java/lang/invoke/MethodHandle" ∧ yX0_words.cls ≠ "java/lang/invoke/VarHandle" ∧ (parseMethodDescriptor yX0_words.desc).map (fun d => d.parameters.length) = some 0 := by decide +kernel
set_option maxHeartbeats 4000000 in
set_option maxRecDepth 100000 in
theorem c_X0_words (cI cB : ClassId) (A : Nat → Nat) (nr nw : Nat) (S : Bk)  : Ct cI cB yX0_words wsX0_words { frames := 2, cells := 0, slots := 0, locals := 40 } [.ref (A 0)] [bookM cI A nr nw S] (dv (nI S.2.2.2.2.1.length) [bookM cI A nr nw S]) := by
  refine ct_of (cc := cX0_words) (maxL := 1) (ret := (some .int)) (by decide) rfl (Nat.le_of_ble_eq_true rfl) [(0, .ref (A 0))] rfl ?_
  intro X hI hB K E
  subst hI
  subst hB
  have iX0 : ∀ w ∈ u_ws RX0 TX0 6, w ∈ wsX0_words := by decide +kernel
  refine v_obook 0 rfl ?_
  refine v_aload_n K dX0_words_0 rfl ?_
  refine v_get K 0 rfl hasF_c rfl iX0 4 (by decide) rfl (by decide +kernel) rfl dX0_words_1 ?_
  refine v_callVi K [5] (c_X4_lines (XI X) (XB X) _ _ _ _ _ _ _ _ ) rfl gX0_words_X4_lines rfl rfl hd_X4_lines ⟨rfl, rfl⟩ ⟨by decide, by decide⟩ 5 rfl rowsF rfl (by decide) (Nat.le_of_ble_eq_true rfl) ⟨Nat.zero_le _, Nat.zero_le _⟩ rfl dX0_words_4 ?_
  refine v_cbook 0 rfl ?_
  refine v_iret K E dX0_words_7 ?_ rfl
  exact ⟨rfl, rfl⟩

theorem hd_X0_hasRule : yX0_hasRule.cls = RX0 ∧ yX0_hasRule.cls ≠ "java/lang/invoke/MethodHandle" ∧ yX0_hasRule.cls ≠ "java/lang/invoke/VarHandle" ∧ (parseMethodDescriptor yX0_hasRule.desc).map (fun d => d.parameters.length) = some 1 := by decide +kernel
set_option maxHeartbeats 4000000 in
set_option maxRecDepth 100000 in
theorem c_X0_hasRule (cI cB : ClassId) (A : Nat → Nat) (nr nw : Nat) (S : Bk) (i : Int32)  : Ct cI cB yX0_hasRule wsX0_hasRule { frames := 2, cells := 0, slots := 0, locals := 41 } [.ref (A 0), .int i] [bookM cI A nr nw S] (dv (bI (hasL S.1 i)) [bookM cI A nr nw S]) := by
  refine ct_of (cc := cX0_hasRule) (maxL := 2) (ret := (some .boolean)) (by decide) rfl (Nat.le_of_ble_eq_true rfl) [(0, .ref (A 0)), (1, .int i)] rfl ?_
  intro X hI hB K E
  subst hI
  subst hB
  have iX0 : ∀ w ∈ u_ws RX0 TX0 6, w ∈ wsX0_hasRule := by decide +kernel
  refine v_obook 0 rfl ?_
  refine v_aload_n K dX0_hasRule_0 rfl ?_
  refine v_get K 0 rfl hasF_c rfl iX0 0 (by decide) rfl (by decide +kernel) rfl dX0_hasRule_1 ?_
  refine v_iload_n K dX0_hasRule_4 rfl ?_
  refine v_callVi K [1] (c_X4_has (XI X) (XB X) _ _ _ _ _ _ _ _ _ ) rfl gX0_hasRule_X4_has rfl rfl hd_X4_has ⟨rfl, rfl⟩ ⟨by decide, by decide⟩ 1 rfl rowsF rfl (by decide) (Nat.le_of_ble_eq_true rfl) ⟨Nat.zero_le _, Nat.zero_le _⟩ rfl dX0_hasRule_5 ?_
  refine v_cbook 0 rfl ?_
  refine v_zret K E dX0_hasRule_8 (by first | exact Or.inl rfl | exact Or.inr rfl | exact bI_01 _) ?_ rfl
  exact ⟨rfl, rfl⟩

theorem hd_X0_hasWord : yX0_hasWord.cls = RX0 ∧ yX0_hasWord.cls ≠ "java/lang/invoke/MethodHandle" ∧ yX0_hasWord.cls ≠ "java/lang/invoke/VarHandle" ∧ (parseMethodDescriptor yX0_hasWord.desc).map (fun d => d.parameters.length) = some 1 := by decide +kernel
set_option maxHeartbeats 4000000 in
set_option maxRecDepth 100000 in
theorem c_X0_hasWord (cI cB : ClassId) (A : Nat → Nat) (nr nw : Nat) (S : Bk) (i : Int32)  : Ct cI cB yX0_hasWord wsX0_hasWord { frames := 2, cells := 0, slots := 0, locals := 41 } [.ref (A 0), .int i] [bookM cI A nr nw S] (dv (bI (hasL S.2.2.2.2.1 i)) [bookM cI A nr nw S]) := by
  refine ct_of (cc := cX0_hasWord) (maxL := 2) (ret := (some .boolean)) (by decide) rfl (Nat.le_of_ble_eq_true rfl) [(0, .ref (A 0)), (1, .int i)] rfl ?_
  intro X hI hB K E
  subst hI
  subst hB
  have iX0 : ∀ w ∈ u_ws RX0 TX0 6, w ∈ wsX0_hasWord := by decide +kernel
  refine v_obook 0 rfl ?_
  refine v_aload_n K dX0_hasWord_0 rfl ?_
  refine v_get K 0 rfl hasF_c rfl iX0 4 (by decide) rfl (by decide +kernel) rfl dX0_hasWord_1 ?_
  refine v_iload_n K dX0_hasWord_4 rfl ?_
  refine v_callVi K [5] (c_X4_has (XI X) (XB X) _ _ _ _ _ _ _ _ _ ) rfl gX0_hasWord_X4_has rfl rfl hd_X4_has ⟨rfl, rfl⟩ ⟨by decide, by decide⟩ 5 rfl rowsF rfl (by decide) (Nat.le_of_ble_eq_true rfl) ⟨Nat.zero_le _, Nat.zero_le _⟩ rfl dX0_hasWord_5 ?_
  refine v_cbook 0 rfl ?_
  refine v_zret K E dX0_hasWord_8 (by first | exact Or.inl rfl | exact Or.inr rfl | exact bI_01 _) ?_ rfl
  exact ⟨rfl, rfl⟩

theorem hd_X0_copyFrom : yX0_copyFrom.cls = RX0 ∧ yX0_copyFrom.cls ≠ "java/lang/invoke/MethodHandle" ∧ yX0_copyFrom.cls ≠ "java/lang/invoke/VarHandle" ∧ (parseMethodDescriptor yX0_copyFrom.desc).map (fun d => d.parameters.length) = some 1 := by decide +kernel
set_option maxHeartbeats 4000000 in
set_option maxRecDepth 100000 in
theorem c_X0_copyFrom (cI cB : ClassId) (A : Nat → Nat) (nr nw : Nat) (S : Bk) (A2 : Nat → Nat) (nr2 nw2 : Nat) (S2 : Bk)  : Ct cI cB yX0_copyFrom wsX0_copyFrom { frames := 4, cells := 0, slots := 0, locals := 86 } [.ref (A 0), .ref (A2 0)] [bookM cI A nr nw S, bookM cI A2 nr2 nw2 S2] (dn [bookM cI A nr nw (cpB nr nw S2), bookM cI A2 nr2 nw2 S2]) := by
  refine ct_of (cc := cX0_copyFrom) (maxL := 2) (ret := none) (by decide) rfl (Nat.le_of_ble_eq_true rfl) [(0, .ref (A 0)), (1, .ref (A2 0))] rfl ?_
  intro X hI hB K E
  subst hI
  subst hB
  have iX0 : ∀ w ∈ u_ws RX0 TX0 6, w ∈ wsX0_copyFrom := by decide +kernel
  refine v_obook 0 rfl ?_
  refine v_obook 7 rfl ?_
  refine v_aload_n K dX0_copyFrom_0 rfl ?_
  refine v_get K 0 rfl hasF_c rfl iX0 0 (by decide) rfl (by decide +kernel) rfl dX0_copyFrom_1 ?_
  refine v_aload_n K dX0_copyFrom_4 rfl ?_
  refine v_get K 7 rfl hasF_c rfl iX0 0 (by decide) rfl (by decide +kernel) rfl dX0_copyFrom_5 ?_
  refine v_callVv K [1, 8] (c_X4_copyFrom (XI X) (XB X) _ _ _ _ _ _ _ _ _ _ _ _ _ _ _ ) rfl gX0_copyFrom_X4_copyFrom rfl rfl hd_X4_copyFrom ⟨rfl, rfl⟩ ⟨by decide, by decide⟩ 1 rfl rowsF rfl (by decide) (Nat.le_of_ble_eq_true rfl) ⟨Nat.zero_le _, Nat.zero_le _⟩ rfl dX0_copyFrom_8 ?_
  refine v_aload_n K dX0_copyFrom_11 rfl ?_
  refine v_get K 0 rfl hasF_c rfl iX0 1 (by decide) rfl (by decide +kernel) rfl dX0_copyFrom_12 ?_
  refine v_aload_n K dX0_copyFrom_15 rfl ?_
  refine v_get K 7 rfl hasF_c rfl iX0 1 (by decide) rfl (by decide +kernel) rfl dX0_copyFrom_16 ?_
  refine v_callVv K [2, 9] (c_X3_copyFrom (XI X) (XB X) _ _ _ _ _ _ _ _ ) rfl gX0_copyFrom_X3_copyFrom rfl rfl hd_X3_copyFrom ⟨rfl, rfl⟩ ⟨by decide, by decide⟩ 2 rfl rowF rfl (by decide) (Nat.le_of_ble_eq_true rfl) ⟨Nat.zero_le _, Nat.zero_le _⟩ rfl dX0_copyFrom_19 ?_
  refine v_aload_n K dX0_copyFrom_22 rfl ?_
  refine v_get K 0 rfl hasF_c rfl iX0 2 (by decide) rfl (by decide +kernel) rfl dX0_copyFrom_23 ?_
  refine v_aload_n K dX0_copyFrom_26 rfl ?_
  refine v_get K 7 rfl hasF_c rfl iX0 2 (by decide) rfl (by decide +kernel) rfl dX0_copyFrom_27 ?_
  refine v_callVv K [3, 10] (c_X3_copyFrom (XI X) (XB X) _ _ _ _ _ _ _ _ ) rfl gX0_copyFrom_X3_copyFrom rfl rfl hd_X3_copyFrom ⟨rfl, rfl⟩ ⟨by decide, by decide⟩ 3 rfl rowF rfl (by decide) (Nat.le_of_ble_eq_true rfl) ⟨Nat.zero_le _, Nat.zero_le _⟩ rfl dX0_copyFrom_30 ?_
  refine v_aload_n K dX0_copyFrom_33 rfl ?_
  refine v_get K 0 rfl hasF_c rfl iX0 3 (by decide) rfl (by decide +kernel) rfl dX0_copyFrom_34 ?_
  refine v_aload_n K dX0_copyFrom_37 rfl ?_
  refine v_get K 7 rfl hasF_c rfl iX0 3 (by decide) rfl (by decide +kernel) rfl dX0_copyFrom_38 ?_
  refine v_callVv K [4, 11] (c_X4_copyFrom (XI X) (XB X) _ _ _ _ _ _ _ _ _ _ _ _ _ _ _ ) rfl gX0_copyFrom_X4_copyFrom rfl rfl hd_X4_copyFrom ⟨rfl, rfl⟩ ⟨by decide, by decide⟩ 4 rfl rowsF rfl (by decide) (Nat.le_of_ble_eq_true rfl) ⟨Nat.zero_le _, Nat.zero_le _⟩ rfl dX0_copyFrom_41 ?_
  refine v_aload_n K dX0_copyFrom_44 rfl ?_
  refine v_get K 0 rfl hasF_c rfl iX0 4 (by decide) rfl (by decide +kernel) rfl dX0_copyFrom_45 ?_
  refine v_aload_n K dX0_copyFrom_48 rfl ?_
  refine v_get K 7 rfl hasF_c rfl iX0 4 (by decide) rfl (by decide +kernel) rfl dX0_copyFrom_49 ?_
  refine v_callVv K [5, 12] (c_X4_copyFrom (XI X) (XB X) _ _ _ _ _ _ _ _ _ _ _ _ _ _ _ ) rfl gX0_copyFrom_X4_copyFrom rfl rfl hd_X4_copyFrom ⟨rfl, rfl⟩ ⟨by decide, by decide⟩ 5 rfl rowsF rfl (by decide) (Nat.le_of_ble_eq_true rfl) ⟨Nat.zero_le _, Nat.zero_le _⟩ rfl dX0_copyFrom_52 ?_
  refine v_aload_n K dX0_copyFrom_55 rfl ?_
  refine v_get K 0 rfl hasF_c rfl iX0 5 (by decide) rfl (by decide +kernel) rfl dX0_copyFrom_56 ?_
  refine v_aload_n K dX0_copyFrom_59 rfl ?_
  refine v_get K 7 rfl hasF_c rfl iX0 5 (by decide) rfl (by decide +kernel) rfl dX0_copyFrom_60 ?_
  refine v_callVv K [6, 13] (c_X3_copyFrom (XI X) (XB X) _ _ _ _ _ _ _ _ ) rfl gX0_copyFrom_X3_copyFrom rfl rfl hd_X3_copyFrom ⟨rfl, rfl⟩ ⟨by decide, by decide⟩ 6 rfl rowF rfl (by decide) (Nat.le_of_ble_eq_true rfl) ⟨Nat.zero_le _, Nat.zero_le _⟩ rfl dX0_copyFrom_63 ?_
  rw [ad_all, ad_all, ad_all]
  refine v_cbook 0 rfl ?_
  refine v_cbook 1 rfl ?_
  refine v_ret K E dX0_copyFrom_66 ?_ rfl
  exact ⟨rfl, rfl⟩

theorem hd_X0_addRule : yX0_addRule.cls = RX0 ∧ yX0_addRule.cls ≠ "java/lang/invoke/MethodHandle" ∧ yX0_addRule.cls ≠ "java/lang/invoke/VarHandle" ∧ (parseMethodDescriptor yX0_addRule.desc).map (fun d => d.parameters.length) = some 1 := by decide +kernel
set_option maxHeartbeats 4000000 in
set_option maxRecDepth 100000 in
theorem c_X0_addRule (cI cB : ClassId) (A : Nat → Nat) (nr nw : Nat) (S : Bk) (rd lt tx la : Nat) (p e s d k : Int32) (xs : List Int32)  : Ct cI cB yX0_addRule wsX0_addRule { frames := 4, cells := 0, slots := 0, locals := 86 } [.ref (A 0), .ref rd] [bookM cI A nr nw S, rdM rd lt tx p e s d k, rowM cI lt la 25 xs] (dv (bI (!hasRl S.1 S.2.2.1 xs d)) [bookM cI A nr nw (addRule nr S xs s d), rdM rd lt tx p e s d k, rowM cI lt la 25 xs]) := by
  refine ct_of (cc := cX0_addRule) (maxL := 3) (ret := (some .boolean)) (by decide) rfl (Nat.le_of_ble_eq_true rfl) [(0, .ref (A 0)), (1, .ref rd)] rfl ?_
  intro X hI hB K E
  subst hI
  subst hB
  have iX0 : ∀ w ∈ u_ws RX0 TX0 6, w ∈ wsX0_addRule := by decide +kernel
  have iX2 : ∀ w ∈ u_ws RX2 TX2 7, w ∈ wsX0_addRule := by decide +kernel
  refine v_obook 0 rfl ?_
  refine v_rowsrl 1 rfl (fun hE => ?_)
  obtain ⟨C0, hC0⟩ := hE
  have hN := rl_N hC0
  have lp : ∀ k2, k2 ≤ S.1.length → ∀ (x : Int32), x = nI k2 → (∀ j, j < k2 → ¬ (S.2.2.1.getD j (-5) = d ∧ S.1.getD j [] = xs)) → V X 0 0 2 [(0, .ref (A 0)), (1, .ref rd), (2, .int x)] [] [cM (A 0) (.inr (0, [.ref (A 1), .ref (A 6), .ref (A 8), .ref (A 10), .ref (A 15), .ref (A 20)])), rowsM (XI X) (A 1) (A 2) (A 3) (A 4) (A 5) nr 4 S.1, rowM (XI X) (A 6) (A 7) nr S.2.1, rowM (XI X) (A 8) (A 9) nr S.2.2.1, rowsM (XI X) (A 10) (A 11) (A 12) (A 13) (A 14) 26 2 S.2.2.2.1, rowsM (XI X) (A 15) (A 16) (A 17) (A 18) (A 19) nw 12 S.2.2.2.2.1, rowM (XI X) (A 20) (A 21) nw S.2.2.2.2.2, rdM rd lt tx p e s d k, rowM (XI X) lt la 25 xs] := by
    refine loop_up S.1.length ?_
    intro k2 hk ih x hx hp
    subst hx
    refine v_iload_n K dX0_addRule_2 rfl ?_
    refine v_aload_n K dX0_addRule_3 rfl ?_
    refine v_cbook 0 rfl ?_
    refine v_callVi K [0] (c_X0_rules (XI X) (XB X) _ _ _ _ ) rfl gX0_addRule_X0_rules rfl rfl hd_X0_rules ⟨rfl, rfl⟩ ⟨by decide, by decide⟩ 0 rfl bookF rfl (by decide) (Nat.le_of_ble_eq_true rfl) ⟨Nat.zero_le _, Nat.zero_le _⟩ rfl dX0_addRule_4 ?_
    refine v_obook 0 rfl ?_
    refine v_ic_ge K 48 dX0_addRule_7 (by decide) (fun c7 => ?_) (fun c7 => ?_)
    · have hh := hasRl_f (fun j hj => hp j (by rw [up_end rfl hN hk c7]; exact hj))
      refine v_aload_n K dX0_addRule_48 rfl ?_
      refine v_get K 0 rfl hasF_c rfl iX0 0 (by decide) rfl (by decide +kernel) rfl dX0_addRule_49 ?_
      refine v_aload_n K dX0_addRule_52 rfl ?_
      refine v_get K 7 rfl rdF rfl iX2 0 (by decide) rfl (by decide +kernel) rfl dX0_addRule_53 ?_
      refine v_callVv K [1, 8] (c_X4_add (XI X) (XB X) _ _ _ _ _ _ _ _ _ _ _ _ ) rfl gX0_addRule_X4_add rfl rfl hd_X4_add ⟨rfl, rfl⟩ ⟨by decide, by decide⟩ 1 rfl rowsF rfl (by decide) (Nat.le_of_ble_eq_true rfl) ⟨Nat.zero_le _, Nat.zero_le _⟩ rfl dX0_addRule_56 ?_
      refine v_aload_n K dX0_addRule_59 rfl ?_
      refine v_get K 0 rfl hasF_c rfl iX0 1 (by decide) rfl (by decide +kernel) rfl dX0_addRule_60 ?_
      refine v_aload_n K dX0_addRule_63 rfl ?_
      refine v_get K 7 rfl rdF rfl iX2 4 (by decide) rfl (by decide +kernel) rfl dX0_addRule_64 ?_
      refine v_callVv K [2] (c_X3_add (XI X) (XB X) _ _ _ _ _ ) rfl gX0_addRule_X3_add rfl rfl hd_X3_add ⟨rfl, rfl⟩ ⟨by decide, by decide⟩ 2 rfl rowF rfl (by decide) (Nat.le_of_ble_eq_true rfl) ⟨Nat.zero_le _, Nat.zero_le _⟩ rfl dX0_addRule_67 ?_
      refine v_aload_n K dX0_addRule_70 rfl ?_
      refine v_get K 0 rfl hasF_c rfl iX0 2 (by decide) rfl (by decide +kernel) rfl dX0_addRule_71 ?_
      refine v_aload_n K dX0_addRule_74 rfl ?_
      refine v_get K 7 rfl rdF rfl iX2 5 (by decide) rfl (by decide +kernel) rfl dX0_addRule_75 ?_
      refine v_callVv K [3] (c_X3_add (XI X) (XB X) _ _ _ _ _ ) rfl gX0_addRule_X3_add rfl rfl hd_X3_add ⟨rfl, rfl⟩ ⟨by decide, by decide⟩ 3 rfl rowF rfl (by decide) (Nat.le_of_ble_eq_true rfl) ⟨Nat.zero_le _, Nat.zero_le _⟩ rfl dX0_addRule_78 ?_
      refine v_iconst K (1) dX0_addRule_81 (by decide) ?_
      refine v_cbook 0 rfl ?_
      refine v_zret K E dX0_addRule_82 (by first | exact Or.inl rfl | exact Or.inr rfl | exact bI_01 _) ?_ rfl
      exact ⟨by rw [hh] <;> rfl, by unfold addRule; rw [if_neg (by rw [hh]; exact Bool.false_ne_true)] <;> rfl⟩
    · have hlt := up_lt rfl hN hk c7
      refine v_aload_n K dX0_addRule_10 rfl ?_
      refine v_get K 0 rfl hasF_c rfl iX0 2 (by decide) rfl (by decide +kernel) rfl dX0_addRule_11 ?_
      refine v_iload_n K dX0_addRule_14 rfl ?_
      refine v_callVi K [3] (c_X3_get (XI X) (XB X) _ _ _ _ _ ) rfl gX0_addRule_X3_get rfl rfl hd_X3_get ⟨rfl, rfl⟩ ⟨by decide, by decide⟩ 3 rfl rowF rfl (by decide) (Nat.le_of_ble_eq_true rfl) ⟨Nat.zero_le _, Nat.zero_le _⟩ rfl dX0_addRule_15 ?_
      rw [gt_n (by omega)]
      refine v_aload_n K dX0_addRule_18 rfl ?_
      refine v_get K 7 rfl rdF rfl iX2 5 (by decide) rfl (by decide +kernel) rfl dX0_addRule_19 ?_
      refine v_ic_ne K 42 dX0_addRule_22 (by decide) (fun c22 => ?_) (fun c22 => ?_)
      · refine v_iinc K dX0_addRule_42 rfl (by decide) iinc_1 ?_
        refine v_goto K 2 dX0_addRule_45 (by decide) ?_
        exact v_j (ih hlt _ (nI_1 k2) (fun j hj => (Nat.lt_or_ge j k2).elim (hp j) (fun h => by rw [show j = k2 by omega]; exact fun z => c22 z.1))) rfl rfl rfl
      · refine v_aload_n K dX0_addRule_25 rfl ?_
        refine v_get K 0 rfl hasF_c rfl iX0 0 (by decide) rfl (by decide +kernel) rfl dX0_addRule_26 ?_
        refine v_iload_n K dX0_addRule_29 rfl ?_
        refine v_aload_n K dX0_addRule_30 rfl ?_
        refine v_get K 7 rfl rdF rfl iX2 0 (by decide) rfl (by decide +kernel) rfl dX0_addRule_31 ?_
        refine v_callVi K [1, 8] (c_X4_isLike (XI X) (XB X) _ _ _ _ _ _ _ _ _ _ _ _ _ ?hc34_0) rfl gX0_addRule_X4_isLike rfl rfl hd_X4_isLike ⟨rfl, rfl⟩ ⟨by decide, by decide⟩ 1 rfl rowsF rfl (by decide) (Nat.le_of_ble_eq_true rfl) ⟨Nat.zero_le _, Nat.zero_le _⟩ rfl dX0_addRule_34 ?_
        case hc34_0 => exact hlt
        refine v_if_eq K 42 dX0_addRule_37 (by decide) (fun c37 => ?_) (fun c37 => ?_)
        · refine v_iinc K dX0_addRule_42 rfl (by decide) iinc_1 ?_
          refine v_goto K 2 dX0_addRule_45 (by decide) ?_
          exact v_j (ih hlt _ (nI_1 k2) (fun j hj => (Nat.lt_or_ge j k2).elim (hp j) (fun h => by rw [show j = k2 by omega]; exact fun z => of_decide_eq_false (bI_0 c37) z.2))) rfl rfl rfl
        · refine v_iconst K (0) dX0_addRule_40 (by decide) ?_
          refine v_cbook 0 rfl ?_
          refine v_zret K E dX0_addRule_41 (by first | exact Or.inl rfl | exact Or.inr rfl | exact bI_01 _) ?_ rfl
          exact ⟨by rw [hasRl_t hlt c22 (of_decide_eq_true (bI_1 c37))] <;> rfl, by unfold addRule; rw [if_pos (hasRl_t hlt c22 (of_decide_eq_true (bI_1 c37)))] <;> rfl⟩
  refine v_iconst K (0) dX0_addRule_0 (by decide) ?_
  refine v_istore_n K dX0_addRule_1 (by decide) ?_
  exact v_j (lp 0 (Nat.zero_le _) 0 rfl (fun j hj => absurd hj (Nat.not_lt_zero j))) rfl rfl rfl

theorem hd_X0_addWord : yX0_addWord.cls = RX0 ∧ yX0_addWord.cls ≠ "java/lang/invoke/MethodHandle" ∧ yX0_addWord.cls ≠ "java/lang/invoke/VarHandle" ∧ (parseMethodDescriptor yX0_addWord.desc).map (fun d => d.parameters.length) = some 1 := by decide +kernel
set_option maxHeartbeats 4000000 in
set_option maxRecDepth 100000 in
theorem c_X0_addWord (cI cB : ClassId) (A : Nat → Nat) (nr nw : Nat) (S : Bk) (rd lt tx la : Nat) (p e s d k : Int32) (xs : List Int32)  : Ct cI cB yX0_addWord wsX0_addWord { frames := 4, cells := 0, slots := 0, locals := 89 } [.ref (A 0), .ref rd] [bookM cI A nr nw S, rdM rd lt tx p e s d k, rowM cI lt la 25 xs] (dv (bI (!hasWd S xs)) [bookM cI A nr nw (addWord nw S xs k), rdM rd lt tx p e s d k, rowM cI lt la 25 xs]) := by
  refine ct_of (cc := cX0_addWord) (maxL := 2) (ret := (some .boolean)) (by decide) rfl (Nat.le_of_ble_eq_true rfl) [(0, .ref (A 0)), (1, .ref rd)] rfl ?_
  intro X hI hB K E
  subst hI
  subst hB
  have iX0 : ∀ w ∈ u_ws RX0 TX0 6, w ∈ wsX0_addWord := by decide +kernel
  have iX2 : ∀ w ∈ u_ws RX2 TX2 7, w ∈ wsX0_addWord := by decide +kernel
  refine v_obook 0 rfl ?_
  refine v_rowsrl 5 rfl (fun hE => ?_)
  obtain ⟨C0, hC0⟩ := hE
  have hN := rl_N hC0
  refine v_aload_n K dX0_addWord_0 rfl ?_
  refine v_get K 0 rfl hasF_c rfl iX0 4 (by decide) rfl (by decide +kernel) rfl dX0_addWord_1 ?_
  refine v_aload_n K dX0_addWord_4 rfl ?_
  refine v_get K 7 rfl rdF rfl iX2 0 (by decide) rfl (by decide +kernel) rfl dX0_addWord_5 ?_
  refine v_callVi K [5, 8] (c_X4_find (XI X) (XB X) _ _ _ _ _ _ _ _ _ _ _ _ ) rfl gX0_addWord_X4_find rfl rfl hd_X4_find ⟨rfl, rfl⟩ ⟨by decide, by decide⟩ 5 rfl rowsF rfl (by decide) (Nat.le_of_ble_eq_true rfl) ⟨Nat.zero_le _, Nat.zero_le _⟩ rfl dX0_addWord_8 ?_
  refine v_bipush K (-5) dX0_addWord_11 (by decide) ?_
  refine v_ic_eq K 18 dX0_addWord_13 (by decide) (fun c13 => ?_) (fun c13 => ?_)
  · have hh := opI_none (fdo_lt0 hN) c13
    refine v_aload_n K dX0_addWord_18 rfl ?_
    refine v_get K 0 rfl hasF_c rfl iX0 4 (by decide) rfl (by decide +kernel) rfl dX0_addWord_19 ?_
    refine v_aload_n K dX0_addWord_22 rfl ?_
    refine v_get K 7 rfl rdF rfl iX2 0 (by decide) rfl (by decide +kernel) rfl dX0_addWord_23 ?_
    refine v_callVv K [5, 8] (c_X4_add (XI X) (XB X) _ _ _ _ _ _ _ _ _ _ _ _ ) rfl gX0_addWord_X4_add rfl rfl hd_X4_add ⟨rfl, rfl⟩ ⟨by decide, by decide⟩ 5 rfl rowsF rfl (by decide) (Nat.le_of_ble_eq_true rfl) ⟨Nat.zero_le _, Nat.zero_le _⟩ rfl dX0_addWord_26 ?_
    refine v_aload_n K dX0_addWord_29 rfl ?_
    refine v_get K 0 rfl hasF_c rfl iX0 5 (by decide) rfl (by decide +kernel) rfl dX0_addWord_30 ?_
    refine v_aload_n K dX0_addWord_33 rfl ?_
    refine v_get K 7 rfl rdF rfl iX2 6 (by decide) rfl (by decide +kernel) rfl dX0_addWord_34 ?_
    refine v_callVv K [6] (c_X3_add (XI X) (XB X) _ _ _ _ _ ) rfl gX0_addWord_X3_add rfl rfl hd_X3_add ⟨rfl, rfl⟩ ⟨by decide, by decide⟩ 6 rfl rowF rfl (by decide) (Nat.le_of_ble_eq_true rfl) ⟨Nat.zero_le _, Nat.zero_le _⟩ rfl dX0_addWord_37 ?_
    refine v_iconst K (1) dX0_addWord_40 (by decide) ?_
    refine v_cbook 0 rfl ?_
    refine v_zret K E dX0_addWord_41 (by first | exact Or.inl rfl | exact Or.inr rfl | exact bI_01 _) ?_ rfl
    exact ⟨by unfold hasWd; rw [hh] <;> rfl, by unfold addWord; rw [if_pos hh] <;> rfl⟩
  · refine v_iconst K (0) dX0_addWord_16 (by decide) ?_
    refine v_cbook 0 rfl ?_
    refine v_zret K E dX0_addWord_17 (by first | exact Or.inl rfl | exact Or.inr rfl | exact bI_01 _) ?_ rfl
    exact ⟨by rw [wd_t c13] <;> rfl, by unfold addWord; rw [if_neg (fun z => c13 (by rw [z]; rfl))] <;> rfl⟩

theorem hd_X0_addEntry : yX0_addEntry.cls = RX0 ∧ yX0_addEntry.cls ≠ "java/lang/invoke/MethodHandle" ∧ yX0_addEntry.cls ≠ "java/lang/invoke/VarHandle" ∧ (parseMethodDescriptor yX0_addEntry.desc).map (fun d => d.parameters.length) = some 1 := by decide +kernel
set_option maxHeartbeats 4000000 in
set_option maxRecDepth 100000 in
theorem c_X0_addEntry (cI cB : ClassId) (A : Nat → Nat) (nr nw : Nat) (S : Bk) (rd lt tx la : Nat) (p e s d k : Int32) (xs : List Int32)  : Ct cI cB yX0_addEntry wsX0_addEntry { frames := 5, cells := 0, slots := 0, locals := 110 } [.ref (A 0), .ref rd] [bookM cI A nr nw S, rdM rd lt tx p e s d k, rowM cI lt la 25 xs] (dv (bI (newEnt S xs e d)) [bookM cI A nr nw (addEnt nr nw S xs e s d k), rdM rd lt tx p e s d k, rowM cI lt la 25 xs]) := by
  refine ct_of (cc := cX0_addEntry) (maxL := 2) (ret := (some .boolean)) (by decide) rfl (Nat.le_of_ble_eq_true rfl) [(0, .ref (A 0)), (1, .ref rd)] rfl ?_
  intro X hI hB K E
  subst hI
  subst hB
  have iX0 : ∀ w ∈ u_ws RX0 TX0 6, w ∈ wsX0_addEntry := by decide +kernel
  have iX2 : ∀ w ∈ u_ws RX2 TX2 7, w ∈ wsX0_addEntry := by decide +kernel
  refine v_aload_n K dX0_addEntry_0 rfl ?_
  refine v_get K 1 rfl rdF rfl iX2 3 (by decide) rfl (by decide +kernel) rfl dX0_addEntry_1 ?_
  refine v_case (0) (fun s4_0 => ?_) (fun s4_0 => ?_)
  · refine v_lk K 32 dX0_addEntry_4 rfl (by rw [s4_0] <;> rfl) (by decide) ?_
    refine v_aload_n K dX0_addEntry_32 rfl ?_
    refine v_aload_n K dX0_addEntry_33 rfl ?_
    refine v_callVi K [0, 1, 2] (c_X0_addRule (XI X) (XB X) _ _ _ _ _ _ _ _ _ _ _ _ _ _ ) rfl gX0_addEntry_X0_addRule rfl rfl hd_X0_addRule ⟨rfl, rfl⟩ ⟨by decide, by decide⟩ 0 rfl bookF rfl (by decide) (Nat.le_of_ble_eq_true rfl) ⟨Nat.zero_le _, Nat.zero_le _⟩ rfl dX0_addEntry_34 ?_
    refine v_zret K E dX0_addEntry_37 (by first | exact Or.inl rfl | exact Or.inr rfl | exact bI_01 _) ?_ rfl
    exact ⟨by unfold newEnt; rw [if_pos s4_0] <;> rfl, by unfold addEnt; rw [if_pos s4_0] <;> rfl⟩
  · refine v_case (1) (fun s4_1 => ?_) (fun s4_1 => ?_)
    · refine v_lk K 38 dX0_addEntry_4 rfl (by rw [s4_1] <;> rfl) (by decide) ?_
      refine v_aload_n K dX0_addEntry_38 rfl ?_
      refine v_aload_n K dX0_addEntry_39 rfl ?_
      refine v_callVi K [0, 1, 2] (c_X0_addWord (XI X) (XB X) _ _ _ _ _ _ _ _ _ _ _ _ _ _ ) rfl gX0_addEntry_X0_addWord rfl rfl hd_X0_addWord ⟨rfl, rfl⟩ ⟨by decide, by decide⟩ 0 rfl bookF rfl (by decide) (Nat.le_of_ble_eq_true rfl) ⟨Nat.zero_le _, Nat.zero_le _⟩ rfl dX0_addEntry_40 ?_
      refine v_zret K E dX0_addEntry_43 (by first | exact Or.inl rfl | exact Or.inr rfl | exact bI_01 _) ?_ rfl
      exact ⟨by unfold newEnt; rw [if_neg s4_0, if_pos s4_1] <;> rfl, by unfold addEnt; rw [if_neg s4_0, if_pos s4_1] <;> rfl⟩
    · refine v_lk (off := 40) K 44 dX0_addEntry_4 rfl ((lv_osw s4_0 rfl).trans ((lv_osw s4_1 rfl).trans (rfl))) (by decide) ?_
      refine v_obook 0 rfl ?_
      refine v_aload_n K dX0_addEntry_44 rfl ?_
      refine v_get K 0 rfl hasF_c rfl iX0 3 (by decide) rfl (by decide +kernel) rfl dX0_addEntry_45 ?_
      refine v_aload_n K dX0_addEntry_48 rfl ?_
      refine v_get K 7 rfl rdF rfl iX2 4 (by decide) rfl (by decide +kernel) rfl dX0_addEntry_49 ?_
      refine v_bipush K (65) dX0_addEntry_52 (by decide) ?_
      refine v_isub K dX0_addEntry_54 ?_
      refine v_aload_n K dX0_addEntry_55 rfl ?_
      refine v_get K 7 rfl rdF rfl iX2 0 (by decide) rfl (by decide +kernel) rfl dX0_addEntry_56 ?_
      refine v_callVv K [4, 8] (c_X4_put (XI X) (XB X) _ _ _ _ _ _ _ _ _ _ _ _ _ ) rfl gX0_addEntry_X4_put rfl rfl hd_X4_put ⟨rfl, rfl⟩ ⟨by decide, by decide⟩ 4 rfl rowsF rfl (by decide) (Nat.le_of_ble_eq_true rfl) ⟨Nat.zero_le _, Nat.zero_le _⟩ rfl dX0_addEntry_59 ?_
      refine v_iconst K (1) dX0_addEntry_62 (by decide) ?_
      refine v_cbook 0 rfl ?_
      refine v_zret K E dX0_addEntry_63 (by first | exact Or.inl rfl | exact Or.inr rfl | exact bI_01 _) ?_ rfl
      exact ⟨by unfold newEnt; rw [if_neg s4_0, if_neg s4_1] <;> rfl, by unfold addEnt; rw [if_neg s4_0, if_neg s4_1] <;> rfl⟩

theorem hd_X0_dropRule : yX0_dropRule.cls = RX0 ∧ yX0_dropRule.cls ≠ "java/lang/invoke/MethodHandle" ∧ yX0_dropRule.cls ≠ "java/lang/invoke/VarHandle" ∧ (parseMethodDescriptor yX0_dropRule.desc).map (fun d => d.parameters.length) = some 1 := by decide +kernel
set_option maxHeartbeats 4000000 in
set_option maxRecDepth 100000 in
theorem c_X0_dropRule (cI cB : ClassId) (A : Nat → Nat) (nr nw : Nat) (S : Bk) (I : Nat) (h1 : I < S.1.length) (h9 : I < 1000000000) : Ct cI cB yX0_dropRule wsX0_dropRule { frames := 5, cells := 0, slots := 0, locals := 112 } [.ref (A 0), .int (nI I)] [bookM cI A nr nw S] (dn [bookM cI A nr nw (dropR S I)]) := by
  refine ct_of (cc := cX0_dropRule) (maxL := 2) (ret := none) (by decide) rfl (Nat.le_of_ble_eq_true rfl) [(0, .ref (A 0)), (1, .int (nI I))] rfl ?_
  intro X hI hB K E
  subst hI
  subst hB
  have iX0 : ∀ w ∈ u_ws RX0 TX0 6, w ∈ wsX0_dropRule := by decide +kernel
  refine v_obook 0 rfl ?_
  refine v_aload_n K dX0_dropRule_0 rfl ?_
  refine v_get K 0 rfl hasF_c rfl iX0 0 (by decide) rfl (by decide +kernel) rfl dX0_dropRule_1 ?_
  refine v_iload_n K dX0_dropRule_4 rfl ?_
  refine v_callVv K [1] (c_X4_remove (XI X) (XB X) _ _ _ _ _ _ _ _ _ ?hc5_0) rfl gX0_dropRule_X4_remove rfl rfl hd_X4_remove ⟨rfl, rfl⟩ ⟨by decide, by decide⟩ 1 rfl rowsF rfl (by decide) (Nat.le_of_ble_eq_true rfl) ⟨Nat.zero_le _, Nat.zero_le _⟩ rfl dX0_dropRule_5 ?_
  case hc5_0 => exact h1
  refine v_aload_n K dX0_dropRule_8 rfl ?_
  refine v_get K 0 rfl hasF_c rfl iX0 1 (by decide) rfl (by decide +kernel) rfl dX0_dropRule_9 ?_
  refine v_iload_n K dX0_dropRule_12 rfl ?_
  refine v_callVv K [2] (c_X3_remove (XI X) (XB X) _ _ _ _ _ ?hc13_0) rfl gX0_dropRule_X3_remove rfl rfl hd_X3_remove ⟨rfl, rfl⟩ ⟨by decide, by decide⟩ 2 rfl rowF rfl (by decide) (Nat.le_of_ble_eq_true rfl) ⟨Nat.zero_le _, Nat.zero_le _⟩ rfl dX0_dropRule_13 ?_
  case hc13_0 => exact h9
  refine v_aload_n K dX0_dropRule_16 rfl ?_
  refine v_get K 0 rfl hasF_c rfl iX0 2 (by decide) rfl (by decide +kernel) rfl dX0_dropRule_17 ?_
  refine v_iload_n K dX0_dropRule_20 rfl ?_
  refine v_callVv K [3] (c_X3_remove (XI X) (XB X) _ _ _ _ _ ?hc21_0) rfl gX0_dropRule_X3_remove rfl rfl hd_X3_remove ⟨rfl, rfl⟩ ⟨by decide, by decide⟩ 3 rfl rowF rfl (by decide) (Nat.le_of_ble_eq_true rfl) ⟨Nat.zero_le _, Nat.zero_le _⟩ rfl dX0_dropRule_21 ?_
  case hc21_0 => exact h9
  refine v_cbook 0 rfl ?_
  refine v_ret K E dX0_dropRule_24 ?_ rfl
  exact ⟨rfl, rfl⟩

theorem hd_X0_shiftRule : yX0_shiftRule.cls = RX0 ∧ yX0_shiftRule.cls ≠ "java/lang/invoke/MethodHandle" ∧ yX0_shiftRule.cls ≠ "java/lang/invoke/VarHandle" ∧ (parseMethodDescriptor yX0_shiftRule.desc).map (fun d => d.parameters.length) = some 2 := by decide +kernel
set_option maxHeartbeats 4000000 in
set_option maxRecDepth 100000 in
theorem c_X0_shiftRule (cI cB : ClassId) (A : Nat → Nat) (nr nw : Nat) (S : Bk) (I J : Nat) (h1 : I < S.1.length) (h2 : J < S.1.length) (h9 : I < 1000000000) (h8 : J < 1000000000) : Ct cI cB yX0_shiftRule wsX0_shiftRule { frames := 4, cells := 0, slots := 0, locals := 91 } [.ref (A 0), .int (nI I), .int (nI J)] [bookM cI A nr nw S] (dn [bookM cI A nr nw (shiftR S I J)]) := by
  refine ct_of (cc := cX0_shiftRule) (maxL := 3) (ret := none) (by decide) rfl (Nat.le_of_ble_eq_true rfl) [(0, .ref (A 0)), (1, .int (nI I)), (2, .int (nI J))] rfl ?_
  intro X hI hB K E
  subst hI
  subst hB
  have iX0 : ∀ w ∈ u_ws RX0 TX0 6, w ∈ wsX0_shiftRule := by decide +kernel
  refine v_obook 0 rfl ?_
  refine v_aload_n K dX0_shiftRule_0 rfl ?_
  refine v_get K 0 rfl hasF_c rfl iX0 0 (by decide) rfl (by decide +kernel) rfl dX0_shiftRule_1 ?_
  refine v_iload_n K dX0_shiftRule_4 rfl ?_
  refine v_iload_n K dX0_shiftRule_5 rfl ?_
  refine v_callVv K [1] (c_X4_move (XI X) (XB X) _ _ _ _ _ _ _ _ _ _ ?hc6_0 ?hc6_1) rfl gX0_shiftRule_X4_move rfl rfl hd_X4_move ⟨rfl, rfl⟩ ⟨by decide, by decide⟩ 1 rfl rowsF rfl (by decide) (Nat.le_of_ble_eq_true rfl) ⟨Nat.zero_le _, Nat.zero_le _⟩ rfl dX0_shiftRule_6 ?_
  case hc6_0 => exact h1
  case hc6_1 => exact h2
  refine v_aload_n K dX0_shiftRule_9 rfl ?_
  refine v_get K 0 rfl hasF_c rfl iX0 1 (by decide) rfl (by decide +kernel) rfl dX0_shiftRule_10 ?_
  refine v_iload_n K dX0_shiftRule_13 rfl ?_
  refine v_iload_n K dX0_shiftRule_14 rfl ?_
  refine v_callVv K [2] (c_X3_move (XI X) (XB X) _ _ _ _ _ _ ?hc15_0 ?hc15_1) rfl gX0_shiftRule_X3_move rfl rfl hd_X3_move ⟨rfl, rfl⟩ ⟨by decide, by decide⟩ 2 rfl rowF rfl (by decide) (Nat.le_of_ble_eq_true rfl) ⟨Nat.zero_le _, Nat.zero_le _⟩ rfl dX0_shiftRule_15 ?_
  case hc15_0 => exact h9
  case hc15_1 => exact h8
  refine v_aload_n K dX0_shiftRule_18 rfl ?_
  refine v_get K 0 rfl hasF_c rfl iX0 2 (by decide) rfl (by decide +kernel) rfl dX0_shiftRule_19 ?_
  refine v_iload_n K dX0_shiftRule_22 rfl ?_
  refine v_iload_n K dX0_shiftRule_23 rfl ?_
  refine v_callVv K [3] (c_X3_move (XI X) (XB X) _ _ _ _ _ _ ?hc24_0 ?hc24_1) rfl gX0_shiftRule_X3_move rfl rfl hd_X3_move ⟨rfl, rfl⟩ ⟨by decide, by decide⟩ 3 rfl rowF rfl (by decide) (Nat.le_of_ble_eq_true rfl) ⟨Nat.zero_le _, Nat.zero_le _⟩ rfl dX0_shiftRule_24 ?_
  case hc24_0 => exact h9
  case hc24_1 => exact h8
  refine v_cbook 0 rfl ?_
  refine v_ret K E dX0_shiftRule_27 ?_ rfl
  exact ⟨rfl, rfl⟩

theorem hd_X0_dropWord : yX0_dropWord.cls = RX0 ∧ yX0_dropWord.cls ≠ "java/lang/invoke/MethodHandle" ∧ yX0_dropWord.cls ≠ "java/lang/invoke/VarHandle" ∧ (parseMethodDescriptor yX0_dropWord.desc).map (fun d => d.parameters.length) = some 1 := by decide +kernel
set_option maxHeartbeats 4000000 in
set_option maxRecDepth 100000 in
theorem c_X0_dropWord (cI cB : ClassId) (A : Nat → Nat) (nr nw : Nat) (S : Bk) (I : Nat) (h1 : I < S.2.2.2.2.1.length) (h9 : I < 1000000000) : Ct cI cB yX0_dropWord wsX0_dropWord { frames := 5, cells := 0, slots := 0, locals := 112 } [.ref (A 0), .int (nI I)] [bookM cI A nr nw S] (dn [bookM cI A nr nw (dropW S I)]) := by
  refine ct_of (cc := cX0_dropWord) (maxL := 2) (ret := none) (by decide) rfl (Nat.le_of_ble_eq_true rfl) [(0, .ref (A 0)), (1, .int (nI I))] rfl ?_
  intro X hI hB K E
  subst hI
  subst hB
  have iX0 : ∀ w ∈ u_ws RX0 TX0 6, w ∈ wsX0_dropWord := by decide +kernel
  refine v_obook 0 rfl ?_
  refine v_aload_n K dX0_dropWord_0 rfl ?_
  refine v_get K 0 rfl hasF_c rfl iX0 4 (by decide) rfl (by decide +kernel) rfl dX0_dropWord_1 ?_
  refine v_iload_n K dX0_dropWord_4 rfl ?_
  refine v_callVv K [5] (c_X4_remove (XI X) (XB X) _ _ _ _ _ _ _ _ _ ?hc5_0) rfl gX0_dropWord_X4_remove rfl rfl hd_X4_remove ⟨rfl, rfl⟩ ⟨by decide, by decide⟩ 5 rfl rowsF rfl (by decide) (Nat.le_of_ble_eq_true rfl) ⟨Nat.zero_le _, Nat.zero_le _⟩ rfl dX0_dropWord_5 ?_
  case hc5_0 => exact h1
  refine v_aload_n K dX0_dropWord_8 rfl ?_
  refine v_get K 0 rfl hasF_c rfl iX0 5 (by decide) rfl (by decide +kernel) rfl dX0_dropWord_9 ?_
  refine v_iload_n K dX0_dropWord_12 rfl ?_
  refine v_callVv K [6] (c_X3_remove (XI X) (XB X) _ _ _ _ _ ?hc13_0) rfl gX0_dropWord_X3_remove rfl rfl hd_X3_remove ⟨rfl, rfl⟩ ⟨by decide, by decide⟩ 6 rfl rowF rfl (by decide) (Nat.le_of_ble_eq_true rfl) ⟨Nat.zero_le _, Nat.zero_le _⟩ rfl dX0_dropWord_13 ?_
  case hc13_0 => exact h9
  refine v_cbook 0 rfl ?_
  refine v_ret K E dX0_dropWord_16 ?_ rfl
  exact ⟨rfl, rfl⟩

theorem hd_X0_longSigns : yX0_longSigns.cls = RX0 ∧ yX0_longSigns.cls ≠ "java/lang/invoke/MethodHandle" ∧ yX0_longSigns.cls ≠ "java/lang/invoke/VarHandle" ∧ (parseMethodDescriptor yX0_longSigns.desc).map (fun d => d.parameters.length) = some 0 := by decide +kernel
set_option maxHeartbeats 4000000 in
set_option maxRecDepth 100000 in
theorem c_X0_longSigns (cI cB : ClassId) (A : Nat → Nat) (nr nw : Nat) (S : Bk)  : Ct cI cB yX0_longSigns wsX0_longSigns { frames := 2, cells := 0, slots := 0, locals := 42 } [.ref (A 0)] [bookM cI A nr nw S] (dv (nI (longS S.2.2.2.1)) [bookM cI A nr nw S]) := by
  refine ct_of (cc := cX0_longSigns) (maxL := 3) (ret := (some .int)) (by decide) rfl (Nat.le_of_ble_eq_true rfl) [(0, .ref (A 0))] rfl ?_
  intro X hI hB K E
  subst hI
  subst hB
  have iX0 : ∀ w ∈ u_ws RX0 TX0 6, w ∈ wsX0_longSigns := by decide +kernel
  refine v_obook 0 rfl ?_
  refine v_rowsrl 4 rfl (fun hE => ?_)
  obtain ⟨C0, hC0⟩ := hE
  have hN := rl_N hC0
  have lp : ∀ k, k ≤ S.2.2.2.1.length → ∀ (x : Int32) (n : Nat), x = nI k → n + longS (S.2.2.2.1.drop k) = longS S.2.2.2.1 → V X 0 0 4 [(0, .ref (A 0)), (1, .int (nI n)), (2, .int x)] [] [cM (A 0) (.inr (0, [.ref (A 1), .ref (A 6), .ref (A 8), .ref (A 10), .ref (A 15), .ref (A 20)])), rowsM (XI X) (A 1) (A 2) (A 3) (A 4) (A 5) nr 4 S.1, rowM (XI X) (A 6) (A 7) nr S.2.1, rowM (XI X) (A 8) (A 9) nr S.2.2.1, rowsM (XI X) (A 10) (A 11) (A 12) (A 13) (A 14) 26 2 S.2.2.2.1, rowsM (XI X) (A 15) (A 16) (A 17) (A 18) (A 19) nw 12 S.2.2.2.2.1, rowM (XI X) (A 20) (A 21) nw S.2.2.2.2.2] := by
    refine loop_up S.2.2.2.1.length ?_
    intro k hk ih x n hx hp
    subst hx
    refine v_iload_n K dX0_longSigns_4 rfl ?_
    refine v_aload_n K dX0_longSigns_5 rfl ?_
    refine v_get K 0 rfl hasF_c rfl iX0 3 (by decide) rfl (by decide +kernel) rfl dX0_longSigns_6 ?_
    refine v_callVi K [4] (c_X4_lines (XI X) (XB X) _ _ _ _ _ _ _ _ ) rfl gX0_longSigns_X4_lines rfl rfl hd_X4_lines ⟨rfl, rfl⟩ ⟨by decide, by decide⟩ 4 rfl rowsF rfl (by decide) (Nat.le_of_ble_eq_true rfl) ⟨Nat.zero_le _, Nat.zero_le _⟩ rfl dX0_longSigns_9 ?_
    refine v_ic_ge K 36 dX0_longSigns_12 (by decide) (fun c12 => ?_) (fun c12 => ?_)
    · refine v_cbook 0 rfl ?_
      refine v_iload_n K dX0_longSigns_36 rfl ?_
      refine v_iret K E dX0_longSigns_37 ?_ rfl
      exact ⟨by rw [← hp, up_end rfl hN hk c12, List.drop_length] <;> rfl, rfl⟩
    · have hlt := up_lt rfl hN hk c12
      have hl2 := Nat.lt_of_le_of_lt (rl_len (k := k) hC0) hC0.1.2.1
      refine v_aload_n K dX0_longSigns_15 rfl ?_
      refine v_get K 0 rfl hasF_c rfl iX0 3 (by decide) rfl (by decide +kernel) rfl dX0_longSigns_16 ?_
      refine v_iload_n K dX0_longSigns_19 rfl ?_
      refine v_callVi K [4] (c_X4_length (XI X) (XB X) _ _ _ _ _ _ _ _ _ ) rfl gX0_longSigns_X4_length rfl rfl hd_X4_length ⟨rfl, rfl⟩ ⟨by decide, by decide⟩ 4 rfl rowsF rfl (by decide) (Nat.le_of_ble_eq_true rfl) ⟨Nat.zero_le _, Nat.zero_le _⟩ rfl dX0_longSigns_20 ?_
      rw [gl_n hlt hN]
      refine v_iconst K (2) dX0_longSigns_23 (by decide) ?_
      refine v_ic_ne K 30 dX0_longSigns_24 (by decide) (fun c24 => ?_) (fun c24 => ?_)
      · refine v_iinc K dX0_longSigns_30 rfl (by decide) iinc_1 ?_
        refine v_goto K 4 dX0_longSigns_33 (by decide) ?_
        exact v_j (ih hlt _ n (nI_1 k) (by rw [← hp, longS_step hlt (fun z => c24 (by rw [z]; rfl))])) rfl rfl rfl
      · refine v_iinc K dX0_longSigns_27 rfl (by decide) iinc_1 ?_
        refine v_iinc K dX0_longSigns_30 rfl (by decide) iinc_1 ?_
        refine v_goto K 4 dX0_longSigns_33 (by decide) ?_
        exact v_j (ih hlt _ (n + 1) (nI_1 k) (by rw [← hp, longS_hit hlt ((nI_eq (b := 2) (by omega) (by decide)).mp c24)]; omega)) (by rw [← nI_1]; rfl) rfl rfl
  refine v_iconst K (0) dX0_longSigns_0 (by decide) ?_
  refine v_istore_n K dX0_longSigns_1 (by decide) ?_
  refine v_iconst K (0) dX0_longSigns_2 (by decide) ?_
  refine v_istore_n K dX0_longSigns_3 (by decide) ?_
  exact v_j (lp 0 (Nat.zero_le _) 0 0 rfl (Nat.zero_add _)) rfl rfl rfl
end
