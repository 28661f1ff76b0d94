-- ===== PART A: goes FIRST, ahead of the names: the tables' words, and 'selects' of the private methods out of them =====
/-- a private method of a class that the tables say can be made, by its rows of tables_1 -/
def lw_okq (q : MethodName × Nat) : Prop := (q.1.cls ≠ "java/lang/invoke/MethodHandle" ∧ q.1.cls ≠ "java/lang/invoke/VarHandle") ∧ Cond.instantiable q.1.cls q.2 ∈ tables_1 ∧ Cond.privateMethod q.1 ∈ tables_1 ∧ Cond.instanceMethod q.1 ∈ tables_1
theorem lw_p0 : lw_okq (⟨"LetterOunces", "found", "(I)I"⟩, 10) := ⟨⟨by decide +kernel, by decide +kernel⟩, List.mem_of_getElem? (i := 14) (by decide +kernel), List.mem_of_getElem? (i := 260) (by decide +kernel), List.mem_of_getElem? (i := 261) (by decide +kernel)⟩
theorem lw_p1 : lw_okq (⟨"LetterOunces$Tape", "readLaw", "(LLetterOunces$Post;)V"⟩, 7) := ⟨⟨by decide +kernel, by decide +kernel⟩, List.mem_of_getElem? (i := 72) (by decide +kernel), List.mem_of_getElem? (i := 333) (by decide +kernel), List.mem_of_getElem? (i := 334) (by decide +kernel)⟩
theorem lw_p2 : lw_okq (⟨"LetterOunces$Tape", "skip", "(I)V"⟩, 7) := ⟨⟨by decide +kernel, by decide +kernel⟩, List.mem_of_getElem? (i := 72) (by decide +kernel), List.mem_of_getElem? (i := 337) (by decide +kernel), List.mem_of_getElem? (i := 338) (by decide +kernel)⟩
theorem lw_p3 : lw_okq (⟨"LetterOunces$Tape", "next", "()I"⟩, 7) := ⟨⟨by decide +kernel, by decide +kernel⟩, List.mem_of_getElem? (i := 72) (by decide +kernel), List.mem_of_getElem? (i := 341) (by decide +kernel), List.mem_of_getElem? (i := 342) (by decide +kernel)⟩
theorem lw_p4 : lw_okq (⟨"LetterOunces$Tape", "fail", "(II)V"⟩, 7) := ⟨⟨by decide +kernel, by decide +kernel⟩, List.mem_of_getElem? (i := 72) (by decide +kernel), List.mem_of_getElem? (i := 345) (by decide +kernel), List.mem_of_getElem? (i := 346) (by decide +kernel)⟩
theorem lw_p5 : lw_okq (⟨"LetterOunces$Tape", "readNumber", "(II)I"⟩, 7) := ⟨⟨by decide +kernel, by decide +kernel⟩, List.mem_of_getElem? (i := 72) (by decide +kernel), List.mem_of_getElem? (i := 349) (by decide +kernel), List.mem_of_getElem? (i := 350) (by decide +kernel)⟩
theorem lw_p6 : lw_okq (⟨"LetterOunces$Tape", "isFigure", "(I)Z"⟩, 7) := ⟨⟨by decide +kernel, by decide +kernel⟩, List.mem_of_getElem? (i := 72) (by decide +kernel), List.mem_of_getElem? (i := 353) (by decide +kernel), List.mem_of_getElem? (i := 354) (by decide +kernel)⟩
theorem lw_p7 : lw_okq (⟨"LetterOunces$Tape", "readWords", "()V"⟩, 7) := ⟨⟨by decide +kernel, by decide +kernel⟩, List.mem_of_getElem? (i := 72) (by decide +kernel), List.mem_of_getElem? (i := 361) (by decide +kernel), List.mem_of_getElem? (i := 362) (by decide +kernel)⟩
theorem lw_p8 : lw_okq (⟨"LetterOunces$Tape", "readLetters", "(LLetterOunces$Post;)V"⟩, 7) := ⟨⟨by decide +kernel, by decide +kernel⟩, List.mem_of_getElem? (i := 72) (by decide +kernel), List.mem_of_getElem? (i := 365) (by decide +kernel), List.mem_of_getElem? (i := 366) (by decide +kernel)⟩
theorem lw_p9 : lw_okq (⟨"LetterOunces$Tape", "readSet", "(I)I"⟩, 7) := ⟨⟨by decide +kernel, by decide +kernel⟩, List.mem_of_getElem? (i := 72) (by decide +kernel), List.mem_of_getElem? (i := 372) (by decide +kernel), List.mem_of_getElem? (i := 373) (by decide +kernel)⟩
theorem lw_p10 : lw_okq (⟨"LetterOunces", "hasNoPost", "()Z"⟩, 10) := ⟨⟨by decide +kernel, by decide +kernel⟩, List.mem_of_getElem? (i := 14) (by decide +kernel), List.mem_of_getElem? (i := 400) (by decide +kernel), List.mem_of_getElem? (i := 401) (by decide +kernel)⟩
theorem lw_p11 : lw_okq (⟨"LetterOunces", "hasNo", "(I)Z"⟩, 10) := ⟨⟨by decide +kernel, by decide +kernel⟩, List.mem_of_getElem? (i := 14) (by decide +kernel), List.mem_of_getElem? (i := 443) (by decide +kernel), List.mem_of_getElem? (i := 444) (by decide +kernel)⟩
theorem lw_p12 : lw_okq (⟨"LetterOunces", "hasNoWord", "(I)Z"⟩, 10) := ⟨⟨by decide +kernel, by decide +kernel⟩, List.mem_of_getElem? (i := 14) (by decide +kernel), List.mem_of_getElem? (i := 447) (by decide +kernel), List.mem_of_getElem? (i := 448) (by decide +kernel)⟩
theorem lw_p13 : lw_okq (⟨"LetterOunces$Seer", "isAsTold", "(I)Z"⟩, 3) := ⟨⟨by decide +kernel, by decide +kernel⟩, List.mem_of_getElem? (i := 187) (by decide +kernel), List.mem_of_getElem? (i := 588) (by decide +kernel), List.mem_of_getElem? (i := 589) (by decide +kernel)⟩
theorem lw_p14 : lw_okq (⟨"LetterOunces$Asks", "give", "(ILLetterOunces$Post;II)I"⟩, 2) := ⟨⟨by decide +kernel, by decide +kernel⟩, List.mem_of_getElem? (i := 203) (by decide +kernel), List.mem_of_getElem? (i := 663) (by decide +kernel), List.mem_of_getElem? (i := 664) (by decide +kernel)⟩
theorem lw_p15 : lw_okq (⟨"LetterOunces$Asks", "leave", "(I)V"⟩, 2) := ⟨⟨by decide +kernel, by decide +kernel⟩, List.mem_of_getElem? (i := 203) (by decide +kernel), List.mem_of_getElem? (i := 667) (by decide +kernel), List.mem_of_getElem? (i := 668) (by decide +kernel)⟩
def lw_privs_1 : List (MethodName × Nat) := [(⟨"LetterOunces", "found", "(I)I"⟩, 10), (⟨"LetterOunces$Tape", "readLaw", "(LLetterOunces$Post;)V"⟩, 7), (⟨"LetterOunces$Tape", "skip", "(I)V"⟩, 7), (⟨"LetterOunces$Tape", "next", "()I"⟩, 7), (⟨"LetterOunces$Tape", "fail", "(II)V"⟩, 7), (⟨"LetterOunces$Tape", "readNumber", "(II)I"⟩, 7), (⟨"LetterOunces$Tape", "isFigure", "(I)Z"⟩, 7), (⟨"LetterOunces$Tape", "readWords", "()V"⟩, 7), (⟨"LetterOunces$Tape", "readLetters", "(LLetterOunces$Post;)V"⟩, 7), (⟨"LetterOunces$Tape", "readSet", "(I)I"⟩, 7), (⟨"LetterOunces", "hasNoPost", "()Z"⟩, 10), (⟨"LetterOunces", "hasNo", "(I)Z"⟩, 10), (⟨"LetterOunces", "hasNoWord", "(I)Z"⟩, 10), (⟨"LetterOunces$Seer", "isAsTold", "(I)Z"⟩, 3), (⟨"LetterOunces$Asks", "give", "(ILLetterOunces$Post;II)I"⟩, 2), (⟨"LetterOunces$Asks", "leave", "(I)V"⟩, 2)]
theorem lw_r1 : ∀ q ∈ lw_privs_1, lw_okq q := List.forall_mem_cons.mpr ⟨lw_p0, List.forall_mem_cons.mpr ⟨lw_p1, List.forall_mem_cons.mpr ⟨lw_p2, List.forall_mem_cons.mpr ⟨lw_p3, List.forall_mem_cons.mpr ⟨lw_p4, List.forall_mem_cons.mpr ⟨lw_p5, List.forall_mem_cons.mpr ⟨lw_p6, List.forall_mem_cons.mpr ⟨lw_p7, List.forall_mem_cons.mpr ⟨lw_p8, List.forall_mem_cons.mpr ⟨lw_p9, List.forall_mem_cons.mpr ⟨lw_p10, List.forall_mem_cons.mpr ⟨lw_p11, List.forall_mem_cons.mpr ⟨lw_p12, List.forall_mem_cons.mpr ⟨lw_p13, List.forall_mem_cons.mpr ⟨lw_p14, List.forall_mem_cons.mpr ⟨lw_p15, fun _ h => absurd h List.not_mem_nil⟩⟩⟩⟩⟩⟩⟩⟩⟩⟩⟩⟩⟩⟩⟩⟩
theorem lw_p16 : lw_okq (⟨"LetterOuncesModel", "found", "(I)I"⟩, 22) := ⟨⟨by decide +kernel, by decide +kernel⟩, List.mem_of_getElem? (i := 689) (by decide +kernel), List.mem_of_getElem? (i := 775) (by decide +kernel), List.mem_of_getElem? (i := 776) (by decide +kernel)⟩
theorem lw_p17 : lw_okq (⟨"LetterOuncesModel", "well", "(I)I"⟩, 22) := ⟨⟨by decide +kernel, by decide +kernel⟩, List.mem_of_getElem? (i := 689) (by decide +kernel), List.mem_of_getElem? (i := 780) (by decide +kernel), List.mem_of_getElem? (i := 781) (by decide +kernel)⟩
theorem lw_p18 : lw_okq (⟨"LetterOuncesModel", "isMissing", "(I)Z"⟩, 22) := ⟨⟨by decide +kernel, by decide +kernel⟩, List.mem_of_getElem? (i := 689) (by decide +kernel), List.mem_of_getElem? (i := 788) (by decide +kernel), List.mem_of_getElem? (i := 789) (by decide +kernel)⟩
theorem lw_p19 : lw_okq (⟨"LetterOuncesModel", "isPart", "(III)Z"⟩, 22) := ⟨⟨by decide +kernel, by decide +kernel⟩, List.mem_of_getElem? (i := 689) (by decide +kernel), List.mem_of_getElem? (i := 799) (by decide +kernel), List.mem_of_getElem? (i := 800) (by decide +kernel)⟩
theorem lw_p20 : lw_okq (⟨"LetterOuncesModel", "advances", "()V"⟩, 22) := ⟨⟨by decide +kernel, by decide +kernel⟩, List.mem_of_getElem? (i := 689) (by decide +kernel), List.mem_of_getElem? (i := 816) (by decide +kernel), List.mem_of_getElem? (i := 817) (by decide +kernel)⟩
theorem lw_p21 : lw_okq (⟨"LetterOuncesModel", "byteAt", "(I)I"⟩, 22) := ⟨⟨by decide +kernel, by decide +kernel⟩, List.mem_of_getElem? (i := 689) (by decide +kernel), List.mem_of_getElem? (i := 820) (by decide +kernel), List.mem_of_getElem? (i := 821) (by decide +kernel)⟩
theorem lw_p22 : lw_okq (⟨"LetterOuncesModel", "takes", "(ZI)I"⟩, 22) := ⟨⟨by decide +kernel, by decide +kernel⟩, List.mem_of_getElem? (i := 689) (by decide +kernel), List.mem_of_getElem? (i := 824) (by decide +kernel), List.mem_of_getElem? (i := 825) (by decide +kernel)⟩
theorem lw_p23 : lw_okq (⟨"LetterOuncesModel", "isWell", "()Z"⟩, 22) := ⟨⟨by decide +kernel, by decide +kernel⟩, List.mem_of_getElem? (i := 689) (by decide +kernel), List.mem_of_getElem? (i := 828) (by decide +kernel), List.mem_of_getElem? (i := 829) (by decide +kernel)⟩
theorem lw_p24 : lw_okq (⟨"LetterOuncesModel", "figure", "(II)I"⟩, 22) := ⟨⟨by decide +kernel, by decide +kernel⟩, List.mem_of_getElem? (i := 689) (by decide +kernel), List.mem_of_getElem? (i := 832) (by decide +kernel), List.mem_of_getElem? (i := 833) (by decide +kernel)⟩
theorem lw_p25 : lw_okq (⟨"LetterOuncesModel", "follows", "(II)I"⟩, 22) := ⟨⟨by decide +kernel, by decide +kernel⟩, List.mem_of_getElem? (i := 689) (by decide +kernel), List.mem_of_getElem? (i := 836) (by decide +kernel), List.mem_of_getElem? (i := 837) (by decide +kernel)⟩
theorem lw_p26 : lw_okq (⟨"LetterOuncesModel", "must", "(Z)V"⟩, 22) := ⟨⟨by decide +kernel, by decide +kernel⟩, List.mem_of_getElem? (i := 689) (by decide +kernel), List.mem_of_getElem? (i := 840) (by decide +kernel), List.mem_of_getElem? (i := 841) (by decide +kernel)⟩
theorem lw_p27 : lw_okq (⟨"LetterOuncesModel", "readsWord", "()V"⟩, 22) := ⟨⟨by decide +kernel, by decide +kernel⟩, List.mem_of_getElem? (i := 689) (by decide +kernel), List.mem_of_getElem? (i := 844) (by decide +kernel), List.mem_of_getElem? (i := 845) (by decide +kernel)⟩
theorem lw_p28 : lw_okq (⟨"LetterOuncesModel", "readsLetter", "()V"⟩, 22) := ⟨⟨by decide +kernel, by decide +kernel⟩, List.mem_of_getElem? (i := 689) (by decide +kernel), List.mem_of_getElem? (i := 851) (by decide +kernel), List.mem_of_getElem? (i := 852) (by decide +kernel)⟩
theorem lw_p29 : lw_okq (⟨"LetterOuncesModel", "part", "(I)I"⟩, 22) := ⟨⟨by decide +kernel, by decide +kernel⟩, List.mem_of_getElem? (i := 689) (by decide +kernel), List.mem_of_getElem? (i := 855) (by decide +kernel), List.mem_of_getElem? (i := 856) (by decide +kernel)⟩
theorem lw_p30 : lw_okq (⟨"LetterOuncesModel", "isPost", "()Z"⟩, 22) := ⟨⟨by decide +kernel, by decide +kernel⟩, List.mem_of_getElem? (i := 689) (by decide +kernel), List.mem_of_getElem? (i := 871) (by decide +kernel), List.mem_of_getElem? (i := 872) (by decide +kernel)⟩
theorem lw_p31 : lw_okq (⟨"LetterOuncesModel", "notes", "()V"⟩, 22) := ⟨⟨by decide +kernel, by decide +kernel⟩, List.mem_of_getElem? (i := 689) (by decide +kernel), List.mem_of_getElem? (i := 876) (by decide +kernel), List.mem_of_getElem? (i := 877) (by decide +kernel)⟩
def lw_privs_2 : List (MethodName × Nat) := [(⟨"LetterOuncesModel", "found", "(I)I"⟩, 22), (⟨"LetterOuncesModel", "well", "(I)I"⟩, 22), (⟨"LetterOuncesModel", "isMissing", "(I)Z"⟩, 22), (⟨"LetterOuncesModel", "isPart", "(III)Z"⟩, 22), (⟨"LetterOuncesModel", "advances", "()V"⟩, 22), (⟨"LetterOuncesModel", "byteAt", "(I)I"⟩, 22), (⟨"LetterOuncesModel", "takes", "(ZI)I"⟩, 22), (⟨"LetterOuncesModel", "isWell", "()Z"⟩, 22), (⟨"LetterOuncesModel", "figure", "(II)I"⟩, 22), (⟨"LetterOuncesModel", "follows", "(II)I"⟩, 22), (⟨"LetterOuncesModel", "must", "(Z)V"⟩, 22), (⟨"LetterOuncesModel", "readsWord", "()V"⟩, 22), (⟨"LetterOuncesModel", "readsLetter", "()V"⟩, 22), (⟨"LetterOuncesModel", "part", "(I)I"⟩, 22), (⟨"LetterOuncesModel", "isPost", "()Z"⟩, 22), (⟨"LetterOuncesModel", "notes", "()V"⟩, 22)]
theorem lw_r2 : ∀ q ∈ lw_privs_2, lw_okq q := List.forall_mem_cons.mpr ⟨lw_p16, List.forall_mem_cons.mpr ⟨lw_p17, List.forall_mem_cons.mpr ⟨lw_p18, List.forall_mem_cons.mpr ⟨lw_p19, List.forall_mem_cons.mpr ⟨lw_p20, List.forall_mem_cons.mpr ⟨lw_p21, List.forall_mem_cons.mpr ⟨lw_p22, List.forall_mem_cons.mpr ⟨lw_p23, List.forall_mem_cons.mpr ⟨lw_p24, List.forall_mem_cons.mpr ⟨lw_p25, List.forall_mem_cons.mpr ⟨lw_p26, List.forall_mem_cons.mpr ⟨lw_p27, List.forall_mem_cons.mpr ⟨lw_p28, List.forall_mem_cons.mpr ⟨lw_p29, List.forall_mem_cons.mpr ⟨lw_p30, List.forall_mem_cons.mpr ⟨lw_p31, fun _ h => absurd h List.not_mem_nil⟩⟩⟩⟩⟩⟩⟩⟩⟩⟩⟩⟩⟩⟩⟩⟩
theorem lw_p32 : lw_okq (⟨"LetterOuncesModel", "isLetter", "(I)Z"⟩, 22) := ⟨⟨by decide +kernel, by decide +kernel⟩, List.mem_of_getElem? (i := 689) (by decide +kernel), List.mem_of_getElem? (i := 909) (by decide +kernel), List.mem_of_getElem? (i := 910) (by decide +kernel)⟩
theorem lw_p33 : lw_okq (⟨"LetterOuncesModel", "isWord", "(I)Z"⟩, 22) := ⟨⟨by decide +kernel, by decide +kernel⟩, List.mem_of_getElem? (i := 689) (by decide +kernel), List.mem_of_getElem? (i := 913) (by decide +kernel), List.mem_of_getElem? (i := 914) (by decide +kernel)⟩
theorem lw_p34 : lw_okq (⟨"LetterOuncesModel", "sets", "(II)I"⟩, 22) := ⟨⟨by decide +kernel, by decide +kernel⟩, List.mem_of_getElem? (i := 689) (by decide +kernel), List.mem_of_getElem? (i := 929) (by decide +kernel), List.mem_of_getElem? (i := 930) (by decide +kernel)⟩
theorem lw_p35 : lw_okq (⟨"LetterOuncesModel", "goesOn", "(I)V"⟩, 22) := ⟨⟨by decide +kernel, by decide +kernel⟩, List.mem_of_getElem? (i := 689) (by decide +kernel), List.mem_of_getElem? (i := 953) (by decide +kernel), List.mem_of_getElem? (i := 954) (by decide +kernel)⟩
theorem lw_p36 : lw_okq (⟨"LetterOuncesModel", "waiting", "()I"⟩, 22) := ⟨⟨by decide +kernel, by decide +kernel⟩, List.mem_of_getElem? (i := 689) (by decide +kernel), List.mem_of_getElem? (i := 980) (by decide +kernel), List.mem_of_getElem? (i := 981) (by decide +kernel)⟩
theorem lw_p37 : lw_okq (⟨"LetterOuncesModel", "claim", "(I)I"⟩, 22) := ⟨⟨by decide +kernel, by decide +kernel⟩, List.mem_of_getElem? (i := 689) (by decide +kernel), List.mem_of_getElem? (i := 988) (by decide +kernel), List.mem_of_getElem? (i := 989) (by decide +kernel)⟩
theorem lw_p38 : lw_okq (⟨"LetterOuncesModel", "weighsSo", "(IIIII)Z"⟩, 22) := ⟨⟨by decide +kernel, by decide +kernel⟩, List.mem_of_getElem? (i := 689) (by decide +kernel), List.mem_of_getElem? (i := 996) (by decide +kernel), List.mem_of_getElem? (i := 997) (by decide +kernel)⟩
theorem lw_p39 : lw_okq (⟨"LetterOuncesModel", "kindIn", "(I)I"⟩, 22) := ⟨⟨by decide +kernel, by decide +kernel⟩, List.mem_of_getElem? (i := 689) (by decide +kernel), List.mem_of_getElem? (i := 1026) (by decide +kernel), List.mem_of_getElem? (i := 1027) (by decide +kernel)⟩
theorem lw_p40 : lw_okq (⟨"LetterOuncesModel", "cardSize", "(I)I"⟩, 22) := ⟨⟨by decide +kernel, by decide +kernel⟩, List.mem_of_getElem? (i := 689) (by decide +kernel), List.mem_of_getElem? (i := 1038) (by decide +kernel), List.mem_of_getElem? (i := 1039) (by decide +kernel)⟩
theorem lw_p41 : lw_okq (⟨"LetterOuncesModel", "begins", "(I)V"⟩, 22) := ⟨⟨by decide +kernel, by decide +kernel⟩, List.mem_of_getElem? (i := 689) (by decide +kernel), List.mem_of_getElem? (i := 1042) (by decide +kernel), List.mem_of_getElem? (i := 1043) (by decide +kernel)⟩
theorem lw_p42 : lw_okq (⟨"LetterOuncesModel", "plainSize", "(I)I"⟩, 22) := ⟨⟨by decide +kernel, by decide +kernel⟩, List.mem_of_getElem? (i := 689) (by decide +kernel), List.mem_of_getElem? (i := 1046) (by decide +kernel), List.mem_of_getElem? (i := 1047) (by decide +kernel)⟩
theorem lw_p43 : lw_okq (⟨"LetterOuncesModel", "plainMark", "(I)I"⟩, 22) := ⟨⟨by decide +kernel, by decide +kernel⟩, List.mem_of_getElem? (i := 689) (by decide +kernel), List.mem_of_getElem? (i := 1050) (by decide +kernel), List.mem_of_getElem? (i := 1051) (by decide +kernel)⟩
theorem lw_p44 : lw_okq (⟨"LetterOuncesModel", "cardMark", "(I)I"⟩, 22) := ⟨⟨by decide +kernel, by decide +kernel⟩, List.mem_of_getElem? (i := 689) (by decide +kernel), List.mem_of_getElem? (i := 1054) (by decide +kernel), List.mem_of_getElem? (i := 1055) (by decide +kernel)⟩
def lw_privs_3 : List (MethodName × Nat) := [(⟨"LetterOuncesModel", "isLetter", "(I)Z"⟩, 22), (⟨"LetterOuncesModel", "isWord", "(I)Z"⟩, 22), (⟨"LetterOuncesModel", "sets", "(II)I"⟩, 22), (⟨"LetterOuncesModel", "goesOn", "(I)V"⟩, 22), (⟨"LetterOuncesModel", "waiting", "()I"⟩, 22), (⟨"LetterOuncesModel", "claim", "(I)I"⟩, 22), (⟨"LetterOuncesModel", "weighsSo", "(IIIII)Z"⟩, 22), (⟨"LetterOuncesModel", "kindIn", "(I)I"⟩, 22), (⟨"LetterOuncesModel", "cardSize", "(I)I"⟩, 22), (⟨"LetterOuncesModel", "begins", "(I)V"⟩, 22), (⟨"LetterOuncesModel", "plainSize", "(I)I"⟩, 22), (⟨"LetterOuncesModel", "plainMark", "(I)I"⟩, 22), (⟨"LetterOuncesModel", "cardMark", "(I)I"⟩, 22)]
theorem lw_r3 : ∀ q ∈ lw_privs_3, lw_okq q := List.forall_mem_cons.mpr ⟨lw_p32, List.forall_mem_cons.mpr ⟨lw_p33, List.forall_mem_cons.mpr ⟨lw_p34, List.forall_mem_cons.mpr ⟨lw_p35, List.forall_mem_cons.mpr ⟨lw_p36, List.forall_mem_cons.mpr ⟨lw_p37, List.forall_mem_cons.mpr ⟨lw_p38, List.forall_mem_cons.mpr ⟨lw_p39, List.forall_mem_cons.mpr ⟨lw_p40, List.forall_mem_cons.mpr ⟨lw_p41, List.forall_mem_cons.mpr ⟨lw_p42, List.forall_mem_cons.mpr ⟨lw_p43, List.forall_mem_cons.mpr ⟨lw_p44, fun _ h => absurd h List.not_mem_nil⟩⟩⟩⟩⟩⟩⟩⟩⟩⟩⟩⟩⟩
def lw_privs : List (MethodName × Nat) := lw_privs_1 ++ (lw_privs_2 ++ (lw_privs_3))
def lw_tbl : List Cond := k2_sels lw_privs ++ tables_1
theorem lw_privs_ok : ∀ q ∈ lw_privs, lw_okq q := by
  show ∀ q ∈ lw_privs_1 ++ (lw_privs_2 ++ (lw_privs_3)), lw_okq q
  exact List.forall_mem_append.mpr ⟨lw_r1, List.forall_mem_append.mpr ⟨lw_r2, lw_r3⟩⟩
def RX0 : String := "LetterOunces$Acts"
def TX0 : u_T := fun k => match k with
  | 0 => ("LetterOunces$Acts", "kept", "[I", true)
  | 1 => ("LetterOunces$Acts", "next", "I", false)
  | _ => ("LetterOunces$Acts", "count", "I", false)
def tyX0 : Nat → FieldType := fun k => match k with
  | 0 => .array .int
  | 1 => .int
  | _ => .int
abbrev wsX00 : List Cond := u_ws RX0 TX0 3
theorem nmX0 : ∀ a, a < 3 → ∀ b, b < 3 → a ≠ b → (TX0 a).2.1 ≠ (TX0 b).2.1 := by decide +kernel
theorem tyX0_ok : ∀ k, k < 3 → parseFieldDescriptor (TX0 k).2.2.1 = some (tyX0 k) := by decide +kernel
abbrev cX0_init : ByteArray := prog_2_method_1_code
def yX0_init : MethodName := ⟨RX0, "<init>", "()V"⟩
abbrev cX0_forget : ByteArray := prog_2_method_2_code
def yX0_forget : MethodName := ⟨RX0, "forget", "()V"⟩
abbrev cX0_keep : ByteArray := prog_2_method_3_code
def yX0_keep : MethodName := ⟨RX0, "keep", "(LLetterOunces$Post;)V"⟩
abbrev cX0_takeBack : ByteArray := prog_2_method_4_code
def yX0_takeBack : MethodName := ⟨RX0, "takeBack", "(LLetterOunces$Post;)V"⟩
def RX1 : String := "LetterOunces$Asks"
def TX1 : u_T := fun k => match k with
  | 0 => ("LetterOunces$Asks", "bodies", "[I", true)
  | _ => ("LetterOunces$Asks", "traced", "I", false)
def tyX1 : Nat → FieldType := fun k => match k with
  | 0 => .array .int
  | _ => .int
abbrev wsX10 : List Cond := u_ws RX1 TX1 2
theorem nmX1 : ∀ a, a < 2 → ∀ b, b < 2 → a ≠ b → (TX1 a).2.1 ≠ (TX1 b).2.1 := by decide +kernel
theorem tyX1_ok : ∀ k, k < 2 → parseFieldDescriptor (TX1 k).2.2.1 = some (tyX1 k) := by decide +kernel
abbrev cX1_init : ByteArray := prog_3_method_1_code
def yX1_init : MethodName := ⟨RX1, "<init>", "()V"⟩
abbrev cX1_isA : ByteArray := prog_3_method_2_code
def yX1_isA : MethodName := ⟨RX1, "isA", "(II)Z"⟩
abbrev cX1_answer : ByteArray := prog_3_method_3_code
def yX1_answer : MethodName := ⟨RX1, "answer", "(LLetterOunces$Post;II)I"⟩
abbrev cX1_give : ByteArray := prog_3_method_4_code
def yX1_give : MethodName := ⟨RX1, "give", "(ILLetterOunces$Post;II)I"⟩
abbrev cX1_leave : ByteArray := prog_3_method_5_code
def yX1_leave : MethodName := ⟨RX1, "leave", "(I)V"⟩
def RX2 : String := "LetterOunces$Post"
def TX2 : u_T := fun k => match k with
  | 0 => ("LetterOunces$Post", "kinds", "[I", true)
  | 1 => ("LetterOunces$Post", "would", "[I", true)
  | 2 => ("LetterOunces$Post", "said", "[I", true)
  | 3 => ("LetterOunces$Post", "words", "LLetterOunces$Words;", false)
  | 4 => ("LetterOunces$Post", "letters", "I", false)
  | 5 => ("LetterOunces$Post", "sent", "I", false)
  | 6 => ("LetterOunces$Post", "strap", "I", false)
  | 7 => ("LetterOunces$Post", "limit", "I", false)
  | 8 => ("LetterOunces$Post", "day", "I", false)
  | _ => ("LetterOunces$Post", "paid", "I", false)
def tyX2 : Nat → FieldType := fun k => match k with
  | 0 => .array .int
  | 1 => .array .int
  | 2 => .array .int
  | 3 => .object "LetterOunces$Words"
  | 4 => .int
  | 5 => .int
  | 6 => .int
  | 7 => .int
  | 8 => .int
  | _ => .int
abbrev wsX20 : List Cond := u_ws RX2 TX2 10
theorem nmX2 : ∀ a, a < 10 → ∀ b, b < 10 → a ≠ b → (TX2 a).2.1 ≠ (TX2 b).2.1 := by decide +kernel
theorem tyX2_ok : ∀ k, k < 10 → parseFieldDescriptor (TX2 k).2.2.1 = some (tyX2 k) := by decide +kernel
abbrev cX2_init : ByteArray := prog_4_method_1_code
def yX2_init : MethodName := ⟨RX2, "<init>", "(LLetterOunces$Words;)V"⟩
abbrev cX2_begin : ByteArray := prog_4_method_2_code
def yX2_begin : MethodName := ⟨RX2, "begin", "(II)V"⟩
abbrev cX2_add : ByteArray := prog_4_method_3_code
def yX2_add : MethodName := ⟨RX2, "add", "(III)V"⟩
abbrev cX2_become : ByteArray := prog_4_method_4_code
def yX2_become : MethodName := ⟨RX2, "become", "(LLetterOunces$Post;)V"⟩
abbrev cX2_waits : ByteArray := prog_4_method_5_code
def yX2_waits : MethodName := ⟨RX2, "waits", "(I)Z"⟩
abbrev cX2_takeReturned : ByteArray := prog_4_method_6_code
def yX2_takeReturned : MethodName := ⟨RX2, "takeReturned", "(I)V"⟩
abbrev cX2_unsaid : ByteArray := prog_4_method_7_code
def yX2_unsaid : MethodName := ⟨RX2, "unsaid", "(I)I"⟩
abbrev cX2_weight : ByteArray := prog_4_method_8_code
def yX2_weight : MethodName := ⟨RX2, "weight", "(I)I"⟩
abbrev cX2_weigh : ByteArray := prog_4_method_9_code
def yX2_weigh : MethodName := ⟨RX2, "weigh", "(IIZ)I"⟩
abbrev cX2_weightTogether : ByteArray := prog_4_method_10_code
def yX2_weightTogether : MethodName := ⟨RX2, "weightTogether", "(I)I"⟩
abbrev cX2_blurt : ByteArray := prog_4_method_11_code
def yX2_blurt : MethodName := ⟨RX2, "blurt", "(I)I"⟩
abbrev cX2_passDay : ByteArray := prog_4_method_12_code
def yX2_passDay : MethodName := ⟨RX2, "passDay", "()Z"⟩
abbrev cX2_passDays : ByteArray := prog_4_method_13_code
def yX2_passDays : MethodName := ⟨RX2, "passDays", "(I)V"⟩
def RX3 : String := "LetterOunces$Rows"
def TX3 : u_T := fun k => match k with
  | 0 => ("LetterOunces$Rows", "lanes", "[I", true)
  | 1 => ("LetterOunces$Rows", "sizes", "[I", true)
  | _ => ("LetterOunces$Rows", "items", "[I", true)
def tyX3 : Nat → FieldType := fun k => match k with
  | 0 => .array .int
  | 1 => .array .int
  | _ => .array .int
abbrev wsX30 : List Cond := u_ws RX3 TX3 3
theorem nmX3 : ∀ a, a < 3 → ∀ b, b < 3 → a ≠ b → (TX3 a).2.1 ≠ (TX3 b).2.1 := by decide +kernel
theorem tyX3_ok : ∀ k, k < 3 → parseFieldDescriptor (TX3 k).2.2.1 = some (tyX3 k) := by decide +kernel
abbrev cX3_init : ByteArray := prog_5_method_1_code
def yX3_init : MethodName := ⟨RX3, "<init>", "()V"⟩
abbrev cX3_isNamed : ByteArray := prog_5_method_2_code
def yX3_isNamed : MethodName := ⟨RX3, "isNamed", "(I)Z"⟩
abbrev cX3_isLane : ByteArray := prog_5_method_3_code
def yX3_isLane : MethodName := ⟨RX3, "isLane", "(I)Z"⟩
abbrev cX3_isMissing : ByteArray := prog_5_method_4_code
def yX3_isMissing : MethodName := ⟨RX3, "isMissing", "(I)Z"⟩
abbrev cX3_shareLane : ByteArray := prog_5_method_5_code
def yX3_shareLane : MethodName := ⟨RX3, "shareLane", "(II)Z"⟩
abbrev cX3_covers : ByteArray := prog_5_method_6_code
def yX3_covers : MethodName := ⟨RX3, "covers", "(III)Z"⟩
abbrev cX3_make : ByteArray := prog_5_method_7_code
def yX3_make : MethodName := ⟨RX3, "make", "(III)V"⟩
abbrev cX3_put : ByteArray := prog_5_method_8_code
def yX3_put : MethodName := ⟨RX3, "put", "(III)I"⟩
abbrev cX3_item : ByteArray := prog_5_method_9_code
def yX3_item : MethodName := ⟨RX3, "item", "(II)I"⟩
abbrev cX3_move : ByteArray := prog_5_method_10_code
def yX3_move : MethodName := ⟨RX3, "move", "(IIIII)V"⟩
abbrev cX3_remove : ByteArray := prog_5_method_11_code
def yX3_remove : MethodName := ⟨RX3, "remove", "(I)I"⟩
abbrev cX3_present : ByteArray := prog_5_method_12_code
def yX3_present : MethodName := ⟨RX3, "present", "()I"⟩
def RX4 : String := "LetterOunces$Seer"
def TX4 : u_T := fun k => match k with
  | 0 => ("LetterOunces$Seer", "trial", "LLetterOunces$Post;", true)
  | 1 => ("LetterOunces$Seer", "told", "[I", true)
  | _ => ("LetterOunces$Seer", "toldDays", "I", false)
def tyX4 : Nat → FieldType := fun k => match k with
  | 0 => .object "LetterOunces$Post"
  | 1 => .array .int
  | _ => .int
abbrev wsX40 : List Cond := u_ws RX4 TX4 3
theorem nmX4 : ∀ a, a < 3 → ∀ b, b < 3 → a ≠ b → (TX4 a).2.1 ≠ (TX4 b).2.1 := by decide +kernel
theorem tyX4_ok : ∀ k, k < 3 → parseFieldDescriptor (TX4 k).2.2.1 = some (tyX4 k) := by decide +kernel
abbrev cX4_init : ByteArray := prog_6_method_1_code
def yX4_init : MethodName := ⟨RX4, "<init>", "(LLetterOunces$Post;)V"⟩
abbrev cX4_foretell : ByteArray := prog_6_method_2_code
def yX4_foretell : MethodName := ⟨RX4, "foretell", "(LLetterOunces$Post;I)LLetterOunces$Post;"⟩
abbrev cX4_daysUntilSent : ByteArray := prog_6_method_3_code
def yX4_daysUntilSent : MethodName := ⟨RX4, "daysUntilSent", "(LLetterOunces$Post;I)I"⟩
abbrev cX4_fewestToSay : ByteArray := prog_6_method_4_code
def yX4_fewestToSay : MethodName := ⟨RX4, "fewestToSay", "(LLetterOunces$Post;II)I"⟩
abbrev cX4_weightHavingSaid : ByteArray := prog_6_method_5_code
def yX4_weightHavingSaid : MethodName := ⟨RX4, "weightHavingSaid", "(LLetterOunces$Post;II)I"⟩
abbrev cX4_weighingAlike : ByteArray := prog_6_method_6_code
def yX4_weighingAlike : MethodName := ⟨RX4, "weighingAlike", "(LLetterOunces$Post;II)I"⟩
abbrev cX4_bestLoad : ByteArray := prog_6_method_7_code
def yX4_bestLoad : MethodName := ⟨RX4, "bestLoad", "(LLetterOunces$Post;I)I"⟩
abbrev cX4_shareOf : ByteArray := prog_6_method_8_code
def yX4_shareOf : MethodName := ⟨RX4, "shareOf", "(LLetterOunces$Post;II)I"⟩
abbrev cX4_hear : ByteArray := prog_6_method_9_code
def yX4_hear : MethodName := ⟨RX4, "hear", "(LLetterOunces$Rows;III)V"⟩
abbrev cX4_isAsTold : ByteArray := prog_6_method_10_code
def yX4_isAsTold : MethodName := ⟨RX4, "isAsTold", "(I)Z"⟩
abbrev cX4_fittingKinds : ByteArray := prog_6_method_11_code
def yX4_fittingKinds : MethodName := ⟨RX4, "fittingKinds", "(LLetterOunces$Post;I)I"⟩
abbrev cX4_fittingSaids : ByteArray := prog_6_method_12_code
def yX4_fittingSaids : MethodName := ⟨RX4, "fittingSaids", "(LLetterOunces$Post;IZ)I"⟩
abbrev cX4_fittingLimits : ByteArray := prog_6_method_13_code
def yX4_fittingLimits : MethodName := ⟨RX4, "fittingLimits", "(LLetterOunces$Post;IZ)I"⟩
abbrev cX4_lightCases : ByteArray := prog_6_method_14_code
def yX4_lightCases : MethodName := ⟨RX4, "lightCases", "(LLetterOunces$Post;IIII)I"⟩
abbrev cX4_draw : ByteArray := prog_6_method_15_code
def yX4_draw : MethodName := ⟨RX4, "draw", "(LLetterOunces$Post;II)LLetterOunces$Post;"⟩
def RX5 : String := "LetterOunces$Tape"
def TX5 : u_T := fun k => match k with
  | 0 => ("LetterOunces$Tape", "bytes", "[I", true)
  | 1 => ("LetterOunces$Tape", "ounces", "[I", true)
  | 2 => ("LetterOunces$Tape", "length", "I", false)
  | 3 => ("LetterOunces$Tape", "place", "I", false)
  | 4 => ("LetterOunces$Tape", "words", "I", false)
  | 5 => ("LetterOunces$Tape", "fault", "I", false)
  | _ => ("LetterOunces$Tape", "faultPlace", "I", false)
def tyX5 : Nat → FieldType := fun k => match k with
  | 0 => .array .int
  | 1 => .array .int
  | 2 => .int
  | 3 => .int
  | 4 => .int
  | 5 => .int
  | _ => .int
abbrev wsX50 : List Cond := u_ws RX5 TX5 7
theorem nmX5 : ∀ a, a < 7 → ∀ b, b < 7 → a ≠ b → (TX5 a).2.1 ≠ (TX5 b).2.1 := by decide +kernel
theorem tyX5_ok : ∀ k, k < 7 → parseFieldDescriptor (TX5 k).2.2.1 = some (tyX5 k) := by decide +kernel
abbrev cX5_init : ByteArray := prog_7_method_1_code
def yX5_init : MethodName := ⟨RX5, "<init>", "()V"⟩
abbrev cX5_isFull : ByteArray := prog_7_method_2_code
def yX5_isFull : MethodName := ⟨RX5, "isFull", "()Z"⟩
abbrev cX5_append : ByteArray := prog_7_method_3_code
def yX5_append : MethodName := ⟨RX5, "append", "(I)I"⟩
abbrev cX5_readInto : ByteArray := prog_7_method_4_code
def yX5_readInto : MethodName := ⟨RX5, "readInto", "(LLetterOunces$Post;)Z"⟩
abbrev cX5_readLaw : ByteArray := prog_7_method_5_code
def yX5_readLaw : MethodName := ⟨RX5, "readLaw", "(LLetterOunces$Post;)V"⟩
abbrev cX5_readWords : ByteArray := prog_7_method_6_code
def yX5_readWords : MethodName := ⟨RX5, "readWords", "()V"⟩
abbrev cX5_readLetters : ByteArray := prog_7_method_7_code
def yX5_readLetters : MethodName := ⟨RX5, "readLetters", "(LLetterOunces$Post;)V"⟩
abbrev cX5_readSet : ByteArray := prog_7_method_8_code
def yX5_readSet : MethodName := ⟨RX5, "readSet", "(I)I"⟩
abbrev cX5_readNumber : ByteArray := prog_7_method_9_code
def yX5_readNumber : MethodName := ⟨RX5, "readNumber", "(II)I"⟩
abbrev cX5_skip : ByteArray := prog_7_method_10_code
def yX5_skip : MethodName := ⟨RX5, "skip", "(I)V"⟩
abbrev cX5_isFigure : ByteArray := prog_7_method_11_code
def yX5_isFigure : MethodName := ⟨RX5, "isFigure", "(I)Z"⟩
abbrev cX5_next : ByteArray := prog_7_method_12_code
def yX5_next : MethodName := ⟨RX5, "next", "()I"⟩
abbrev cX5_fail : ByteArray := prog_7_method_13_code
def yX5_fail : MethodName := ⟨RX5, "fail", "(II)V"⟩
abbrev cX5_kindOf : ByteArray := prog_7_method_14_code
def yX5_kindOf : MethodName := ⟨RX5, "kindOf", "(I)I"⟩
def RX6 : String := "LetterOunces$Words"
def TX6 : u_T := fun k => match k with
  | 0 => ("LetterOunces$Words", "count", "I", true)
  | 1 => ("LetterOunces$Words", "sums", "[I", true)
  | 2 => ("LetterOunces$Words", "heaviest", "[I", true)
  | _ => ("LetterOunces$Words", "lightest", "[I", true)
def tyX6 : Nat → FieldType := fun k => match k with
  | 0 => .int
  | 1 => .array .int
  | 2 => .array .int
  | _ => .array .int
abbrev wsX60 : List Cond := u_ws RX6 TX6 4
theorem nmX6 : ∀ a, a < 4 → ∀ b, b < 4 → a ≠ b → (TX6 a).2.1 ≠ (TX6 b).2.1 := by decide +kernel
theorem tyX6_ok : ∀ k, k < 4 → parseFieldDescriptor (TX6 k).2.2.1 = some (tyX6 k) := by decide +kernel
abbrev cX6_init : ByteArray := prog_8_method_1_code
def yX6_init : MethodName := ⟨RX6, "<init>", "([II)V"⟩
def RX7 : String := "LetterOunces"
def TX7 : u_T := fun k => match k with
  | 0 => ("LetterOunces", "rows", "LLetterOunces$Rows;", true)
  | 1 => ("LetterOunces", "tape", "LLetterOunces$Tape;", true)
  | 2 => ("LetterOunces", "draft", "LLetterOunces$Post;", true)
  | 3 => ("LetterOunces", "post", "LLetterOunces$Post;", true)
  | 4 => ("LetterOunces", "images", "[LLetterOunces$Post;", true)
  | 5 => ("LetterOunces", "acts", "LLetterOunces$Acts;", true)
  | 6 => ("LetterOunces", "seer", "LLetterOunces$Seer;", true)
  | 7 => ("LetterOunces", "asks", "LLetterOunces$Asks;", true)
  | 8 => ("LetterOunces", "latestFault", "I", false)
  | _ => ("LetterOunces", "latestFinding", "I", false)
def tyX7 : Nat → FieldType := fun k => match k with
  | 0 => .object "LetterOunces$Rows"
  | 1 => .object "LetterOunces$Tape"
  | 2 => .object "LetterOunces$Post"
  | 3 => .object "LetterOunces$Post"
  | 4 => .array (.object "LetterOunces$Post")
  | 5 => .object "LetterOunces$Acts"
  | 6 => .object "LetterOunces$Seer"
  | 7 => .object "LetterOunces$Asks"
  | 8 => .int
  | _ => .int
abbrev wsX70 : List Cond := u_ws RX7 TX7 10
theorem nmX7 : ∀ a, a < 10 → ∀ b, b < 10 → a ≠ b → (TX7 a).2.1 ≠ (TX7 b).2.1 := by decide +kernel
theorem tyX7_ok : ∀ k, k < 10 → parseFieldDescriptor (TX7 k).2.2.1 = some (tyX7 k) := by decide +kernel
abbrev cX7_init : ByteArray := prog_1_method_1_code
def yX7_init : MethodName := ⟨RX7, "<init>", "()V"⟩
abbrev cX7_row : ByteArray := prog_1_method_2_code
def yX7_row : MethodName := ⟨RX7, "row", "(III)I"⟩
abbrev cX7_set : ByteArray := prog_1_method_3_code
def yX7_set : MethodName := ⟨RX7, "set", "(III)I"⟩
abbrev cX7_copy : ByteArray := prog_1_method_4_code
def yX7_copy : MethodName := ⟨RX7, "copy", "(IIIII)I"⟩
abbrev cX7_drop : ByteArray := prog_1_method_5_code
def yX7_drop : MethodName := ⟨RX7, "drop", "(I)I"⟩
abbrev cX7_feed : ByteArray := prog_1_method_6_code
def yX7_feed : MethodName := ⟨RX7, "feed", "(I)I"⟩
abbrev cX7_post : ByteArray := prog_1_method_7_code
def yX7_post : MethodName := ⟨RX7, "post", "()I"⟩
abbrev cX7_fault : ByteArray := prog_1_method_8_code
def yX7_fault : MethodName := ⟨RX7, "fault", "()I"⟩
abbrev cX7_days : ByteArray := prog_1_method_9_code
def yX7_days : MethodName := ⟨RX7, "days", "(I)I"⟩
abbrev cX7_say : ByteArray := prog_1_method_10_code
def yX7_say : MethodName := ⟨RX7, "say", "(II)I"⟩
abbrev cX7_unsay : ByteArray := prog_1_method_11_code
def yX7_unsay : MethodName := ⟨RX7, "unsay", "(II)I"⟩
abbrev cX7_back : ByteArray := prog_1_method_12_code
def yX7_back : MethodName := ⟨RX7, "back", "(I)I"⟩
abbrev cX7_strap : ByteArray := prog_1_method_13_code
def yX7_strap : MethodName := ⟨RX7, "strap", "(I)I"⟩
abbrev cX7_limit : ByteArray := prog_1_method_14_code
def yX7_limit : MethodName := ⟨RX7, "limit", "(I)I"⟩
abbrev cX7_undo : ByteArray := prog_1_method_15_code
def yX7_undo : MethodName := ⟨RX7, "undo", "()I"⟩
abbrev cX7_letter : ByteArray := prog_1_method_16_code
def yX7_letter : MethodName := ⟨RX7, "letter", "(II)I"⟩
abbrev cX7_ounces : ByteArray := prog_1_method_17_code
def yX7_ounces : MethodName := ⟨RX7, "ounces", "(I)I"⟩
abbrev cX7_ahead : ByteArray := prog_1_method_18_code
def yX7_ahead : MethodName := ⟨RX7, "ahead", "(III)I"⟩
abbrev cX7_later : ByteArray := prog_1_method_19_code
def yX7_later : MethodName := ⟨RX7, "later", "(II)I"⟩
abbrev cX7_when : ByteArray := prog_1_method_20_code
def yX7_when : MethodName := ⟨RX7, "when", "(I)I"⟩
abbrev cX7_lighten : ByteArray := prog_1_method_21_code
def yX7_lighten : MethodName := ⟨RX7, "lighten", "(III)I"⟩
abbrev cX7_guess : ByteArray := prog_1_method_22_code
def yX7_guess : MethodName := ⟨RX7, "guess", "(II)I"⟩
abbrev cX7_load : ByteArray := prog_1_method_23_code
def yX7_load : MethodName := ⟨RX7, "load", "(II)I"⟩
abbrev cX7_share : ByteArray := prog_1_method_24_code
def yX7_share : MethodName := ⟨RX7, "share", "(II)I"⟩
abbrev cX7_fits : ByteArray := prog_1_method_25_code
def yX7_fits : MethodName := ⟨RX7, "fits", "(IIIII)I"⟩
abbrev cX7_slips : ByteArray := prog_1_method_26_code
def yX7_slips : MethodName := ⟨RX7, "slips", "(IIIII)I"⟩
abbrev cX7_drawn : ByteArray := prog_1_method_27_code
def yX7_drawn : MethodName := ⟨RX7, "drawn", "(III)I"⟩
abbrev cX7_image : ByteArray := prog_1_method_28_code
def yX7_image : MethodName := ⟨RX7, "image", "(I)I"⟩
abbrev cX7_restore : ByteArray := prog_1_method_29_code
def yX7_restore : MethodName := ⟨RX7, "restore", "(I)I"⟩
abbrev cX7_kind : ByteArray := prog_1_method_30_code
def yX7_kind : MethodName := ⟨RX7, "kind", "(I)I"⟩
abbrev cX7_as : ByteArray := prog_1_method_31_code
def yX7_as : MethodName := ⟨RX7, "as", "(II)I"⟩
abbrev cX7_ask : ByteArray := prog_1_method_32_code
def yX7_ask : MethodName := ⟨RX7, "ask", "(II)I"⟩
abbrev cX7_trace : ByteArray := prog_1_method_33_code
def yX7_trace : MethodName := ⟨RX7, "trace", "(I)I"⟩
abbrev cX7_count : ByteArray := prog_1_method_34_code
def yX7_count : MethodName := ⟨RX7, "count", "(I)I"⟩
abbrev cX7_status : ByteArray := prog_1_method_35_code
def yX7_status : MethodName := ⟨RX7, "status", "()I"⟩
abbrev cX7_found : ByteArray := prog_1_method_36_code
def yX7_found : MethodName := ⟨RX7, "found", "(I)I"⟩
abbrev cX7_hasNoPost : ByteArray := prog_1_method_37_code
def yX7_hasNoPost : MethodName := ⟨RX7, "hasNoPost", "()Z"⟩
abbrev cX7_hasNo : ByteArray := prog_1_method_38_code
def yX7_hasNo : MethodName := ⟨RX7, "hasNo", "(I)Z"⟩
abbrev cX7_hasNoWord : ByteArray := prog_1_method_39_code
def yX7_hasNoWord : MethodName := ⟨RX7, "hasNoWord", "(I)Z"⟩
abbrev cX7_isOutside : ByteArray := prog_1_method_40_code
def yX7_isOutside : MethodName := ⟨RX7, "isOutside", "(III)Z"⟩
abbrev cX7_power : ByteArray := prog_1_method_41_code
def yX7_power : MethodName := ⟨RX7, "power", "(II)I"⟩
abbrev cX7_commonDivisor : ByteArray := prog_1_method_42_code
def yX7_commonDivisor : MethodName := ⟨RX7, "commonDivisor", "(II)I"⟩
def RX8 : String := "LetterOuncesModel"
def TX8 : u_T := fun k => match k with
  | 0 => ("LetterOuncesModel", "lane", "[I", true)
  | 1 => ("LetterOuncesModel", "many", "[I", true)
  | 2 => ("LetterOuncesModel", "items", "[I", true)
  | 3 => ("LetterOuncesModel", "spare", "[I", true)
  | 4 => ("LetterOuncesModel", "status", "I", false)
  | 5 => ("LetterOuncesModel", "tape", "[I", true)
  | 6 => ("LetterOuncesModel", "taped", "I", false)
  | 7 => ("LetterOuncesModel", "faultKind", "I", false)
  | 8 => ("LetterOuncesModel", "faultPlace", "I", false)
  | 9 => ("LetterOuncesModel", "at", "I", false)
  | 10 => ("LetterOuncesModel", "start", "I", false)
  | 11 => ("LetterOuncesModel", "token", "I", false)
  | 12 => ("LetterOuncesModel", "value", "I", false)
  | 13 => ("LetterOuncesModel", "now", "[I", true)
  | 14 => ("LetterOuncesModel", "draft", "[I", true)
  | 15 => ("LetterOuncesModel", "tried", "[I", true)
  | 16 => ("LetterOuncesModel", "past", "[I", true)
  | 17 => ("LetterOuncesModel", "acts", "I", false)
  | 18 => ("LetterOuncesModel", "images", "[I", true)
  | 19 => ("LetterOuncesModel", "kept", "[Z", true)
  | 20 => ("LetterOuncesModel", "trace", "[I", true)
  | _ => ("LetterOuncesModel", "traced", "I", false)
def tyX8 : Nat → FieldType := fun k => match k with
  | 0 => .array .int
  | 1 => .array .int
  | 2 => .array .int
  | 3 => .array .int
  | 4 => .int
  | 5 => .array .int
  | 6 => .int
  | 7 => .int
  | 8 => .int
  | 9 => .int
  | 10 => .int
  | 11 => .int
  | 12 => .int
  | 13 => .array .int
  | 14 => .array .int
  | 15 => .array .int
  | 16 => .array .int
  | 17 => .int
  | 18 => .array .int
  | 19 => .array .boolean
  | 20 => .array .int
  | _ => .int
abbrev wsX80 : List Cond := u_ws RX8 TX8 22
theorem nmX8 : ∀ a, a < 22 → ∀ b, b < 22 → a ≠ b → (TX8 a).2.1 ≠ (TX8 b).2.1 := by decide +kernel
theorem tyX8_ok : ∀ k, k < 22 → parseFieldDescriptor (TX8 k).2.2.1 = some (tyX8 k) := by decide +kernel
abbrev cX8_init : ByteArray := prog_10_method_1_code
def yX8_init : MethodName := ⟨RX8, "<init>", "()V"⟩
abbrev cX8_in : ByteArray := prog_10_method_3_code
def yX8_in : MethodName := ⟨RX8, "in", "(III)Z"⟩
abbrev cX8_has : ByteArray := prog_10_method_4_code
def yX8_has : MethodName := ⟨RX8, "has", "(II)Z"⟩
abbrev cX8_ones : ByteArray := prog_10_method_5_code
def yX8_ones : MethodName := ⟨RX8, "ones", "(I)I"⟩
abbrev cX8_found : ByteArray := prog_10_method_6_code
def yX8_found : MethodName := ⟨RX8, "found", "(I)I"⟩
abbrev cX8_well : ByteArray := prog_10_method_7_code
def yX8_well : MethodName := ⟨RX8, "well", "(I)I"⟩
abbrev cX8_copies : ByteArray := prog_10_method_8_code
def yX8_copies : MethodName := ⟨RX8, "copies", "([II[II)V"⟩
abbrev cX8_isRow : ByteArray := prog_10_method_9_code
def yX8_isRow : MethodName := ⟨RX8, "isRow", "(I)Z"⟩
abbrev cX8_isMissing : ByteArray := prog_10_method_10_code
def yX8_isMissing : MethodName := ⟨RX8, "isMissing", "(I)Z"⟩
abbrev cX8_cut : ByteArray := prog_10_method_11_code
def yX8_cut : MethodName := ⟨RX8, "cut", "(II)I"⟩
abbrev cX8_row : ByteArray := prog_10_method_12_code
def yX8_row : MethodName := ⟨RX8, "row", "(III)I"⟩
abbrev cX8_set : ByteArray := prog_10_method_13_code
def yX8_set : MethodName := ⟨RX8, "set", "(III)I"⟩
abbrev cX8_isPart : ByteArray := prog_10_method_14_code
def yX8_isPart : MethodName := ⟨RX8, "isPart", "(III)Z"⟩
abbrev cX8_copy : ByteArray := prog_10_method_15_code
def yX8_copy : MethodName := ⟨RX8, "copy", "(IIIII)I"⟩
abbrev cX8_drop : ByteArray := prog_10_method_16_code
def yX8_drop : MethodName := ⟨RX8, "drop", "(I)I"⟩
abbrev cX8_feed : ByteArray := prog_10_method_17_code
def yX8_feed : MethodName := ⟨RX8, "feed", "(I)I"⟩
abbrev cX8_byteAt : ByteArray := prog_10_method_18_code
def yX8_byteAt : MethodName := ⟨RX8, "byteAt", "(I)I"⟩
abbrev cX8_advances : ByteArray := prog_10_method_19_code
def yX8_advances : MethodName := ⟨RX8, "advances", "()V"⟩
abbrev cX8_isWell : ByteArray := prog_10_method_20_code
def yX8_isWell : MethodName := ⟨RX8, "isWell", "()Z"⟩
abbrev cX8_takes : ByteArray := prog_10_method_21_code
def yX8_takes : MethodName := ⟨RX8, "takes", "(ZI)I"⟩
abbrev cX8_figure : ByteArray := prog_10_method_22_code
def yX8_figure : MethodName := ⟨RX8, "figure", "(II)I"⟩
abbrev cX8_kindOf : ByteArray := prog_10_method_23_code
def yX8_kindOf : MethodName := ⟨RX8, "kindOf", "(I)I"⟩
abbrev cX8_follows : ByteArray := prog_10_method_24_code
def yX8_follows : MethodName := ⟨RX8, "follows", "(II)I"⟩
abbrev cX8_readsWord : ByteArray := prog_10_method_25_code
def yX8_readsWord : MethodName := ⟨RX8, "readsWord", "()V"⟩
abbrev cX8_part : ByteArray := prog_10_method_26_code
def yX8_part : MethodName := ⟨RX8, "part", "(I)I"⟩
abbrev cX8_readsLetter : ByteArray := prog_10_method_27_code
def yX8_readsLetter : MethodName := ⟨RX8, "readsLetter", "()V"⟩
abbrev cX8_must : ByteArray := prog_10_method_28_code
def yX8_must : MethodName := ⟨RX8, "must", "(Z)V"⟩
abbrev cX8_post : ByteArray := prog_10_method_29_code
def yX8_post : MethodName := ⟨RX8, "post", "()I"⟩
abbrev cX8_fault : ByteArray := prog_10_method_30_code
def yX8_fault : MethodName := ⟨RX8, "fault", "()I"⟩
abbrev cX8_isPost : ByteArray := prog_10_method_31_code
def yX8_isPost : MethodName := ⟨RX8, "isPost", "()Z"⟩
abbrev cX8_isLetter : ByteArray := prog_10_method_32_code
def yX8_isLetter : MethodName := ⟨RX8, "isLetter", "(I)Z"⟩
abbrev cX8_isWord : ByteArray := prog_10_method_33_code
def yX8_isWord : MethodName := ⟨RX8, "isWord", "(I)Z"⟩
abbrev cX8_unsaid : ByteArray := prog_10_method_34_code
def yX8_unsaid : MethodName := ⟨RX8, "unsaid", "([II)I"⟩
abbrev cX8_weightBy : ByteArray := prog_10_method_35_code
def yX8_weightBy : MethodName := ⟨RX8, "weightBy", "([III)I"⟩
abbrev cX8_weight : ByteArray := prog_10_method_36_code
def yX8_weight : MethodName := ⟨RX8, "weight", "([II)I"⟩
abbrev cX8_oneOf : ByteArray := prog_10_method_37_code
def yX8_oneOf : MethodName := ⟨RX8, "oneOf", "([IIZ)I"⟩
abbrev cX8_blurts : ByteArray := prog_10_method_38_code
def yX8_blurts : MethodName := ⟨RX8, "blurts", "([II)I"⟩
abbrev cX8_passes : ByteArray := prog_10_method_39_code
def yX8_passes : MethodName := ⟨RX8, "passes", "([I)V"⟩
abbrev cX8_sentOf : ByteArray := prog_10_method_40_code
def yX8_sentOf : MethodName := ⟨RX8, "sentOf", "([I)I"⟩
abbrev cX8_notes : ByteArray := prog_10_method_41_code
def yX8_notes : MethodName := ⟨RX8, "notes", "()V"⟩
abbrev cX8_days : ByteArray := prog_10_method_42_code
def yX8_days : MethodName := ⟨RX8, "days", "(I)I"⟩
abbrev cX8_say : ByteArray := prog_10_method_43_code
def yX8_say : MethodName := ⟨RX8, "say", "(II)I"⟩
abbrev cX8_unsay : ByteArray := prog_10_method_44_code
def yX8_unsay : MethodName := ⟨RX8, "unsay", "(II)I"⟩
abbrev cX8_back : ByteArray := prog_10_method_45_code
def yX8_back : MethodName := ⟨RX8, "back", "(I)I"⟩
abbrev cX8_sets : ByteArray := prog_10_method_46_code
def yX8_sets : MethodName := ⟨RX8, "sets", "(II)I"⟩
abbrev cX8_strap : ByteArray := prog_10_method_47_code
def yX8_strap : MethodName := ⟨RX8, "strap", "(I)I"⟩
abbrev cX8_limit : ByteArray := prog_10_method_48_code
def yX8_limit : MethodName := ⟨RX8, "limit", "(I)I"⟩
abbrev cX8_undo : ByteArray := prog_10_method_49_code
def yX8_undo : MethodName := ⟨RX8, "undo", "()I"⟩
abbrev cX8_letter : ByteArray := prog_10_method_50_code
def yX8_letter : MethodName := ⟨RX8, "letter", "(II)I"⟩
abbrev cX8_ounces : ByteArray := prog_10_method_51_code
def yX8_ounces : MethodName := ⟨RX8, "ounces", "(I)I"⟩
abbrev cX8_goesOn : ByteArray := prog_10_method_52_code
def yX8_goesOn : MethodName := ⟨RX8, "goesOn", "(I)V"⟩
abbrev cX8_ahead : ByteArray := prog_10_method_53_code
def yX8_ahead : MethodName := ⟨RX8, "ahead", "(III)I"⟩
abbrev cX8_later : ByteArray := prog_10_method_54_code
def yX8_later : MethodName := ⟨RX8, "later", "(II)I"⟩
abbrev cX8_when : ByteArray := prog_10_method_55_code
def yX8_when : MethodName := ⟨RX8, "when", "(I)I"⟩
abbrev cX8_lighten : ByteArray := prog_10_method_56_code
def yX8_lighten : MethodName := ⟨RX8, "lighten", "(III)I"⟩
abbrev cX8_guess : ByteArray := prog_10_method_57_code
def yX8_guess : MethodName := ⟨RX8, "guess", "(II)I"⟩
abbrev cX8_waiting : ByteArray := prog_10_method_58_code
def yX8_waiting : MethodName := ⟨RX8, "waiting", "()I"⟩
abbrev cX8_load : ByteArray := prog_10_method_59_code
def yX8_load : MethodName := ⟨RX8, "load", "(II)I"⟩
abbrev cX8_claim : ByteArray := prog_10_method_60_code
def yX8_claim : MethodName := ⟨RX8, "claim", "(I)I"⟩
abbrev cX8_share : ByteArray := prog_10_method_61_code
def yX8_share : MethodName := ⟨RX8, "share", "(II)I"⟩
abbrev cX8_weighsSo : ByteArray := prog_10_method_62_code
def yX8_weighsSo : MethodName := ⟨RX8, "weighsSo", "(IIIII)Z"⟩
abbrev cX8_fits : ByteArray := prog_10_method_63_code
def yX8_fits : MethodName := ⟨RX8, "fits", "(IIIII)I"⟩
abbrev cX8_slips : ByteArray := prog_10_method_64_code
def yX8_slips : MethodName := ⟨RX8, "slips", "(IIIII)I"⟩
abbrev cX8_drawn : ByteArray := prog_10_method_65_code
def yX8_drawn : MethodName := ⟨RX8, "drawn", "(III)I"⟩
abbrev cX8_image : ByteArray := prog_10_method_66_code
def yX8_image : MethodName := ⟨RX8, "image", "(I)I"⟩
abbrev cX8_restore : ByteArray := prog_10_method_67_code
def yX8_restore : MethodName := ⟨RX8, "restore", "(I)I"⟩
abbrev cX8_kindIn : ByteArray := prog_10_method_68_code
def yX8_kindIn : MethodName := ⟨RX8, "kindIn", "(I)I"⟩
abbrev cX8_kind : ByteArray := prog_10_method_69_code
def yX8_kind : MethodName := ⟨RX8, "kind", "(I)I"⟩
abbrev cX8_as : ByteArray := prog_10_method_70_code
def yX8_as : MethodName := ⟨RX8, "as", "(II)I"⟩
abbrev cX8_begins : ByteArray := prog_10_method_71_code
def yX8_begins : MethodName := ⟨RX8, "begins", "(I)V"⟩
abbrev cX8_plainMark : ByteArray := prog_10_method_72_code
def yX8_plainMark : MethodName := ⟨RX8, "plainMark", "(I)I"⟩
abbrev cX8_cardSize : ByteArray := prog_10_method_73_code
def yX8_cardSize : MethodName := ⟨RX8, "cardSize", "(I)I"⟩
abbrev cX8_plainSize : ByteArray := prog_10_method_74_code
def yX8_plainSize : MethodName := ⟨RX8, "plainSize", "(I)I"⟩
abbrev cX8_cardMark : ByteArray := prog_10_method_75_code
def yX8_cardMark : MethodName := ⟨RX8, "cardMark", "(I)I"⟩
abbrev cX8_ask : ByteArray := prog_10_method_76_code
def yX8_ask : MethodName := ⟨RX8, "ask", "(II)I"⟩
abbrev cX8_trace : ByteArray := prog_10_method_77_code
def yX8_trace : MethodName := ⟨RX8, "trace", "(I)I"⟩
abbrev cX8_count : ByteArray := prog_10_method_78_code
def yX8_count : MethodName := ⟨RX8, "count", "(I)I"⟩
abbrev cX8_status : ByteArray := prog_10_method_79_code
def yX8_status : MethodName := ⟨RX8, "status", "()I"⟩
def RJ6 : String := "java/lang/Integer"
abbrev cJ6_numberOfTrailingZeros_0f7a4 : ByteArray := prog_11_method_48_code
def yJ6_numberOfTrailingZeros_0f7a4 : MethodName := ⟨RJ6, "numberOfTrailingZeros", "(I)I"⟩
abbrev cJ6_bitCount_0f7a4 : ByteArray := prog_11_method_49_code
def yJ6_bitCount_0f7a4 : MethodName := ⟨RJ6, "bitCount", "(I)I"⟩
def RJ9 : String := "java/lang/Math"
abbrev cJ9_max_7cf53 : ByteArray := prog_12_method_65_code
def yJ9_max_7cf53 : MethodName := ⟨RJ9, "max", "(II)I"⟩
abbrev cJ9_min_7cf53 : ByteArray := prog_12_method_69_code
def yJ9_min_7cf53 : MethodName := ⟨RJ9, "min", "(II)I"⟩
def RJ10 : String := "java/lang/System"
def RL : String := "LetterOuncesLaw"
