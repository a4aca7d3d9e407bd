section
-- ===== PART A: goes FIRST, ahead of the names: the tables' words, and 'selects' of the private methods out of them =====
/-- a private method of a class that the tables say can be made, by its rows of tables_1 -/
def lw_okq (q : MethodName × Nat) : Prop := (q.1.cls ≠ "java/lang/invoke/MethodHandle" ∧ q.1.cls ≠ "java/lang/invoke/VarHandle") ∧ Cond.instantiable q.1.cls q.2 ∈ tables_1 ∧ Cond.privateMethod q.1 ∈ tables_1 ∧ Cond.instanceMethod q.1 ∈ tables_1
theorem lw_p0 : lw_okq (⟨"java/lang/Throwable", "fillInStackTrace", "(I)Ljava/lang/Throwable;"⟩, 6) := ⟨⟨by decide +kernel, by decide +kernel⟩, List.mem_of_getElem? (i := 149) (by decide +kernel), List.mem_of_getElem? (i := 147) (by decide +kernel), List.mem_of_getElem? (i := 148) (by decide +kernel)⟩
theorem lw_p1 : lw_okq (⟨"MailPriory", "findList", "(I)LMailPriory$MailList;"⟩, 9) := ⟨⟨by decide +kernel, by decide +kernel⟩, List.mem_of_getElem? (i := 19) (by decide +kernel), List.mem_of_getElem? (i := 240) (by decide +kernel), List.mem_of_getElem? (i := 241) (by decide +kernel)⟩
theorem lw_p2 : lw_okq (⟨"MailPriory", "listsDown", "(I)I"⟩, 9) := ⟨⟨by decide +kernel, by decide +kernel⟩, List.mem_of_getElem? (i := 19) (by decide +kernel), List.mem_of_getElem? (i := 319) (by decide +kernel), List.mem_of_getElem? (i := 320) (by decide +kernel)⟩
theorem lw_p3 : lw_okq (⟨"MailPriory", "membersOf", "(I)I"⟩, 9) := ⟨⟨by decide +kernel, by decide +kernel⟩, List.mem_of_getElem? (i := 19) (by decide +kernel), List.mem_of_getElem? (i := 358) (by decide +kernel), List.mem_of_getElem? (i := 359) (by decide +kernel)⟩
theorem lw_p4 : lw_okq (⟨"MailPriory", "listsUp", "(I)I"⟩, 9) := ⟨⟨by decide +kernel, by decide +kernel⟩, List.mem_of_getElem? (i := 19) (by decide +kernel), List.mem_of_getElem? (i := 369) (by decide +kernel), List.mem_of_getElem? (i := 370) (by decide +kernel)⟩
theorem lw_p5 : lw_okq (⟨"MailPriory", "modeAmong", "(II)I"⟩, 9) := ⟨⟨by decide +kernel, by decide +kernel⟩, List.mem_of_getElem? (i := 19) (by decide +kernel), List.mem_of_getElem? (i := 380) (by decide +kernel), List.mem_of_getElem? (i := 381) (by decide +kernel)⟩
theorem lw_p6 : lw_okq (⟨"MailPriory", "findMail", "(I)LMailPriory$Mail;"⟩, 9) := ⟨⟨by decide +kernel, by decide +kernel⟩, List.mem_of_getElem? (i := 19) (by decide +kernel), List.mem_of_getElem? (i := 391) (by decide +kernel), List.mem_of_getElem? (i := 392) (by decide +kernel)⟩
theorem lw_p7 : lw_okq (⟨"MailPriory", "scoreOf", "(III)I"⟩, 9) := ⟨⟨by decide +kernel, by decide +kernel⟩, List.mem_of_getElem? (i := 19) (by decide +kernel), List.mem_of_getElem? (i := 397) (by decide +kernel), List.mem_of_getElem? (i := 398) (by decide +kernel)⟩
theorem lw_p8 : lw_okq (⟨"MailPriory", "sentToday", "(I)I"⟩, 9) := ⟨⟨by decide +kernel, by decide +kernel⟩, List.mem_of_getElem? (i := 19) (by decide +kernel), List.mem_of_getElem? (i := 401) (by decide +kernel), List.mem_of_getElem? (i := 402) (by decide +kernel)⟩
theorem lw_p9 : lw_okq (⟨"MailPriory", "answersOwnPost", "(II)Z"⟩, 9) := ⟨⟨by decide +kernel, by decide +kernel⟩, List.mem_of_getElem? (i := 19) (by decide +kernel), List.mem_of_getElem? (i := 405) (by decide +kernel), List.mem_of_getElem? (i := 406) (by decide +kernel)⟩
theorem lw_p10 : lw_okq (⟨"MailPriory", "causeFor", "(III)I"⟩, 9) := ⟨⟨by decide +kernel, by decide +kernel⟩, List.mem_of_getElem? (i := 19) (by decide +kernel), List.mem_of_getElem? (i := 409) (by decide +kernel), List.mem_of_getElem? (i := 410) (by decide +kernel)⟩
theorem lw_p11 : lw_okq (⟨"MailPriory", "postDayOfToday", "()LMailPriory$PostDay;"⟩, 9) := ⟨⟨by decide +kernel, by decide +kernel⟩, List.mem_of_getElem? (i := 19) (by decide +kernel), List.mem_of_getElem? (i := 414) (by decide +kernel), List.mem_of_getElem? (i := 415) (by decide +kernel)⟩
theorem lw_p12 : lw_okq (⟨"MailPriory", "findPostDay", "(I)LMailPriory$PostDay;"⟩, 9) := ⟨⟨by decide +kernel, by decide +kernel⟩, List.mem_of_getElem? (i := 19) (by decide +kernel), List.mem_of_getElem? (i := 418) (by decide +kernel), List.mem_of_getElem? (i := 419) (by decide +kernel)⟩
theorem lw_p13 : lw_okq (⟨"MailPriory", "deliver", "(LMailPriory$Mail;)V"⟩, 9) := ⟨⟨by decide +kernel, by decide +kernel⟩, List.mem_of_getElem? (i := 19) (by decide +kernel), List.mem_of_getElem? (i := 496) (by decide +kernel), List.mem_of_getElem? (i := 497) (by decide +kernel)⟩
theorem lw_p14 : lw_okq (⟨"MailPriory", "deliverTo", "(LMailPriory$Mail;II)V"⟩, 9) := ⟨⟨by decide +kernel, by decide +kernel⟩, List.mem_of_getElem? (i := 19) (by decide +kernel), List.mem_of_getElem? (i := 500) (by decide +kernel), List.mem_of_getElem? (i := 501) (by decide +kernel)⟩
theorem lw_p15 : lw_okq (⟨"MailPriory", "lowestWithMember", "(II)I"⟩, 9) := ⟨⟨by decide +kernel, by decide +kernel⟩, List.mem_of_getElem? (i := 19) (by decide +kernel), List.mem_of_getElem? (i := 504) (by decide +kernel), List.mem_of_getElem? (i := 505) (by decide +kernel)⟩
def lw_privs_1 : List (MethodName × Nat) := [(⟨"java/lang/Throwable", "fillInStackTrace", "(I)Ljava/lang/Throwable;"⟩, 6), (⟨"MailPriory", "findList", "(I)LMailPriory$MailList;"⟩, 9), (⟨"MailPriory", "listsDown", "(I)I"⟩, 9), (⟨"MailPriory", "membersOf", "(I)I"⟩, 9), (⟨"MailPriory", "listsUp", "(I)I"⟩, 9), (⟨"MailPriory", "modeAmong", "(II)I"⟩, 9), (⟨"MailPriory", "findMail", "(I)LMailPriory$Mail;"⟩, 9), (⟨"MailPriory", "scoreOf", "(III)I"⟩, 9), (⟨"MailPriory", "sentToday", "(I)I"⟩, 9), (⟨"MailPriory", "answersOwnPost", "(II)Z"⟩, 9), (⟨"MailPriory", "causeFor", "(III)I"⟩, 9), (⟨"MailPriory", "postDayOfToday", "()LMailPriory$PostDay;"⟩, 9), (⟨"MailPriory", "findPostDay", "(I)LMailPriory$PostDay;"⟩, 9), (⟨"MailPriory", "deliver", "(LMailPriory$Mail;)V"⟩, 9), (⟨"MailPriory", "deliverTo", "(LMailPriory$Mail;II)V"⟩, 9), (⟨"MailPriory", "lowestWithMember", "(II)I"⟩, 9)]
theorem lw_r1 : ∀ q ∈ lw_privs_1, lw_okq q := List.forall_mem_cons.mpr ⟨lw_p0, List.forall_mem_cons.mpr ⟨lw_p1, List.forall_mem_cons.mpr ⟨lw_p2, List.forall_mem_cons.mpr ⟨lw_p3, List.forall_mem_cons.mpr ⟨lw_p4, List.forall_mem_cons.mpr ⟨lw_p5, List.forall_mem_cons.mpr ⟨lw_p6, List.forall_mem_cons.mpr ⟨lw_p7, List.forall_mem_cons.mpr ⟨lw_p8, List.forall_mem_cons.mpr ⟨lw_p9, List.forall_mem_cons.mpr ⟨lw_p10, List.forall_mem_cons.mpr ⟨lw_p11, List.forall_mem_cons.mpr ⟨lw_p12, List.forall_mem_cons.mpr ⟨lw_p13, List.forall_mem_cons.mpr ⟨lw_p14, List.forall_mem_cons.mpr ⟨lw_p15, fun _ h => absurd h List.not_mem_nil⟩⟩⟩⟩⟩⟩⟩⟩⟩⟩⟩⟩⟩⟩⟩⟩
theorem lw_p16 : lw_okq (⟨"MailPriory", "putIntoDigest", "(LMailPriory$Mail;II)V"⟩, 9) := ⟨⟨by decide +kernel, by decide +kernel⟩, List.mem_of_getElem? (i := 19) (by decide +kernel), List.mem_of_getElem? (i := 508) (by decide +kernel), List.mem_of_getElem? (i := 509) (by decide +kernel)⟩
theorem lw_p17 : lw_okq (⟨"MailPriory", "bounce", "(I)V"⟩, 9) := ⟨⟨by decide +kernel, by decide +kernel⟩, List.mem_of_getElem? (i := 19) (by decide +kernel), List.mem_of_getElem? (i := 526) (by decide +kernel), List.mem_of_getElem? (i := 527) (by decide +kernel)⟩
theorem lw_p18 : lw_okq (⟨"MailPriory", "settleEditions", "()V"⟩, 9) := ⟨⟨by decide +kernel, by decide +kernel⟩, List.mem_of_getElem? (i := 19) (by decide +kernel), List.mem_of_getElem? (i := 545) (by decide +kernel), List.mem_of_getElem? (i := 546) (by decide +kernel)⟩
theorem lw_p19 : lw_okq (⟨"MailPriory", "jurorCandidates", "(LMailPriory$Mail;)I"⟩, 9) := ⟨⟨by decide +kernel, by decide +kernel⟩, List.mem_of_getElem? (i := 19) (by decide +kernel), List.mem_of_getElem? (i := 569) (by decide +kernel), List.mem_of_getElem? (i := 570) (by decide +kernel)⟩
theorem lw_p20 : lw_okq (⟨"MailPriory", "chooseJurors", "(I)I"⟩, 9) := ⟨⟨by decide +kernel, by decide +kernel⟩, List.mem_of_getElem? (i := 19) (by decide +kernel), List.mem_of_getElem? (i := 574) (by decide +kernel), List.mem_of_getElem? (i := 575) (by decide +kernel)⟩
theorem lw_p21 : lw_okq (⟨"MailPriory", "leastJudged", "(I)I"⟩, 9) := ⟨⟨by decide +kernel, by decide +kernel⟩, List.mem_of_getElem? (i := 19) (by decide +kernel), List.mem_of_getElem? (i := 578) (by decide +kernel), List.mem_of_getElem? (i := 579) (by decide +kernel)⟩
theorem lw_p22 : lw_okq (⟨"MailPriory", "clearSender", "(LMailPriory$Mail;)V"⟩, 9) := ⟨⟨by decide +kernel, by decide +kernel⟩, List.mem_of_getElem? (i := 19) (by decide +kernel), List.mem_of_getElem? (i := 624) (by decide +kernel), List.mem_of_getElem? (i := 625) (by decide +kernel)⟩
theorem lw_p23 : lw_okq (⟨"MailPriory", "condemnByCourt", "(LMailPriory$Mail;)V"⟩, 9) := ⟨⟨by decide +kernel, by decide +kernel⟩, List.mem_of_getElem? (i := 19) (by decide +kernel), List.mem_of_getElem? (i := 636) (by decide +kernel), List.mem_of_getElem? (i := 637) (by decide +kernel)⟩
theorem lw_p24 : lw_okq (⟨"MailPriory", "lapseHolds", "()I"⟩, 9) := ⟨⟨by decide +kernel, by decide +kernel⟩, List.mem_of_getElem? (i := 19) (by decide +kernel), List.mem_of_getElem? (i := 806) (by decide +kernel), List.mem_of_getElem? (i := 807) (by decide +kernel)⟩
theorem lw_p25 : lw_okq (⟨"MailPrioryModel", "isList", "(I)Z"⟩, 36) := ⟨⟨by decide +kernel, by decide +kernel⟩, List.mem_of_getElem? (i := 810) (by decide +kernel), List.mem_of_getElem? (i := 944) (by decide +kernel), List.mem_of_getElem? (i := 945) (by decide +kernel)⟩
theorem lw_p26 : lw_okq (⟨"MailPrioryModel", "membersOf", "(I)I"⟩, 36) := ⟨⟨by decide +kernel, by decide +kernel⟩, List.mem_of_getElem? (i := 810) (by decide +kernel), List.mem_of_getElem? (i := 948) (by decide +kernel), List.mem_of_getElem? (i := 949) (by decide +kernel)⟩
theorem lw_p27 : lw_okq (⟨"MailPrioryModel", "within", "(I)I"⟩, 36) := ⟨⟨by decide +kernel, by decide +kernel⟩, List.mem_of_getElem? (i := 810) (by decide +kernel), List.mem_of_getElem? (i := 964) (by decide +kernel), List.mem_of_getElem? (i := 965) (by decide +kernel)⟩
theorem lw_p28 : lw_okq (⟨"MailPrioryModel", "reachesOf", "(I)I"⟩, 36) := ⟨⟨by decide +kernel, by decide +kernel⟩, List.mem_of_getElem? (i := 810) (by decide +kernel), List.mem_of_getElem? (i := 984) (by decide +kernel), List.mem_of_getElem? (i := 985) (by decide +kernel)⟩
theorem lw_p29 : lw_okq (⟨"MailPrioryModel", "memberBy", "(III)I"⟩, 36) := ⟨⟨by decide +kernel, by decide +kernel⟩, List.mem_of_getElem? (i := 810) (by decide +kernel), List.mem_of_getElem? (i := 988) (by decide +kernel), List.mem_of_getElem? (i := 989) (by decide +kernel)⟩
theorem lw_p30 : lw_okq (⟨"MailPrioryModel", "modeFor", "(II)I"⟩, 36) := ⟨⟨by decide +kernel, by decide +kernel⟩, List.mem_of_getElem? (i := 810) (by decide +kernel), List.mem_of_getElem? (i := 1000) (by decide +kernel), List.mem_of_getElem? (i := 1001) (by decide +kernel)⟩
theorem lw_p31 : lw_okq (⟨"MailPrioryModel", "isMail", "(I)Z"⟩, 36) := ⟨⟨by decide +kernel, by decide +kernel⟩, List.mem_of_getElem? (i := 810) (by decide +kernel), List.mem_of_getElem? (i := 1008) (by decide +kernel), List.mem_of_getElem? (i := 1009) (by decide +kernel)⟩
def lw_privs_2 : List (MethodName × Nat) := [(⟨"MailPriory", "putIntoDigest", "(LMailPriory$Mail;II)V"⟩, 9), (⟨"MailPriory", "bounce", "(I)V"⟩, 9), (⟨"MailPriory", "settleEditions", "()V"⟩, 9), (⟨"MailPriory", "jurorCandidates", "(LMailPriory$Mail;)I"⟩, 9), (⟨"MailPriory", "chooseJurors", "(I)I"⟩, 9), (⟨"MailPriory", "leastJudged", "(I)I"⟩, 9), (⟨"MailPriory", "clearSender", "(LMailPriory$Mail;)V"⟩, 9), (⟨"MailPriory", "condemnByCourt", "(LMailPriory$Mail;)V"⟩, 9), (⟨"MailPriory", "lapseHolds", "()I"⟩, 9), (⟨"MailPrioryModel", "isList", "(I)Z"⟩, 36), (⟨"MailPrioryModel", "membersOf", "(I)I"⟩, 36), (⟨"MailPrioryModel", "within", "(I)I"⟩, 36), (⟨"MailPrioryModel", "reachesOf", "(I)I"⟩, 36), (⟨"MailPrioryModel", "memberBy", "(III)I"⟩, 36), (⟨"MailPrioryModel", "modeFor", "(II)I"⟩, 36), (⟨"MailPrioryModel", "isMail", "(I)Z"⟩, 36)]
theorem lw_r2 : ∀ q ∈ lw_privs_2, lw_okq q := List.forall_mem_cons.mpr ⟨lw_p16, List.forall_mem_cons.mpr ⟨lw_p17, List.forall_mem_cons.mpr ⟨lw_p18, List.forall_mem_cons.mpr ⟨lw_p19, List.forall_mem_cons.mpr ⟨lw_p20, List.forall_mem_cons.mpr ⟨lw_p21, List.forall_mem_cons.mpr ⟨lw_p22, List.forall_mem_cons.mpr ⟨lw_p23, List.forall_mem_cons.mpr ⟨lw_p24, List.forall_mem_cons.mpr ⟨lw_p25, List.forall_mem_cons.mpr ⟨lw_p26, List.forall_mem_cons.mpr ⟨lw_p27, List.forall_mem_cons.mpr ⟨lw_p28, List.forall_mem_cons.mpr ⟨lw_p29, List.forall_mem_cons.mpr ⟨lw_p30, List.forall_mem_cons.mpr ⟨lw_p31, fun _ h => absurd h List.not_mem_nil⟩⟩⟩⟩⟩⟩⟩⟩⟩⟩⟩⟩⟩⟩⟩⟩
theorem lw_p32 : lw_okq (⟨"MailPrioryModel", "scoreOf", "(III)I"⟩, 36) := ⟨⟨by decide +kernel, by decide +kernel⟩, List.mem_of_getElem? (i := 810) (by decide +kernel), List.mem_of_getElem? (i := 1013) (by decide +kernel), List.mem_of_getElem? (i := 1014) (by decide +kernel)⟩
theorem lw_p33 : lw_okq (⟨"MailPrioryModel", "causeOf", "(III)I"⟩, 36) := ⟨⟨by decide +kernel, by decide +kernel⟩, List.mem_of_getElem? (i := 810) (by decide +kernel), List.mem_of_getElem? (i := 1017) (by decide +kernel), List.mem_of_getElem? (i := 1018) (by decide +kernel)⟩
theorem lw_p34 : lw_okq (⟨"MailPrioryModel", "passes", "(I)V"⟩, 36) := ⟨⟨by decide +kernel, by decide +kernel⟩, List.mem_of_getElem? (i := 810) (by decide +kernel), List.mem_of_getElem? (i := 1021) (by decide +kernel), List.mem_of_getElem? (i := 1022) (by decide +kernel)⟩
theorem lw_p35 : lw_okq (⟨"MailPrioryModel", "comesToBox", "(II)V"⟩, 36) := ⟨⟨by decide +kernel, by decide +kernel⟩, List.mem_of_getElem? (i := 810) (by decide +kernel), List.mem_of_getElem? (i := 1025) (by decide +kernel), List.mem_of_getElem? (i := 1026) (by decide +kernel)⟩
theorem lw_p36 : lw_okq (⟨"MailPrioryModel", "oneMore", "(I)V"⟩, 36) := ⟨⟨by decide +kernel, by decide +kernel⟩, List.mem_of_getElem? (i := 810) (by decide +kernel), List.mem_of_getElem? (i := 1029) (by decide +kernel), List.mem_of_getElem? (i := 1030) (by decide +kernel)⟩
theorem lw_p37 : lw_okq (⟨"MailPrioryModel", "comesToDigest", "(III)V"⟩, 36) := ⟨⟨by decide +kernel, by decide +kernel⟩, List.mem_of_getElem? (i := 810) (by decide +kernel), List.mem_of_getElem? (i := 1033) (by decide +kernel), List.mem_of_getElem? (i := 1034) (by decide +kernel)⟩
theorem lw_p38 : lw_okq (⟨"MailPrioryModel", "held", "(I)I"⟩, 36) := ⟨⟨by decide +kernel, by decide +kernel⟩, List.mem_of_getElem? (i := 810) (by decide +kernel), List.mem_of_getElem? (i := 1041) (by decide +kernel), List.mem_of_getElem? (i := 1042) (by decide +kernel)⟩
theorem lw_p39 : lw_okq (⟨"MailPrioryModel", "canJudge", "(II)Z"⟩, 36) := ⟨⟨by decide +kernel, by decide +kernel⟩, List.mem_of_getElem? (i := 810) (by decide +kernel), List.mem_of_getElem? (i := 1053) (by decide +kernel), List.mem_of_getElem? (i := 1054) (by decide +kernel)⟩
theorem lw_p40 : lw_okq (⟨"MailPrioryModel", "clears", "(I)V"⟩, 36) := ⟨⟨by decide +kernel, by decide +kernel⟩, List.mem_of_getElem? (i := 810) (by decide +kernel), List.mem_of_getElem? (i := 1061) (by decide +kernel), List.mem_of_getElem? (i := 1062) (by decide +kernel)⟩
theorem lw_p41 : lw_okq (⟨"MailPrioryModel", "asks", "(I)Z"⟩, 36) := ⟨⟨by decide +kernel, by decide +kernel⟩, List.mem_of_getElem? (i := 810) (by decide +kernel), List.mem_of_getElem? (i := 1069) (by decide +kernel), List.mem_of_getElem? (i := 1070) (by decide +kernel)⟩
theorem lw_p42 : lw_okq (⟨"MailPrioryModel", "asksPerson", "(I)Z"⟩, 36) := ⟨⟨by decide +kernel, by decide +kernel⟩, List.mem_of_getElem? (i := 810) (by decide +kernel), List.mem_of_getElem? (i := 1105) (by decide +kernel), List.mem_of_getElem? (i := 1106) (by decide +kernel)⟩
theorem lw_p43 : lw_okq (⟨"MailPrioryModel", "digestThrown", "(II)I"⟩, 36) := ⟨⟨by decide +kernel, by decide +kernel⟩, List.mem_of_getElem? (i := 810) (by decide +kernel), List.mem_of_getElem? (i := 1133) (by decide +kernel), List.mem_of_getElem? (i := 1134) (by decide +kernel)⟩
theorem lw_p44 : lw_okq (⟨"MailPrioryModel", "nextDay", "()I"⟩, 36) := ⟨⟨by decide +kernel, by decide +kernel⟩, List.mem_of_getElem? (i := 810) (by decide +kernel), List.mem_of_getElem? (i := 1153) (by decide +kernel), List.mem_of_getElem? (i := 1154) (by decide +kernel)⟩
def lw_privs_3 : List (MethodName × Nat) := [(⟨"MailPrioryModel", "scoreOf", "(III)I"⟩, 36), (⟨"MailPrioryModel", "causeOf", "(III)I"⟩, 36), (⟨"MailPrioryModel", "passes", "(I)V"⟩, 36), (⟨"MailPrioryModel", "comesToBox", "(II)V"⟩, 36), (⟨"MailPrioryModel", "oneMore", "(I)V"⟩, 36), (⟨"MailPrioryModel", "comesToDigest", "(III)V"⟩, 36), (⟨"MailPrioryModel", "held", "(I)I"⟩, 36), (⟨"MailPrioryModel", "canJudge", "(II)Z"⟩, 36), (⟨"MailPrioryModel", "clears", "(I)V"⟩, 36), (⟨"MailPrioryModel", "asks", "(I)Z"⟩, 36), (⟨"MailPrioryModel", "asksPerson", "(I)Z"⟩, 36), (⟨"MailPrioryModel", "digestThrown", "(II)I"⟩, 36), (⟨"MailPrioryModel", "nextDay", "()I"⟩, 36)]
theorem lw_r3 : ∀ q ∈ lw_privs_3, lw_okq q := List.forall_mem_cons.mpr ⟨lw_p32, List.forall_mem_cons.mpr ⟨lw_p33, List.forall_mem_cons.mpr ⟨lw_p34, List.forall_mem_cons.mpr ⟨lw_p35, List.forall_mem_cons.mpr ⟨lw_p36, List.forall_mem_cons.mpr ⟨lw_p37, List.forall_mem_cons.mpr ⟨lw_p38, List.forall_mem_cons.mpr ⟨lw_p39, List.forall_mem_cons.mpr ⟨lw_p40, List.forall_mem_cons.mpr ⟨lw_p41, List.forall_mem_cons.mpr ⟨lw_p42, List.forall_mem_cons.mpr ⟨lw_p43, List.forall_mem_cons.mpr ⟨lw_p44, fun _ h => absurd h List.not_mem_nil⟩⟩⟩⟩⟩⟩⟩⟩⟩⟩⟩⟩⟩
def lw_privs : List (MethodName × Nat) := lw_privs_1 ++ (lw_privs_2 ++ (lw_privs_3))
def lw_tbl : List Cond := k2_sels lw_privs ++ tables_1
theorem lw_privs_ok : ∀ q ∈ lw_privs, lw_okq q := by
  show ∀ q ∈ lw_privs_1 ++ (lw_privs_2 ++ (lw_privs_3)), lw_okq q
  exact List.forall_mem_append.mpr ⟨lw_r1, List.forall_mem_append.mpr ⟨lw_r2, lw_r3⟩⟩
end
section
/-! ===== BEGIN words of one list among another's, by their places ===== -/
theorem goodIn_r {big : List Cond} (ws : List Cond) (ps : List Nat) (hp : ws = ps.filterMap (fun i => big[i]?)) (h : ws.all goodWord = true) : GoodIn big ws := by
  intro w hw
  have h1 := List.all_eq_true.mp h w hw
  rw [hp] at hw
  obtain ⟨i, -, hi⟩ := List.mem_filterMap.mp hw
  have hm : w ∈ big := by first | exact List.mem_of_getElem? hi | exact List.getElem?_mem hi
  exact ⟨hm, good_of_word h1⟩
theorem goodIn_app {big a b : List Cond} (ha : GoodIn big a) (hb : GoodIn big b) : GoodIn big (a ++ b) := fun w h => (List.mem_append.mp h).elim (ha w) (hb w)
theorem goodIn_ca {big a b : List Cond} {c : Cond} (ha : GoodIn big (c :: a)) (hb : GoodIn big b) : GoodIn big (c :: (a ++ b)) := fun w h => (List.mem_cons.mp h).elim (fun e => ha w (List.mem_cons.mpr (Or.inl e))) (fun h => (List.mem_append.mp h).elim (fun h => ha w (List.mem_cons.mpr (Or.inr h))) (hb w))
theorem goodIn_sub {big ws : List Cond} (hm : ∀ w ∈ ws, w ∈ big) (h : ws.all goodWord = true) : GoodIn big ws := fun w hw => ⟨hm w hw, good_of_word (List.all_eq_true.mp h w hw)⟩
/-! ===== END ===== -/

/-! ===== BEGIN exceptions that leave a method, and their catching by the caller (launches without stack traces) ===== -/
section VXA
/-! The laws vx_back, vx_callV, vx_callS, vx_callSW, vx_throw0, vx_throwS follow proofs of the library, with one case more: JvmDerived/Free/Laws.lean (Back.of_free), Shelf42/LK1.lean (callV, callS), Shelf/KitTraced.lean (throwNew0V, throwNewS). -/
/-- where a method has thrown q: the class by its name, the cell, what was written, the world -/
def vx_T (XC : String → State → State → Prop) (st : State) (q : Addr) (t : State) (mc ms : Nat) (free : Addr → Prop) : Prop :=
  ∃ (E : String) (ce : Cell) (L : List Loc), XC E st t ∧ t.heap[q]? = some ce ∧ ce.vm = .none ∧ st.vm.findClass E = some ce.cls ∧ st.WarmedH t.vm ∧ st.sameButNew ({ t with vm := st.vm } : State) L mc ms ∧ ∀ z ∈ L, free z.base
def vx_Q (Qc : Array Value → State → Outcome → State → Prop) (XC : String → State → State → Prop) (mc ms : Nat) (free : Addr → Prop) : Array Value → State → Outcome → State → Prop := fun a st o t =>
  (Qc a st o t ∧ ∃ L, FrameEnd st o t L mc ms ∧ ∀ q ∈ L, free q.base) ∨ ∃ q, o = .threw q ∧ vx_T XC st q t mc ms free
/-- a callee that returns or throws -/
def vx_Met (l : Launch) (y : MethodName) (ws : List Cond) (rm : Room) (Pc : Array Value → State → Prop) (Qc : Array Value → State → Outcome → State → Prop) (XC : String → State → State → Prop) (mc ms : Nat) (free : Addr → Prop) : Prop :=
  MetFree l y (headSpec ws rm) Pc (fun _ _ _ _ _ => True) (vx_Q Qc XC mc ms free)
def vx_Post (XC : String → State → State → Prop) (mc ms : Nat) (free : Addr → Prop) : Pt → Array Value → Addr → Pt → Prop := fun A a q B =>
  ∃ (g : JFrame) (mk : MethodId) (t : State) (L : List Loc) (E : String) (ce : Cell), B.U.heap = t.heap ∧ B.U.vm = t.vm ∧ XC E (A.U.calling g mk a) t ∧ t.heap[q]? = some ce ∧ ce.vm = .none ∧ A.U.vm.findClass E = some ce.cls ∧ B.locs = A.locs ++ L ∧ (∀ z ∈ L, free z.base) ∧ B.cells = A.cells + mc ∧ B.slots = A.slots + ms
def vx_Back (l : Launch) (R : Room) (p : Program) (e : Env) (below : List Frame) (s : State) (sargs : Array Value) (y : MethodName) (len W9 : Nat)
    (Pre : Pt → Array Value → Prop) (Post : Pt → Array Value → Option Value → Pt → Prop) (PostX : Pt → Array Value → Addr → Pt → Prop) : Prop :=
  ∀ (m : MethodId) (meth : Method) (c : Code) (A : Pt) (g : JFrame) (ig : Instr) (mk : MethodId) (a : Array Value),
    Stand p l e R s m sargs below meth c A.U A.locs A.cells A.slots → g.method = m → g.locals.size = c.maxLocals → decode c.code g.pc = .ok (ig, len) →
    2 * g.monitorRoom + (g.stack.map fun v => v.category).sum ≤ W9 → A.U.methodNamed? y = some mk → Pre A a →
    (∃ (v : Option Value) (B : Pt), Stand p l e R s m sargs below meth c B.U B.locs B.cells B.slots ∧ Post A a v B ∧
      Steps p.tables e below (doInvoke e (A.U.setTop g) [] mk a).1 (B.U.setTop { g with pc := g.pc + len, stack := v.toList ++ g.stack })) ∨
    (∃ (q : Addr) (B : Pt), Stand p l e R s m sargs below meth c B.U B.locs B.cells B.slots ∧ PostX A a q B ∧
      Steps p.tables e below (doInvoke e (A.U.setTop g) [] mk a).1 ((B.U.setTop g).pushFrame (.throwing q)))
section Payer
variable {l : Launch} {R : Room} {p : Program} {e : Env} {below : List Frame} {s : State} {sargs : Array Value} {y : MethodName} {len W9 : Nat}
theorem vx_back {ws : List Cond} {rm : Room} {Pc : Array Value → State → Prop} {Qc : Array Value → State → Outcome → State → Prop} {XC : String → State → State → Prop} {mc ms : Nat} {free : Addr → Prop} {bytes : ByteArray} {maxL : Nat} {ret : Option FieldType}
    (hM : vx_Met l y ws rm Pc Qc XC mc ms free) (hblind : FrameBlind Pc) (hrc : rm.cells = mc) (hrs : rm.slots = ms)
    (hframes : rm.frames + 1 ≤ R.frames) (hlocals : W9 + (maxL + 11) + rm.locals ≤ R.locals)
    (hws : ∀ w ∈ ws, ∀ a' U, s.WarmedH U.vm → w.before a' U = true) (hcode : Cond.code y bytes maxL ret ∈ ws) (hinit : ∀ a' U, s.WarmedH U.vm → (Cond.initialized y.cls).before a' U = true) :
    vx_Back l R p e below s sargs y len W9 (PreOf R mc ms Pc) (PostOf Qc mc ms free) (vx_Post XC mc ms free) := by
  intro m meth c A g ig mk a X hg hsize hdg hW hn hp
  have h1 : (headSpec ws rm).pre.before a A.U = true := atoms_intro fun w hw => hws w hw _ _ X.warmed
  have h2 : (Cond.code y bytes maxL ret).before a A.U = true := hws _ hcode _ _ X.warmed
  have h3 : (Cond.initialized y.cls).before a A.U = true := hinit _ _ X.warmed
  have h4 : A.cells + (headSpec ws rm).room.cells ≤ R.cells := by rw [show (headSpec ws rm).room.cells = mc from hrc]; exact hp.1
  have h5 : A.slots + (headSpec ws rm).room.slots ≤ R.slots := by rw [show (headSpec ws rm).room.slots = ms from hrs]; exact hp.2.1
  have hPc : Pc a (A.U.calling g mk a) := hblind _ _ _ _ hp.2.2
  obtain ⟨U, Ls, c0, s0⟩ := A
  dsimp only [Pt.U, Pt.locs, Pt.cells, Pt.slots] at h1 h2 h3 h4 h5 X hn hPc ⊢
  obtain ⟨methY, cY, hmY, hcY, -, hlY, -, -, -, -⟩ := Cond.code_spec hn h2
  obtain ⟨kY, hkY, -⟩ := className_of_methodNamed hn
  have hinitY : kY.init = .initialized := Cond.initialized_spec (findClass_of_methodNamed hn) hkY h3
  have h : At U g.method c below := by rw [hg]; exact X.here
  have hlocals9 : W9 + (maxL + 11) + (headSpec ws rm).room.locals ≤ R.locals := hlocals
  have happ : (headSpec ws rm).appliesLoose y e.platform (U.calling g mk a) = true :=
    Spec.appliesLoose_calling (g := g) h hdg hn hkY hinitY
      (X.room_calling (g := g) (R' := (headSpec ws rm).room) hsize hmY hcY hframes (by rw [hlY]; omega) h4 h5) h1
  obtain ⟨mid, hmid⟩ := h.above
  have hfr : (U.setTop g).frames = (.java g :: mid) ++ below := by rw [State.frames_setTop' g h.top, hmid]; rfl
  obtain ⟨o, s₂, hsteps, -, hend, hq⟩ := Steps.callFree hM p X.admits X.cas X.clock (acts := []) hfr happ hPc trivial
  have hq' : vx_Q Qc XC mc ms free a (U.calling g mk a) o s₂ := hq
  rw [State.frames_setTop' g h.top] at hend
  obtain ⟨g₀, hg0⟩ := Option.isSome_iff_exists.mp h.top
  obtain ⟨r, hr⟩ := State.topJava?_eq_some.mp hg0
  have hr' : (({ U with heap := s₂.heap, slotsUsed := s₂.slotsUsed } : State).setVm s₂.vm).frames = .java g₀ :: r := hr
  rcases hq' with ⟨hqc, L, hfe, hL⟩ | ⟨q, rfl, E, ce, L, hx, hce, hcv, hcl, hW₂, hsm, hL⟩
  · obtain ⟨⟨v, rfl⟩, hW₂, e2, q2, q3, q4, q5, q6⟩ := id hfe
    have e3 : s₂ = ({ (U.calling g mk a).setFrames s₂.frames with heap := s₂.heap, slotsUsed := s₂.slotsUsed } : State).setVm s₂.vm := by
      have : s₂ = ({ s₂ with vm := (U.calling g mk a).vm } : State).setVm s₂.vm := rfl
      rw [e2] at this
      exact this
    obtain ⟨c₂, i₂, len₂, hc₂, hd₂, hf₂⟩ := hend
    have hW' : U.WarmedH s₂.vm := hW₂
    have hcc : c₂ = c := by
      have h1 : s₂.code? g.method = U.code? g.method := by
        rw [State.code?_eq, State.code?_eq, hW'.alike.method?]
      exact Option.some.inj (hc₂.symm.trans (h1.trans h.code))
    subst hcc
    have hlen : len₂ = len := by rw [hdg] at hd₂; cases hd₂; rfl
    subst hlen
    have hs₂ : s₂ = (({ U with heap := s₂.heap, slotsUsed := s₂.slotsUsed } : State).setVm s₂.vm).setTop { g with pc := g.pc + len₂, stack := v.toList ++ g.stack } := by
      refine e3.trans ?_
      rw [hf₂, State.calling_eq h.top, State.setFrames_setFrames, State.setTop_of_frames _ hr', hr]
      rfl
    have hsame : U.sameButNew ({ U with heap := s₂.heap, slotsUsed := s₂.slotsUsed } : State) L mc ms := by
      refine ⟨?_, q2, q3, q4, q5, q6⟩
      obtain ⟨t, ht, -⟩ := State.frames_cons hr
      show ({ U with heap := s₂.heap, slotsUsed := s₂.slotsUsed } : State) = { U.setFrames U.frames with heap := s₂.heap, slotsUsed := s₂.slotsUsed }
      rw [State.setFrames_self ht]
    subst hg
    refine Or.inl ⟨v, ⟨(({ U with heap := s₂.heap, slotsUsed := s₂.slotsUsed } : State).setVm s₂.vm), Ls ++ L, c0 + mc, s0 + ms⟩,
      ⟨X.admits, X.cas, X.clock, X.frames, X.room, X.hears, X.method, X.code, (X.here.setHeapUsed s₂.heap s₂.slotsUsed).setVm hW'.alike, X.tail, State.WarmedH.trans X.warmed hW', X.limits, X.bytes, X.same.trans (hsame.setVm s.vm)⟩,
      ⟨g, mk, s₂, L, rfl, rfl, hqc, rfl, hL, rfl, rfl⟩, ?_⟩
    show Steps p.tables e below _ ((({ U with heap := s₂.heap, slotsUsed := s₂.slotsUsed } : State).setVm s₂.vm).setTop { g with pc := g.pc + len₂, stack := v.toList ++ g.stack })
    rw [← hs₂]
    exact hsteps
  · obtain ⟨e2, q2, q3, q4, q5, q6⟩ := id hsm
    have e3 : s₂ = ({ (U.calling g mk a).setFrames s₂.frames with heap := s₂.heap, slotsUsed := s₂.slotsUsed } : State).setVm s₂.vm := by
      have : s₂ = ({ s₂ with vm := (U.calling g mk a).vm } : State).setVm s₂.vm := rfl
      rw [e2] at this
      exact this
    have hf₂ : s₂.frames = .throwing q :: .java g :: U.frames.tail := hend
    have hW' : U.WarmedH s₂.vm := hW₂
    have hs₂ : s₂ = ((({ U with heap := s₂.heap, slotsUsed := s₂.slotsUsed } : State).setVm s₂.vm).setTop g).pushFrame (.throwing q) := by
      refine e3.trans ?_
      rw [hf₂, State.calling_eq h.top, State.setFrames_setFrames, State.pushFrame, State.frames_setTop _ hr', State.setTop_of_frames _ hr', State.setFrames_setFrames, hr]
      rfl
    have hsame : U.sameButNew ({ U with heap := s₂.heap, slotsUsed := s₂.slotsUsed } : State) L mc ms := by
      refine ⟨?_, q2, q3, q4, q5, q6⟩
      obtain ⟨t, ht, -⟩ := State.frames_cons hr
      show ({ U with heap := s₂.heap, slotsUsed := s₂.slotsUsed } : State) = { U.setFrames U.frames with heap := s₂.heap, slotsUsed := s₂.slotsUsed }
      rw [State.setFrames_self ht]
    subst hg
    refine Or.inr ⟨q, ⟨(({ U with heap := s₂.heap, slotsUsed := s₂.slotsUsed } : State).setVm s₂.vm), Ls ++ L, c0 + mc, s0 + ms⟩,
      ⟨X.admits, X.cas, X.clock, X.frames, X.room, X.hears, X.method, X.code, (X.here.setHeapUsed s₂.heap s₂.slotsUsed).setVm hW'.alike, X.tail, State.WarmedH.trans X.warmed hW', X.limits, X.bytes, X.same.trans (hsame.setVm s.vm)⟩,
      ⟨g, mk, s₂, L, E, ce, rfl, rfl, hx, hce, hcv, hcl, rfl, hL, rfl, rfl⟩, ?_⟩
    show Steps p.tables e below _ (((({ U with heap := s₂.heap, slotsUsed := s₂.slotsUsed } : State).setVm s₂.vm).setTop g).pushFrame (.throwing q))
    rw [← hs₂]
    exact hsteps
end Payer
section Calls
variable {p : Program} {l : Launch} {e : Env} {R : Room} {s : State} {m : MethodId} {args : Array Value} {below : List Frame} {meth : Method} {c : Code} {T : State} {locs : List Loc} {cells slots : Nat}
theorem vx_callV (X : Stand p l e R s m args below meth c T locs cells slots) (hexec : p.tables.exec = Jvm.exec) {own C : String} {index : Nat} {y : MethodName} {bytes : ByteArray} {maxL : Nat} {ret : Option FieldType}
    (hown : s.vm.findClass own = some m.cls) (hlink : (Cond.methodLink own index y).before args s = true) (hinst : (Cond.instanceMethod y).before args s = true) (hsel : (Cond.selects C y y).before args s = true)
    (hcode : (Cond.code y bytes maxL ret).before args s = true) (hy : y.cls ≠ "java/lang/invoke/MethodHandle" ∧ y.cls ≠ "java/lang/invoke/VarHandle")
    {W9 : Nat} {Pre : Pt → Array Value → Prop} {Post : Pt → Array Value → Option Value → Pt → Prop} {PostX : Pt → Array Value → Addr → Pt → Prop} (hK : vx_Back l R p e below s args y 3 W9 Pre Post PostX)
    {b : Addr} {cellB : Cell} (hcell : T.heap[b]? = some cellB) (hobj : cellB.vm.isStatics = false) (hcls : s.vm.findClass C = some cellB.cls)
    {g : JFrame} (hg : g.method = m) (hsize : g.locals.size = c.maxLocals) {argsL rest : List Value} (hlen : ∀ sig, parseMethodDescriptor y.desc = some sig → argsL.length = sig.parameters.length)
    (hstack : g.stack = argsL.reverse ++ .ref b :: rest) (hW : 2 * g.monitorRoom + (rest.map fun v => v.category).sum ≤ W9) (hdg : decode c.code g.pc = .ok (.invokevirtual index, 3))
    (hpre : ∀ vm₁, s.WarmedH vm₁ → Pre ⟨T.setVm vm₁, locs, cells, slots⟩ (Value.ref b :: argsL).toArray) :
    (∃ (v : Option Value) (vm₁ : Vm) (B : Pt), s.WarmedH vm₁ ∧ Stand p l e R s m args below meth c B.U B.locs B.cells B.slots ∧ Post ⟨T.setVm vm₁, locs, cells, slots⟩ (Value.ref b :: argsL).toArray v B ∧
      ∀ target, Steps p.tables e below (B.U.setTop { g with pc := g.pc + 3, stack := v.toList ++ rest }) target → Steps p.tables e below (T.setTop g) target) ∨
    (∃ (q : Addr) (vm₁ : Vm) (B : Pt), s.WarmedH vm₁ ∧ Stand p l e R s m args below meth c B.U B.locs B.cells B.slots ∧ PostX ⟨T.setVm vm₁, locs, cells, slots⟩ (Value.ref b :: argsL).toArray q B ∧
      Steps p.tables e below (T.setTop g) ((B.U.setTop { g with stack := rest }).pushFrame (.throwing q))) := by
  obtain ⟨mk, methM, hnamed, hmethM, hstM, habM⟩ := Cond.instanceMethod_spec hinst
  obtain ⟨methM', cM, hmethM', -, -, -, -, -, -, hsigM⟩ := Cond.code_spec hnamed hcode
  cases hmethM.symm.trans hmethM'
  obtain ⟨c2, r2, m2, q1, q2, q3, q4, kP, hkP, hkPi⟩ := Cond.selects_spec hsel
  cases hcls.symm.trans q1
  cases (State.methodFound?_of_named hnamed hy).symm.trans q2
  cases hnamed.symm.trans q3
  have hselP : selectMethod e.platform s.vm cellB.cls mk = .method mk := by rw [Launch.admits_selectMethod X.admits]; exact q4
  obtain ⟨vm₁, X₁, hstep₁⟩ := X.invokevirtual hexec hown hlink hnamed hmethM hstM hkP hkPi hy (a := b) (cell := cellB) hcell
    (fun z h => by rw [h] at hobj; cases hobj) hselP hmethM habM hkP hkPi (g := g) hg (argsL := argsL) (rest := rest) (hlen _ hsigM) hstack hdg
  rcases hK m meth c ⟨T.setVm vm₁, locs, cells, slots⟩ { g with stack := rest } (.invokevirtual index) mk (Value.ref b :: argsL).toArray X₁ hg hsize hdg hW (X₁.named hnamed) (hpre vm₁ X₁.warmed) with ⟨v, B, X', hpost, hsteps⟩ | ⟨q, B, X', hpost, hsteps⟩
  · exact Or.inl ⟨v, vm₁, B, X₁.warmed, X', hpost, fun target h => hstep₁ _ fun acts => by rw [doInvoke_state]; exact hsteps.trans h⟩
  · exact Or.inr ⟨q, vm₁, B, X₁.warmed, X', hpost, hstep₁ _ fun acts => by rw [doInvoke_state]; exact hsteps⟩
theorem vx_callS (X : Stand p l e R s m args below meth c T locs cells slots) (hexec : p.tables.exec = Jvm.exec) {own : String} {index : Nat} {y : MethodName} {bytes : ByteArray} {maxL : Nat} {ret : Option FieldType}
    (hown : s.vm.findClass own = some m.cls) (hlink : (Cond.methodLink own index y).before args s = true) (hstat : (Cond.static y).before args s = true) (hinit : (Cond.initialized y.cls).before args s = true)
    (hcode : (Cond.code y bytes maxL ret).before args s = true) (hy : y.cls ≠ "java/lang/invoke/MethodHandle" ∧ y.cls ≠ "java/lang/invoke/VarHandle")
    {W9 : Nat} {Pre : Pt → Array Value → Prop} {Post : Pt → Array Value → Option Value → Pt → Prop} {PostX : Pt → Array Value → Addr → Pt → Prop} (hK : vx_Back l R p e below s args y 3 W9 Pre Post PostX)
    {g : JFrame} (hg : g.method = m) (hsize : g.locals.size = c.maxLocals) {argsL rest : List Value} (hlen : ∀ sig, parseMethodDescriptor y.desc = some sig → argsL.length = sig.parameters.length)
    (hstack : g.stack = argsL.reverse ++ rest) (hW : 2 * g.monitorRoom + (rest.map fun v => v.category).sum ≤ W9) (hdg : decode c.code g.pc = .ok (.invokestatic index, 3))
    (hpre : ∀ vm₁, s.WarmedH vm₁ → Pre ⟨T.setVm vm₁, locs, cells, slots⟩ argsL.toArray) :
    (∃ (v : Option Value) (vm₁ : Vm) (B : Pt), s.WarmedH vm₁ ∧ Stand p l e R s m args below meth c B.U B.locs B.cells B.slots ∧ Post ⟨T.setVm vm₁, locs, cells, slots⟩ argsL.toArray v B ∧
      ∀ target, Steps p.tables e below (B.U.setTop { g with pc := g.pc + 3, stack := v.toList ++ rest }) target → Steps p.tables e below (T.setTop g) target) ∨
    (∃ (q : Addr) (vm₁ : Vm) (B : Pt), s.WarmedH vm₁ ∧ Stand p l e R s m args below meth c B.U B.locs B.cells B.slots ∧ PostX ⟨T.setVm vm₁, locs, cells, slots⟩ argsL.toArray q B ∧
      Steps p.tables e below (T.setTop g) ((B.U.setTop { g with stack := rest }).pushFrame (.throwing q))) := by
  obtain ⟨mk, hnamed⟩ := Cond.code_named hcode
  obtain ⟨methM, cM, hmethM, -, -, -, -, -, -, hsigM⟩ := Cond.code_spec hnamed hcode
  have hstatic : methM.isStatic = true := Cond.static_spec hnamed hmethM hstat
  obtain ⟨kP, hkP, -⟩ := className_of_methodNamed hnamed
  have hinitP : kP.init = .initialized := Cond.initialized_spec (findClass_of_methodNamed hnamed) hkP hinit
  obtain ⟨vm₁, X₁, hstep₁⟩ := X.invokestatic hexec hown hlink hnamed hmethM hstatic hkP hinitP hy (g := g) hg (argsL := argsL) (rest := rest) (hlen _ hsigM) hstack hdg
  rcases hK m meth c ⟨T.setVm vm₁, locs, cells, slots⟩ { g with stack := rest } (.invokestatic index) mk argsL.toArray X₁ hg hsize hdg hW (X₁.named hnamed) (hpre vm₁ X₁.warmed) with ⟨v, B, X', hpost, hsteps⟩ | ⟨q, B, X', hpost, hsteps⟩
  · exact Or.inl ⟨v, vm₁, B, X₁.warmed, X', hpost, fun target h => hstep₁ _ fun acts => by rw [doInvoke_state]; exact hsteps.trans h⟩
  · exact Or.inr ⟨q, vm₁, B, X₁.warmed, X', hpost, hstep₁ _ fun acts => by rw [doInvoke_state]; exact hsteps⟩
end Calls
theorem vx_cls {s : State} {T : State} {vm₁ : Vm} {E : String} {k : ClassId} (hW : s.WarmedH vm₁) (h : (T.setVm vm₁).vm.findClass E = some k) : s.vm.findClass E = some k := by
  have h1 : vm₁.findClass E = some k := h
  rw [hW.alike.findClass] at h1
  exact h1
/-- the method's frame g, with q thrown over it -/
def vx_W (p : Program) (l : Launch) (e : Env) (R : Room) (s : State) (m : MethodId) (args : Array Value) (below : List Frame) (meth : Method) (c : Code) (H : Heap) (locs : List Loc) (cells slots : Nat) (Q : State → Prop) (g : JFrame) (q : Addr) : Prop :=
  ∀ T : State, T.heap = H → Stand p l e R s m args below meth c T locs cells slots → ∃ t, Steps p.tables e below ((T.setTop g).pushFrame (.throwing q)) t ∧ Q t
def vx_Run (p : Program) (l : Launch) (e : Env) (R : Room) (s : State) (m : MethodId) (args : Array Value) (below : List Frame) (meth : Method) (c : Code) (H : Heap) (locs : List Loc) (cells slots mc ms : Nat) (g : JFrame) (rest : List Value) (Qa : State → Outcome → State → Prop) (XC : String → State → State → Prop) (free : Addr → Prop) : Prop :=
  ∀ T : State, T.heap = H → Stand p l e R s m args below meth c T locs cells slots →
    (∃ (v : Option Value) (st₀ t T' : State) (L : List Loc), st₀.heap = H ∧ Stand p l e R s m args below meth c T' (locs ++ L) (cells + mc) (slots + ms) ∧ (∀ q ∈ L, free q.base) ∧ T'.heap = t.heap ∧ T'.vm = t.vm ∧ Qa st₀ (.returned v) t ∧
      Goes p e below T g T' { g with pc := g.pc + 3, stack := v.toList ++ rest }) ∨
    (∃ (q : Addr) (st₀ t T' : State) (L : List Loc) (E : String) (ce : Cell), st₀.heap = H ∧ Stand p l e R s m args below meth c T' (locs ++ L) (cells + mc) (slots + ms) ∧ (∀ z ∈ L, free z.base) ∧ T'.heap = t.heap ∧ T'.vm = t.vm ∧ XC E st₀ t ∧ t.heap[q]? = some ce ∧ ce.vm = .none ∧ s.vm.findClass E = some ce.cls ∧
      Steps p.tables e below (T.setTop g) ((T'.setTop { g with stack := rest }).pushFrame (.throwing q)))
def vx_X {S : Type} (px : S → Prop) (B : String → S → State → Prop) (A : Nat → Prop) : String → State → State → Prop := fun E st t => ∃ u : S, px u ∧ B E u t ∧ va_F A st t
section Runs
variable {p : Program} {l : Launch} {e : Env} {R : Room} {s : State} {m : MethodId} {args : Array Value} {below : List Frame} {meth : Method} {c : Code} {H : Heap} {locs : List Loc} {cells slots : Nat}
variable {y : MethodName} {bytes cc : ByteArray} {maxL nL mc ms n index : Nat} {ret : Option FieldType} {ws : List Cond} {rm : Room} {Pc : Array Value → State → Prop} {Qc : Array Value → State → Outcome → State → Prop} {XC : String → State → State → Prop} {free : Addr → Prop} {Ts : List Cond} {own C : String} {b : Addr} {As rest : List Value} {g : JFrame}
theorem vx_callBack (cb : CallB R s args own index y bytes maxL ret ws rm mc ms n) (hM : vx_Met l y ws rm Pc Qc XC mc ms free) (hbl : FrameBlind Pc) : vx_Back l R p e below s args y 3 8 (PreOf R mc ms Pc) (PostOf Qc mc ms free) (vx_Post XC mc ms free) := by
  obtain ⟨hrc, hrs, hfr, hlo, hws, hcw, -, hini, -⟩ := cb
  exact vx_back (bytes := bytes) (maxL := maxL) (ret := ret) hM hbl hrc hrs hfr hlo hws hcw (fun a' U hW => word_at hW (Or.inl (by first | rfl | simp [Cond.onTables, Cond.keeps, Cond.steady])) hini)
theorem vx_runV (S : CallFix p m c cc nL s args Ts own) (hM : vx_Met l y ws rm Pc Qc XC mc ms free) (cw : CallW R s args own C index y bytes maxL ret ws rm mc ms n) (hp : PreV s H C b Pc As)
    (hg : g.method = m) (hn : As.length = n) (hsize : g.locals.size = nL) (hstack : g.stack = As.reverse ++ .ref b :: rest) (hW : 2 * g.monitorRoom + (rest.map fun v => v.category).sum ≤ 8) (hdg : decode cc g.pc = .ok (.invokevirtual index, 3)) (hf : cells + mc ≤ R.cells ∧ slots + ms ≤ R.slots) :
    vx_Run p l e R s m args below meth c H locs cells slots mc ms g rest (Qc (Value.ref b :: As).toArray) XC free := by
  have hK : vx_Back l R p e below s args y 3 8 (PreOf R mc ms Pc) (PostOf Qc mc ms free) (vx_Post XC mc ms free) := vx_callBack cw.1 hM hp.1
  obtain ⟨⟨-, -, -, -, -, -, hcode, -, hy, hlen, hl⟩, hin, hse⟩ := cw
  obtain ⟨hx, hb, hml, ho, -⟩ := S
  obtain ⟨-, ⟨cellB, hcB, hoB, hclB⟩, hPc⟩ := hp
  intro T hT X
  rcases vx_callV X hx (C := C) (bytes := bytes) (maxL := maxL) (ret := ret) ho hl hin hse hcode hy hK (by rw [hT]; exact hcB) hoB hclB hg (hsize.trans hml.symm) (argsL := As) (rest := rest) (fun sig h => hn.trans (hlen sig h)) hstack hW (by rw [hb]; exact hdg)
    (fun vm₁ hW₁ => ⟨hf.1, hf.2, hPc (T.setVm vm₁) hT hW₁⟩) with ⟨v, vm₁, ⟨U', l2, c2, s2⟩, hW₁, X', ⟨g', mk, t, L, e1, e2, hq, h1, hL, h2, h3⟩, st⟩ | ⟨q, vm₁, ⟨U', l2, c2, s2⟩, hW₁, X', ⟨g', mk, t, L, E, ce, e1, e2, hq, hce, hcv, hcl, h1, hL, h2, h3⟩, st⟩
  · dsimp only [Pt.U, Pt.locs, Pt.cells, Pt.slots] at X' e1 e2 h1 h2 h3 st
    subst h1; subst h2; subst h3
    exact Or.inl ⟨v, (T.setVm vm₁).calling g' mk (Value.ref b :: As).toArray, t, U', L, hT, X', hL, e1, e2, hq, st⟩
  · dsimp only [Pt.U, Pt.locs, Pt.cells, Pt.slots] at X' e1 e2 h1 h2 h3 st hcl
    subst h1; subst h2; subst h3
    exact Or.inr ⟨q, (T.setVm vm₁).calling g' mk (Value.ref b :: As).toArray, t, U', L, E, ce, hT, X', hL, e1, e2, hq, hce, hcv, vx_cls hW₁ hcl, st⟩
theorem vx_runS (S : CallFix p m c cc nL s args Ts own) (hM : vx_Met l y ws rm Pc Qc XC mc ms free) (cw : CallB R s args own index y bytes maxL ret ws rm mc ms n ∧ (Cond.static y).before args s = true) (hp : PreS s H Pc As)
    (hg : g.method = m) (hn : As.length = n) (hsize : g.locals.size = nL) (hstack : g.stack = As.reverse ++ rest) (hW : 2 * g.monitorRoom + (rest.map fun v => v.category).sum ≤ 8) (hdg : decode cc g.pc = .ok (.invokestatic index, 3)) (hf : cells + mc ≤ R.cells ∧ slots + ms ≤ R.slots) :
    vx_Run p l e R s m args below meth c H locs cells slots mc ms g rest (Qc As.toArray) XC free := by
  have hK : vx_Back l R p e below s args y 3 8 (PreOf R mc ms Pc) (PostOf Qc mc ms free) (vx_Post XC mc ms free) := vx_callBack cw.1 hM hp.1
  obtain ⟨⟨-, -, -, -, -, -, hcode, hini, hy, hlen, hl⟩, hstt⟩ := cw
  obtain ⟨hx, hb, hml, ho, -⟩ := S
  intro T hT X
  rcases vx_callS X hx (bytes := bytes) (maxL := maxL) (ret := ret) ho hl hstt hini hcode hy hK hg (hsize.trans hml.symm) (argsL := As) (rest := rest) (fun sig h => hn.trans (hlen sig h)) hstack hW (by rw [hb]; exact hdg)
    (fun vm₁ hW₁ => ⟨hf.1, hf.2, hp.2 (T.setVm vm₁) hT hW₁⟩) with ⟨v, vm₁, ⟨U', l2, c2, s2⟩, hW₁, X', ⟨g', mk, t, L, e1, e2, hq, h1, hL, h2, h3⟩, st⟩ | ⟨q, vm₁, ⟨U', l2, c2, s2⟩, hW₁, X', ⟨g', mk, t, L, E, ce, e1, e2, hq, hce, hcv, hcl, h1, hL, h2, h3⟩, st⟩
  · dsimp only [Pt.U, Pt.locs, Pt.cells, Pt.slots] at X' e1 e2 h1 h2 h3 st
    subst h1; subst h2; subst h3
    exact Or.inl ⟨v, (T.setVm vm₁).calling g' mk As.toArray, t, U', L, hT, X', hL, e1, e2, hq, st⟩
  · dsimp only [Pt.U, Pt.locs, Pt.cells, Pt.slots] at X' e1 e2 h1 h2 h3 st hcl
    subst h1; subst h2; subst h3
    exact Or.inr ⟨q, (T.setVm vm₁).calling g' mk As.toArray, t, U', L, E, ce, hT, X', hL, e1, e2, hq, hce, hcv, vx_cls hW₁ hcl, st⟩
end Runs
section Rows
variable {p : Program} {l : Launch} {e : Env} {R : Room} {s : State} {m : MethodId} {args : Array Value} {below : List Frame} {meth : Method} {c : Code} {H : Heap} {locs : List Loc} {cells slots : Nat} {Q : State → Prop}
variable {mc ms : Nat} {free : Addr → Prop} {A0 A1 : Nat → Prop} {H0 : Heap} {a : Array Value} {pc : Nat} {ls : Array Slot} {st0 rest : List Value}
theorem vx_keep {st₀ t T' : State} {L : List Loc} (h0 : st₀.heap = H) (e1 : T'.heap = t.heap) (hS : va_S A0 H0 H locs) (hA : ∀ q, q < H.size → A1 q → A0 q) (hf : ∀ q, free q → A0 q) (hL : ∀ q ∈ L, free q.base) (hF : va_F A1 st₀ t) :
    H.size ≤ T'.heap.size ∧ (∀ q : Nat, q < H.size → ¬ A1 q → T'.heap[q]? = H[q]?) ∧ va_S A0 H0 T'.heap (locs ++ L) := by
  obtain ⟨hz, hk⟩ := hF
  rw [h0] at hz hk
  exact ⟨by rw [e1]; exact hz, fun q h1 h2 => by rw [e1]; exact hk q h1 h2,
    ⟨Nat.le_trans hS.1 (by rw [e1]; exact hz), fun q h1 h2 => by rw [e1, hk q (Nat.lt_of_lt_of_le h1 hS.1) (fun z => h2 (hA q (Nat.lt_of_lt_of_le h1 hS.1) z))]; exact hS.2.1 q h1 h2, fun q hq => by
      rcases List.mem_append.mp hq with h | h
      · exact hS.2.2 q h
      · exact hf _ (hL q h)⟩⟩
theorem vx_calli {S SX : Type} {post : Int32 → S → Prop} {px : SX → Prop} {B : S → State → Prop} {BX : String → SX → State → Prop} {AX : Nat → Prop} (hr : vx_Run p l e R s m args below meth c H locs cells slots mc ms (F0 m pc ls st0) rest (va_Qi post B A1 a) (vx_X px BX AX) free) (hS : va_S A0 H0 H locs) (hA : ∀ q, q < H.size → A1 q → A0 q) (hf : ∀ q, free q → A0 q) (hAX : ∀ q, q < H.size → AX q → A0 q)
    (kx : ∀ (E : String) (ce : Cell) (q9 : Addr) (u : SX) (t : State) (H1 : Heap) (locs1 : List Loc), t.heap = H1 → s.vm.Alike t.vm → px u → BX E u t → H.size ≤ H1.size → (∀ q : Nat, q < H.size → ¬ AX q → H1[q]? = H[q]?) → va_S A0 H0 H1 locs1 → H1[q9]? = some ce → ce.vm = .none → s.vm.findClass E = some ce.cls → vx_W p l e R s m args below meth c H1 locs1 (cells + mc) (slots + ms) Q (F0 m pc ls rest) q9)
    (kk : ∀ (r : Int32) (u : S) (t : State) (H1 : Heap) (locs1 : List Loc), t.heap = H1 → s.vm.Alike t.vm → post r u → B u t → H.size ≤ H1.size → (∀ q : Nat, q < H.size → ¬ A1 q → H1[q]? = H[q]?) → va_S A0 H0 H1 locs1 → W p l e R s m args below meth c H1 locs1 (cells + mc) (slots + ms) Q (F0 m (pc + 3) ls (.int r :: rest))) : W p l e R s m args below meth c H locs cells slots Q (F0 m pc ls st0) := by
  intro T hT X
  rcases hr T hT X with ⟨v, st₀, t, T', L, h0, X', hL, e1, e2, ⟨⟨r, u, hv, hp, hb⟩, hF⟩, st⟩ | ⟨q, st₀, t, T', L, E, ce, h0, X', hL, e1, e2, ⟨u, hp, hb, hF⟩, hce, hcv, hcl, st⟩
  · cases hv
    obtain ⟨k1, k2, k3⟩ := vx_keep h0 e1 hS hA hf hL hF
    obtain ⟨t2, a1, b1⟩ := kk r u t T'.heap (locs ++ L) e1.symm (by rw [← e2]; exact X'.warmed.alike) hp hb k1 k2 k3 T' rfl X'
    exact ⟨t2, st t2 a1, b1⟩
  · obtain ⟨k1, k2, k3⟩ := vx_keep h0 e1 hS hAX hf hL hF
    obtain ⟨t2, a1, b1⟩ := kx E ce q u t T'.heap (locs ++ L) e1.symm (by rw [← e2]; exact X'.warmed.alike) hp hb k1 k2 k3 (by rw [e1]; exact hce) hcv hcl T' rfl X'
    exact ⟨t2, st.trans a1, b1⟩
theorem vx_calll {S SX : Type} {post : Int64 → S → Prop} {px : SX → Prop} {B : S → State → Prop} {BX : String → SX → State → Prop} {AX : Nat → Prop} (hr : vx_Run p l e R s m args below meth c H locs cells slots mc ms (F0 m pc ls st0) rest (va_Ql post B A1 a) (vx_X px BX AX) free) (hS : va_S A0 H0 H locs) (hA : ∀ q, q < H.size → A1 q → A0 q) (hf : ∀ q, free q → A0 q) (hAX : ∀ q, q < H.size → AX q → A0 q)
    (kx : ∀ (E : String) (ce : Cell) (q9 : Addr) (u : SX) (t : State) (H1 : Heap) (locs1 : List Loc), t.heap = H1 → s.vm.Alike t.vm → px u → BX E u t → H.size ≤ H1.size → (∀ q : Nat, q < H.size → ¬ AX q → H1[q]? = H[q]?) → va_S A0 H0 H1 locs1 → H1[q9]? = some ce → ce.vm = .none → s.vm.findClass E = some ce.cls → vx_W p l e R s m args below meth c H1 locs1 (cells + mc) (slots + ms) Q (F0 m pc ls rest) q9)
    (kk : ∀ (r : Int64) (u : S) (t : State) (H1 : Heap) (locs1 : List Loc), t.heap = H1 → s.vm.Alike t.vm → post r u → B u t → H.size ≤ H1.size → (∀ q : Nat, q < H.size → ¬ A1 q → H1[q]? = H[q]?) → va_S A0 H0 H1 locs1 → W p l e R s m args below meth c H1 locs1 (cells + mc) (slots + ms) Q (F0 m (pc + 3) ls (.long r :: rest))) : W p l e R s m args below meth c H locs cells slots Q (F0 m pc ls st0) := by
  intro T hT X
  rcases hr T hT X with ⟨v, st₀, t, T', L, h0, X', hL, e1, e2, ⟨⟨r, u, hv, hp, hb⟩, hF⟩, st⟩ | ⟨q, st₀, t, T', L, E, ce, h0, X', hL, e1, e2, ⟨u, hp, hb, hF⟩, hce, hcv, hcl, st⟩
  · cases hv
    obtain ⟨k1, k2, k3⟩ := vx_keep h0 e1 hS hA hf hL hF
    obtain ⟨t2, a1, b1⟩ := kk r u t T'.heap (locs ++ L) e1.symm (by rw [← e2]; exact X'.warmed.alike) hp hb k1 k2 k3 T' rfl X'
    exact ⟨t2, st t2 a1, b1⟩
  · obtain ⟨k1, k2, k3⟩ := vx_keep h0 e1 hS hAX hf hL hF
    obtain ⟨t2, a1, b1⟩ := kx E ce q u t T'.heap (locs ++ L) e1.symm (by rw [← e2]; exact X'.warmed.alike) hp hb k1 k2 k3 (by rw [e1]; exact hce) hcv hcl T' rfl X'
    exact ⟨t2, st.trans a1, b1⟩
theorem vx_callf {S SX : Type} {post : UInt32 → S → Prop} {px : SX → Prop} {B : S → State → Prop} {BX : String → SX → State → Prop} {AX : Nat → Prop} (hr : vx_Run p l e R s m args below meth c H locs cells slots mc ms (F0 m pc ls st0) rest (va_Qf post B A1 a) (vx_X px BX AX) free) (hS : va_S A0 H0 H locs) (hA : ∀ q, q < H.size → A1 q → A0 q) (hf : ∀ q, free q → A0 q) (hAX : ∀ q, q < H.size → AX q → A0 q)
    (kx : ∀ (E : String) (ce : Cell) (q9 : Addr) (u : SX) (t : State) (H1 : Heap) (locs1 : List Loc), t.heap = H1 → s.vm.Alike t.vm → px u → BX E u t → H.size ≤ H1.size → (∀ q : Nat, q < H.size → ¬ AX q → H1[q]? = H[q]?) → va_S A0 H0 H1 locs1 → H1[q9]? = some ce → ce.vm = .none → s.vm.findClass E = some ce.cls → vx_W p l e R s m args below meth c H1 locs1 (cells + mc) (slots + ms) Q (F0 m pc ls rest) q9)
    (kk : ∀ (r : UInt32) (u : S) (t : State) (H1 : Heap) (locs1 : List Loc), t.heap = H1 → s.vm.Alike t.vm → post r u → B u t → H.size ≤ H1.size → (∀ q : Nat, q < H.size → ¬ A1 q → H1[q]? = H[q]?) → va_S A0 H0 H1 locs1 → W p l e R s m args below meth c H1 locs1 (cells + mc) (slots + ms) Q (F0 m (pc + 3) ls (.float r :: rest))) : W p l e R s m args below meth c H locs cells slots Q (F0 m pc ls st0) := by
  intro T hT X
  rcases hr T hT X with ⟨v, st₀, t, T', L, h0, X', hL, e1, e2, ⟨⟨r, u, hv, hp, hb⟩, hF⟩, st⟩ | ⟨q, st₀, t, T', L, E, ce, h0, X', hL, e1, e2, ⟨u, hp, hb, hF⟩, hce, hcv, hcl, st⟩
  · cases hv
    obtain ⟨k1, k2, k3⟩ := vx_keep h0 e1 hS hA hf hL hF
    obtain ⟨t2, a1, b1⟩ := kk r u t T'.heap (locs ++ L) e1.symm (by rw [← e2]; exact X'.warmed.alike) hp hb k1 k2 k3 T' rfl X'
    exact ⟨t2, st t2 a1, b1⟩
  · obtain ⟨k1, k2, k3⟩ := vx_keep h0 e1 hS hAX hf hL hF
    obtain ⟨t2, a1, b1⟩ := kx E ce q u t T'.heap (locs ++ L) e1.symm (by rw [← e2]; exact X'.warmed.alike) hp hb k1 k2 k3 (by rw [e1]; exact hce) hcv hcl T' rfl X'
    exact ⟨t2, st.trans a1, b1⟩
theorem vx_calld {S SX : Type} {post : UInt64 → S → Prop} {px : SX → Prop} {B : S → State → Prop} {BX : String → SX → State → Prop} {AX : Nat → Prop} (hr : vx_Run p l e R s m args below meth c H locs cells slots mc ms (F0 m pc ls st0) rest (va_Qd post B A1 a) (vx_X px BX AX) free) (hS : va_S A0 H0 H locs) (hA : ∀ q, q < H.size → A1 q → A0 q) (hf : ∀ q, free q → A0 q) (hAX : ∀ q, q < H.size → AX q → A0 q)
    (kx : ∀ (E : String) (ce : Cell) (q9 : Addr) (u : SX) (t : State) (H1 : Heap) (locs1 : List Loc), t.heap = H1 → s.vm.Alike t.vm → px u → BX E u t → H.size ≤ H1.size → (∀ q : Nat, q < H.size → ¬ AX q → H1[q]? = H[q]?) → va_S A0 H0 H1 locs1 → H1[q9]? = some ce → ce.vm = .none → s.vm.findClass E = some ce.cls → vx_W p l e R s m args below meth c H1 locs1 (cells + mc) (slots + ms) Q (F0 m pc ls rest) q9)
    (kk : ∀ (r : UInt64) (u : S) (t : State) (H1 : Heap) (locs1 : List Loc), t.heap = H1 → s.vm.Alike t.vm → post r u → B u t → H.size ≤ H1.size → (∀ q : Nat, q < H.size → ¬ A1 q → H1[q]? = H[q]?) → va_S A0 H0 H1 locs1 → W p l e R s m args below meth c H1 locs1 (cells + mc) (slots + ms) Q (F0 m (pc + 3) ls (.double r :: rest))) : W p l e R s m args below meth c H locs cells slots Q (F0 m pc ls st0) := by
  intro T hT X
  rcases hr T hT X with ⟨v, st₀, t, T', L, h0, X', hL, e1, e2, ⟨⟨r, u, hv, hp, hb⟩, hF⟩, st⟩ | ⟨q, st₀, t, T', L, E, ce, h0, X', hL, e1, e2, ⟨u, hp, hb, hF⟩, hce, hcv, hcl, st⟩
  · cases hv
    obtain ⟨k1, k2, k3⟩ := vx_keep h0 e1 hS hA hf hL hF
    obtain ⟨t2, a1, b1⟩ := kk r u t T'.heap (locs ++ L) e1.symm (by rw [← e2]; exact X'.warmed.alike) hp hb k1 k2 k3 T' rfl X'
    exact ⟨t2, st t2 a1, b1⟩
  · obtain ⟨k1, k2, k3⟩ := vx_keep h0 e1 hS hAX hf hL hF
    obtain ⟨t2, a1, b1⟩ := kx E ce q u t T'.heap (locs ++ L) e1.symm (by rw [← e2]; exact X'.warmed.alike) hp hb k1 k2 k3 (by rw [e1]; exact hce) hcv hcl T' rfl X'
    exact ⟨t2, st.trans a1, b1⟩
theorem vx_callv {S SX : Type} {post : S → Prop} {px : SX → Prop} {B : S → State → Prop} {BX : String → SX → State → Prop} {AX : Nat → Prop} (hr : vx_Run p l e R s m args below meth c H locs cells slots mc ms (F0 m pc ls st0) rest (va_Qv post B A1 a) (vx_X px BX AX) free) (hS : va_S A0 H0 H locs) (hA : ∀ q, q < H.size → A1 q → A0 q) (hf : ∀ q, free q → A0 q) (hAX : ∀ q, q < H.size → AX q → A0 q)
    (kx : ∀ (E : String) (ce : Cell) (q9 : Addr) (u : SX) (t : State) (H1 : Heap) (locs1 : List Loc), t.heap = H1 → s.vm.Alike t.vm → px u → BX E u t → H.size ≤ H1.size → (∀ q : Nat, q < H.size → ¬ AX q → H1[q]? = H[q]?) → va_S A0 H0 H1 locs1 → H1[q9]? = some ce → ce.vm = .none → s.vm.findClass E = some ce.cls → vx_W p l e R s m args below meth c H1 locs1 (cells + mc) (slots + ms) Q (F0 m pc ls rest) q9)
    (kk : ∀ (u : S) (t : State) (H1 : Heap) (locs1 : List Loc), t.heap = H1 → s.vm.Alike t.vm → post u → B u t → H.size ≤ H1.size → (∀ q : Nat, q < H.size → ¬ A1 q → H1[q]? = H[q]?) → va_S A0 H0 H1 locs1 → W p l e R s m args below meth c H1 locs1 (cells + mc) (slots + ms) Q (F0 m (pc + 3) ls (rest))) : W p l e R s m args below meth c H locs cells slots Q (F0 m pc ls st0) := by
  intro T hT X
  rcases hr T hT X with ⟨v, st₀, t, T', L, h0, X', hL, e1, e2, ⟨⟨u, hv, hp, hb⟩, hF⟩, st⟩ | ⟨q, st₀, t, T', L, E, ce, h0, X', hL, e1, e2, ⟨u, hp, hb, hF⟩, hce, hcv, hcl, st⟩
  · cases hv
    obtain ⟨k1, k2, k3⟩ := vx_keep h0 e1 hS hA hf hL hF
    obtain ⟨t2, a1, b1⟩ := kk u t T'.heap (locs ++ L) e1.symm (by rw [← e2]; exact X'.warmed.alike) hp hb k1 k2 k3 T' rfl X'
    exact ⟨t2, st t2 a1, b1⟩
  · obtain ⟨k1, k2, k3⟩ := vx_keep h0 e1 hS hAX hf hL hF
    obtain ⟨t2, a1, b1⟩ := kx E ce q u t T'.heap (locs ++ L) e1.symm (by rw [← e2]; exact X'.warmed.alike) hp hb k1 k2 k3 (by rw [e1]; exact hce) hcv hcl T' rfl X'
    exact ⟨t2, st.trans a1, b1⟩
/-- caught by the row x of this method's table; the rows ahead don't take it -/
theorem vx_catch {own name : String} {E : String} {ce : Cell} {q : Addr} (hown : s.vm.findClass own = some m.cls) (pre : List ExceptionTableEntry) (x : ExceptionTableEntry) (suf : List ExceptionTableEntry) (hsplit : c.exceptionTable.toList = pre ++ x :: suf)
    (hpass : ∀ z ∈ pre, covers z pc = false ∨ (z.catchType ≠ 0 ∧ ∃ nm : String, (Cond.classLink own z.catchType nm).before args s = true ∧ va_Nc E nm s)) (hx : covers x pc = true) (h0 : x.catchType ≠ 0)
    (hlink : (Cond.classLink own x.catchType name).before args s = true) (hcast : (Cond.castable E name).before args s = true) (hcell : H[q]? = some ce) (hv : ce.vm = .none) (hcl : s.vm.findClass E = some ce.cls)
    (kk : W p l e R s m args below meth c H locs cells slots Q (F0 m x.handlerPc ls [.ref q])) : vx_W p l e R s m args below meth c H locs cells slots Q (F0 m pc ls rest) q := by
  intro T hT X
  have hpl : e.platform.magicAccessors = ({} : Platform).magicAccessors := by rw [X.admits.platform]
  obtain ⟨c3, c4, hc3, hc4, hasg⟩ := Cond.castable_spec hcast
  cases Option.some.inj (hc3.symm.trans hcl)
  obtain ⟨c5, hc5, hcl5⟩ := Cond.classLink_spec hown hlink e.platform hpl
  cases Option.some.inj (hc4.symm.trans hc5)
  obtain ⟨vm', X', st⟩ := X.thenCaughtThrough q (g := F0 m pc ls rest) rfl (Steps.refl _) (by rw [hT]; exact hcell) (by rw [hv]; rfl) (by obtain ⟨k9, h9, -⟩ := Vm.findClass_spec hcl; exact ⟨k9, h9⟩) pre x suf hsplit
    (fun z hz => by
      rcases hpass z hz with h | ⟨hz0, nm, hl1, hn1⟩
      · exact Or.inl h
      · obtain ⟨c6, hc6, hcl6⟩ := Cond.classLink_spec hown hl1 e.platform hpl
        obtain ⟨a8, b8, h1, h2, h3⟩ := hn1
        cases Option.some.inj (h1.symm.trans hcl)
        cases Option.some.inj (h2.symm.trans hc6)
        exact Or.inr ⟨hz0, _, hcl6, h3⟩) hx (Or.inr ⟨h0, c4, hcl5, hasg⟩)
  obtain ⟨t, a1, b1⟩ := kk (T.setVm vm') hT X'
  exact ⟨t, st.trans a1, b1⟩
end Rows
section Ends
variable {p : Program} {l : Launch} {e : Env} {R : Room} {s : State} {m : MethodId} {args : Array Value} {below : List Frame} {meth : Method} {c : Code} {H : Heap} {locs : List Loc} {cells slots : Nat} {Q : State → Prop}
variable {mc ms : Nat} {free : Addr → Prop} {A0 A1 : Nat → Prop} {H0 : Heap} {a : Array Value} {ls : Array Slot} {st0 rest : List Value}
variable {Qc : Array Value → State → Outcome → State → Prop} {XC : String → State → State → Prop}
/-- what a body that may throw owes at its end -/
def vx_MQ (below : List Frame) (Qc : Array Value → State → Outcome → State → Prop) (XC : String → State → State → Prop) (a : Array Value) (s : State) (mc ms : Nat) (free : Addr → Prop) : State → Prop := fun t =>
  ∃ o, t.status = .running ∧ Ended t below o ∧ vx_Q Qc XC mc ms free a s o t
theorem vx_ret {g : JFrame} {mc ms : Nat} (k : W p l e R s m args below meth c H locs cells slots (MQ below Qc args s mc ms free) g) : W p l e R s m args below meth c H locs cells slots (vx_MQ below Qc XC args s mc ms free) g := by
  intro T hT X
  obtain ⟨t, a1, o, b1, b2, b3, b4⟩ := k T hT X
  exact ⟨t, a1, o, b1, b2, Or.inl ⟨b3, b4⟩⟩
/-- not caught here: it goes on to the caller -/
theorem vx_widen {g : JFrame} {q : Addr} {k n : Nat} (h1 : cells ≤ k) (h2 : slots ≤ n) (kk : vx_W p l e R s m args below meth c H locs k n Q g q) : vx_W p l e R s m args below meth c H locs cells slots Q g q := fun T hT X => kk T hT (stand_widen X h1 h2)
theorem vx_out {pc : Nat} {E : String} {ce : Cell} {q : Addr} {mc ms : Nat} (hout : ∀ x ∈ c.exceptionTable.toList, covers x pc = false) (hlocks : meth.locks = false) (hcell : H[q]? = some ce) (hv : ce.vm = .none) (hcl : s.vm.findClass E = some ce.cls)
    (hx : ∀ t : State, t.heap = H → s.vm.Alike t.vm → XC E s t) (hf : ∀ z ∈ locs, free z.base) (hc : cells ≤ mc) (hs : slots ≤ ms) :
    vx_W p l e R s m args below meth c H locs cells slots (vx_MQ below Qc XC args s mc ms free) (F0 m pc ls rest) q := by
  intro T hT X
  obtain ⟨st1, hrun, hend, hW, hsm⟩ := X.leaveThrown q (g := F0 m pc ls rest) rfl rfl rfl hout hlocks
  have hcell9 : (T.setFrames (.throwing q :: below)).heap[q]? = some ce := by
    show T.heap[q]? = some ce
    rw [hT]; exact hcell
  exact ⟨_, st1, .threw q, hrun, hend, Or.inr ⟨q, rfl, E, ce, locs, hx _ hT hW.alike, hcell9, hv, hcl, hW, hsm.mono hc hs, hf⟩⟩
theorem vx_frame {U : State} {k n : Nat} (h : s.sameButNew ({ U with vm := s.vm } : State) locs k n) : s.heap.size ≤ U.heap.size ∧ ∀ q : Nat, q < s.heap.size → (∀ z ∈ locs, z.base ≠ q) → U.heap[q]? = s.heap[q]? := by
  obtain ⟨-, h2, -, -, -, h6⟩ := h
  refine ⟨h2, fun q hq hz => ?_⟩
  obtain ⟨c9, e1, e2, e3, e4⟩ := h6 q _ (Array.getElem?_eq_getElem hq)
  have hs : c9.slots = (s.heap[q]).slots := Array.ext_getElem? fun i => e4 i fun hm => hz _ hm rfl
  have h9 : c9 = s.heap[q] := by
    rw [hs] at e2
    exact e2
  have e5 : U.heap[q]? = some c9 := e1
  rw [e5, h9, Array.getElem?_eq_getElem hq]
/-- the words of a throw but the four that speak of the heap -/
def vx_no (w : Cond) : Bool := decide (w ≠ .isRef (.static Bundle.tN "UNASSIGNED_STACK" Bundle.steD)) && decide (w ≠ .isRef (.static Bundle.tN "SUPPRESSED_SENTINEL" Bundle.listD)) && decide (w ≠ .laysStatic Bundle.tN "UNASSIGNED_STACK" Bundle.steD) && decide (w ≠ .laysStatic Bundle.tN "SUPPRESSED_SENTINEL" Bundle.listD)
def vx_at0 (own : String) (ic : Nat) (X : String) (names : List String) : List Cond := (Bundle.ownAtoms0 own ic X names).filter vx_no
def vx_atS (own : String) (ic : Nat) (X : String) (names : List String) : List Cond := (Bundle.ownAtoms own ic X names).filter vx_no
/-- a word that the tables alone decide, or a good one -/
def vx_ot (w : Cond) : Bool := w.onTables || goodWord w
theorem vx_ot_at {args a' : Array Value} {s U : State} {w : Cond} (hW : s.WarmedH U.vm) (hvm : s.vm = U.vm) (hg : vx_ot w = true) (h : w.before args s = true) : w.before a' U = true := by
  simp only [vx_ot, Bool.or_eq_true] at hg
  rcases hg with hg | hg
  · exact va_tabs hg hvm h
  · exact word_at hW (good_of_word hg) h
/-- a list's words: the good ones out of the method's own list, the others by premises of their own -/
theorem vx_hat {args : Array Value} {s : State} {L B : List Cond} (h1 : ∀ w ∈ L.filter goodWord, w.before args s = true) (h2 : ∀ w ∈ L.filter (fun w => !goodWord w), w ∈ B) (h3 : ∀ w ∈ B, w.before args s = true) : ∀ w ∈ L, w.before args s = true := by
  intro w hw
  by_cases g : goodWord w = true
  · exact h1 w (List.mem_filter.mpr ⟨hw, g⟩)
  · refine h3 w (h2 w (List.mem_filter.mpr ⟨hw, ?_⟩))
    show (!goodWord w) = true
    cases hgw : goodWord w
    · rfl
    · exact absurd hgw g
theorem vx_c {args : Array Value} {s : State} {w : Cond} {B : List Cond} (h : w.before args s = true) (t : ∀ w ∈ B, w.before args s = true) : ∀ w' ∈ w :: B, w'.before args s = true := fun w' h' => (List.mem_cons.mp h').elim (fun e => by rw [e]; exact h) (t w')
theorem vx_n {args : Array Value} {s : State} : ∀ w ∈ ([] : List Cond), w.before args s = true := fun _ h => nomatch h
theorem vx_own {args : Array Value} {s : State} {L : List Cond} (h1 : ∀ w ∈ L.filter vx_no, w.before args s = true)
    (hU : (Cond.isRef (.static Bundle.tN "UNASSIGNED_STACK" Bundle.steD)).before args s = true) (hN : (Cond.isRef (.static Bundle.tN "SUPPRESSED_SENTINEL" Bundle.listD)).before args s = true)
    (lU : (Cond.laysStatic Bundle.tN "UNASSIGNED_STACK" Bundle.steD).before args s = true) (lN : (Cond.laysStatic Bundle.tN "SUPPRESSED_SENTINEL" Bundle.listD).before args s = true) : ∀ w ∈ L, w.before args s = true := by
  intro w hw
  by_cases e1 : w = .isRef (.static Bundle.tN "UNASSIGNED_STACK" Bundle.steD)
  · rw [e1]; exact hU
  · by_cases e2 : w = .isRef (.static Bundle.tN "SUPPRESSED_SENTINEL" Bundle.listD)
    · rw [e2]; exact hN
    · by_cases e3 : w = .laysStatic Bundle.tN "UNASSIGNED_STACK" Bundle.steD
      · rw [e3]; exact lU
      · by_cases e4 : w = .laysStatic Bundle.tN "SUPPRESSED_SENTINEL" Bundle.listD
        · rw [e4]; exact lN
        · exact h1 w (List.mem_filter.mpr ⟨hw, by unfold vx_no; rw [decide_eq_true e1, decide_eq_true e2, decide_eq_true e3, decide_eq_true e4]; rfl⟩)
/-- where a static field lies, its class's statics cell in H -/
def vx_L (C n d : String) (A : Nat → Prop) (U : State) (H : Heap) : Prop := ∃ (c : ClassId) (k : Class) (i : Nat) (f : Field) (a : Nat) (cell : Cell), U.vm.findClass C = some c ∧ U.fieldFound? C n d = some (c, k, i, f) ∧ f.isStatic = true ∧ k.statics = some a ∧ H[a]? = some cell ∧ cell.vm.isStatics = true ∧ cell.cls = c ∧ f.slot < cell.slots.size ∧ k.staticTypes[f.slot]? = some f.type ∧ ¬ A a
theorem vx_L.moved {C n d : String} {A : Nat → Prop} {u U : State} {H : Heap} (hvm : u.vm.Alike U.vm) (h : vx_L C n d A u H) : vx_L C n d A U H := by
  obtain ⟨c, k, i, f, a, cell, h1, h2, h3, h4, h5, h6, h7, h8, h9, h10⟩ := h
  obtain ⟨k', hi', he⟩ := State.fieldFound?_setVm hvm h2
  exact ⟨c, k', i, f, a, cell, by rw [hvm.findClass]; exact h1, hi', h3, by rw [he]; exact h4, h5, h6, h7, h8, by rw [he]; exact h9, h10⟩
theorem vx_L.kept {C n d : String} {A : Nat → Prop} {U : State} {H H1 : Heap} (h : vx_L C n d A U H) (hq : ∀ a : Nat, a < H.size → ¬ A a → H1[a]? = H[a]?) : vx_L C n d A U H1 := by
  obtain ⟨c, k, i, f, a, cell, h1, h2, h3, h4, h5, h6, h7, h8, h9, h10⟩ := h
  exact ⟨c, k, i, f, a, cell, h1, h2, h3, h4, by rw [hq a (Array.getElem?_eq_some_iff.mp h5).1 h10]; exact h5, h6, h7, h8, h9, h10⟩
theorem vx_L.narrow {C n d : String} {A B : Nat → Prop} {U : State} {H : Heap} (h : vx_L C n d A U H) (hAB : ∀ q, B q → A q) : vx_L C n d B U H := by
  obtain ⟨c, k, i, f, a, cell, h1, h2, h3, h4, h5, h6, h7, h8, h9, h10⟩ := h
  exact ⟨c, k, i, f, a, cell, h1, h2, h3, h4, h5, h6, h7, h8, h9, fun z => h10 (hAB _ z)⟩
theorem vx_L.word {C n d : String} {A : Nat → Prop} {s : State} {args : Array Value} (h : vx_L C n d A s s.heap) : (Cond.laysStatic C n d).before args s = true := by
  obtain ⟨c, k, i, f, a, cell, h1, h2, h3, h4, h5, h6, h7, h8, h9, -⟩ := h
  show (Cond.laysStatic C n d).holds args s none s [] = true
  exact Cond.laysStatic_of h1 h2 h3 h4 h5 h6 h7 h8 h9
/-- .. and what it holds: null or some reference -/
def vx_Zq (C n d : String) (A : Nat → Prop) (U : State) (H : Heap) : Prop := va_Zq C n d A U H ∧ vx_L C n d A U H
theorem vx_Zq.moved {C n d : String} {A : Nat → Prop} {u U : State} {H : Heap} (hvm : u.vm.Alike U.vm) (h : vx_Zq C n d A u H) : vx_Zq C n d A U H := ⟨va_Zq.moved hvm h.1, vx_L.moved hvm h.2⟩
theorem vx_Zq.kept {C n d : String} {A : Nat → Prop} {U : State} {H H1 : Heap} (h : vx_Zq C n d A U H) (hq : ∀ a : Nat, a < H.size → ¬ A a → H1[a]? = H[a]?) : vx_Zq C n d A U H1 := ⟨va_Zq.kept h.1 hq, vx_L.kept h.2 hq⟩
theorem vx_Zq.narrow {C n d : String} {A B : Nat → Prop} {U : State} {H : Heap} (h : vx_Zq C n d A U H) (hAB : ∀ q, B q → A q) : vx_Zq C n d B U H := ⟨va_Zq.narrow h.1 hAB, vx_L.narrow h.2 hAB⟩
theorem vx_Zqof {args : Array Value} {s : State} {C n d : String} {A : Nat → Prop} (hl : (Cond.laysStatic C n d).before args s = true) (hini : (Cond.initialized C).before args s = true) (h : (Cond.isRef (.static C n d)).before args s = true) (hA : ∀ a : Nat, a < s.heap.size → ¬ A a) : vx_Zq C n d A s s.heap := by
  refine ⟨va_Zqof hl hini h hA, ?_⟩
  obtain ⟨c, k, i, f, a, cell, h1, h2, h3, h4, h5, h6, h7, h8, h9⟩ := Cond.laysStatic_spec hl
  exact ⟨c, k, i, f, a, cell, h1, h2, h3, h4, h5, h6, h7, h8, h9, hA a (Array.getElem?_eq_some_iff.mp h5).1⟩
theorem vx_isRef {C n d : String} {v : Value} {A : Nat → Prop} {s : State} {args : Array Value} (h : va_Z C n d v A s s.heap) (hv : v.isRef = true) : (Cond.isRef (.static C n d)).before args s = true := by
  obtain ⟨cf, kf, fi, f, a, cell, h1, h2, h3, h4, h5, h6, h7, -⟩ := h
  have he : (Term.static C n d).eval args s none [] s = some v := by
    simp [Term.eval, State.fieldNamed?, h1, h2, h4, h5, h6, h7]
  simp only [Cond.before, Cond.holds, Cond.value, he]
  cases v <;> simp_all [Value.isRef]
theorem vx_isRefq {C n d : String} {A : Nat → Prop} {s : State} {args : Array Value} (h : va_Zq C n d A s s.heap) : (Cond.isRef (.static C n d)).before args s = true := by
  rcases h with h | ⟨t, h⟩
  · exact vx_isRef h rfl
  · exact vx_isRef h rfl
/-- the same frame, seen from here: as if the method were called anew in this heap -/
theorem vx_rebase {T : State} (X : Stand p l e R s m args below meth c T locs cells slots) {R' : Room} (hf : R'.frames ≤ R.frames) (hl : R'.locals ≤ R.locals) (hc : cells + R'.cells ≤ R.cells) (hs : slots + R'.slots ≤ R.slots) :
    Stand p l e R' ((T.setVm s.vm).setFrames (.invoking m args :: below)) m args below meth c T [] 0 0 := by
  have htop : (T.setVm s.vm).topJava?.isSome := X.here.top
  have hF : ((T.setVm s.vm).setFrames (.invoking m args :: below)).frames = .invoking m args :: below := State.frames_setFrames _ (State.cur_lt_of_top htop)
  obtain ⟨g₀, hg0⟩ := Option.isSome_iff_exists.mp htop
  obtain ⟨r, hr⟩ := State.topJava?_eq_some.mp hg0
  have hl9 : e.platform.stackLimits (T.setVm s.vm).me = e.platform.stackLimits s.me := X.limits
  have hb9 : (T.setVm s.vm).me.stackBytes = s.me.stackBytes := X.bytes
  refine ⟨X.admits, X.cas, X.clock, hF, ?_, X.hears, X.method, X.code, X.here, X.tail, X.warmed, ?_, ?_, ?_⟩
  · have h := X.room
    have hU : ((T.setVm s.vm).setFrames (.invoking m args :: below)).localsInUse = s.localsInUse := by
      rw [State.localsInUse_invoking hF (meth := meth) (c := c) X.method X.code, State.localsInUse_invoking X.frames X.method X.code]
    simp only [State.hasRoom, Bool.and_eq_true, decide_eq_true_eq] at h ⊢
    obtain ⟨⟨⟨⟨h1, h2, h3, h4, h5, h6⟩, h7⟩, h8⟩, h9⟩ := h
    rw [X.frames, List.length_cons] at h2 h3
    have q1 := X.heapSize
    have q2 := X.used
    simp only [hF, hU, List.length_cons, State.stackLimits_setFrames, State.stackBytes_setFrames, hl9, hb9]
    refine ⟨⟨⟨⟨by omega, by omega, by omega, by omega, by omega, h6⟩, ?_⟩, ?_⟩, X.book⟩
    · show T.heap.size + R'.cells ≤ e.platform.maxCells
      omega
    · show T.slotsUsed + R'.slots ≤ e.platform.maxSlots
      omega
  · rw [State.stackLimits_setFrames]; rfl
  · rw [State.stackBytes_setFrames]; rfl
  · refine ⟨?_, Nat.le_refl _, Nat.le_refl _, ?_, ?_, fun a c9 h9 => ⟨c9, h9, rfl, rfl, fun _ _ => rfl⟩⟩
    · obtain ⟨t, ht, -⟩ := State.frames_cons hr
      show T.setVm s.vm = { ((T.setVm s.vm).setFrames (.invoking m args :: below)).setFrames (T.setVm s.vm).frames with heap := T.heap, slotsUsed := T.slotsUsed }
      rw [State.setFrames_setFrames, State.setFrames_self ht]
      rfl
    · show T.slotsUsed = T.slotsUsed + ((T.heap.toList.drop T.heap.size).map (·.slots.size)).sum
      rw [List.drop_eq_nil_of_le (Nat.le_of_eq Array.length_toList)]
      rfl
    · show ((T.heap.toList.drop T.heap.size).map (·.slots.size)).sum ≤ 0
      rw [List.drop_eq_nil_of_le (Nat.le_of_eq Array.length_toList)]
      exact Nat.le_refl _
/-- 'throw new E()': new; dup; invokespecial; athrow -/
theorem vx_throw0 {cc : ByteArray} {pc : Nat} (hexec : p.tables.exec = Jvm.exec) (hb : c.code = cc) (hl : l.stackTraces = false) {own cls : String} {names : List String} {ik ic mc ms : Nat} {A : Nat → Prop}
    (hown : s.vm.findClass own = some m.cls) (hcls : Bundle.fit cls = true) (hnames : ∀ n ∈ names, Bundle.fit n = true)
    (hk : (Cond.classLink own ik cls).before args s = true) (hini : (Cond.initialized cls).before args s = true) (hat : ∀ w ∈ vx_at0 own ic cls names, w.before args s = true)
    (hgood : ∀ w ∈ Cond.classLink own ik cls :: Cond.initialized cls :: vx_at0 own ic cls names, vx_ot w = true)
    (hU : vx_Zq Bundle.tN "UNASSIGNED_STACK" Bundle.steD A s s.heap) (hN : vx_Zq Bundle.tN "SUPPRESSED_SENTINEL" Bundle.listD A s s.heap) (hS : va_S A s.heap H locs) (hsize : ls.size = c.maxLocals)
    (d0 : decode cc pc = .ok (.new ik, 3)) (d3 : decode cc (pc + 3) = .ok (.dup, 1)) (d4 : decode cc (pc + 4) = .ok (.invokespecial ic, 3)) (d7 : decode cc (pc + 7) = .ok (.athrow, 1))
    (hout : ∀ x ∈ c.exceptionTable.toList, covers x (pc + 7) = false)
    (hRframes : names.length + 3 < R.frames) (hRlocals : (rest.map fun v => v.category).sum + (13 * (names.length + 1) + 42) ≤ R.locals) (hRcells : cells + 1 ≤ R.cells) (hRslots : slots + 6 ≤ R.slots) (hlocks : meth.locks = false)
    (hx : ∀ t : State, s.vm.Alike t.vm → H.size ≤ t.heap.size → (∀ q : Nat, q < H.size → t.heap[q]? = H[q]?) → XC cls s t)
    (hf : ∀ z ∈ locs, free z.base) (hc : cells + 1 ≤ mc) (hs : slots + 6 ≤ ms) :
    W p l e R s m args below meth c H locs cells slots (vx_MQ below Qc XC args s mc ms free) (F0 m pc ls rest) := by
  intro T hT X
  have htr : e.platform.stackTraces = false := (show e.platform.stackTraces = l.stackTraces by rw [X.admits.platform]).trans hl
  have Y := vx_rebase X (R' := { frames := R.frames, locals := R.locals, cells := 1, slots := 6 }) (Nat.le_refl _) (Nat.le_refl _) hRcells hRslots
  obtain ⟨s', hA⟩ : ∃ z, z = (T.setVm s.vm).setFrames (.invoking m args :: below) := ⟨_, rfl⟩
  rw [← hA] at Y
  have hvm : s'.vm = s.vm := by rw [hA]; rfl
  have hhp : s'.heap = H := by rw [hA]; exact hT
  have hW0 : s.WarmedH s'.vm := by rw [hvm]; exact State.WarmedH.refl s
  have hat' : ∀ w ∈ vx_at0 own ic cls names, w.before args s' = true := fun w hw => vx_ot_at hW0 hvm.symm (hgood w (List.mem_cons_of_mem _ (List.mem_cons_of_mem _ hw))) (hat w hw)
  have hk' : (Cond.classLink own ik cls).before args s' = true := vx_ot_at hW0 hvm.symm (hgood _ List.mem_cons_self) hk
  have hini' : (Cond.initialized cls).before args s' = true := vx_ot_at hW0 hvm.symm (hgood _ (List.mem_cons_of_mem _ List.mem_cons_self)) hini
  have hU' : vx_Zq Bundle.tN "UNASSIGNED_STACK" Bundle.steD A s' s'.heap := by rw [hhp]; exact vx_Zq.moved hW0.alike (hU.kept hS.2.1)
  have hN' : vx_Zq Bundle.tN "SUPPRESSED_SENTINEL" Bundle.listD A s' s'.heap := by rw [hhp]; exact vx_Zq.moved hW0.alike (hN.kept hS.2.1)
  have h : ∀ w ∈ Bundle.ownAtoms0 own ic cls names, w.before args s' = true := vx_own hat' (vx_isRefq hU'.1) (vx_isRefq hN'.1) hU'.2.word hN'.2.word
  have hown' : s'.vm.findClass own = some m.cls := by rw [hvm]; exact hown
  have hins : (Cond.instantiable cls 6).before args s' = true := h _ (by simp [Bundle.ownAtoms0])
  obtain ⟨vm₁, cX, kX, hfX, hkX, -, -, X₁, st1⟩ := Y.newCold hexec (own := own) (C := cls) (index := ik) (n := 6) hown' hk' hins hini'
    (g := F0 m pc ls rest) rfl (by rw [hb]; exact d0) (Nat.le_refl _) (Nat.le_refl _)
  generalize hT1 : (T.setVm vm₁).pushCell { cls := cX, slots := kX.instanceTypes.map defaultValue, vm := .none } = T1 at X₁ st1
  have hcat : (Value.ref T.heap.size).category = 1 := rfl
  have hcellA : T1.heap[T.heap.size]? = some (freshCell cX kX) := by rw [← hT1]; exact State.heap_pushCell_size _ _
  have d3' : decode c.code (pc + 3) = .ok (.dup, 1) := by rw [hb]; exact d3
  obtain ⟨U, hsteps, hrun, hend, hW, hsame, ce, hce, hO⟩ := X₁.ctorThrow0 hexec htr (own := own) (cls := cls) (names := names) (ic := ic) hown' hcls hnames h (fun x hx => nomatch hx) hfX hkX hcellA (by rw [hhp, hT]; exact Nat.le_refl _)
    (g := { method := m, pc := pc + 4, locals := ls, stack := .ref T.heap.size :: .ref T.heap.size :: rest, locked := none }) rfl hsize rfl rfl (rest := rest) rfl
    (by rw [hb]; exact d4) (by rw [hb]; exact d7) hout hRframes (by simp only [List.map_cons, List.sum_cons, hcat]; omega) hlocks
  obtain ⟨f1, f2⟩ := vx_frame hsame
  rw [hhp] at f1 f2
  have hWs : s.WarmedH U.vm := State.WarmedH.trans hW0 hW
  have hcl : s.vm.findClass cls = some ce.cls := by
    have h9 := hO.cls
    rw [hvm] at h9
    exact h9
  have hall : s.sameButNew ({ U with vm := s.vm } : State) locs mc ms := by
    subst hA
    obtain ⟨e1, e2⟩ := hsame
    rw [State.setFrames_setFrames] at e1
    have h2 : (T.setVm s.vm).sameButNew ({ U with vm := s.vm } : State) [] (0 + 1) (0 + 6) := ⟨e1, e2⟩
    have h3 := X.same.trans h2
    rw [List.append_nil] at h3
    exact h3.mono hc hs
  refine ⟨U, ?_, .threw T.heap.size, hrun, hend, Or.inr ⟨T.heap.size, rfl, cls, ce, locs, hx U hWs.alike f1 (fun q hq => f2 q hq (fun z hz => nomatch hz)), hce, hO.vm, hcl, hWs, hall, hf⟩⟩
  refine st1 _ ?_
  show Steps p.tables e below (T1.setTop { method := m, pc := pc + 3, locals := ls, stack := .ref T.heap.size :: rest, locked := none }) _
  jvm_step X₁.here [X₁.here.top, hexec, d3', Value.category]
  exact hsteps
/-- 'throw new E("text")': new; dup; ldc; invokespecial; athrow -/
theorem vx_throwS {cc : ByteArray} {pc : Nat} (hexec : p.tables.exec = Jvm.exec) (hb : c.code = cc) (hl : l.stackTraces = false) {own cls text : String} {names : List String} {ik is ic mc ms sa : Nat} {A : Nat → Prop}
    (hown : s.vm.findClass own = some m.cls) (hcls : Bundle.fit cls = true) (hnames : ∀ n ∈ names, Bundle.fit n = true)
    (hk : (Cond.classLink own ik cls).before args s = true) (hini : (Cond.initialized cls).before args s = true) (hstr : vk_R own is text sa s) (hat : ∀ w ∈ vx_atS own ic cls names, w.before args s = true)
    (hgood : ∀ w ∈ Cond.classLink own ik cls :: Cond.initialized cls :: vx_atS own ic cls names, vx_ot w = true)
    (hU : vx_Zq Bundle.tN "UNASSIGNED_STACK" Bundle.steD A s s.heap) (hN : vx_Zq Bundle.tN "SUPPRESSED_SENTINEL" Bundle.listD A s s.heap) (hS : va_S A s.heap H locs) (hsize : ls.size = c.maxLocals)
    (d0 : decode cc pc = .ok (.new ik, 3)) (d3 : decode cc (pc + 3) = .ok (.dup, 1)) (d4 : decode cc (pc + 4) = .ok (.ldc is, 2)) (d6 : decode cc (pc + 6) = .ok (.invokespecial ic, 3)) (d9 : decode cc (pc + 9) = .ok (.athrow, 1))
    (hout : ∀ x ∈ c.exceptionTable.toList, covers x (pc + 9) = false)
    (hRframes : names.length + 3 < R.frames) (hRlocals : (rest.map fun v => v.category).sum + (13 * (names.length + 1) + 43) ≤ R.locals) (hRcells : cells + 1 ≤ R.cells) (hRslots : slots + 6 ≤ R.slots) (hlocks : meth.locks = false)
    (hx : ∀ t : State, s.vm.Alike t.vm → H.size ≤ t.heap.size → (∀ q : Nat, q < H.size → t.heap[q]? = H[q]?) → XC cls s t)
    (hf : ∀ z ∈ locs, free z.base) (hc : cells + 1 ≤ mc) (hs : slots + 6 ≤ ms) :
    W p l e R s m args below meth c H locs cells slots (vx_MQ below Qc XC args s mc ms free) (F0 m pc ls rest) := by
  intro T hT X
  have htr : e.platform.stackTraces = false := (show e.platform.stackTraces = l.stackTraces by rw [X.admits.platform]).trans hl
  have Y := vx_rebase X (R' := { frames := R.frames, locals := R.locals, cells := 1, slots := 6 }) (Nat.le_refl _) (Nat.le_refl _) hRcells hRslots
  obtain ⟨s', hA⟩ : ∃ z, z = (T.setVm s.vm).setFrames (.invoking m args :: below) := ⟨_, rfl⟩
  rw [← hA] at Y
  have hvm : s'.vm = s.vm := by rw [hA]; rfl
  have hhp : s'.heap = H := by rw [hA]; exact hT
  have hW0 : s.WarmedH s'.vm := by rw [hvm]; exact State.WarmedH.refl s
  have hat' : ∀ w ∈ vx_atS own ic cls names, w.before args s' = true := fun w hw => vx_ot_at hW0 hvm.symm (hgood w (List.mem_cons_of_mem _ (List.mem_cons_of_mem _ hw))) (hat w hw)
  have hk' : (Cond.classLink own ik cls).before args s' = true := vx_ot_at hW0 hvm.symm (hgood _ List.mem_cons_self) hk
  have hini' : (Cond.initialized cls).before args s' = true := vx_ot_at hW0 hvm.symm (hgood _ (List.mem_cons_of_mem _ List.mem_cons_self)) hini
  have hU' : vx_Zq Bundle.tN "UNASSIGNED_STACK" Bundle.steD A s' s'.heap := by rw [hhp]; exact vx_Zq.moved hW0.alike (hU.kept hS.2.1)
  have hN' : vx_Zq Bundle.tN "SUPPRESSED_SENTINEL" Bundle.listD A s' s'.heap := by rw [hhp]; exact vx_Zq.moved hW0.alike (hN.kept hS.2.1)
  have h : ∀ w ∈ Bundle.ownAtoms own ic cls names, w.before args s' = true := vx_own hat' (vx_isRefq hU'.1) (vx_isRefq hN'.1) hU'.2.word hN'.2.word
  have hown' : s'.vm.findClass own = some m.cls := by rw [hvm]; exact hown
  have hins : (Cond.instantiable cls 6).before args s' = true := h _ (by simp [Bundle.ownAtoms])
  obtain ⟨vm₁, cX, kX, hfX, hkX, -, -, X₁, st1⟩ := Y.newCold hexec (own := own) (C := cls) (index := ik) (n := 6) hown' hk' hins hini'
    (g := F0 m pc ls rest) rfl (by rw [hb]; exact d0) (Nat.le_refl _) (Nat.le_refl _)
  generalize hT1 : (T.setVm vm₁).pushCell { cls := cX, slots := kX.instanceTypes.map defaultValue, vm := .none } = T1 at X₁ st1
  have hcat : (Value.ref T.heap.size).category = 1 := rfl
  have hcellA : T1.heap[T.heap.size]? = some (freshCell cX kX) := by rw [← hT1]; exact State.heap_pushCell_size _ _
  have d3' : decode c.code (pc + 3) = .ok (.dup, 1) := by rw [hb]; exact d3
  have d4' : decode c.code (pc + 4) = .ok (.ldc is, 2) := by rw [hb]; exact d4
  have hstr' : vk_R own is text sa s' := vk_R.warm hW0 hstr
  obtain ⟨U, hsteps, hrun, hend, hW, hsame, ce, hce, hO⟩ := X₁.ctorThrowS hexec htr (own := own) (cls := cls) (names := names) (ic := ic) hown' hcls hnames h (fun x hx => nomatch hx) hfX hkX hcellA (by rw [hhp, hT]; exact Nat.le_refl _) (msg := .ref sa) rfl
    (g := { method := m, pc := pc + 6, locals := ls, stack := .ref sa :: .ref T.heap.size :: .ref T.heap.size :: rest, locked := none }) rfl hsize rfl rfl (rest := rest) rfl
    (by rw [hb]; exact d6) (by rw [hb]; exact d9) hout hRframes (by simp only [List.map_cons, List.sum_cons, hcat]; omega) hlocks
  obtain ⟨f1, f2⟩ := vx_frame hsame
  rw [hhp] at f1 f2
  have hWs : s.WarmedH U.vm := State.WarmedH.trans hW0 hW
  have hcl : s.vm.findClass cls = some ce.cls := by
    have h9 := hO.cls
    rw [hvm] at h9
    exact h9
  have hall : s.sameButNew ({ U with vm := s.vm } : State) locs mc ms := by
    subst hA
    obtain ⟨e1, e2⟩ := hsame
    rw [State.setFrames_setFrames] at e1
    have h2 : (T.setVm s.vm).sameButNew ({ U with vm := s.vm } : State) [] (0 + 1) (0 + 6) := ⟨e1, e2⟩
    have h3 := X.same.trans h2
    rw [List.append_nil] at h3
    exact h3.mono hc hs
  refine ⟨U, ?_, .threw T.heap.size, hrun, hend, Or.inr ⟨T.heap.size, rfl, cls, ce, locs, hx U hWs.alike f1 (fun q hq => f2 q hq (fun z hz => nomatch hz)), hce, hO.vm, hcl, hWs, hall, hf⟩⟩
  refine st1 _ ?_
  show Steps p.tables e below (T1.setTop { method := m, pc := pc + 3, locals := ls, stack := .ref T.heap.size :: rest, locked := none }) _
  jvm_step X₁.here [X₁.here.top, hexec, d3', Value.category]
  exact X₁.ldcString hexec (own := own) (text := text) (index := is) (a := sa) hown' hstr'.1 hstr'.2
    (g := { method := m, pc := pc + 4, locals := ls, stack := .ref T.heap.size :: .ref T.heap.size :: rest, locked := none }) rfl d4' _ hsteps
/-- 'throw new E("text")', the text by a wide index -/
theorem vx_throwSW {cc : ByteArray} {pc : Nat} (hexec : p.tables.exec = Jvm.exec) (hb : c.code = cc) (hl : l.stackTraces = false) {own cls text : String} {names : List String} {ik is ic mc ms sa : Nat} {A : Nat → Prop}
    (hown : s.vm.findClass own = some m.cls) (hcls : Bundle.fit cls = true) (hnames : ∀ n ∈ names, Bundle.fit n = true)
    (hk : (Cond.classLink own ik cls).before args s = true) (hini : (Cond.initialized cls).before args s = true) (hstr : vk_R own is text sa s) (hat : ∀ w ∈ vx_atS own ic cls names, w.before args s = true)
    (hgood : ∀ w ∈ Cond.classLink own ik cls :: Cond.initialized cls :: vx_atS own ic cls names, vx_ot w = true)
    (hU : vx_Zq Bundle.tN "UNASSIGNED_STACK" Bundle.steD A s s.heap) (hN : vx_Zq Bundle.tN "SUPPRESSED_SENTINEL" Bundle.listD A s s.heap) (hS : va_S A s.heap H locs) (hsize : ls.size = c.maxLocals)
    (d0 : decode cc pc = .ok (.new ik, 3)) (d3 : decode cc (pc + 3) = .ok (.dup, 1)) (d4 : decode cc (pc + 4) = .ok (.ldc_w is, 3)) (d7 : decode cc (pc + 7) = .ok (.invokespecial ic, 3)) (d10 : decode cc (pc + 10) = .ok (.athrow, 1))
    (hout : ∀ x ∈ c.exceptionTable.toList, covers x (pc + 10) = false)
    (hRframes : names.length + 3 < R.frames) (hRlocals : (rest.map fun v => v.category).sum + (13 * (names.length + 1) + 43) ≤ R.locals) (hRcells : cells + 1 ≤ R.cells) (hRslots : slots + 6 ≤ R.slots) (hlocks : meth.locks = false)
    (hx : ∀ t : State, s.vm.Alike t.vm → H.size ≤ t.heap.size → (∀ q : Nat, q < H.size → t.heap[q]? = H[q]?) → XC cls s t)
    (hf : ∀ z ∈ locs, free z.base) (hc : cells + 1 ≤ mc) (hs : slots + 6 ≤ ms) :
    W p l e R s m args below meth c H locs cells slots (vx_MQ below Qc XC args s mc ms free) (F0 m pc ls rest) := by
  intro T hT X
  have htr : e.platform.stackTraces = false := (show e.platform.stackTraces = l.stackTraces by rw [X.admits.platform]).trans hl
  have Y := vx_rebase X (R' := { frames := R.frames, locals := R.locals, cells := 1, slots := 6 }) (Nat.le_refl _) (Nat.le_refl _) hRcells hRslots
  obtain ⟨s', hA⟩ : ∃ z, z = (T.setVm s.vm).setFrames (.invoking m args :: below) := ⟨_, rfl⟩
  rw [← hA] at Y
  have hvm : s'.vm = s.vm := by rw [hA]; rfl
  have hhp : s'.heap = H := by rw [hA]; exact hT
  have hW0 : s.WarmedH s'.vm := by rw [hvm]; exact State.WarmedH.refl s
  have hat' : ∀ w ∈ vx_atS own ic cls names, w.before args s' = true := fun w hw => vx_ot_at hW0 hvm.symm (hgood w (List.mem_cons_of_mem _ (List.mem_cons_of_mem _ hw))) (hat w hw)
  have hk' : (Cond.classLink own ik cls).before args s' = true := vx_ot_at hW0 hvm.symm (hgood _ List.mem_cons_self) hk
  have hini' : (Cond.initialized cls).before args s' = true := vx_ot_at hW0 hvm.symm (hgood _ (List.mem_cons_of_mem _ List.mem_cons_self)) hini
  have hU' : vx_Zq Bundle.tN "UNASSIGNED_STACK" Bundle.steD A s' s'.heap := by rw [hhp]; exact vx_Zq.moved hW0.alike (hU.kept hS.2.1)
  have hN' : vx_Zq Bundle.tN "SUPPRESSED_SENTINEL" Bundle.listD A s' s'.heap := by rw [hhp]; exact vx_Zq.moved hW0.alike (hN.kept hS.2.1)
  have h : ∀ w ∈ Bundle.ownAtoms own ic cls names, w.before args s' = true := vx_own hat' (vx_isRefq hU'.1) (vx_isRefq hN'.1) hU'.2.word hN'.2.word
  have hown' : s'.vm.findClass own = some m.cls := by rw [hvm]; exact hown
  have hins : (Cond.instantiable cls 6).before args s' = true := h _ (by simp [Bundle.ownAtoms])
  obtain ⟨vm₁, cX, kX, hfX, hkX, -, -, X₁, st1⟩ := Y.newCold hexec (own := own) (C := cls) (index := ik) (n := 6) hown' hk' hins hini'
    (g := F0 m pc ls rest) rfl (by rw [hb]; exact d0) (Nat.le_refl _) (Nat.le_refl _)
  generalize hT1 : (T.setVm vm₁).pushCell { cls := cX, slots := kX.instanceTypes.map defaultValue, vm := .none } = T1 at X₁ st1
  have hcat : (Value.ref T.heap.size).category = 1 := rfl
  have hcellA : T1.heap[T.heap.size]? = some (freshCell cX kX) := by rw [← hT1]; exact State.heap_pushCell_size _ _
  have d3' : decode c.code (pc + 3) = .ok (.dup, 1) := by rw [hb]; exact d3
  have d4' : decode c.code (pc + 4) = .ok (.ldc_w is, 3) := by rw [hb]; exact d4
  have hstr' : vk_R own is text sa s' := vk_R.warm hW0 hstr
  obtain ⟨U, hsteps, hrun, hend, hW, hsame, ce, hce, hO⟩ := X₁.ctorThrowS hexec htr (own := own) (cls := cls) (names := names) (ic := ic) hown' hcls hnames h (fun x hx => nomatch hx) hfX hkX hcellA (by rw [hhp, hT]; exact Nat.le_refl _) (msg := .ref sa) rfl
    (g := { method := m, pc := pc + 7, locals := ls, stack := .ref sa :: .ref T.heap.size :: .ref T.heap.size :: rest, locked := none }) rfl hsize rfl rfl (rest := rest) rfl
    (by rw [hb]; exact d7) (by rw [hb]; exact d10) hout hRframes (by simp only [List.map_cons, List.sum_cons, hcat]; omega) hlocks
  obtain ⟨f1, f2⟩ := vx_frame hsame
  rw [hhp] at f1 f2
  have hWs : s.WarmedH U.vm := State.WarmedH.trans hW0 hW
  have hcl : s.vm.findClass cls = some ce.cls := by
    have h9 := hO.cls
    rw [hvm] at h9
    exact h9
  have hall : s.sameButNew ({ U with vm := s.vm } : State) locs mc ms := by
    subst hA
    obtain ⟨e1, e2⟩ := hsame
    rw [State.setFrames_setFrames] at e1
    have h2 : (T.setVm s.vm).sameButNew ({ U with vm := s.vm } : State) [] (0 + 1) (0 + 6) := ⟨e1, e2⟩
    have h3 := X.same.trans h2
    rw [List.append_nil] at h3
    exact h3.mono hc hs
  refine ⟨U, ?_, .threw T.heap.size, hrun, hend, Or.inr ⟨T.heap.size, rfl, cls, ce, locs, hx U hWs.alike f1 (fun q hq => f2 q hq (fun z hz => nomatch hz)), hce, hO.vm, hcl, hWs, hall, hf⟩⟩
  refine st1 _ ?_
  show Steps p.tables e below (T1.setTop { method := m, pc := pc + 3, locals := ls, stack := .ref T.heap.size :: rest, locked := none }) _
  jvm_step X₁.here [X₁.here.top, hexec, d3', Value.category]
  exact X₁.ldcStringW hexec (own := own) (text := text) (index := is) (a := sa) hown' hstr'.1 hstr'.2
    (g := { method := m, pc := pc + 4, locals := ls, stack := .ref T.heap.size :: .ref T.heap.size :: rest, locked := none }) rfl d4' _ hsteps
end Ends
section Bodies
variable {l : Launch}
theorem vx_ofW {y : MethodName} {ws ws' : List Cond} {rm : Room} {Pc : Array Value → State → Prop} {Qc : Array Value → State → Outcome → State → Prop} {XC : String → State → State → Prop} {mc ms : Nat} {free : Addr → Prop} {cc : ByteArray} {maxL : Nat} {ret : Option FieldType}
    (hy : plainName y.cls = true) (hw : ws = Cond.code y cc maxL ret :: ws')
    (body : ∀ p e s m args below meth c s₁, BodyLoose p l y (headSpec ws rm) cc maxL ret e s m args below meth c s₁ → c.maxLocals = maxL → (∀ x ∈ c.exceptionTable.toList, False) → Pc args s →
      W p l e (headSpec ws rm).room s m args below meth c s.heap [] 0 0 (vx_MQ below Qc XC args s mc ms free) (entryFrame m args maxL)) : vx_Met l y ws rm Pc Qc XC mc ms free := by
  refine MetFree.of_bodyS (code := cc) (maxLocals := maxL) (ret := ret) hy ?_ ?_
  · intro args s m h hn
    obtain ⟨meth, c, h1, h2, h3, h4, h5, h6, -, -⟩ := Cond.code_spec hn (atoms_spec (ws := ws) h _ (by rw [hw]; exact List.mem_cons_self))
    exact ⟨meth, c, h1, h2, h3, h4, h5, h6⟩
  · intro p e s m args below meth c s₁ B hml hP _
    have hh0 : s₁.heap = s.heap := by rw [B.state]; rfl
    have ht : ∀ x ∈ c.exceptionTable.toList, False := by
      obtain ⟨meth9, c9, h1, h2, -, -, -, -, h7, -⟩ := Cond.code_spec B.named (atoms_spec (ws := ws) B.pre _ (by rw [hw]; exact List.mem_cons_self))
      cases Option.some.inj (h1.symm.trans B.method)
      cases Option.some.inj (h2.symm.trans (Stand.of_body B).code)
      intro x hx
      rw [Array.isEmpty_iff.mp h7] at hx
      cases hx
    obtain ⟨t, a1, o, b1, b2, b3⟩ := body p e s m args below meth c s₁ B hml ht hP s₁ hh0 (Stand.of_body B)
    exact ⟨t, o, a1, b1, b2, b3⟩
/-- the table of a body with handlers -/
theorem vx_table {p : Program} {x y : MethodName} {S : Spec} {cc bytes : ByteArray} {maxL maxL' : Nat} {ret ret' : Option FieldType} {e : Env} {s s₁ : State} {m : MethodId} {args : Array Value} {below : List Frame} {meth : Method} {c : Code} {hh : List (Nat × Nat × Nat × Nat)}
    (B : BodyLoose p l y S cc maxL ret e s m args below meth c s₁) (h : (Cond.codeWith y bytes maxL' ret' hh).before args s = true) : c.exceptionTable.toList = tableOf hh := by
  obtain ⟨m9, meth9, c9, hn9, h1, h2, -, -, h6, -⟩ := Cond.codeWith_spec h
  cases Option.some.inj (hn9.symm.trans B.named)
  cases Option.some.inj (h1.symm.trans B.method)
  cases Option.some.inj (h2.symm.trans (Stand.of_body B).code)
  rw [← h6, table_eq]
end Bodies
end VXA
/-! ===== END ===== -/
/-! ===== BEGIN a static call of a method with an exception table ===== -/
section VXS
variable {p : Program} {l : Launch} {e : Env} {R : Room} {s : State} {m : MethodId} {args : Array Value} {below : List Frame} {meth : Method} {c : Code} {T : State} {H : Heap} {locs : List Loc} {cells slots : Nat}
abbrev vx_CSW (R : Room) (s : State) (args : Array Value) (own : String) (index : Nat) (y : MethodName) (bytes : ByteArray) (maxL : Nat) (ret : Option FieldType) (hh : List (Nat × Nat × Nat × Nat)) (ws : List Cond) (rm : Room) (mc ms n : Nat) : Prop :=
  (rm.cells = mc ∧ rm.slots = ms ∧ rm.frames + 1 ≤ R.frames ∧ 8 + (maxL + 11) + rm.locals ≤ R.locals ∧ (∀ w ∈ ws, ∀ (a' : Array Value) (U : State), s.WarmedH U.vm → w.before a' U = true) ∧ Cond.codeWith y bytes maxL ret hh ∈ ws) ∧
  (Cond.codeWith y bytes maxL ret hh).before args s = true ∧ (Cond.initialized y.cls).before args s = true ∧ (y.cls ≠ "java/lang/invoke/MethodHandle" ∧ y.cls ≠ "java/lang/invoke/VarHandle") ∧
  (∀ sig, parseMethodDescriptor y.desc = some sig → n = sig.parameters.length) ∧ (Cond.methodLink own index y).before args s = true ∧ (Cond.static y).before args s = true
theorem vx_cwSW {own : String} {index maxL mc ms : Nat} {y : MethodName} {bytes : ByteArray} {ret : Option FieldType} {hh : List (Nat × Nat × Nat × Nat)} {Ts ws ws' : List Cond} {rm : Room} (n : Nat) (ht : ∀ w ∈ Ts, w.before args s = true) (hT : GoodIn Ts (va_wsS own index y ws)) (hw : ws = Cond.codeWith y bytes maxL ret hh :: ws') (hrc : rm.cells = mc) (hrs : rm.slots = ms)
    (hd : y.cls ≠ "java/lang/invoke/MethodHandle" ∧ y.cls ≠ "java/lang/invoke/VarHandle" ∧ (parseMethodDescriptor y.desc).map (fun d => d.parameters.length) = some n) (hR : rm.frames + 1 ≤ R.frames ∧ 8 + (maxL + 11) + rm.locals ≤ R.locals) :
    vx_CSW R s args own index y bytes maxL ret hh ws rm mc ms n := by
  have ok : ∀ w ∈ va_wsS own index y ws, w.before args s = true := fun w h => ht w (hT w h).1
  have hG : GoodIn Ts ws := fun w h => hT w (by unfold va_wsS; exact List.mem_append_right _ h)
  have hc : Cond.codeWith y bytes maxL ret hh ∈ ws := by rw [hw]; exact List.mem_cons_self
  refine ⟨⟨hrc, hrs, hR.1, hR.2, pay_in ht hG, hc⟩, ht _ (hG _ hc).1, ok _ (by simp [va_wsS]), ⟨hd.1, hd.2.1⟩, fun sig h => ?_, ok _ (by simp [va_wsS]), ok _ (by simp [va_wsS])⟩
  have h2 := hd.2.2
  rw [h] at h2
  exact (Option.some.inj h2).symm
theorem vx_callSW (X : Stand p l e R s m args below meth c T locs cells slots) (hexec : p.tables.exec = Jvm.exec) {own : String} {index : Nat} {y : MethodName} {bytes : ByteArray} {maxL : Nat} {ret : Option FieldType} {hh : List (Nat × Nat × Nat × Nat)}
    (hown : s.vm.findClass own = some m.cls) (hlink : (Cond.methodLink own index y).before args s = true) (hstat : (Cond.static y).before args s = true) (hinit : (Cond.initialized y.cls).before args s = true)
    (hcode : (Cond.codeWith y bytes maxL ret hh).before args s = true) (hy : y.cls ≠ "java/lang/invoke/MethodHandle" ∧ y.cls ≠ "java/lang/invoke/VarHandle")
    {W9 : Nat} {Pre : Pt → Array Value → Prop} {Post : Pt → Array Value → Option Value → Pt → Prop} (hK : Back l R p e below s args y 3 W9 Pre Post)
    {g : JFrame} (hg : g.method = m) (hsize : g.locals.size = c.maxLocals) {argsL rest : List Value} (hlen : ∀ sig, parseMethodDescriptor y.desc = some sig → argsL.length = sig.parameters.length)
    (hstack : g.stack = argsL.reverse ++ rest) (hW : 2 * g.monitorRoom + (rest.map fun v => v.category).sum ≤ W9) (hdg : decode c.code g.pc = .ok (.invokestatic index, 3))
    (hpre : ∀ vm₁, s.WarmedH vm₁ → Pre ⟨T.setVm vm₁, locs, cells, slots⟩ argsL.toArray) :
    ∃ (v : Option Value) (vm₁ : Vm) (B : Pt), s.WarmedH vm₁ ∧ Stand p l e R s m args below meth c B.U B.locs B.cells B.slots ∧ Post ⟨T.setVm vm₁, locs, cells, slots⟩ argsL.toArray v B ∧
      ∀ target, Steps p.tables e below (B.U.setTop { g with pc := g.pc + 3, stack := v.toList ++ rest }) target → Steps p.tables e below (T.setTop g) target := by
  obtain ⟨mk, methM, cM, hnamed, hmethM, -, -, -, -, -, -, hsigM⟩ := Cond.codeWith_spec hcode
  have hstatic : methM.isStatic = true := Cond.static_spec hnamed hmethM hstat
  obtain ⟨kP, hkP, -⟩ := className_of_methodNamed hnamed
  have hinitP : kP.init = .initialized := Cond.initialized_spec (findClass_of_methodNamed hnamed) hkP hinit
  obtain ⟨vm₁, X₁, hstep₁⟩ := X.invokestatic hexec hown hlink hnamed hmethM hstatic hkP hinitP hy (g := g) hg (argsL := argsL) (rest := rest) (hlen _ hsigM) hstack hdg
  obtain ⟨v, B, X', hpost, hsteps⟩ := hK m meth c ⟨T.setVm vm₁, locs, cells, slots⟩ { g with stack := rest } (.invokestatic index) mk argsL.toArray X₁ hg hsize hdg hW (X₁.named hnamed) (hpre vm₁ X₁.warmed)
  exact ⟨v, vm₁, B, X₁.warmed, X', hpost, fun target h => hstep₁ _ fun acts => by rw [doInvoke_state]; exact hsteps.trans h⟩
theorem vx_runSW {y : MethodName} {bytes cc : ByteArray} {maxL nL mc ms n index : Nat} {ret : Option FieldType} {hh : List (Nat × Nat × Nat × Nat)} {ws : List Cond} {rm : Room} {Pc : Array Value → State → Prop} {Qc : Array Value → State → Outcome → State → Prop} {free : Addr → Prop} {Ts : List Cond} {own : String} {As rest : List Value} {g : JFrame}
    (S : CallFix p m c cc nL s args Ts own) (hM : Met l y ws rm Pc Qc mc ms free) (cw : vx_CSW R s args own index y bytes maxL ret hh ws rm mc ms n) (hp : PreS s H Pc As)
    (hg : g.method = m) (hn : As.length = n) (hsize : g.locals.size = nL) (hstack : g.stack = As.reverse ++ rest) (hW : 2 * g.monitorRoom + (rest.map fun v => v.category).sum ≤ 8) (hdg : decode cc g.pc = .ok (.invokestatic index, 3)) (hf : cells + mc ≤ R.cells ∧ slots + ms ≤ R.slots) :
    va_Run p l e R s m args below meth c H locs cells slots mc ms g rest (Qc As.toArray) (free) := by
  obtain ⟨⟨hrc, hrs, hfr, hlo, hws, hcw⟩, hcode, hini, hy, hlen, hl, hstt⟩ := cw
  have hK : Back l R p e below s args y 3 8 (PreOf R mc ms Pc) (PostOf Qc mc ms free) := va_backW (hh := hh) (bytes := bytes) (maxL := maxL) (ret := ret) hM hp.1 hrc hrs hfr hlo hws hcw (fun a' U hW => word_at hW (Or.inl (by first | rfl | simp [Cond.onTables, Cond.keeps, Cond.steady])) hini)
  obtain ⟨hx, hb, hml, ho, -⟩ := S
  intro T hT X
  obtain ⟨v, vm₁, ⟨U', l2, c2, s2⟩, hW₁, X', ⟨g', mk, t, L, e1, e2, hq, h1, hL, h2, h3⟩, st⟩ := vx_callSW X hx (hh := hh) (bytes := bytes) (maxL := maxL) (ret := ret) ho hl hstt hini hcode hy hK hg (hsize.trans hml.symm) (argsL := As) (rest := rest) (fun sig h => hn.trans (hlen sig h)) hstack hW (by rw [hb]; exact hdg)
    (fun vm₁ hW₁ => ⟨hf.1, hf.2, hp.2 (T.setVm vm₁) hT hW₁⟩)
  dsimp only [Pt.U, Pt.locs, Pt.cells, Pt.slots] at X' e1 e2 h1 h2 h3 st
  subst h1; subst h2; subst h3
  exact ⟨v, (T.setVm vm₁).calling g' mk As.toArray, t, U', L, hT, X', hL, e1, e2, hq, st⟩
/-- not caught here, past rows that name other classes: it goes on to the caller -/
theorem vx_outP {p : Program} {l : Launch} {e : Env} {R : Room} {s : State} {m : MethodId} {args : Array Value} {below : List Frame} {meth : Method} {c : Code} {H : Heap} {locs : List Loc} {cells slots : Nat} {free : Addr → Prop} {ls : Array Slot} {rest : List Value} {Qc : Array Value → State → Outcome → State → Prop} {XC : String → State → State → Prop}
    {pc : Nat} {own E : String} {ce : Cell} {q : Addr} {mc ms : Nat} (hown : s.vm.findClass own = some m.cls) (hlocks : meth.locks = false)
    (hpass : ∀ z ∈ c.exceptionTable.toList, covers z pc = false ∨ (z.catchType ≠ 0 ∧ ∃ nm : String, (Cond.classLink own z.catchType nm).before args s = true ∧ va_Nc E nm s)) (hcell : H[q]? = some ce) (hv : ce.vm = .none) (hcl : s.vm.findClass E = some ce.cls)
    (hx : ∀ t : State, t.heap = H → s.vm.Alike t.vm → XC E s t) (hf : ∀ z ∈ locs, free z.base) (hc : cells ≤ mc) (hs : slots ≤ ms) :
    vx_W p l e R s m args below meth c H locs cells slots (vx_MQ below Qc XC args s mc ms free) (F0 m pc ls rest) q := by
  intro T hT X
  have hpl : e.platform.magicAccessors = ({} : Platform).magicAccessors := by rw [X.admits.platform]
  obtain ⟨vm', hW', X', st⟩ := X.outThrough hlocks q (g := F0 m pc ls rest) rfl rfl rfl (cell := ce) (by rw [hT]; exact hcell) (by rw [hv]; rfl)
    (by obtain ⟨k9, h9, -⟩ := Vm.findClass_spec hcl; exact ⟨k9, h9⟩) (fun z hz => by
      rcases hpass z hz with h | ⟨hz0, nm, hl1, hn1⟩
      · exact Or.inl h
      · obtain ⟨c6, hc6, hcl6⟩ := Cond.classLink_spec hown hl1 e.platform hpl
        obtain ⟨a8, b8, h1, h2, h3⟩ := hn1
        cases Option.some.inj (h1.symm.trans hcl)
        cases Option.some.inj (h2.symm.trans hc6)
        exact Or.inr ⟨hz0, _, hcl6, h3⟩)
  obtain ⟨g₀, hfr⟩ := X'.frames_eq
  have hcell9 : ((T.setVm vm').setFrames (.throwing q :: below)).heap[q]? = some ce := by
    show T.heap[q]? = some ce
    rw [hT]; exact hcell
  have hend : Ended ((T.setVm vm').setFrames (.throwing q :: below)) below (.threw q) := State.frames_setFrames _ (State.cur_lt_of_frames hfr)
  refine ⟨(T.setVm vm').setFrames (.throwing q :: below), ?_, .threw q, X'.here.running, hend, Or.inr ⟨q, rfl, E, ce, locs, hx _ hT (X'.ends _).1.alike, hcell9, hv, hcl, (X'.ends _).1, (X'.ends _).2.mono hc hs, hf⟩⟩
  rw [X.pushThrowing_eq]
  exact st
/-- a thing of a world lies in the heap -/
theorem vx_lt {D : va_G} {cl : List vw_C} {ws : va_W} {H1 : Heap} (h : va_P D cl ws H1) {k : Nat} {q : Nat × va_E} (hk : ws[k]? = some q) : q.1 < H1.size := (h k q hk).lt
end VXS
/-! ===== END ===== -/
/-! ===== BEGIN methods with a table of their own: called by a name, returning or throwing ===== -/
section VXH
/-! vx_backW, vx_callVX, vx_callSX, vx_callVW, vx_runVW, vx_runVX, vx_runSX, vx_ofWH follow the same proofs as their sisters above (Free/Laws.lean, Shelf42/LK1.lean); vx_outP calls Shelf42/NT130.lean (outThrough). -/
section
variable {l : Launch} {R : Room} {p : Program} {e : Env} {below : List Frame} {s : State} {sargs : Array Value} {y : MethodName} {len W9 : Nat}
theorem vx_backW {ws : List Cond} {rm : Room} {Pc : Array Value → State → Prop} {Qc : Array Value → State → Outcome → State → Prop} {XC : String → State → State → Prop} {mc ms : Nat} {free : Addr → Prop} {bytes : ByteArray} {maxL : Nat} {ret : Option FieldType} {hh : List (Nat × Nat × Nat × Nat)}
    (hM : vx_Met l y ws rm Pc Qc XC mc ms free) (hblind : FrameBlind Pc) (hrc : rm.cells = mc) (hrs : rm.slots = ms)
    (hframes : rm.frames + 1 ≤ R.frames) (hlocals : W9 + (maxL + 11) + rm.locals ≤ R.locals)
    (hws : ∀ w ∈ ws, ∀ a' U, s.WarmedH U.vm → w.before a' U = true) (hcode : Cond.codeWith y bytes maxL ret hh ∈ ws) (hinit : ∀ a' U, s.WarmedH U.vm → (Cond.initialized y.cls).before a' U = true) :
    vx_Back l R p e below s sargs y len W9 (PreOf R mc ms Pc) (PostOf Qc mc ms free) (vx_Post XC mc ms free) := by
  intro m meth c A g ig mk a X hg hsize hdg hW hn hp
  have h1 : (headSpec ws rm).pre.before a A.U = true := atoms_intro fun w hw => hws w hw _ _ X.warmed
  have h2 : (Cond.codeWith y bytes maxL ret hh).before a A.U = true := hws _ hcode _ _ X.warmed
  have h3 : (Cond.initialized y.cls).before a A.U = true := hinit _ _ X.warmed
  have h4 : A.cells + (headSpec ws rm).room.cells ≤ R.cells := by rw [show (headSpec ws rm).room.cells = mc from hrc]; exact hp.1
  have h5 : A.slots + (headSpec ws rm).room.slots ≤ R.slots := by rw [show (headSpec ws rm).room.slots = ms from hrs]; exact hp.2.1
  have hPc : Pc a (A.U.calling g mk a) := hblind _ _ _ _ hp.2.2
  obtain ⟨U, Ls, c0, s0⟩ := A
  dsimp only [Pt.U, Pt.locs, Pt.cells, Pt.slots] at h1 h2 h3 h4 h5 X hn hPc ⊢
  obtain ⟨m9, methY, cY, hn9, hmY, hcY, -, hlY, -⟩ := Cond.codeWith_spec h2
  cases Option.some.inj (hn9.symm.trans hn)
  obtain ⟨kY, hkY, -⟩ := className_of_methodNamed hn
  have hinitY : kY.init = .initialized := Cond.initialized_spec (findClass_of_methodNamed hn) hkY h3
  have h : At U g.method c below := by rw [hg]; exact X.here
  have hlocals9 : W9 + (maxL + 11) + (headSpec ws rm).room.locals ≤ R.locals := hlocals
  have happ : (headSpec ws rm).appliesLoose y e.platform (U.calling g mk a) = true :=
    Spec.appliesLoose_calling (g := g) h hdg hn hkY hinitY
      (X.room_calling (g := g) (R' := (headSpec ws rm).room) hsize hmY hcY hframes (by rw [hlY]; omega) h4 h5) h1
  obtain ⟨mid, hmid⟩ := h.above
  have hfr : (U.setTop g).frames = (.java g :: mid) ++ below := by rw [State.frames_setTop' g h.top, hmid]; rfl
  obtain ⟨o, s₂, hsteps, -, hend, hq⟩ := Steps.callFree hM p X.admits X.cas X.clock (acts := []) hfr happ hPc trivial
  have hq' : vx_Q Qc XC mc ms free a (U.calling g mk a) o s₂ := hq
  rw [State.frames_setTop' g h.top] at hend
  obtain ⟨g₀, hg0⟩ := Option.isSome_iff_exists.mp h.top
  obtain ⟨r, hr⟩ := State.topJava?_eq_some.mp hg0
  have hr' : (({ U with heap := s₂.heap, slotsUsed := s₂.slotsUsed } : State).setVm s₂.vm).frames = .java g₀ :: r := hr
  rcases hq' with ⟨hqc, L, hfe, hL⟩ | ⟨q, rfl, E, ce, L, hx, hce, hcv, hcl, hW₂, hsm, hL⟩
  · obtain ⟨⟨v, rfl⟩, hW₂, e2, q2, q3, q4, q5, q6⟩ := id hfe
    have e3 : s₂ = ({ (U.calling g mk a).setFrames s₂.frames with heap := s₂.heap, slotsUsed := s₂.slotsUsed } : State).setVm s₂.vm := by
      have : s₂ = ({ s₂ with vm := (U.calling g mk a).vm } : State).setVm s₂.vm := rfl
      rw [e2] at this
      exact this
    obtain ⟨c₂, i₂, len₂, hc₂, hd₂, hf₂⟩ := hend
    have hW' : U.WarmedH s₂.vm := hW₂
    have hcc : c₂ = c := by
      have h1 : s₂.code? g.method = U.code? g.method := by
        rw [State.code?_eq, State.code?_eq, hW'.alike.method?]
      exact Option.some.inj (hc₂.symm.trans (h1.trans h.code))
    subst hcc
    have hlen : len₂ = len := by rw [hdg] at hd₂; cases hd₂; rfl
    subst hlen
    have hs₂ : s₂ = (({ U with heap := s₂.heap, slotsUsed := s₂.slotsUsed } : State).setVm s₂.vm).setTop { g with pc := g.pc + len₂, stack := v.toList ++ g.stack } := by
      refine e3.trans ?_
      rw [hf₂, State.calling_eq h.top, State.setFrames_setFrames, State.setTop_of_frames _ hr', hr]
      rfl
    have hsame : U.sameButNew ({ U with heap := s₂.heap, slotsUsed := s₂.slotsUsed } : State) L mc ms := by
      refine ⟨?_, q2, q3, q4, q5, q6⟩
      obtain ⟨t, ht, -⟩ := State.frames_cons hr
      show ({ U with heap := s₂.heap, slotsUsed := s₂.slotsUsed } : State) = { U.setFrames U.frames with heap := s₂.heap, slotsUsed := s₂.slotsUsed }
      rw [State.setFrames_self ht]
    subst hg
    refine Or.inl ⟨v, ⟨(({ U with heap := s₂.heap, slotsUsed := s₂.slotsUsed } : State).setVm s₂.vm), Ls ++ L, c0 + mc, s0 + ms⟩,
      ⟨X.admits, X.cas, X.clock, X.frames, X.room, X.hears, X.method, X.code, (X.here.setHeapUsed s₂.heap s₂.slotsUsed).setVm hW'.alike, X.tail, State.WarmedH.trans X.warmed hW', X.limits, X.bytes, X.same.trans (hsame.setVm s.vm)⟩,
      ⟨g, mk, s₂, L, rfl, rfl, hqc, rfl, hL, rfl, rfl⟩, ?_⟩
    show Steps p.tables e below _ ((({ U with heap := s₂.heap, slotsUsed := s₂.slotsUsed } : State).setVm s₂.vm).setTop { g with pc := g.pc + len₂, stack := v.toList ++ g.stack })
    rw [← hs₂]
    exact hsteps
  · obtain ⟨e2, q2, q3, q4, q5, q6⟩ := id hsm
    have e3 : s₂ = ({ (U.calling g mk a).setFrames s₂.frames with heap := s₂.heap, slotsUsed := s₂.slotsUsed } : State).setVm s₂.vm := by
      have : s₂ = ({ s₂ with vm := (U.calling g mk a).vm } : State).setVm s₂.vm := rfl
      rw [e2] at this
      exact this
    have hf₂ : s₂.frames = .throwing q :: .java g :: U.frames.tail := hend
    have hW' : U.WarmedH s₂.vm := hW₂
    have hs₂ : s₂ = ((({ U with heap := s₂.heap, slotsUsed := s₂.slotsUsed } : State).setVm s₂.vm).setTop g).pushFrame (.throwing q) := by
      refine e3.trans ?_
      rw [hf₂, State.calling_eq h.top, State.setFrames_setFrames, State.pushFrame, State.frames_setTop _ hr', State.setTop_of_frames _ hr', State.setFrames_setFrames, hr]
      rfl
    have hsame : U.sameButNew ({ U with heap := s₂.heap, slotsUsed := s₂.slotsUsed } : State) L mc ms := by
      refine ⟨?_, q2, q3, q4, q5, q6⟩
      obtain ⟨t, ht, -⟩ := State.frames_cons hr
      show ({ U with heap := s₂.heap, slotsUsed := s₂.slotsUsed } : State) = { U.setFrames U.frames with heap := s₂.heap, slotsUsed := s₂.slotsUsed }
      rw [State.setFrames_self ht]
    subst hg
    refine Or.inr ⟨q, ⟨(({ U with heap := s₂.heap, slotsUsed := s₂.slotsUsed } : State).setVm s₂.vm), Ls ++ L, c0 + mc, s0 + ms⟩,
      ⟨X.admits, X.cas, X.clock, X.frames, X.room, X.hears, X.method, X.code, (X.here.setHeapUsed s₂.heap s₂.slotsUsed).setVm hW'.alike, X.tail, State.WarmedH.trans X.warmed hW', X.limits, X.bytes, X.same.trans (hsame.setVm s.vm)⟩,
      ⟨g, mk, s₂, L, E, ce, rfl, rfl, hx, hce, hcv, hcl, rfl, hL, rfl, rfl⟩, ?_⟩
    show Steps p.tables e below _ (((({ U with heap := s₂.heap, slotsUsed := s₂.slotsUsed } : State).setVm s₂.vm).setTop g).pushFrame (.throwing q))
    rw [← hs₂]
    exact hsteps
end
variable {p : Program} {l : Launch} {e : Env} {R : Room} {s : State} {m : MethodId} {args : Array Value} {below : List Frame} {meth : Method} {c : Code} {T : State} {H : Heap} {locs : List Loc} {cells slots : Nat}
theorem vx_callVX (X : Stand p l e R s m args below meth c T locs cells slots) (hexec : p.tables.exec = Jvm.exec) {own C : String} {index : Nat} {y : MethodName} {bytes : ByteArray} {maxL : Nat} {ret : Option FieldType} {hh : List (Nat × Nat × Nat × Nat)}
    (hown : s.vm.findClass own = some m.cls) (hlink : (Cond.methodLink own index y).before args s = true) (hinst : (Cond.instanceMethod y).before args s = true) (hsel : (Cond.selects C y y).before args s = true)
    (hcode : (Cond.codeWith y bytes maxL ret hh).before args s = true) (hy : y.cls ≠ "java/lang/invoke/MethodHandle" ∧ y.cls ≠ "java/lang/invoke/VarHandle")
    {W9 : Nat} {Pre : Pt → Array Value → Prop} {Post : Pt → Array Value → Option Value → Pt → Prop} {PostX : Pt → Array Value → Addr → Pt → Prop} (hK : vx_Back l R p e below s args y 3 W9 Pre Post PostX)
    {b : Addr} {cellB : Cell} (hcell : T.heap[b]? = some cellB) (hobj : cellB.vm.isStatics = false) (hcls : s.vm.findClass C = some cellB.cls)
    {g : JFrame} (hg : g.method = m) (hsize : g.locals.size = c.maxLocals) {argsL rest : List Value} (hlen : ∀ sig, parseMethodDescriptor y.desc = some sig → argsL.length = sig.parameters.length)
    (hstack : g.stack = argsL.reverse ++ .ref b :: rest) (hW : 2 * g.monitorRoom + (rest.map fun v => v.category).sum ≤ W9) (hdg : decode c.code g.pc = .ok (.invokevirtual index, 3))
    (hpre : ∀ vm₁, s.WarmedH vm₁ → Pre ⟨T.setVm vm₁, locs, cells, slots⟩ (Value.ref b :: argsL).toArray) :
    (∃ (v : Option Value) (vm₁ : Vm) (B : Pt), s.WarmedH vm₁ ∧ Stand p l e R s m args below meth c B.U B.locs B.cells B.slots ∧ Post ⟨T.setVm vm₁, locs, cells, slots⟩ (Value.ref b :: argsL).toArray v B ∧
      ∀ target, Steps p.tables e below (B.U.setTop { g with pc := g.pc + 3, stack := v.toList ++ rest }) target → Steps p.tables e below (T.setTop g) target) ∨
    (∃ (q : Addr) (vm₁ : Vm) (B : Pt), s.WarmedH vm₁ ∧ Stand p l e R s m args below meth c B.U B.locs B.cells B.slots ∧ PostX ⟨T.setVm vm₁, locs, cells, slots⟩ (Value.ref b :: argsL).toArray q B ∧
      Steps p.tables e below (T.setTop g) ((B.U.setTop { g with stack := rest }).pushFrame (.throwing q))) := by
  obtain ⟨mk, methM, hnamed, hmethM, hstM, habM⟩ := Cond.instanceMethod_spec hinst
  obtain ⟨m8, methM', cM, hn8, hmethM', -, -, -, -, -, -, hsigM⟩ := Cond.codeWith_spec hcode
  cases Option.some.inj (hn8.symm.trans hnamed)
  cases hmethM.symm.trans hmethM'
  obtain ⟨c2, r2, m2, q1, q2, q3, q4, kP, hkP, hkPi⟩ := Cond.selects_spec hsel
  cases hcls.symm.trans q1
  cases (State.methodFound?_of_named hnamed hy).symm.trans q2
  cases hnamed.symm.trans q3
  have hselP : selectMethod e.platform s.vm cellB.cls mk = .method mk := by rw [Launch.admits_selectMethod X.admits]; exact q4
  obtain ⟨vm₁, X₁, hstep₁⟩ := X.invokevirtual hexec hown hlink hnamed hmethM hstM hkP hkPi hy (a := b) (cell := cellB) hcell
    (fun z h => by rw [h] at hobj; cases hobj) hselP hmethM habM hkP hkPi (g := g) hg (argsL := argsL) (rest := rest) (hlen _ hsigM) hstack hdg
  rcases hK m meth c ⟨T.setVm vm₁, locs, cells, slots⟩ { g with stack := rest } (.invokevirtual index) mk (Value.ref b :: argsL).toArray X₁ hg hsize hdg hW (X₁.named hnamed) (hpre vm₁ X₁.warmed) with ⟨v, B, X', hpost, hsteps⟩ | ⟨q, B, X', hpost, hsteps⟩
  · exact Or.inl ⟨v, vm₁, B, X₁.warmed, X', hpost, fun target h => hstep₁ _ fun acts => by rw [doInvoke_state]; exact hsteps.trans h⟩
  · exact Or.inr ⟨q, vm₁, B, X₁.warmed, X', hpost, hstep₁ _ fun acts => by rw [doInvoke_state]; exact hsteps⟩
theorem vx_callSX (X : Stand p l e R s m args below meth c T locs cells slots) (hexec : p.tables.exec = Jvm.exec) {own : String} {index : Nat} {y : MethodName} {bytes : ByteArray} {maxL : Nat} {ret : Option FieldType} {hh : List (Nat × Nat × Nat × Nat)}
    (hown : s.vm.findClass own = some m.cls) (hlink : (Cond.methodLink own index y).before args s = true) (hstat : (Cond.static y).before args s = true) (hinit : (Cond.initialized y.cls).before args s = true)
    (hcode : (Cond.codeWith y bytes maxL ret hh).before args s = true) (hy : y.cls ≠ "java/lang/invoke/MethodHandle" ∧ y.cls ≠ "java/lang/invoke/VarHandle")
    {W9 : Nat} {Pre : Pt → Array Value → Prop} {Post : Pt → Array Value → Option Value → Pt → Prop} {PostX : Pt → Array Value → Addr → Pt → Prop} (hK : vx_Back l R p e below s args y 3 W9 Pre Post PostX)
    {g : JFrame} (hg : g.method = m) (hsize : g.locals.size = c.maxLocals) {argsL rest : List Value} (hlen : ∀ sig, parseMethodDescriptor y.desc = some sig → argsL.length = sig.parameters.length)
    (hstack : g.stack = argsL.reverse ++ rest) (hW : 2 * g.monitorRoom + (rest.map fun v => v.category).sum ≤ W9) (hdg : decode c.code g.pc = .ok (.invokestatic index, 3))
    (hpre : ∀ vm₁, s.WarmedH vm₁ → Pre ⟨T.setVm vm₁, locs, cells, slots⟩ argsL.toArray) :
    (∃ (v : Option Value) (vm₁ : Vm) (B : Pt), s.WarmedH vm₁ ∧ Stand p l e R s m args below meth c B.U B.locs B.cells B.slots ∧ Post ⟨T.setVm vm₁, locs, cells, slots⟩ argsL.toArray v B ∧
      ∀ target, Steps p.tables e below (B.U.setTop { g with pc := g.pc + 3, stack := v.toList ++ rest }) target → Steps p.tables e below (T.setTop g) target) ∨
    (∃ (q : Addr) (vm₁ : Vm) (B : Pt), s.WarmedH vm₁ ∧ Stand p l e R s m args below meth c B.U B.locs B.cells B.slots ∧ PostX ⟨T.setVm vm₁, locs, cells, slots⟩ argsL.toArray q B ∧
      Steps p.tables e below (T.setTop g) ((B.U.setTop { g with stack := rest }).pushFrame (.throwing q))) := by
  obtain ⟨mk, methM, cM, hnamed, hmethM, -, -, -, -, -, -, hsigM⟩ := Cond.codeWith_spec hcode
  have hstatic : methM.isStatic = true := Cond.static_spec hnamed hmethM hstat
  obtain ⟨kP, hkP, -⟩ := className_of_methodNamed hnamed
  have hinitP : kP.init = .initialized := Cond.initialized_spec (findClass_of_methodNamed hnamed) hkP hinit
  obtain ⟨vm₁, X₁, hstep₁⟩ := X.invokestatic hexec hown hlink hnamed hmethM hstatic hkP hinitP hy (g := g) hg (argsL := argsL) (rest := rest) (hlen _ hsigM) hstack hdg
  rcases hK m meth c ⟨T.setVm vm₁, locs, cells, slots⟩ { g with stack := rest } (.invokestatic index) mk argsL.toArray X₁ hg hsize hdg hW (X₁.named hnamed) (hpre vm₁ X₁.warmed) with ⟨v, B, X', hpost, hsteps⟩ | ⟨q, B, X', hpost, hsteps⟩
  · exact Or.inl ⟨v, vm₁, B, X₁.warmed, X', hpost, fun target h => hstep₁ _ fun acts => by rw [doInvoke_state]; exact hsteps.trans h⟩
  · exact Or.inr ⟨q, vm₁, B, X₁.warmed, X', hpost, hstep₁ _ fun acts => by rw [doInvoke_state]; exact hsteps⟩
theorem vx_callVW (X : Stand p l e R s m args below meth c T locs cells slots) (hexec : p.tables.exec = Jvm.exec) {own C : String} {index : Nat} {y : MethodName} {bytes : ByteArray} {maxL : Nat} {ret : Option FieldType} {hh : List (Nat × Nat × Nat × Nat)}
    (hown : s.vm.findClass own = some m.cls) (hlink : (Cond.methodLink own index y).before args s = true) (hinst : (Cond.instanceMethod y).before args s = true) (hsel : (Cond.selects C y y).before args s = true)
    (hcode : (Cond.codeWith y bytes maxL ret hh).before args s = true) (hy : y.cls ≠ "java/lang/invoke/MethodHandle" ∧ y.cls ≠ "java/lang/invoke/VarHandle")
    {W9 : Nat} {Pre : Pt → Array Value → Prop} {Post : Pt → Array Value → Option Value → Pt → Prop} (hK : Back l R p e below s args y 3 W9 Pre Post)
    {b : Addr} {cellB : Cell} (hcell : T.heap[b]? = some cellB) (hobj : cellB.vm.isStatics = false) (hcls : s.vm.findClass C = some cellB.cls)
    {g : JFrame} (hg : g.method = m) (hsize : g.locals.size = c.maxLocals) {argsL rest : List Value} (hlen : ∀ sig, parseMethodDescriptor y.desc = some sig → argsL.length = sig.parameters.length)
    (hstack : g.stack = argsL.reverse ++ .ref b :: rest) (hW : 2 * g.monitorRoom + (rest.map fun v => v.category).sum ≤ W9) (hdg : decode c.code g.pc = .ok (.invokevirtual index, 3))
    (hpre : ∀ vm₁, s.WarmedH vm₁ → Pre ⟨T.setVm vm₁, locs, cells, slots⟩ (Value.ref b :: argsL).toArray) :
    ∃ (v : Option Value) (vm₁ : Vm) (B : Pt), s.WarmedH vm₁ ∧ Stand p l e R s m args below meth c B.U B.locs B.cells B.slots ∧ Post ⟨T.setVm vm₁, locs, cells, slots⟩ (Value.ref b :: argsL).toArray v B ∧
      ∀ target, Steps p.tables e below (B.U.setTop { g with pc := g.pc + 3, stack := v.toList ++ rest }) target → Steps p.tables e below (T.setTop g) target := by
  obtain ⟨mk, methM, hnamed, hmethM, hstM, habM⟩ := Cond.instanceMethod_spec hinst
  obtain ⟨m8, methM', cM, hn8, hmethM', -, -, -, -, -, -, hsigM⟩ := Cond.codeWith_spec hcode
  cases Option.some.inj (hn8.symm.trans hnamed)
  cases hmethM.symm.trans hmethM'
  obtain ⟨c2, r2, m2, q1, q2, q3, q4, kP, hkP, hkPi⟩ := Cond.selects_spec hsel
  cases hcls.symm.trans q1
  cases (State.methodFound?_of_named hnamed hy).symm.trans q2
  cases hnamed.symm.trans q3
  have hselP : selectMethod e.platform s.vm cellB.cls mk = .method mk := by rw [Launch.admits_selectMethod X.admits]; exact q4
  obtain ⟨vm₁, X₁, hstep₁⟩ := X.invokevirtual hexec hown hlink hnamed hmethM hstM hkP hkPi hy (a := b) (cell := cellB) hcell
    (fun z h => by rw [h] at hobj; cases hobj) hselP hmethM habM hkP hkPi (g := g) hg (argsL := argsL) (rest := rest) (hlen _ hsigM) hstack hdg
  obtain ⟨v, B, X', hpost, hsteps⟩ := hK m meth c ⟨T.setVm vm₁, locs, cells, slots⟩ { g with stack := rest } (.invokevirtual index) mk (Value.ref b :: argsL).toArray X₁ hg hsize hdg hW (X₁.named hnamed) (hpre vm₁ X₁.warmed)
  exact ⟨v, vm₁, B, X₁.warmed, X', hpost, fun target h => hstep₁ _ fun acts => by rw [doInvoke_state]; exact hsteps.trans h⟩
abbrev vx_CVW (R : Room) (s : State) (args : Array Value) (own C : String) (index : Nat) (y : MethodName) (bytes : ByteArray) (maxL : Nat) (ret : Option FieldType) (hh : List (Nat × Nat × Nat × Nat)) (ws : List Cond) (rm : Room) (mc ms n : Nat) : Prop :=
  (rm.cells = mc ∧ rm.slots = ms ∧ rm.frames + 1 ≤ R.frames ∧ 8 + (maxL + 11) + rm.locals ≤ R.locals ∧ (∀ w ∈ ws, ∀ (a' : Array Value) (U : State), s.WarmedH U.vm → w.before a' U = true) ∧ Cond.codeWith y bytes maxL ret hh ∈ ws) ∧
  (Cond.codeWith y bytes maxL ret hh).before args s = true ∧ (Cond.initialized y.cls).before args s = true ∧ (y.cls ≠ "java/lang/invoke/MethodHandle" ∧ y.cls ≠ "java/lang/invoke/VarHandle") ∧
  (∀ sig, parseMethodDescriptor y.desc = some sig → n = sig.parameters.length) ∧ (Cond.methodLink own index y).before args s = true ∧ (Cond.instanceMethod y).before args s = true ∧ (Cond.selects C y y).before args s = true
theorem vx_cwVW {own C : String} {index maxL mc ms : Nat} {y : MethodName} {bytes : ByteArray} {ret : Option FieldType} {hh : List (Nat × Nat × Nat × Nat)} {Ts ws ws' : List Cond} {rm : Room} (n : Nat) (ht : ∀ w ∈ Ts, w.before args s = true) (hT : GoodIn Ts (wsV own index C y ws)) (hw : ws = Cond.codeWith y bytes maxL ret hh :: ws') (hrc : rm.cells = mc) (hrs : rm.slots = ms)
    (hd : y.cls = C ∧ y.cls ≠ "java/lang/invoke/MethodHandle" ∧ y.cls ≠ "java/lang/invoke/VarHandle" ∧ (parseMethodDescriptor y.desc).map (fun d => d.parameters.length) = some n) (hR : rm.frames + 1 ≤ R.frames ∧ 8 + (maxL + 11) + rm.locals ≤ R.locals) :
    vx_CVW R s args own C index y bytes maxL ret hh ws rm mc ms n := by
  obtain ⟨hC, hd⟩ := hd
  subst hC
  have ok : ∀ w ∈ wsV own index y.cls y ws, w.before args s = true := fun w h => ht w (hT w h).1
  have hG : GoodIn Ts ws := fun w h => hT w (by unfold wsV; exact List.mem_append_right _ h)
  have hc : Cond.codeWith y bytes maxL ret hh ∈ ws := by rw [hw]; exact List.mem_cons_self
  refine ⟨⟨hrc, hrs, hR.1, hR.2, pay_in ht hG, hc⟩, ht _ (hG _ hc).1, ok _ (by simp [wsV]), ⟨hd.1, hd.2.1⟩, fun sig h => ?_, ok _ (by simp [wsV]), ok _ (by simp [wsV]), ok _ (by simp [wsV])⟩
  have h2 := hd.2.2
  rw [h] at h2
  exact (Option.some.inj h2).symm
theorem vx_runVW {y : MethodName} {bytes cc : ByteArray} {maxL nL mc ms n index : Nat} {ret : Option FieldType} {hh : List (Nat × Nat × Nat × Nat)} {ws : List Cond} {rm : Room} {Pc : Array Value → State → Prop} {Qc : Array Value → State → Outcome → State → Prop} {free : Addr → Prop} {Ts : List Cond} {own C : String} {b : Addr} {As rest : List Value} {g : JFrame}
    (S : CallFix p m c cc nL s args Ts own) (hM : Met l y ws rm Pc Qc mc ms free) (cw : vx_CVW R s args own C index y bytes maxL ret hh ws rm mc ms n) (hp : PreV s H C b Pc As)
    (hg : g.method = m) (hn : As.length = n) (hsize : g.locals.size = nL) (hstack : g.stack = As.reverse ++ .ref b :: rest) (hW : 2 * g.monitorRoom + (rest.map fun v => v.category).sum ≤ 8) (hdg : decode cc g.pc = .ok (.invokevirtual index, 3)) (hf : cells + mc ≤ R.cells ∧ slots + ms ≤ R.slots) :
    va_Run p l e R s m args below meth c H locs cells slots mc ms g rest (Qc (Value.ref b :: As).toArray) free := by
  obtain ⟨⟨hrc, hrs, hfr, hlo, hws, hcw⟩, hcode, hini, hy, hlen, hl, hin, hse⟩ := cw
  have hK : Back l R p e below s args y 3 8 (PreOf R mc ms Pc) (PostOf Qc mc ms free) := va_backW (hh := hh) (bytes := bytes) (maxL := maxL) (ret := ret) hM hp.1 hrc hrs hfr hlo hws hcw (fun a' U hW => word_at hW (Or.inl (by first | rfl | simp [Cond.onTables, Cond.keeps, Cond.steady])) hini)
  obtain ⟨hx, hb, hml, ho, -⟩ := S
  obtain ⟨-, ⟨cellB, hcB, hoB, hclB⟩, hPc⟩ := hp
  intro T hT X
  obtain ⟨v, vm₁, ⟨U', l2, c2, s2⟩, hW₁, X', ⟨g', mk, t, L, e1, e2, hq, h1, hL, h2, h3⟩, st⟩ := vx_callVW X hx (C := C) (hh := hh) (bytes := bytes) (maxL := maxL) (ret := ret) ho hl hin hse hcode hy hK (by rw [hT]; exact hcB) hoB hclB hg (hsize.trans hml.symm) (argsL := As) (rest := rest) (fun sig h => hn.trans (hlen sig h)) hstack hW (by rw [hb]; exact hdg)
    (fun vm₁ hW₁ => ⟨hf.1, hf.2, hPc (T.setVm vm₁) hT hW₁⟩)
  dsimp only [Pt.U, Pt.locs, Pt.cells, Pt.slots] at X' e1 e2 h1 h2 h3 st
  subst h1; subst h2; subst h3
  exact ⟨v, (T.setVm vm₁).calling g' mk (Value.ref b :: As).toArray, t, U', L, hT, X', hL, e1, e2, hq, st⟩
section
variable {y : MethodName} {bytes cc : ByteArray} {maxL nL mc ms n index : Nat} {ret : Option FieldType} {ws : List Cond} {rm : Room} {Pc : Array Value → State → Prop} {Qc : Array Value → State → Outcome → State → Prop} {XC : String → State → State → Prop} {free : Addr → Prop} {Ts : List Cond} {own C : String} {b : Addr} {As rest : List Value} {g : JFrame}
theorem vx_runVX {hh : List (Nat × Nat × Nat × Nat)} (S : CallFix p m c cc nL s args Ts own) (hM : vx_Met l y ws rm Pc Qc XC mc ms free) (cw : vx_CVW R s args own C index y bytes maxL ret hh ws rm mc ms n) (hp : PreV s H C b Pc As)
    (hg : g.method = m) (hn : As.length = n) (hsize : g.locals.size = nL) (hstack : g.stack = As.reverse ++ .ref b :: rest) (hW : 2 * g.monitorRoom + (rest.map fun v => v.category).sum ≤ 8) (hdg : decode cc g.pc = .ok (.invokevirtual index, 3)) (hf : cells + mc ≤ R.cells ∧ slots + ms ≤ R.slots) :
    vx_Run p l e R s m args below meth c H locs cells slots mc ms g rest (Qc (Value.ref b :: As).toArray) XC free := by
  obtain ⟨⟨hrc, hrs, hfr, hlo, hws, hcw⟩, hcode, hini, hy, hlen, hl, hin, hse⟩ := cw
  have hK : vx_Back l R p e below s args y 3 8 (PreOf R mc ms Pc) (PostOf Qc mc ms free) (vx_Post XC mc ms free) := vx_backW (hh := hh) (bytes := bytes) (maxL := maxL) (ret := ret) hM hp.1 hrc hrs hfr hlo hws hcw (fun a' U hW => word_at hW (Or.inl (by first | rfl | simp [Cond.onTables, Cond.keeps, Cond.steady])) hini)
  obtain ⟨hx, hb, hml, ho, -⟩ := S
  obtain ⟨-, ⟨cellB, hcB, hoB, hclB⟩, hPc⟩ := hp
  intro T hT X
  rcases vx_callVX X hx (C := C) (hh := hh) (bytes := bytes) (maxL := maxL) (ret := ret) ho hl hin hse hcode hy hK (by rw [hT]; exact hcB) hoB hclB hg (hsize.trans hml.symm) (argsL := As) (rest := rest) (fun sig h => hn.trans (hlen sig h)) hstack hW (by rw [hb]; exact hdg)
    (fun vm₁ hW₁ => ⟨hf.1, hf.2, hPc (T.setVm vm₁) hT hW₁⟩) with ⟨v, vm₁, ⟨U', l2, c2, s2⟩, hW₁, X', ⟨g', mk, t, L, e1, e2, hq, h1, hL, h2, h3⟩, st⟩ | ⟨q, vm₁, ⟨U', l2, c2, s2⟩, hW₁, X', ⟨g', mk, t, L, E, ce, e1, e2, hq, hce, hcv, hcl, h1, hL, h2, h3⟩, st⟩
  · dsimp only [Pt.U, Pt.locs, Pt.cells, Pt.slots] at X' e1 e2 h1 h2 h3 st
    subst h1; subst h2; subst h3
    exact Or.inl ⟨v, (T.setVm vm₁).calling g' mk (Value.ref b :: As).toArray, t, U', L, hT, X', hL, e1, e2, hq, st⟩
  · dsimp only [Pt.U, Pt.locs, Pt.cells, Pt.slots] at X' e1 e2 h1 h2 h3 st hcl
    subst h1; subst h2; subst h3
    exact Or.inr ⟨q, (T.setVm vm₁).calling g' mk (Value.ref b :: As).toArray, t, U', L, E, ce, hT, X', hL, e1, e2, hq, hce, hcv, vx_cls hW₁ hcl, st⟩
theorem vx_runSX {hh : List (Nat × Nat × Nat × Nat)} (S : CallFix p m c cc nL s args Ts own) (hM : vx_Met l y ws rm Pc Qc XC mc ms free) (cw : vx_CSW R s args own index y bytes maxL ret hh ws rm mc ms n) (hp : PreS s H Pc As)
    (hg : g.method = m) (hn : As.length = n) (hsize : g.locals.size = nL) (hstack : g.stack = As.reverse ++ rest) (hW : 2 * g.monitorRoom + (rest.map fun v => v.category).sum ≤ 8) (hdg : decode cc g.pc = .ok (.invokestatic index, 3)) (hf : cells + mc ≤ R.cells ∧ slots + ms ≤ R.slots) :
    vx_Run p l e R s m args below meth c H locs cells slots mc ms g rest (Qc As.toArray) XC free := by
  obtain ⟨⟨hrc, hrs, hfr, hlo, hws, hcw⟩, hcode, hini, hy, hlen, hl, hstt⟩ := cw
  have hK : vx_Back l R p e below s args y 3 8 (PreOf R mc ms Pc) (PostOf Qc mc ms free) (vx_Post XC mc ms free) := vx_backW (hh := hh) (bytes := bytes) (maxL := maxL) (ret := ret) hM hp.1 hrc hrs hfr hlo hws hcw (fun a' U hW => word_at hW (Or.inl (by first | rfl | simp [Cond.onTables, Cond.keeps, Cond.steady])) hini)
  obtain ⟨hx, hb, hml, ho, -⟩ := S
  intro T hT X
  rcases vx_callSX X hx (hh := hh) (bytes := bytes) (maxL := maxL) (ret := ret) ho hl hstt hini hcode hy hK hg (hsize.trans hml.symm) (argsL := As) (rest := rest) (fun sig h => hn.trans (hlen sig h)) hstack hW (by rw [hb]; exact hdg)
    (fun vm₁ hW₁ => ⟨hf.1, hf.2, hp.2 (T.setVm vm₁) hT hW₁⟩) with ⟨v, vm₁, ⟨U', l2, c2, s2⟩, hW₁, X', ⟨g', mk, t, L, e1, e2, hq, h1, hL, h2, h3⟩, st⟩ | ⟨q, vm₁, ⟨U', l2, c2, s2⟩, hW₁, X', ⟨g', mk, t, L, E, ce, e1, e2, hq, hce, hcv, hcl, h1, hL, h2, h3⟩, st⟩
  · dsimp only [Pt.U, Pt.locs, Pt.cells, Pt.slots] at X' e1 e2 h1 h2 h3 st
    subst h1; subst h2; subst h3
    exact Or.inl ⟨v, (T.setVm vm₁).calling g' mk As.toArray, t, U', L, hT, X', hL, e1, e2, hq, st⟩
  · dsimp only [Pt.U, Pt.locs, Pt.cells, Pt.slots] at X' e1 e2 h1 h2 h3 st hcl
    subst h1; subst h2; subst h3
    exact Or.inr ⟨q, (T.setVm vm₁).calling g' mk As.toArray, t, U', L, E, ce, hT, X', hL, e1, e2, hq, hce, hcv, vx_cls hW₁ hcl, st⟩
end
end VXH
theorem vx_ofWH {l : Launch} {y : MethodName} {ws ws' : List Cond} {rm : Room} {Pc : Array Value → State → Prop} {Qc : Array Value → State → Outcome → State → Prop} {XC : String → State → State → Prop} {mc ms : Nat} {free : Addr → Prop} {cc : ByteArray} {maxL : Nat} {ret : Option FieldType} {hh : List (Nat × Nat × Nat × Nat)}
    (hy : plainName y.cls = true) (hw : ws = Cond.codeWith y cc maxL ret hh :: ws')
    (body : ∀ p e s m args below meth c s₁, BodyLoose p l y (headSpec ws rm) cc maxL ret e s m args below meth c s₁ → c.maxLocals = maxL → Pc args s →
      W p l e (headSpec ws rm).room s m args below meth c s.heap [] 0 0 (vx_MQ below Qc XC args s mc ms free) (entryFrame m args maxL)) : vx_Met l y ws rm Pc Qc XC mc ms free := by
  refine MetFree.of_bodyS (code := cc) (maxLocals := maxL) (ret := ret) hy ?_ ?_
  · intro args s m h hn
    obtain ⟨m9, meth, c, hn9, h1, h2, h3, h4, -, h5, h6, -⟩ := Cond.codeWith_spec (atoms_spec (ws := ws) h _ (by rw [hw]; exact List.mem_cons_self))
    cases hn.symm.trans hn9
    exact ⟨meth, c, h1, h2, h3, h4, h5, h6⟩
  · intro p e s m args below meth c s₁ B hml hP _
    have hh0 : s₁.heap = s.heap := by rw [B.state]; rfl
    obtain ⟨t, a1, o, b1, b2, b3⟩ := body p e s m args below meth c s₁ B hml hP s₁ hh0 (Stand.of_body B)
    exact ⟨t, o, a1, b1, b2, b3⟩
/-! ===== END ===== -/
end
section
def RX0 : String := "MailPriory$Appeal"
def TX0 : u_T := fun k => match k with
  | 0 => ("MailPriory$Appeal", "chosenJurors", "I", true)
  | 1 => ("MailPriory$Appeal", "votersFor", "I", false)
  | 2 => ("MailPriory$Appeal", "votersAgainst", "I", false)
  | _ => ("MailPriory$Appeal", "isOpen", "Z", false)
def tyX0 : Nat → FieldType := fun k => match k with
  | 0 => .int
  | 1 => .int
  | 2 => .int
  | _ => .boolean
abbrev wsX00 : List Cond := u_ws RX0 TX0 4
theorem nmX0 : ∀ a, a < 4 → ∀ b, b < 4 → a ≠ b → (TX0 a).2.1 ≠ (TX0 b).2.1 := by decide +kernel
theorem tyX0_ok : ∀ k, k < 4 → parseFieldDescriptor (TX0 k).2.2.1 = some (tyX0 k) := by decide +kernel
abbrev cX0_init : ByteArray := prog_2_method_1_code
def yX0_init : MethodName := ⟨RX0, "<init>", "(I)V"⟩
abbrev cX0_awaitedJurors : ByteArray := prog_2_method_2_code
def yX0_awaitedJurors : MethodName := ⟨RX0, "awaitedJurors", "()I"⟩
abbrev cX0_takeVote : ByteArray := prog_2_method_3_code
def yX0_takeVote : MethodName := ⟨RX0, "takeVote", "(IZ)V"⟩
abbrev cX0_isDecided : ByteArray := prog_2_method_4_code
def yX0_isDecided : MethodName := ⟨RX0, "isDecided", "(Z)Z"⟩
def RX1 : String := "MailPriory$Mail"
def TX1 : u_T := fun k => match k with
  | 0 => ("MailPriory$Mail", "number", "I", true)
  | 1 => ("MailPriory$Mail", "sender", "I", true)
  | 2 => ("MailPriory$Mail", "list", "I", true)
  | 3 => ("MailPriory$Mail", "day", "LMailPriory$PostDay;", true)
  | 4 => ("MailPriory$Mail", "score", "I", true)
  | 5 => ("MailPriory$Mail", "cause", "I", true)
  | 6 => ("MailPriory$Mail", "lapseDay", "I", true)
  | 7 => ("MailPriory$Mail", "state", "I", false)
  | 8 => ("MailPriory$Mail", "reachedPersons", "I", false)
  | 9 => ("MailPriory$Mail", "digestLists", "I", false)
  | _ => ("MailPriory$Mail", "appeal", "LMailPriory$Appeal;", false)
def tyX1 : Nat → FieldType := fun k => match k with
  | 0 => .int
  | 1 => .int
  | 2 => .int
  | 3 => .object "MailPriory$PostDay"
  | 4 => .int
  | 5 => .int
  | 6 => .int
  | 7 => .int
  | 8 => .int
  | 9 => .int
  | _ => .object "MailPriory$Appeal"
abbrev wsX10 : List Cond := u_ws RX1 TX1 11
theorem nmX1 : ∀ a, a < 11 → ∀ b, b < 11 → a ≠ b → (TX1 a).2.1 ≠ (TX1 b).2.1 := by decide +kernel
theorem tyX1_ok : ∀ k, k < 11 → parseFieldDescriptor (TX1 k).2.2.1 = some (tyX1 k) := by decide +kernel
abbrev cX1_init : ByteArray := prog_3_method_1_code
def yX1_init : MethodName := ⟨RX1, "<init>", "(IIILMailPriory$PostDay;III)V"⟩
abbrev cX1_isHeldForScore : ByteArray := prog_3_method_2_code
def yX1_isHeldForScore : MethodName := ⟨RX1, "isHeldForScore", "()Z"⟩
abbrev cX1_isAppealOpen : ByteArray := prog_3_method_3_code
def yX1_isAppealOpen : MethodName := ⟨RX1, "isAppealOpen", "()Z"⟩
abbrev cX1_canLapse : ByteArray := prog_3_method_4_code
def yX1_canLapse : MethodName := ⟨RX1, "canLapse", "()Z"⟩
abbrev cX1_closeAppeal : ByteArray := prog_3_method_5_code
def yX1_closeAppeal : MethodName := ⟨RX1, "closeAppeal", "()V"⟩
abbrev cX1_isInDigest : ByteArray := prog_3_method_6_code
def yX1_isInDigest : MethodName := ⟨RX1, "isInDigest", "(II)Z"⟩
def RX2 : String := "MailPriory$MailList"
def TX2 : u_T := fun k => match k with
  | 0 => ("MailPriory$MailList", "lister", "I", true)
  | 1 => ("MailPriory$MailList", "members", "I", false)
  | 2 => ("MailPriory$MailList", "directMembers", "I", false)
  | 3 => ("MailPriory$MailList", "parts", "I", false)
  | 4 => ("MailPriory$MailList", "barred", "I", false)
  | 5 => ("MailPriory$MailList", "limit", "I", false)
  | 6 => ("MailPriory$MailList", "patience", "I", false)
  | _ => ("MailPriory$MailList", "isClosed", "Z", false)
def tyX2 : Nat → FieldType := fun k => match k with
  | 0 => .int
  | 1 => .int
  | 2 => .int
  | 3 => .int
  | 4 => .int
  | 5 => .int
  | 6 => .int
  | _ => .boolean
abbrev wsX20 : List Cond := u_ws RX2 TX2 8
theorem nmX2 : ∀ a, a < 8 → ∀ b, b < 8 → a ≠ b → (TX2 a).2.1 ≠ (TX2 b).2.1 := by decide +kernel
theorem tyX2_ok : ∀ k, k < 8 → parseFieldDescriptor (TX2 k).2.2.1 = some (tyX2 k) := by decide +kernel
abbrev cX2_init : ByteArray := prog_4_method_1_code
def yX2_init : MethodName := ⟨RX2, "<init>", "(I)V"⟩
abbrev cX2_hasMember : ByteArray := prog_4_method_2_code
def yX2_hasMember : MethodName := ⟨RX2, "hasMember", "(I)Z"⟩
abbrev cX2_memberMode : ByteArray := prog_4_method_3_code
def yX2_memberMode : MethodName := ⟨RX2, "memberMode", "(I)I"⟩
abbrev cX2_putMember : ByteArray := prog_4_method_4_code
def yX2_putMember : MethodName := ⟨RX2, "putMember", "(II)V"⟩
abbrev cX2_dropMember : ByteArray := prog_4_method_5_code
def yX2_dropMember : MethodName := ⟨RX2, "dropMember", "(I)V"⟩
def RX3 : String := "MailPriory$Person"
def TX3 : u_T := fun k => match k with
  | 0 => ("MailPriory$Person", "weight", "I", false)
  | 1 => ("MailPriory$Person", "votes", "I", false)
  | 2 => ("MailPriory$Person", "bounces", "I", false)
  | 3 => ("MailPriory$Person", "box", "[I", true)
  | _ => ("MailPriory$Person", "boxed", "I", false)
def tyX3 : Nat → FieldType := fun k => match k with
  | 0 => .int
  | 1 => .int
  | 2 => .int
  | 3 => .array .int
  | _ => .int
abbrev wsX30 : List Cond := u_ws RX3 TX3 5
theorem nmX3 : ∀ a, a < 5 → ∀ b, b < 5 → a ≠ b → (TX3 a).2.1 ≠ (TX3 b).2.1 := by decide +kernel
theorem tyX3_ok : ∀ k, k < 5 → parseFieldDescriptor (TX3 k).2.2.1 = some (tyX3 k) := by decide +kernel
abbrev cX3_init : ByteArray := prog_5_method_1_code
def yX3_init : MethodName := ⟨RX3, "<init>", "()V"⟩
abbrev cX3_hasRoom : ByteArray := prog_5_method_2_code
def yX3_hasRoom : MethodName := ⟨RX3, "hasRoom", "()Z"⟩
abbrev cX3_putIntoBox : ByteArray := prog_5_method_3_code
def yX3_putIntoBox : MethodName := ⟨RX3, "putIntoBox", "(I)V"⟩
abbrev cX3_takeFirst : ByteArray := prog_5_method_4_code
def yX3_takeFirst : MethodName := ⟨RX3, "takeFirst", "()I"⟩
def RX4 : String := "MailPriory$PostDay"
def TX4 : u_T := fun k => match k with
  | 0 => ("MailPriory$PostDay", "number", "I", true)
  | 1 => ("MailPriory$PostDay", "digestReaders", "[I", true)
  | 2 => ("MailPriory$PostDay", "editions", "[I", true)
  | 3 => ("MailPriory$PostDay", "lateLists", "I", false)
  | _ => ("MailPriory$PostDay", "isOver", "Z", false)
def tyX4 : Nat → FieldType := fun k => match k with
  | 0 => .int
  | 1 => .array .int
  | 2 => .array .int
  | 3 => .int
  | _ => .boolean
abbrev wsX40 : List Cond := u_ws RX4 TX4 5
theorem nmX4 : ∀ a, a < 5 → ∀ b, b < 5 → a ≠ b → (TX4 a).2.1 ≠ (TX4 b).2.1 := by decide +kernel
theorem tyX4_ok : ∀ k, k < 5 → parseFieldDescriptor (TX4 k).2.2.1 = some (tyX4 k) := by decide +kernel
abbrev cX4_init : ByteArray := prog_6_method_1_code
def yX4_init : MethodName := ⟨RX4, "<init>", "(I)V"⟩
abbrev cX4_hasDigest : ByteArray := prog_6_method_2_code
def yX4_hasDigest : MethodName := ⟨RX4, "hasDigest", "(I)Z"⟩
abbrev cX4_addReader : ByteArray := prog_6_method_3_code
def yX4_addReader : MethodName := ⟨RX4, "addReader", "(II)V"⟩
abbrev cX4_end : ByteArray := prog_6_method_4_code
def yX4_end : MethodName := ⟨RX4, "end", "()V"⟩
abbrev cX4_settleEditions : ByteArray := prog_6_method_5_code
def yX4_settleEditions : MethodName := ⟨RX4, "settleEditions", "()V"⟩
def RX5 : String := "MailPriory"
def TX5 : u_T := fun k => match k with
  | 0 => ("MailPriory", "persons", "[LMailPriory$Person;", true)
  | 1 => ("MailPriory", "wordWeights", "[I", true)
  | 2 => ("MailPriory", "mailLists", "[LMailPriory$MailList;", true)
  | 3 => ("MailPriory", "listCount", "I", false)
  | 4 => ("MailPriory", "post", "[LMailPriory$Mail;", true)
  | 5 => ("MailPriory", "mailCount", "I", false)
  | 6 => ("MailPriory", "postDays", "[LMailPriory$PostDay;", true)
  | 7 => ("MailPriory", "postDayCount", "I", false)
  | _ => ("MailPriory", "today", "I", false)
def tyX5 : Nat → FieldType := fun k => match k with
  | 0 => .array (.object "MailPriory$Person")
  | 1 => .array .int
  | 2 => .array (.object "MailPriory$MailList")
  | 3 => .int
  | 4 => .array (.object "MailPriory$Mail")
  | 5 => .int
  | 6 => .array (.object "MailPriory$PostDay")
  | 7 => .int
  | _ => .int
abbrev wsX50 : List Cond := u_ws RX5 TX5 9
theorem nmX5 : ∀ a, a < 9 → ∀ b, b < 9 → a ≠ b → (TX5 a).2.1 ≠ (TX5 b).2.1 := by decide +kernel
theorem tyX5_ok : ∀ k, k < 9 → parseFieldDescriptor (TX5 k).2.2.1 = some (tyX5 k) := by decide +kernel
abbrev cX5_init : ByteArray := prog_1_method_1_code
def yX5_init : MethodName := ⟨RX5, "<init>", "()V"⟩
abbrev cX5_list : ByteArray := prog_1_method_2_code
def yX5_list : MethodName := ⟨RX5, "list", "(I)I"⟩
abbrev cX5_join : ByteArray := prog_1_method_3_code
def yX5_join : MethodName := ⟨RX5, "join", "(III)I"⟩
abbrev cX5_leave : ByteArray := prog_1_method_4_code
def yX5_leave : MethodName := ⟨RX5, "leave", "(II)I"⟩
abbrev cX5_mode : ByteArray := prog_1_method_5_code
def yX5_mode : MethodName := ⟨RX5, "mode", "(III)I"⟩
abbrev cX5_nest : ByteArray := prog_1_method_6_code
def yX5_nest : MethodName := ⟨RX5, "nest", "(II)Z"⟩
abbrev cX5_rules : ByteArray := prog_1_method_7_code
def yX5_rules : MethodName := ⟨RX5, "rules", "(IIIZ)I"⟩
abbrev cX5_bar : ByteArray := prog_1_method_8_code
def yX5_bar : MethodName := ⟨RX5, "bar", "(II)Z"⟩
abbrev cX5_word : ByteArray := prog_1_method_9_code
def yX5_word : MethodName := ⟨RX5, "word", "(II)I"⟩
abbrev cX5_reaches : ByteArray := prog_1_method_10_code
def yX5_reaches : MethodName := ⟨RX5, "reaches", "(I)I"⟩
abbrev cX5_reachesByMembers : ByteArray := prog_1_method_11_code
def yX5_reachesByMembers : MethodName := ⟨RX5, "reachesByMembers", "(I)I"⟩
abbrev cX5_modeOf : ByteArray := prog_1_method_12_code
def yX5_modeOf : MethodName := ⟨RX5, "modeOf", "(II)I"⟩
abbrev cX5_send : ByteArray := prog_1_method_13_code
def yX5_send : MethodName := ⟨RX5, "send", "(IIII)I"⟩
abbrev cX5_approve : ByteArray := prog_1_method_14_code
def yX5_approve : MethodName := ⟨RX5, "approve", "(I)I"⟩
abbrev cX5_refuse : ByteArray := prog_1_method_15_code
def yX5_refuse : MethodName := ⟨RX5, "refuse", "(I)I"⟩
abbrev cX5_appeal : ByteArray := prog_1_method_16_code
def yX5_appeal : MethodName := ⟨RX5, "appeal", "(I)I"⟩
abbrev cX5_vote : ByteArray := prog_1_method_17_code
def yX5_vote : MethodName := ⟨RX5, "vote", "(IIZ)I"⟩
abbrev cX5_state : ByteArray := prog_1_method_18_code
def yX5_state : MethodName := ⟨RX5, "state", "(I)I"⟩
abbrev cX5_cause : ByteArray := prog_1_method_19_code
def yX5_cause : MethodName := ⟨RX5, "cause", "(I)I"⟩
abbrev cX5_score : ByteArray := prog_1_method_20_code
def yX5_score : MethodName := ⟨RX5, "score", "(I)I"⟩
abbrev cX5_lapses : ByteArray := prog_1_method_21_code
def yX5_lapses : MethodName := ⟨RX5, "lapses", "(I)I"⟩
abbrev cX5_jurors : ByteArray := prog_1_method_22_code
def yX5_jurors : MethodName := ⟨RX5, "jurors", "(I)I"⟩
abbrev cX5_reached : ByteArray := prog_1_method_23_code
def yX5_reached : MethodName := ⟨RX5, "reached", "(I)I"⟩
abbrev cX5_mails : ByteArray := prog_1_method_24_code
def yX5_mails : MethodName := ⟨RX5, "mails", "()I"⟩
abbrev cX5_held : ByteArray := prog_1_method_25_code
def yX5_held : MethodName := ⟨RX5, "held", "()I"⟩
abbrev cX5_weight : ByteArray := prog_1_method_26_code
def yX5_weight : MethodName := ⟨RX5, "weight", "(I)I"⟩
abbrev cX5_judged : ByteArray := prog_1_method_27_code
def yX5_judged : MethodName := ⟨RX5, "judged", "(I)I"⟩
abbrev cX5_bounces : ByteArray := prog_1_method_28_code
def yX5_bounces : MethodName := ⟨RX5, "bounces", "(I)I"⟩
abbrev cX5_box : ByteArray := prog_1_method_29_code
def yX5_box : MethodName := ⟨RX5, "box", "(I)I"⟩
abbrev cX5_mailAt : ByteArray := prog_1_method_30_code
def yX5_mailAt : MethodName := ⟨RX5, "mailAt", "(II)I"⟩
abbrev cX5_read : ByteArray := prog_1_method_31_code
def yX5_read : MethodName := ⟨RX5, "read", "(I)I"⟩
abbrev cX5_size : ByteArray := prog_1_method_32_code
def yX5_size : MethodName := ⟨RX5, "size", "(II)I"⟩
abbrev cX5_digest : ByteArray := prog_1_method_33_code
def yX5_digest : MethodName := ⟨RX5, "digest", "(III)I"⟩
abbrev cX5_edition : ByteArray := prog_1_method_34_code
def yX5_edition : MethodName := ⟨RX5, "edition", "(II)I"⟩
abbrev cX5_readers : ByteArray := prog_1_method_35_code
def yX5_readers : MethodName := ⟨RX5, "readers", "(II)I"⟩
abbrev cX5_pass : ByteArray := prog_1_method_36_code
def yX5_pass : MethodName := ⟨RX5, "pass", "(I)I"⟩
abbrev cX5_findList : ByteArray := prog_1_method_37_code
def yX5_findList : MethodName := ⟨RX5, "findList", "(I)LMailPriory$MailList;"⟩
abbrev cX5_findMail : ByteArray := prog_1_method_38_code
def yX5_findMail : MethodName := ⟨RX5, "findMail", "(I)LMailPriory$Mail;"⟩
abbrev cX5_checkPerson : ByteArray := prog_1_method_39_code
def yX5_checkPerson : MethodName := ⟨RX5, "checkPerson", "(I)V"⟩
abbrev cX5_checkMode : ByteArray := prog_1_method_40_code
def yX5_checkMode : MethodName := ⟨RX5, "checkMode", "(I)V"⟩
abbrev cX5_checkRange : ByteArray := prog_1_method_41_code
def yX5_checkRange : MethodName := ⟨RX5, "checkRange", "(III)V"⟩
abbrev cX5_checkMember : ByteArray := prog_1_method_42_code
def yX5_checkMember : MethodName := ⟨RX5, "checkMember", "(LMailPriory$MailList;I)V"⟩
abbrev cX5_checkListerMayDecide : ByteArray := prog_1_method_43_code
def yX5_checkListerMayDecide : MethodName := ⟨RX5, "checkListerMayDecide", "(LMailPriory$Mail;)V"⟩
abbrev cX5_bit : ByteArray := prog_1_method_44_code
def yX5_bit : MethodName := ⟨RX5, "bit", "(I)I"⟩
abbrev cX5_contains : ByteArray := prog_1_method_45_code
def yX5_contains : MethodName := ⟨RX5, "contains", "(II)Z"⟩
abbrev cX5_listsDown : ByteArray := prog_1_method_46_code
def yX5_listsDown : MethodName := ⟨RX5, "listsDown", "(I)I"⟩
abbrev cX5_listsUp : ByteArray := prog_1_method_47_code
def yX5_listsUp : MethodName := ⟨RX5, "listsUp", "(I)I"⟩
abbrev cX5_membersOf : ByteArray := prog_1_method_48_code
def yX5_membersOf : MethodName := ⟨RX5, "membersOf", "(I)I"⟩
abbrev cX5_modeAmong : ByteArray := prog_1_method_49_code
def yX5_modeAmong : MethodName := ⟨RX5, "modeAmong", "(II)I"⟩
abbrev cX5_lowestWithMember : ByteArray := prog_1_method_50_code
def yX5_lowestWithMember : MethodName := ⟨RX5, "lowestWithMember", "(II)I"⟩
abbrev cX5_scoreOf : ByteArray := prog_1_method_51_code
def yX5_scoreOf : MethodName := ⟨RX5, "scoreOf", "(III)I"⟩
abbrev cX5_sentToday : ByteArray := prog_1_method_52_code
def yX5_sentToday : MethodName := ⟨RX5, "sentToday", "(I)I"⟩
abbrev cX5_answersOwnPost : ByteArray := prog_1_method_53_code
def yX5_answersOwnPost : MethodName := ⟨RX5, "answersOwnPost", "(II)Z"⟩
abbrev cX5_causeFor : ByteArray := prog_1_method_54_code
def yX5_causeFor : MethodName := ⟨RX5, "causeFor", "(III)I"⟩
abbrev cX5_deliver : ByteArray := prog_1_method_55_code
def yX5_deliver : MethodName := ⟨RX5, "deliver", "(LMailPriory$Mail;)V"⟩
abbrev cX5_deliverTo : ByteArray := prog_1_method_56_code
def yX5_deliverTo : MethodName := ⟨RX5, "deliverTo", "(LMailPriory$Mail;II)V"⟩
abbrev cX5_putIntoDigest : ByteArray := prog_1_method_57_code
def yX5_putIntoDigest : MethodName := ⟨RX5, "putIntoDigest", "(LMailPriory$Mail;II)V"⟩
abbrev cX5_bounce : ByteArray := prog_1_method_58_code
def yX5_bounce : MethodName := ⟨RX5, "bounce", "(I)V"⟩
abbrev cX5_jurorCandidates : ByteArray := prog_1_method_59_code
def yX5_jurorCandidates : MethodName := ⟨RX5, "jurorCandidates", "(LMailPriory$Mail;)I"⟩
abbrev cX5_chooseJurors : ByteArray := prog_1_method_60_code
def yX5_chooseJurors : MethodName := ⟨RX5, "chooseJurors", "(I)I"⟩
abbrev cX5_leastJudged : ByteArray := prog_1_method_61_code
def yX5_leastJudged : MethodName := ⟨RX5, "leastJudged", "(I)I"⟩
abbrev cX5_clearSender : ByteArray := prog_1_method_62_code
def yX5_clearSender : MethodName := ⟨RX5, "clearSender", "(LMailPriory$Mail;)V"⟩
abbrev cX5_condemnByCourt : ByteArray := prog_1_method_63_code
def yX5_condemnByCourt : MethodName := ⟨RX5, "condemnByCourt", "(LMailPriory$Mail;)V"⟩
abbrev cX5_findPostDay : ByteArray := prog_1_method_64_code
def yX5_findPostDay : MethodName := ⟨RX5, "findPostDay", "(I)LMailPriory$PostDay;"⟩
abbrev cX5_postDayOfToday : ByteArray := prog_1_method_65_code
def yX5_postDayOfToday : MethodName := ⟨RX5, "postDayOfToday", "()LMailPriory$PostDay;"⟩
abbrev cX5_settleEditions : ByteArray := prog_1_method_66_code
def yX5_settleEditions : MethodName := ⟨RX5, "settleEditions", "()V"⟩
abbrev cX5_lapseHolds : ByteArray := prog_1_method_67_code
def yX5_lapseHolds : MethodName := ⟨RX5, "lapseHolds", "()I"⟩
def RX6 : String := "MailPrioryModel"
def TX6 : u_T := fun k => match k with
  | 0 => ("MailPrioryModel", "thrown", "I", false)
  | 1 => ("MailPrioryModel", "today", "I", false)
  | 2 => ("MailPrioryModel", "calls", "I", false)
  | 3 => ("MailPrioryModel", "wordWeight", "[I", true)
  | 4 => ("MailPrioryModel", "weight", "[I", true)
  | 5 => ("MailPrioryModel", "judged", "[I", true)
  | 6 => ("MailPrioryModel", "bounces", "[I", true)
  | 7 => ("MailPrioryModel", "inBox", "[I", true)
  | 8 => ("MailPrioryModel", "boxes", "[I", true)
  | 9 => ("MailPrioryModel", "lists", "I", false)
  | 10 => ("MailPrioryModel", "lister", "[I", true)
  | 11 => ("MailPrioryModel", "limit", "[I", true)
  | 12 => ("MailPrioryModel", "patience", "[I", true)
  | 13 => ("MailPrioryModel", "isClosed", "[Z", true)
  | 14 => ("MailPrioryModel", "barred", "[I", true)
  | 15 => ("MailPrioryModel", "parts", "[I", true)
  | 16 => ("MailPrioryModel", "mode", "[I", true)
  | 17 => ("MailPrioryModel", "mails", "I", false)
  | 18 => ("MailPrioryModel", "sender", "[I", true)
  | 19 => ("MailPrioryModel", "list", "[I", true)
  | 20 => ("MailPrioryModel", "day", "[I", true)
  | 21 => ("MailPrioryModel", "lapse", "[I", true)
  | 22 => ("MailPrioryModel", "score", "[I", true)
  | 23 => ("MailPrioryModel", "cause", "[I", true)
  | 24 => ("MailPrioryModel", "state", "[I", true)
  | 25 => ("MailPrioryModel", "reached", "[I", true)
  | 26 => ("MailPrioryModel", "wasAppealed", "[Z", true)
  | 27 => ("MailPrioryModel", "isOpen", "[Z", true)
  | 28 => ("MailPrioryModel", "jurors", "[I", true)
  | 29 => ("MailPrioryModel", "votesFor", "[I", true)
  | 30 => ("MailPrioryModel", "votesAgainst", "[I", true)
  | 31 => ("MailPrioryModel", "inDigest", "[Z", true)
  | 32 => ("MailPrioryModel", "isDigest", "[Z", true)
  | 33 => ("MailPrioryModel", "edition", "[I", true)
  | 34 => ("MailPrioryModel", "readers", "[I", true)
  | _ => ("MailPrioryModel", "touched", "[I", true)
def tyX6 : Nat → FieldType := fun k => match k with
  | 0 => .int
  | 1 => .int
  | 2 => .int
  | 3 => .array .int
  | 4 => .array .int
  | 5 => .array .int
  | 6 => .array .int
  | 7 => .array .int
  | 8 => .array .int
  | 9 => .int
  | 10 => .array .int
  | 11 => .array .int
  | 12 => .array .int
  | 13 => .array .boolean
  | 14 => .array .int
  | 15 => .array .int
  | 16 => .array .int
  | 17 => .int
  | 18 => .array .int
  | 19 => .array .int
  | 20 => .array .int
  | 21 => .array .int
  | 22 => .array .int
  | 23 => .array .int
  | 24 => .array .int
  | 25 => .array .int
  | 26 => .array .boolean
  | 27 => .array .boolean
  | 28 => .array .int
  | 29 => .array .int
  | 30 => .array .int
  | 31 => .array .boolean
  | 32 => .array .boolean
  | 33 => .array .int
  | 34 => .array .int
  | _ => .array .int
abbrev wsX60 : List Cond := u_ws RX6 TX6 36
theorem nmX6 : ∀ a, a < 36 → ∀ b, b < 36 → a ≠ b → (TX6 a).2.1 ≠ (TX6 b).2.1 := by decide +kernel
theorem tyX6_ok : ∀ k, k < 36 → parseFieldDescriptor (TX6 k).2.2.1 = some (tyX6 k) := by decide +kernel
abbrev cX6_init : ByteArray := prog_8_method_1_code
def yX6_init : MethodName := ⟨RX6, "<init>", "()V"⟩
abbrev cX6_thrown : ByteArray := prog_8_method_2_code
def yX6_thrown : MethodName := ⟨RX6, "thrown", "()I"⟩
abbrev cX6_isIn : ByteArray := prog_8_method_3_code
def yX6_isIn : MethodName := ⟨RX6, "isIn", "(III)Z"⟩
abbrev cX6_isPerson : ByteArray := prog_8_method_4_code
def yX6_isPerson : MethodName := ⟨RX6, "isPerson", "(I)Z"⟩
abbrev cX6_isList : ByteArray := prog_8_method_5_code
def yX6_isList : MethodName := ⟨RX6, "isList", "(I)Z"⟩
abbrev cX6_isMail : ByteArray := prog_8_method_6_code
def yX6_isMail : MethodName := ⟨RX6, "isMail", "(I)Z"⟩
abbrev cX6_list : ByteArray := prog_8_method_7_code
def yX6_list : MethodName := ⟨RX6, "list", "(I)I"⟩
abbrev cX6_membersOf : ByteArray := prog_8_method_8_code
def yX6_membersOf : MethodName := ⟨RX6, "membersOf", "(I)I"⟩
abbrev cX6_join : ByteArray := prog_8_method_9_code
def yX6_join : MethodName := ⟨RX6, "join", "(III)I"⟩
abbrev cX6_leave : ByteArray := prog_8_method_10_code
def yX6_leave : MethodName := ⟨RX6, "leave", "(II)I"⟩
abbrev cX6_mode : ByteArray := prog_8_method_11_code
def yX6_mode : MethodName := ⟨RX6, "mode", "(III)I"⟩
abbrev cX6_within : ByteArray := prog_8_method_12_code
def yX6_within : MethodName := ⟨RX6, "within", "(I)I"⟩
abbrev cX6_nest : ByteArray := prog_8_method_13_code
def yX6_nest : MethodName := ⟨RX6, "nest", "(II)Z"⟩
abbrev cX6_rules : ByteArray := prog_8_method_14_code
def yX6_rules : MethodName := ⟨RX6, "rules", "(IIIZ)I"⟩
abbrev cX6_bar : ByteArray := prog_8_method_15_code
def yX6_bar : MethodName := ⟨RX6, "bar", "(II)Z"⟩
abbrev cX6_word : ByteArray := prog_8_method_16_code
def yX6_word : MethodName := ⟨RX6, "word", "(II)I"⟩
abbrev cX6_memberBy : ByteArray := prog_8_method_17_code
def yX6_memberBy : MethodName := ⟨RX6, "memberBy", "(III)I"⟩
abbrev cX6_reachesOf : ByteArray := prog_8_method_18_code
def yX6_reachesOf : MethodName := ⟨RX6, "reachesOf", "(I)I"⟩
abbrev cX6_reaches : ByteArray := prog_8_method_19_code
def yX6_reaches : MethodName := ⟨RX6, "reaches", "(I)I"⟩
abbrev cX6_reachesByMembers : ByteArray := prog_8_method_20_code
def yX6_reachesByMembers : MethodName := ⟨RX6, "reachesByMembers", "(I)I"⟩
abbrev cX6_modeFor : ByteArray := prog_8_method_21_code
def yX6_modeFor : MethodName := ⟨RX6, "modeFor", "(II)I"⟩
abbrev cX6_modeOf : ByteArray := prog_8_method_22_code
def yX6_modeOf : MethodName := ⟨RX6, "modeOf", "(II)I"⟩
abbrev cX6_oneMore : ByteArray := prog_8_method_23_code
def yX6_oneMore : MethodName := ⟨RX6, "oneMore", "(I)V"⟩
abbrev cX6_comesToBox : ByteArray := prog_8_method_24_code
def yX6_comesToBox : MethodName := ⟨RX6, "comesToBox", "(II)V"⟩
abbrev cX6_comesToDigest : ByteArray := prog_8_method_25_code
def yX6_comesToDigest : MethodName := ⟨RX6, "comesToDigest", "(III)V"⟩
abbrev cX6_passes : ByteArray := prog_8_method_26_code
def yX6_passes : MethodName := ⟨RX6, "passes", "(I)V"⟩
abbrev cX6_scoreOf : ByteArray := prog_8_method_27_code
def yX6_scoreOf : MethodName := ⟨RX6, "scoreOf", "(III)I"⟩
abbrev cX6_causeOf : ByteArray := prog_8_method_28_code
def yX6_causeOf : MethodName := ⟨RX6, "causeOf", "(III)I"⟩
abbrev cX6_send : ByteArray := prog_8_method_29_code
def yX6_send : MethodName := ⟨RX6, "send", "(IIII)I"⟩
abbrev cX6_held : ByteArray := prog_8_method_30_code
def yX6_held : MethodName := ⟨RX6, "held", "(I)I"⟩
abbrev cX6_approve : ByteArray := prog_8_method_31_code
def yX6_approve : MethodName := ⟨RX6, "approve", "(I)I"⟩
abbrev cX6_refuse : ByteArray := prog_8_method_32_code
def yX6_refuse : MethodName := ⟨RX6, "refuse", "(I)I"⟩
abbrev cX6_canJudge : ByteArray := prog_8_method_33_code
def yX6_canJudge : MethodName := ⟨RX6, "canJudge", "(II)Z"⟩
abbrev cX6_appeal : ByteArray := prog_8_method_34_code
def yX6_appeal : MethodName := ⟨RX6, "appeal", "(I)I"⟩
abbrev cX6_clears : ByteArray := prog_8_method_35_code
def yX6_clears : MethodName := ⟨RX6, "clears", "(I)V"⟩
abbrev cX6_vote : ByteArray := prog_8_method_36_code
def yX6_vote : MethodName := ⟨RX6, "vote", "(IIZ)I"⟩
abbrev cX6_asks : ByteArray := prog_8_method_37_code
def yX6_asks : MethodName := ⟨RX6, "asks", "(I)Z"⟩
abbrev cX6_state : ByteArray := prog_8_method_38_code
def yX6_state : MethodName := ⟨RX6, "state", "(I)I"⟩
abbrev cX6_cause : ByteArray := prog_8_method_39_code
def yX6_cause : MethodName := ⟨RX6, "cause", "(I)I"⟩
abbrev cX6_score : ByteArray := prog_8_method_40_code
def yX6_score : MethodName := ⟨RX6, "score", "(I)I"⟩
abbrev cX6_lapses : ByteArray := prog_8_method_41_code
def yX6_lapses : MethodName := ⟨RX6, "lapses", "(I)I"⟩
abbrev cX6_jurors : ByteArray := prog_8_method_42_code
def yX6_jurors : MethodName := ⟨RX6, "jurors", "(I)I"⟩
abbrev cX6_reached : ByteArray := prog_8_method_43_code
def yX6_reached : MethodName := ⟨RX6, "reached", "(I)I"⟩
abbrev cX6_mails : ByteArray := prog_8_method_44_code
def yX6_mails : MethodName := ⟨RX6, "mails", "()I"⟩
abbrev cX6_held_ : ByteArray := prog_8_method_45_code
def yX6_held_ : MethodName := ⟨RX6, "held", "()I"⟩
abbrev cX6_asksPerson : ByteArray := prog_8_method_46_code
def yX6_asksPerson : MethodName := ⟨RX6, "asksPerson", "(I)Z"⟩
abbrev cX6_weight : ByteArray := prog_8_method_47_code
def yX6_weight : MethodName := ⟨RX6, "weight", "(I)I"⟩
abbrev cX6_judged : ByteArray := prog_8_method_48_code
def yX6_judged : MethodName := ⟨RX6, "judged", "(I)I"⟩
abbrev cX6_bounces : ByteArray := prog_8_method_49_code
def yX6_bounces : MethodName := ⟨RX6, "bounces", "(I)I"⟩
abbrev cX6_box : ByteArray := prog_8_method_50_code
def yX6_box : MethodName := ⟨RX6, "box", "(I)I"⟩
abbrev cX6_mailAt : ByteArray := prog_8_method_51_code
def yX6_mailAt : MethodName := ⟨RX6, "mailAt", "(II)I"⟩
abbrev cX6_read : ByteArray := prog_8_method_52_code
def yX6_read : MethodName := ⟨RX6, "read", "(I)I"⟩
abbrev cX6_digestThrown : ByteArray := prog_8_method_53_code
def yX6_digestThrown : MethodName := ⟨RX6, "digestThrown", "(II)I"⟩
abbrev cX6_size : ByteArray := prog_8_method_54_code
def yX6_size : MethodName := ⟨RX6, "size", "(II)I"⟩
abbrev cX6_digest : ByteArray := prog_8_method_55_code
def yX6_digest : MethodName := ⟨RX6, "digest", "(III)I"⟩
abbrev cX6_edition : ByteArray := prog_8_method_56_code
def yX6_edition : MethodName := ⟨RX6, "edition", "(II)I"⟩
abbrev cX6_readers : ByteArray := prog_8_method_57_code
def yX6_readers : MethodName := ⟨RX6, "readers", "(II)I"⟩
abbrev cX6_nextDay : ByteArray := prog_8_method_58_code
def yX6_nextDay : MethodName := ⟨RX6, "nextDay", "()I"⟩
abbrev cX6_pass : ByteArray := prog_8_method_59_code
def yX6_pass : MethodName := ⟨RX6, "pass", "(I)I"⟩
def TJx145de : u_T := fun k => match k with
  | _ => ("", "", "", false)
def tyJx145de : Nat → FieldType := fun k => match k with
  | _ => .int
theorem nmJx145de : ∀ a, a < 0 → ∀ b, b < 0 → a ≠ b → (TJx145de a).2.1 ≠ (TJx145de b).2.1 := by decide +kernel
theorem tyJx145de_ok : ∀ k, k < 0 → parseFieldDescriptor (TJx145de k).2.2.1 = some (tyJx145de k) := by decide +kernel
def RJ6 : String := "java/lang/Integer"
def TJ6 : u_T := fun k => match k with
  | _ => ("", "", "", false)
def tyJ6 : Nat → FieldType := fun k => match k with
  | _ => .int
theorem nmJ6 : ∀ a, a < 0 → ∀ b, b < 0 → a ≠ b → (TJ6 a).2.1 ≠ (TJ6 b).2.1 := by decide +kernel
theorem tyJ6_ok : ∀ k, k < 0 → parseFieldDescriptor (TJ6 k).2.2.1 = some (tyJ6 k) := by decide +kernel
abbrev cJ6_bitCount_0f7a4 : ByteArray := prog_14_method_49_code
def yJ6_bitCount_0f7a4 : MethodName := ⟨RJ6, "bitCount", "(I)I"⟩
def RJ9 : String := "java/lang/Math"
def TJ9 : u_T := fun k => match k with
  | _ => ("", "", "", false)
def tyJ9 : Nat → FieldType := fun k => match k with
  | _ => .int
theorem nmJ9 : ∀ a, a < 0 → ∀ b, b < 0 → a ≠ b → (TJ9 a).2.1 ≠ (TJ9 b).2.1 := by decide +kernel
theorem tyJ9_ok : ∀ k, k < 0 → parseFieldDescriptor (TJ9 k).2.2.1 = some (tyJ9 k) := by decide +kernel
abbrev cJ9_min_7cf53 : ByteArray := prog_15_method_69_code
def yJ9_min_7cf53 : MethodName := ⟨RJ9, "min", "(II)I"⟩
def RJ0 : String := "java/lang/String"
def TJ0 : u_T := fun k => match k with
  | _ => ("", "", "", false)
def tyJ0 : Nat → FieldType := fun k => match k with
  | _ => .int
theorem nmJ0 : ∀ a, a < 0 → ∀ b, b < 0 → a ≠ b → (TJ0 a).2.1 ≠ (TJ0 b).2.1 := by decide +kernel
theorem tyJ0_ok : ∀ k, k < 0 → parseFieldDescriptor (TJ0 k).2.2.1 = some (tyJ0 k) := by decide +kernel
def RJ10 : String := "java/lang/System"
def TJ10 : u_T := fun k => match k with
  | _ => ("", "", "", false)
def tyJ10 : Nat → FieldType := fun k => match k with
  | _ => .int
theorem nmJ10 : ∀ a, a < 0 → ∀ b, b < 0 → a ≠ b → (TJ10 a).2.1 ≠ (TJ10 b).2.1 := by decide +kernel
theorem tyJ10_ok : ∀ k, k < 0 → parseFieldDescriptor (TJ10 k).2.2.1 = some (tyJ10 k) := by decide +kernel
def RL : String := "MailPrioryLaw"
abbrev cL_list : ByteArray := method_3_code
def yL_list : MethodName := ⟨RL, "list", "(LMailPriory;I[J)I"⟩
abbrev cL_join : ByteArray := method_4_code
def yL_join : MethodName := ⟨RL, "join", "(LMailPriory;III[J)I"⟩
abbrev cL_leave : ByteArray := method_5_code
def yL_leave : MethodName := ⟨RL, "leave", "(LMailPriory;II[J)I"⟩
abbrev cL_mode : ByteArray := method_6_code
def yL_mode : MethodName := ⟨RL, "mode", "(LMailPriory;III[J)I"⟩
abbrev cL_nest : ByteArray := method_7_code
def yL_nest : MethodName := ⟨RL, "nest", "(LMailPriory;II[J)I"⟩
abbrev cL_rules : ByteArray := method_8_code
def yL_rules : MethodName := ⟨RL, "rules", "(LMailPriory;IIIZ[J)I"⟩
abbrev cL_bar : ByteArray := method_9_code
def yL_bar : MethodName := ⟨RL, "bar", "(LMailPriory;II[J)I"⟩
abbrev cL_word : ByteArray := method_10_code
def yL_word : MethodName := ⟨RL, "word", "(LMailPriory;II[J)I"⟩
abbrev cL_reaches : ByteArray := method_11_code
def yL_reaches : MethodName := ⟨RL, "reaches", "(LMailPriory;I[J)I"⟩
abbrev cL_reachesByMembers : ByteArray := method_12_code
def yL_reachesByMembers : MethodName := ⟨RL, "reachesByMembers", "(LMailPriory;I[J)I"⟩
abbrev cL_modeOf : ByteArray := method_13_code
def yL_modeOf : MethodName := ⟨RL, "modeOf", "(LMailPriory;II[J)I"⟩
abbrev cL_send : ByteArray := method_14_code
def yL_send : MethodName := ⟨RL, "send", "(LMailPriory;IIII[J)I"⟩
abbrev cL_approve : ByteArray := method_15_code
def yL_approve : MethodName := ⟨RL, "approve", "(LMailPriory;I[J)I"⟩
abbrev cL_refuse : ByteArray := method_16_code
def yL_refuse : MethodName := ⟨RL, "refuse", "(LMailPriory;I[J)I"⟩
abbrev cL_appeal : ByteArray := method_17_code
def yL_appeal : MethodName := ⟨RL, "appeal", "(LMailPriory;I[J)I"⟩
abbrev cL_vote : ByteArray := method_18_code
def yL_vote : MethodName := ⟨RL, "vote", "(LMailPriory;IIZ[J)I"⟩
abbrev cL_state : ByteArray := method_19_code
def yL_state : MethodName := ⟨RL, "state", "(LMailPriory;I[J)I"⟩
abbrev cL_cause : ByteArray := method_20_code
def yL_cause : MethodName := ⟨RL, "cause", "(LMailPriory;I[J)I"⟩
abbrev cL_score : ByteArray := method_21_code
def yL_score : MethodName := ⟨RL, "score", "(LMailPriory;I[J)I"⟩
abbrev cL_lapses : ByteArray := method_22_code
def yL_lapses : MethodName := ⟨RL, "lapses", "(LMailPriory;I[J)I"⟩
abbrev cL_jurors : ByteArray := method_23_code
def yL_jurors : MethodName := ⟨RL, "jurors", "(LMailPriory;I[J)I"⟩
abbrev cL_reached : ByteArray := method_24_code
def yL_reached : MethodName := ⟨RL, "reached", "(LMailPriory;I[J)I"⟩
abbrev cL_weight : ByteArray := method_25_code
def yL_weight : MethodName := ⟨RL, "weight", "(LMailPriory;I[J)I"⟩
abbrev cL_judged : ByteArray := method_26_code
def yL_judged : MethodName := ⟨RL, "judged", "(LMailPriory;I[J)I"⟩
abbrev cL_bounces : ByteArray := method_27_code
def yL_bounces : MethodName := ⟨RL, "bounces", "(LMailPriory;I[J)I"⟩
abbrev cL_box : ByteArray := method_28_code
def yL_box : MethodName := ⟨RL, "box", "(LMailPriory;I[J)I"⟩
abbrev cL_mailAt : ByteArray := method_29_code
def yL_mailAt : MethodName := ⟨RL, "mailAt", "(LMailPriory;II[J)I"⟩
abbrev cL_read : ByteArray := method_30_code
def yL_read : MethodName := ⟨RL, "read", "(LMailPriory;I[J)I"⟩
abbrev cL_size : ByteArray := method_31_code
def yL_size : MethodName := ⟨RL, "size", "(LMailPriory;II[J)I"⟩
abbrev cL_digest : ByteArray := method_32_code
def yL_digest : MethodName := ⟨RL, "digest", "(LMailPriory;III[J)I"⟩
abbrev cL_edition : ByteArray := method_33_code
def yL_edition : MethodName := ⟨RL, "edition", "(LMailPriory;II[J)I"⟩
abbrev cL_readers : ByteArray := method_34_code
def yL_readers : MethodName := ⟨RL, "readers", "(LMailPriory;II[J)I"⟩
abbrev cL_pass : ByteArray := method_35_code
def yL_pass : MethodName := ⟨RL, "pass", "(LMailPriory;I[J)I"⟩
abbrev cL_law : ByteArray := code
def yL_law : MethodName := ⟨RL, "law", "([I)Z"⟩
abbrev vwCl : List vw_C := [(RX0, TX0, 4), (RX1, TX1, 11), (RX2, TX2, 8), (RX3, TX3, 5), (RX4, TX4, 5), (RX5, TX5, 9), (RX6, TX6, 36)]
end
section
/-! my layer, 1: abstract heaps (cells by identity, references are identities), a judgement over them, and straight pieces of code run by computation -/
abbrev am_H : Type := Nat → Option va_E
def am_u (X : am_H) (i : Nat) (e : va_E) : am_H := fun j => if j = i then some e else X j
def am_v (ad : Nat → Nat) (v : Value) : Value := match v with
  | .ref a => .ref (ad a)
  | .int x => .int x
  | .long x => .long x
  | .float x => .float x
  | .double x => .double x
  | .null => .null
  | .retAddr x => .retAddr x
def am_a (ad : Nat → Nat) (a : vp_A) : vp_A := (a.1, match a.2 with
  | .inl f => .inl f
  | .inr (.inl f) => .inr (.inl f)
  | .inr (.inr (.inl f)) => .inr (.inr (.inl f))
  | .inr (.inr (.inr (.inl f))) => .inr (.inr (.inr (.inl f)))
  | .inr (.inr (.inr (.inr f))) => .inr (.inr (.inr (.inr (fun j => (f j).map ad)))))
def am_e (ty : Nat → ClassId) (ad : Nat → Nat) (e : va_E) : va_E := match e with
  | .inl q => .inl (ty q.1, am_a ad q.2)
  | .inr q => .inr (q.1, q.2.map (am_v ad))
def am_R (N0 : Nat) (D : va_G) (ty : Nat → ClassId) (ad : Nat → Nat) (X : am_H) (H : Heap) : Prop :=
  (∀ (i : Nat) (e : va_E), X i = some e → va_at D vwCl (ad i, am_e ty ad e) H ∧ N0 ≤ ad i) ∧ ∀ i j : Nat, X i ≠ none → X j ≠ none → ad i = ad j → i = j
/-- the kinds of arrays -/
def am_ft (t : Nat) : FieldType := match t with
  | 0 => .int
  | 1 => .boolean
  | 2 => .object "MailPriory$Person"
  | 3 => .object "MailPriory$MailList"
  | 4 => .object "MailPriory$Mail"
  | 5 => .object "MailPriory$PostDay"
  | _ => .long
def am_tys (ty : Nat → ClassId) : List (ClassId × FieldType) := [(ty 0, am_ft 0), (ty 1, am_ft 1), (ty 2, am_ft 2), (ty 3, am_ft 3), (ty 4, am_ft 4), (ty 5, am_ft 5), (ty 6, am_ft 6)]
/-- program, launch, environment, room, start; method, arguments, frames below, its method and code; goal, first cell, classes, arrays' classes; the heap and the addresses at the start -/
abbrev am_Cx : Type := (Program × Launch × Env × Room × State) × (MethodId × Array Value × List Frame × Method × Code) × ((State → Prop) × Nat × va_G × (Nat → ClassId)) × (am_H × (Nat → Nat))
abbrev am_Cx.pr (C : am_Cx) : Program := C.1.1
abbrev am_Cx.la (C : am_Cx) : Launch := C.1.2.1
abbrev am_Cx.en (C : am_Cx) : Env := C.1.2.2.1
abbrev am_Cx.ro (C : am_Cx) : Room := C.1.2.2.2.1
abbrev am_Cx.st (C : am_Cx) : State := C.1.2.2.2.2
abbrev am_Cx.mi (C : am_Cx) : MethodId := C.2.1.1
abbrev am_Cx.ar (C : am_Cx) : Array Value := C.2.1.2.1
abbrev am_Cx.be (C : am_Cx) : List Frame := C.2.1.2.2.1
abbrev am_Cx.me (C : am_Cx) : Method := C.2.1.2.2.2.1
abbrev am_Cx.co (C : am_Cx) : Code := C.2.1.2.2.2.2
abbrev am_Cx.go (C : am_Cx) : State → Prop := C.2.2.1.1
abbrev am_Cx.n0 (C : am_Cx) : Nat := C.2.2.1.2.1
abbrev am_Cx.dg (C : am_Cx) : va_G := C.2.2.1.2.2.1
abbrev am_Cx.ty (C : am_Cx) : Nat → ClassId := C.2.2.1.2.2.2
abbrev am_Cx.x0 (C : am_Cx) : am_H := C.2.2.2.1
abbrev am_Cx.a0 (C : am_Cx) : Nat → Nat := C.2.2.2.2
def am_L (ad : Nat → Nat) (L : List (Nat × Value)) : List (Nat × Value) := L.map (fun q => (q.1, am_v ad q.2))
/-- W, whatever heap bears the abstract one -/
def am_W (C : am_Cx) (X : am_H) (k n pc : Nat) (L : List (Nat × Value)) (st : List Value) : Prop :=
  ∀ (ad : Nat → Nat) (H : Heap) (locs : List Loc) (ls : Array Slot), (∀ i, C.x0 i ≠ none → X i ≠ none ∧ ad i = C.a0 i) → am_R C.n0 C.dg C.ty ad X H → va_S (fun q => C.n0 ≤ q) C.st.heap H locs → lv_has ls C.co.maxLocals (am_L ad L) →
    W C.pr C.la C.en C.ro C.st C.mi C.ar C.be C.me C.co H locs k n C.go (F0 C.mi pc ls (st.map (am_v ad)))
/-- what is known of a method's frame -/
def am_F (C : am_Cx) (cc : ByteArray) (nL : Nat) (own : String) (Ts : List Cond) : Prop :=
  CallFix C.pr C.mi C.co cc nL C.st C.ar Ts own ∧ va_K C.dg vwCl (am_tys C.ty) C.st ∧ C.n0 ≤ C.st.heap.size ∧ C.me.locks = false
theorem am_cong {C : am_Cx} {X X' : am_H} {k n pc : Nat} {L L' : List (Nat × Value)} {st st' : List Value} (hX : X = X') (hL : L = L') (hs : st = st') (h : am_W C X' k n pc L' st') : am_W C X k n pc L st := by
  subst hX; subst hL; subst hs; exact h
theorem am_eqX {C : am_Cx} {X : am_H} (X' : am_H) {k n pc : Nat} {L : List (Nat × Value)} {st : List Value} (hX : X = X') (h : am_W C X' k n pc L st) : am_W C X k n pc L st := hX ▸ h
theorem am_eqL {C : am_Cx} {X : am_H} {k n pc : Nat} {L : List (Nat × Value)} (L' : List (Nat × Value)) {st : List Value} (hL : L = L') (h : am_W C X k n pc L' st) : am_W C X k n pc L st := hL ▸ h
theorem am_eqS {C : am_Cx} {X : am_H} {k n pc : Nat} {L : List (Nat × Value)} {st : List Value} (st' : List Value) (hs : st = st') (h : am_W C X k n pc L st') : am_W C X k n pc L st := hs ▸ h
/-- the top of the stack under another name -/
theorem am_top {C : am_Cx} {X : am_H} {k n pc : Nat} {L : List (Nat × Value)} {st : List Value} {x : Int32} (x' : Int32) (hx : x = x') (h : am_W C X k n pc L (.int x' :: st)) : am_W C X k n pc L (.int x :: st) := hx ▸ h
theorem am_drop {C : am_Cx} {X : am_H} {k n pc : Nat} {L : List (Nat × Value)} (ps : List Nat) (L' : List (Nat × Value)) {st : List Value} (hL : lv_pick L ps = L') (h : am_W C X k n pc L' st) : am_W C X k n pc L st := by
  intro ad H locs ls h1 h2 h3 h4
  refine h ad H locs ls h1 h2 h3 (lv_sub h4 ps ?_)
  rw [← hL]
  clear hL h4
  unfold am_L lv_pick
  induction ps with
  | nil => rfl
  | cons a l ih =>
    simp only [List.getElem?_map] at ih ⊢
    simp only [List.filterMap_cons, List.getElem?_map]
    cases L[a]? with
    | none => simpa using ih
    | some q => simpa using ih
-- straight code
def am_get (L : List (Nat × Value)) (i : Nat) : Option Value := match L with
  | [] => none
  | q :: r => if q.1 = i then some q.2 else am_get r i
def am_fl (i : Nat) (q : Nat × Value) : Bool := !(q.1 == i) && !(q.1 + 1 == i && q.2.category == 2)
abbrev am_Cf : Type := Nat × List (Nat × Value) × List Value
def am_st (nL : Nat) (len : Nat) (i : Nat) (v : Value) (pc : Nat) (L : List (Nat × Value)) (r : List Value) : Option am_Cf := if i < nL then some (pc + len, (i, v) :: L.filter (am_fl i), r) else none
def am_c1 (v : Value) : Bool := match v with
  | .long _ => false
  | .double _ => false
  | _ => true
def am_step (nL : Nat) (ins : Instr) (pc : Nat) (L : List (Nat × Value)) (st : List Value) : Option am_Cf := match ins with
  | .iconst n => some (pc + 1, L, .int (Int32.ofInt n) :: st)
  | .bipush n => some (pc + 2, L, .int (Int8.ofInt n).toInt32 :: st)
  | .sipush n => some (pc + 3, L, .int (Int16.ofInt n).toInt32 :: st)
  | .lconst n => some (pc + 1, L, .long (Int64.ofNat (n : Nat)) :: st)
  | .aconst_null => some (pc + 1, L, .null :: st)
  | .iload_n i => match am_get L i.val with
    | some (.int x) => some (pc + 1, L, .int x :: st)
    | _ => none
  | .iload i => match am_get L i with
    | some (.int x) => some (pc + 2, L, .int x :: st)
    | _ => none
  | .aload_n i => match am_get L i.val with
    | some (.ref x) => some (pc + 1, L, .ref x :: st)
    | _ => none
  | .aload i => match am_get L i with
    | some (.ref x) => some (pc + 2, L, .ref x :: st)
    | _ => none
  | .istore_n i => match st with
    | .int x :: r => am_st nL 1 i.val (.int x) pc L r
    | _ => none
  | .istore i => match st with
    | .int x :: r => am_st nL 2 i (.int x) pc L r
    | _ => none
  | .astore_n i => match st with
    | .ref x :: r => am_st nL 1 i.val (.ref x) pc L r
    | _ => none
  | .astore i => match st with
    | .ref x :: r => am_st nL 2 i (.ref x) pc L r
    | _ => none
  | .iinc i n => match am_get L i with
    | some (.int x) => am_st nL 3 i (.int (x + Int32.ofInt n)) pc L st
    | _ => none
  | .iadd => match st with
    | .int y :: .int x :: r => some (pc + 1, L, .int (x + y) :: r)
    | _ => none
  | .isub => match st with
    | .int y :: .int x :: r => some (pc + 1, L, .int (x - y) :: r)
    | _ => none
  | .imul => match st with
    | .int y :: .int x :: r => some (pc + 1, L, .int (x * y) :: r)
    | _ => none
  | .iand => match st with
    | .int y :: .int x :: r => some (pc + 1, L, .int (x &&& y) :: r)
    | _ => none
  | .ior => match st with
    | .int y :: .int x :: r => some (pc + 1, L, .int (x ||| y) :: r)
    | _ => none
  | .ixor => match st with
    | .int y :: .int x :: r => some (pc + 1, L, .int (x ^^^ y) :: r)
    | _ => none
  | .ishl => match st with
    | .int y :: .int x :: r => some (pc + 1, L, .int (x <<< (y &&& 31)) :: r)
    | _ => none
  | .ishr => match st with
    | .int y :: .int x :: r => some (pc + 1, L, .int (x >>> (y &&& 31)) :: r)
    | _ => none
  | .iushr => match st with
    | .int y :: .int x :: r => some (pc + 1, L, .int (x.toUInt32 >>> (y.toUInt32 &&& Int32.toUInt32 31)).toInt32 :: r)
    | _ => none
  | .i2l => match st with
    | .int x :: r => some (pc + 1, L, .long x.toInt64 :: r)
    | _ => none
  | .lcmp => match st with
    | .long y :: .long x :: r => some (pc + 1, L, .int (lg_cmp x y) :: r)
    | _ => none
  | .pop => match st with
    | v :: r => if am_c1 v = true then some (pc + 1, L, r) else none
    | _ => none
  | .dup => match st with
    | v :: r => if am_c1 v = true then some (pc + 1, L, v :: v :: r) else none
    | _ => none
  | .dup2 => match st with
    | v :: w :: r => if am_c1 v = true ∧ am_c1 w = true then some (pc + 1, L, v :: w :: v :: w :: r) else none
    | _ => none
  | .goto off => some (((pc : Int) + off).toNat, L, st)
  | _ => none
def am_gt (ins : Instr) (pc : Nat) : Bool := match ins with
  | .goto off => decide (0 ≤ (pc : Int) + off)
  | _ => true
/-- the lengths of the instructions that am_step knows -/
def am_ln (ins : Instr) : Nat := match ins with
  | .bipush _ => 2
  | .sipush _ => 3
  | .iload _ => 2
  | .aload _ => 2
  | .istore _ => 2
  | .astore _ => 2
  | .iinc _ _ => 3
  | .goto _ => 3
  | _ => 1
def am_nx (ins : Instr) (pc : Nat) : Nat := match ins with
  | .goto off => ((pc : Int) + off).toNat
  | _ => pc + am_ln ins
def am_run (nL : Nat) : List Instr → Nat → List (Nat × Value) → List Value → Option am_Cf
  | [], pc, L, st => some (pc, L, st)
  | q :: r, pc, L, st => match am_step nL q pc L st with
    | some c => am_run nL r c.1 c.2.1 c.2.2
    | none => none
/-- the code's bytes from pc on are these instructions (behind a goto: from its target on) -/
def am_dec (cc : ByteArray) : Nat → List Instr → Bool
  | _, [] => true
  | pc, q :: r => decide (decode cc pc = .ok (q, am_ln q)) && am_gt q pc && am_dec cc (am_nx q pc) r
end
section
/-! my layer, 2: straight code is sound -/
theorem am_L_get {ad : Nat → Nat} : ∀ {L : List (Nat × Value)} {i : Nat} {v : Value} {ls : Array Slot} {nL : Nat}, am_get L i = some v → lv_has ls nL (am_L ad L) → ls[i]? = some (.val (am_v ad v)) := by
  intro L i v ls nL h hl
  have key : ∀ L : List (Nat × Value), am_get L i = some v → (i, am_v ad v) ∈ am_L ad L := by
    intro L
    induction L with
    | nil => intro h; cases h
    | cons q r ih =>
      intro h
      unfold am_get at h
      by_cases hq : q.1 = i
      · rw [if_pos hq] at h
        cases h
        subst hq
        exact List.mem_cons_self
      · rw [if_neg hq] at h
        exact List.mem_cons_of_mem _ (ih h)
  exact hl.2.2 (i, am_v ad v) (key L h)
theorem am_v_cat (ad : Nat → Nat) (v : Value) : (am_v ad v).category = v.category := by cases v <;> rfl
theorem am_c1_cat {v : Value} (h : am_c1 v = true) (ad : Nat → Nat) : (am_v ad v).category = 1 := by cases v <;> first | rfl | cases h
theorem am_L_fl (ad : Nat → Nat) (i : Nat) (v : Value) (L : List (Nat × Value)) : am_L ad ((i, v) :: L.filter (am_fl i)) = (i, am_v ad v) :: (am_L ad L).filter (fun q => !(q.1 == i) && !(q.1 + 1 == i && q.2.category == 2)) := by
  show (i, am_v ad v) :: (L.filter (am_fl i)).map _ = _
  congr 1
  unfold am_L
  rw [List.filter_map]
  congr 1
  refine List.filter_congr (fun q _ => ?_)
  simp [am_fl, am_v_cat]
theorem am_L_k {ad : Nat → Nat} : ∀ {L : List (Nat × Value)} {i : Nat} {v : Value}, am_get L i = some v → ∃ k : Nat, (am_L ad L)[k]? = some (i, am_v ad v) := by
  intro L i v
  induction L with
  | nil => intro h; cases h
  | cons q r ih =>
    intro h
    unfold am_get at h
    by_cases hq : q.1 = i
    · rw [if_pos hq] at h
      cases h
      subst hq
      exact ⟨0, rfl⟩
    · rw [if_neg hq] at h
      obtain ⟨k, hk⟩ := ih h
      exact ⟨k + 1, hk⟩
section
variable {C : am_Cx} {X : am_H} {k n pc : Nat} {L : List (Nat × Value)} {st : List Value} {cc : ByteArray} {nL : Nat} {own : String} {Ts : List Cond}
theorem am_st_spec {nL l0 i pc : Nat} {v : Value} {L : List (Nat × Value)} {r : List Value} {c : am_Cf} (h : am_st nL l0 i v pc L r = some c) : i < nL ∧ c = (pc + l0, (i, v) :: L.filter (am_fl i), r) := by
  unfold am_st at h
  by_cases hi : i < nL
  · rw [if_pos hi] at h; exact ⟨hi, (Option.some.inj h).symm⟩
  · rw [if_neg hi] at h; cases h
theorem am_W_st {i l0 : Nat} {v : Value} {r : List Value} {pc' : Nat} (kk : am_W C X k n pc' ((i, v) :: L.filter (am_fl i)) r) (ad : Nat → Nat) (H : Heap) (locs : List Loc) (h1 : ∀ i, C.x0 i ≠ none → X i ≠ none ∧ ad i = C.a0 i) (h2 : am_R C.n0 C.dg C.ty ad X H) (h3 : va_S (fun q => C.n0 ≤ q) C.st.heap H locs) :
    ∀ ls' : Array Slot, lv_has ls' C.co.maxLocals ((i, am_v ad v) :: (am_L ad L).filter (fun q => !(q.1 == i) && !(q.1 + 1 == i && q.2.category == 2))) → W C.pr C.la C.en C.ro C.st C.mi C.ar C.be C.me C.co H locs k n C.go (F0 C.mi pc' ls' (r.map (am_v ad))) :=
  fun ls' h => kk ad H locs ls' h1 h2 h3 (by rw [am_L_fl]; exact h)
set_option maxHeartbeats 2000000 in
theorem am_step_ok (hF : am_F C cc nL own Ts) {ins : Instr} {c : am_Cf} (hd : decode cc pc = .ok (ins, am_ln ins)) (hg : am_gt ins pc = true) (h : am_step nL ins pc L st = some c) (kk : am_W C X k n c.1 c.2.1 c.2.2) : am_W C X k n pc L st ∧ c.1 = am_nx ins pc := by
  obtain ⟨⟨hx, hb, hml, hown, hts⟩, hK, hN, hlk⟩ := hF
  unfold am_step at h
  split at h
  case h_1 => cases h; exact ⟨fun ad H locs ls h1 h2 h3 h4 => lv_iconst hx hb hd rfl (kk ad H locs ls h1 h2 h3 h4), rfl⟩
  case h_2 => cases h; exact ⟨fun ad H locs ls h1 h2 h3 h4 => lv_bipush hx hb hd rfl (kk ad H locs ls h1 h2 h3 h4), rfl⟩
  case h_3 => cases h; exact ⟨fun ad H locs ls h1 h2 h3 h4 => lv_sipush hx hb hd rfl (kk ad H locs ls h1 h2 h3 h4), rfl⟩
  case h_4 => cases h; exact ⟨fun ad H locs ls h1 h2 h3 h4 => lv_lconst hx hb hd rfl (kk ad H locs ls h1 h2 h3 h4), rfl⟩
  case h_5 => cases h; exact ⟨fun ad H locs ls h1 h2 h3 h4 => lv_null hx hb hd (kk ad H locs ls h1 h2 h3 h4), rfl⟩
  case h_6 => split at h <;> cases h; exact ⟨fun ad H locs ls h1 h2 h3 h4 => lv_iload_n hx hb hd rfl (am_L_get ‹_› h4) (kk ad H locs ls h1 h2 h3 h4), rfl⟩
  case h_7 => split at h <;> cases h; exact ⟨fun ad H locs ls h1 h2 h3 h4 => lv_iload hx hb hd (am_L_get ‹_› h4) (kk ad H locs ls h1 h2 h3 h4), rfl⟩
  case h_8 => split at h <;> cases h; exact ⟨fun ad H locs ls h1 h2 h3 h4 => lv_aload_n hx hb hd rfl (am_L_get ‹_› h4) (kk ad H locs ls h1 h2 h3 h4), rfl⟩
  case h_9 => split at h <;> cases h; exact ⟨fun ad H locs ls h1 h2 h3 h4 => lv_aload hx hb hd (am_L_get ‹_› h4) (kk ad H locs ls h1 h2 h3 h4), rfl⟩
  case h_10 =>
    split at h
    · obtain ⟨hi, rfl⟩ := am_st_spec h
      exact ⟨fun ad H locs ls h1 h2 h3 h4 => lv_istore_n hx hb hd rfl h4 (by rw [hml]; exact hi) rfl (am_W_st (l0 := 0) kk ad H locs h1 h2 h3), rfl⟩
    · cases h
  case h_11 =>
    split at h
    · obtain ⟨hi, rfl⟩ := am_st_spec h
      exact ⟨fun ad H locs ls h1 h2 h3 h4 => lv_istore hx hb hd h4 (by rw [hml]; exact hi) rfl (am_W_st (l0 := 0) kk ad H locs h1 h2 h3), rfl⟩
    · cases h
  case h_12 =>
    split at h
    · obtain ⟨hi, rfl⟩ := am_st_spec h
      exact ⟨fun ad H locs ls h1 h2 h3 h4 => lv_astore_n hx hb hd rfl h4 (by rw [hml]; exact hi) rfl (am_W_st (l0 := 0) kk ad H locs h1 h2 h3), rfl⟩
    · cases h
  case h_13 =>
    split at h
    · obtain ⟨hi, rfl⟩ := am_st_spec h
      exact ⟨fun ad H locs ls h1 h2 h3 h4 => lv_astore hx hb hd h4 (by rw [hml]; exact hi) rfl (am_W_st (l0 := 0) kk ad H locs h1 h2 h3), rfl⟩
    · cases h
  case h_14 =>
    split at h
    · obtain ⟨hi, rfl⟩ := am_st_spec h
      refine ⟨fun ad H locs ls h1 h2 h3 h4 => ?_, rfl⟩
      obtain ⟨k9, hk9⟩ := am_L_k (ad := ad) ‹am_get _ _ = _›
      exact lv_iinc hx hb hd h4 hk9 rfl (by rw [hml]; exact hi) rfl (am_W_st (l0 := 0) kk ad H locs h1 h2 h3)
    · cases h
  case h_15 => split at h <;> cases h; exact ⟨fun ad H locs ls h1 h2 h3 h4 => lv_iadd hx hb hd (kk ad H locs ls h1 h2 h3 h4), rfl⟩
  case h_16 => split at h <;> cases h; exact ⟨fun ad H locs ls h1 h2 h3 h4 => lv_isub hx hb hd (kk ad H locs ls h1 h2 h3 h4), rfl⟩
  case h_17 => split at h <;> cases h; exact ⟨fun ad H locs ls h1 h2 h3 h4 => lv_imul hx hb hd (kk ad H locs ls h1 h2 h3 h4), rfl⟩
  case h_18 => split at h <;> cases h; exact ⟨fun ad H locs ls h1 h2 h3 h4 => lv_iand hx hb hd (kk ad H locs ls h1 h2 h3 h4), rfl⟩
  case h_19 => split at h <;> cases h; exact ⟨fun ad H locs ls h1 h2 h3 h4 => lv_ior hx hb hd (kk ad H locs ls h1 h2 h3 h4), rfl⟩
  case h_20 => split at h <;> cases h; exact ⟨fun ad H locs ls h1 h2 h3 h4 => lv_ixor hx hb hd (kk ad H locs ls h1 h2 h3 h4), rfl⟩
  case h_21 => split at h <;> cases h; exact ⟨fun ad H locs ls h1 h2 h3 h4 => lv_ishl hx hb hd (kk ad H locs ls h1 h2 h3 h4), rfl⟩
  case h_22 => split at h <;> cases h; exact ⟨fun ad H locs ls h1 h2 h3 h4 => lv_ishr hx hb hd (kk ad H locs ls h1 h2 h3 h4), rfl⟩
  case h_23 => split at h <;> cases h; exact ⟨fun ad H locs ls h1 h2 h3 h4 => lv_iushr hx hb hd rfl (kk ad H locs ls h1 h2 h3 h4), rfl⟩
  case h_24 => split at h <;> cases h; exact ⟨fun ad H locs ls h1 h2 h3 h4 => lv_i2l hx hb hd rfl (kk ad H locs ls h1 h2 h3 h4), rfl⟩
  case h_25 => split at h <;> cases h; exact ⟨fun ad H locs ls h1 h2 h3 h4 => W.lcmp hx hb hd (kk ad H locs ls h1 h2 h3 h4), rfl⟩
  case h_26 =>
    split at h
    · split at h <;> cases h
      exact ⟨fun ad H locs ls h1 h2 h3 h4 => lv_pop hx hb hd (am_c1_cat ‹_› ad) (kk ad H locs ls h1 h2 h3 h4), rfl⟩
    · cases h
  case h_27 =>
    split at h
    · split at h <;> cases h
      exact ⟨fun ad H locs ls h1 h2 h3 h4 => lv_dup hx hb hd (am_c1_cat ‹_› ad) (kk ad H locs ls h1 h2 h3 h4), rfl⟩
    · cases h
  case h_28 =>
    split at h
    · split at h <;> cases h
      rename_i hvw
      exact ⟨fun ad H locs ls h1 h2 h3 h4 => lv_dup2_11 hx hb hd (am_c1_cat hvw.1 ad) (am_c1_cat hvw.2 ad) (kk ad H locs ls h1 h2 h3 h4), rfl⟩
    · cases h
  case h_29 =>
    cases h
    refine ⟨fun ad H locs ls h1 h2 h3 h4 => lv_goto hx hb hd ?_ (kk ad H locs ls h1 h2 h3 h4), rfl⟩
    have := of_decide_eq_true hg
    exact (Int.toNat_of_nonneg this).symm
  case h_30 => cases h
theorem am_step_nx {ins : Instr} {c : am_Cf} (h : am_step nL ins pc L st = some c) : c.1 = am_nx ins pc := by
  unfold am_step at h
  split at h <;> first
    | (cases h; rfl)
    | (split at h <;> first
      | (cases h; done)
      | (cases h; rfl)
      | (obtain ⟨-, rfl⟩ := am_st_spec h; rfl)
      | (split at h <;> first | (cases h; done) | (cases h; rfl)))
    | (cases h; done)
theorem am_go (hF : am_F C cc nL own Ts) : ∀ (seg : List Instr) {pc : Nat} {L : List (Nat × Value)} {st : List Value} (pc' : Nat) (L' : List (Nat × Value)) (st' : List Value), am_dec cc pc seg = true → am_run nL seg pc L st = some (pc', L', st') → am_W C X k n pc' L' st' → am_W C X k n pc L st := by
  intro seg
  induction seg with
  | nil => intro pc L st pc' L' st' hd h kk; cases h; exact kk
  | cons q r ih =>
    intro pc L st pc' L' st' hd h kk
    simp only [am_dec, Bool.and_eq_true, decide_eq_true_eq] at hd
    obtain ⟨⟨hd1, hg⟩, hd2⟩ := hd
    unfold am_run at h
    cases hs : am_step nL q pc L st with
    | none => rw [hs] at h; cases h
    | some c =>
      rw [hs] at h
      have hnx : c.1 = am_nx q pc := am_step_nx hs
      refine (am_step_ok hF hd1 hg hs (ih pc' L' st' ?_ h kk)).1
      rw [hnx]
      exact hd2
end
end
section
/-! my layer, 3: branches; cells read and written -/
section
variable {C : am_Cx} {X : am_H} {k n pc : Nat} {L : List (Nat × Value)} {st : List Value} {cc : ByteArray} {nL : Nat} {own : String} {Ts : List Cond} {off : Int}
theorem am_ifeq (hF : am_F C cc nL own Ts) {x : Int32} (tgt : Nat) (hd : decode cc pc = .ok (.ifCond .eq off, 3)) (ht : (pc : Int) + off = (tgt : Int)) (kt : x = 0 → am_W C X k n tgt L st) (kf : ¬ x = 0 → am_W C X k n (pc + 3) L st) : am_W C X k n pc L (.int x :: st) := fun ad H locs ls h1 h2 h3 h4 => lv_if_eq hF.1.1 hF.1.2.1 hd ht (fun h => kt h ad H locs ls h1 h2 h3 h4) (fun h => kf h ad H locs ls h1 h2 h3 h4)
theorem am_ifne (hF : am_F C cc nL own Ts) {x : Int32} (tgt : Nat) (hd : decode cc pc = .ok (.ifCond .ne off, 3)) (ht : (pc : Int) + off = (tgt : Int)) (kt : ¬ x = 0 → am_W C X k n tgt L st) (kf : x = 0 → am_W C X k n (pc + 3) L st) : am_W C X k n pc L (.int x :: st) := fun ad H locs ls h1 h2 h3 h4 => lv_if_ne hF.1.1 hF.1.2.1 hd ht (fun h => kt h ad H locs ls h1 h2 h3 h4) (fun h => kf h ad H locs ls h1 h2 h3 h4)
theorem am_iflt (hF : am_F C cc nL own Ts) {x : Int32} (tgt : Nat) (hd : decode cc pc = .ok (.ifCond .lt off, 3)) (ht : (pc : Int) + off = (tgt : Int)) (kt : x < 0 → am_W C X k n tgt L st) (kf : ¬ x < 0 → am_W C X k n (pc + 3) L st) : am_W C X k n pc L (.int x :: st) := fun ad H locs ls h1 h2 h3 h4 => lv_if_lt hF.1.1 hF.1.2.1 hd ht (fun h => kt h ad H locs ls h1 h2 h3 h4) (fun h => kf h ad H locs ls h1 h2 h3 h4)
theorem am_ifge (hF : am_F C cc nL own Ts) {x : Int32} (tgt : Nat) (hd : decode cc pc = .ok (.ifCond .ge off, 3)) (ht : (pc : Int) + off = (tgt : Int)) (kt : 0 ≤ x → am_W C X k n tgt L st) (kf : ¬ 0 ≤ x → am_W C X k n (pc + 3) L st) : am_W C X k n pc L (.int x :: st) := fun ad H locs ls h1 h2 h3 h4 => lv_if_ge hF.1.1 hF.1.2.1 hd ht (fun h => kt h ad H locs ls h1 h2 h3 h4) (fun h => kf h ad H locs ls h1 h2 h3 h4)
theorem am_ifgt (hF : am_F C cc nL own Ts) {x : Int32} (tgt : Nat) (hd : decode cc pc = .ok (.ifCond .gt off, 3)) (ht : (pc : Int) + off = (tgt : Int)) (kt : 0 < x → am_W C X k n tgt L st) (kf : ¬ 0 < x → am_W C X k n (pc + 3) L st) : am_W C X k n pc L (.int x :: st) := fun ad H locs ls h1 h2 h3 h4 => lv_if_gt hF.1.1 hF.1.2.1 hd ht (fun h => kt h ad H locs ls h1 h2 h3 h4) (fun h => kf h ad H locs ls h1 h2 h3 h4)
theorem am_ifle (hF : am_F C cc nL own Ts) {x : Int32} (tgt : Nat) (hd : decode cc pc = .ok (.ifCond .le off, 3)) (ht : (pc : Int) + off = (tgt : Int)) (kt : x ≤ 0 → am_W C X k n tgt L st) (kf : ¬ x ≤ 0 → am_W C X k n (pc + 3) L st) : am_W C X k n pc L (.int x :: st) := fun ad H locs ls h1 h2 h3 h4 => lv_if_le hF.1.1 hF.1.2.1 hd ht (fun h => kt h ad H locs ls h1 h2 h3 h4) (fun h => kf h ad H locs ls h1 h2 h3 h4)
theorem am_icmpeq (hF : am_F C cc nL own Ts) {x y : Int32} (tgt : Nat) (hd : decode cc pc = .ok (.if_icmp .eq off, 3)) (ht : (pc : Int) + off = (tgt : Int)) (kt : x = y → am_W C X k n tgt L st) (kf : ¬ x = y → am_W C X k n (pc + 3) L st) : am_W C X k n pc L (.int y :: .int x :: st) := fun ad H locs ls h1 h2 h3 h4 => lv_icmp_eq hF.1.1 hF.1.2.1 hd ht (fun h => kt h ad H locs ls h1 h2 h3 h4) (fun h => kf h ad H locs ls h1 h2 h3 h4)
theorem am_icmpne (hF : am_F C cc nL own Ts) {x y : Int32} (tgt : Nat) (hd : decode cc pc = .ok (.if_icmp .ne off, 3)) (ht : (pc : Int) + off = (tgt : Int)) (kt : ¬ x = y → am_W C X k n tgt L st) (kf : x = y → am_W C X k n (pc + 3) L st) : am_W C X k n pc L (.int y :: .int x :: st) := fun ad H locs ls h1 h2 h3 h4 => lv_icmp_ne hF.1.1 hF.1.2.1 hd ht (fun h => kt h ad H locs ls h1 h2 h3 h4) (fun h => kf h ad H locs ls h1 h2 h3 h4)
theorem am_icmplt (hF : am_F C cc nL own Ts) {x y : Int32} (tgt : Nat) (hd : decode cc pc = .ok (.if_icmp .lt off, 3)) (ht : (pc : Int) + off = (tgt : Int)) (kt : x < y → am_W C X k n tgt L st) (kf : ¬ x < y → am_W C X k n (pc + 3) L st) : am_W C X k n pc L (.int y :: .int x :: st) := fun ad H locs ls h1 h2 h3 h4 => lv_icmp_lt hF.1.1 hF.1.2.1 hd ht (fun h => kt h ad H locs ls h1 h2 h3 h4) (fun h => kf h ad H locs ls h1 h2 h3 h4)
theorem am_icmpge (hF : am_F C cc nL own Ts) {x y : Int32} (tgt : Nat) (hd : decode cc pc = .ok (.if_icmp .ge off, 3)) (ht : (pc : Int) + off = (tgt : Int)) (kt : y ≤ x → am_W C X k n tgt L st) (kf : ¬ y ≤ x → am_W C X k n (pc + 3) L st) : am_W C X k n pc L (.int y :: .int x :: st) := fun ad H locs ls h1 h2 h3 h4 => lv_icmp_ge hF.1.1 hF.1.2.1 hd ht (fun h => kt h ad H locs ls h1 h2 h3 h4) (fun h => kf h ad H locs ls h1 h2 h3 h4)
theorem am_icmpgt (hF : am_F C cc nL own Ts) {x y : Int32} (tgt : Nat) (hd : decode cc pc = .ok (.if_icmp .gt off, 3)) (ht : (pc : Int) + off = (tgt : Int)) (kt : y < x → am_W C X k n tgt L st) (kf : ¬ y < x → am_W C X k n (pc + 3) L st) : am_W C X k n pc L (.int y :: .int x :: st) := fun ad H locs ls h1 h2 h3 h4 => lv_icmp_gt hF.1.1 hF.1.2.1 hd ht (fun h => kt h ad H locs ls h1 h2 h3 h4) (fun h => kf h ad H locs ls h1 h2 h3 h4)
theorem am_icmple (hF : am_F C cc nL own Ts) {x y : Int32} (tgt : Nat) (hd : decode cc pc = .ok (.if_icmp .le off, 3)) (ht : (pc : Int) + off = (tgt : Int)) (kt : x ≤ y → am_W C X k n tgt L st) (kf : ¬ x ≤ y → am_W C X k n (pc + 3) L st) : am_W C X k n pc L (.int y :: .int x :: st) := fun ad H locs ls h1 h2 h3 h4 => lv_icmp_le hF.1.1 hF.1.2.1 hd ht (fun h => kt h ad H locs ls h1 h2 h3 h4) (fun h => kf h ad H locs ls h1 h2 h3 h4)
theorem am_ifnullR (hF : am_F C cc nL own Ts) {x : Nat} (hd : decode cc pc = .ok (.ifnull off, 3)) (kk : am_W C X k n (pc + 3) L st) : am_W C X k n pc L (.ref x :: st) := fun ad H locs ls h1 h2 h3 h4 => lv_ifnull hF.1.1 hF.1.2.1 hd (kk ad H locs ls h1 h2 h3 h4)
theorem am_ifnullN (hF : am_F C cc nL own Ts) (tgt : Nat) (hd : decode cc pc = .ok (.ifnull off, 3)) (ht : (pc : Int) + off = (tgt : Int)) (kk : am_W C X k n tgt L st) : am_W C X k n pc L (.null :: st) := fun ad H locs ls h1 h2 h3 h4 => lv_ifnullN hF.1.1 hF.1.2.1 hd ht (kk ad H locs ls h1 h2 h3 h4)
theorem am_ifnonnullR (hF : am_F C cc nL own Ts) {x : Nat} (tgt : Nat) (hd : decode cc pc = .ok (.ifnonnull off, 3)) (ht : (pc : Int) + off = (tgt : Int)) (kk : am_W C X k n tgt L st) : am_W C X k n pc L (.ref x :: st) := fun ad H locs ls h1 h2 h3 h4 => lv_ifnonnull hF.1.1 hF.1.2.1 hd ht (kk ad H locs ls h1 h2 h3 h4)
theorem am_ifnonnullN (hF : am_F C cc nL own Ts) (hd : decode cc pc = .ok (.ifnonnull off, 3)) (kk : am_W C X k n (pc + 3) L st) : am_W C X k n pc L (.null :: st) := fun ad H locs ls h1 h2 h3 h4 => lv_ifnonnullN hF.1.1 hF.1.2.1 hd (kk ad H locs ls h1 h2 h3 h4)
theorem am_acmpeq (hF : am_F C cc nL own Ts) {x y : Nat} (hx : X x ≠ none) (hy : X y ≠ none) (tgt : Nat) (hd : decode cc pc = .ok (.if_acmp .eq off, 3)) (ht : (pc : Int) + off = (tgt : Int)) (kt : x = y → am_W C X k n tgt L st) (kf : ¬ x = y → am_W C X k n (pc + 3) L st) : am_W C X k n pc L (.ref y :: .ref x :: st) := fun ad H locs ls h1 h2 h3 h4 =>
  lv_acmp_eq (rx := some (ad x)) (ry := some (ad y)) hF.1.1 hF.1.2.1 hd ht (fun h => kt (h2.2 x y hx hy (Option.some.inj h)) ad H locs ls h1 h2 h3 h4) (fun h => kf (fun e => h (by rw [e])) ad H locs ls h1 h2 h3 h4)
theorem am_acmpne (hF : am_F C cc nL own Ts) {x y : Nat} (hx : X x ≠ none) (hy : X y ≠ none) (tgt : Nat) (hd : decode cc pc = .ok (.if_acmp .ne off, 3)) (ht : (pc : Int) + off = (tgt : Int)) (kt : ¬ x = y → am_W C X k n tgt L st) (kf : x = y → am_W C X k n (pc + 3) L st) : am_W C X k n pc L (.ref y :: .ref x :: st) := fun ad H locs ls h1 h2 h3 h4 =>
  lv_acmp_ne (rx := some (ad x)) (ry := some (ad y)) hF.1.1 hF.1.2.1 hd ht (fun h => kt (fun e => h (by rw [e])) ad H locs ls h1 h2 h3 h4) (fun h => kf (h2.2 x y hx hy (Option.some.inj h)) ad H locs ls h1 h2 h3 h4)
theorem am_ldc (hF : am_F C cc nL own Ts) {index : Nat} (v : Int32) (hw : Jvm.Cond.constant own index v ∈ Ts) (hd : decode cc pc = .ok (.ldc index, 2)) (kk : am_W C X k n (pc + 2) L (.int v :: st)) : am_W C X k n pc L st := fun ad H locs ls h1 h2 h3 h4 => lv_ldc hF.1.1 hF.1.2.1 hF.1.2.2.2.1 (hF.1.2.2.2.2 _ hw) hd (kk ad H locs ls h1 h2 h3 h4)
-- the heap's cells
theorem am_R.set {N0 : Nat} {D : va_G} {ty : Nat → ClassId} {ad : Nat → Nat} {X : am_H} {H H1 : Heap} (h : am_R N0 D ty ad X H) {i : Nat} {e0 : va_E} (e : va_E) (hi : X i = some e0) (he : va_at D vwCl (ad i, am_e ty ad e) H1) (oq : ∀ q : Nat, q ≠ ad i → H1[q]? = H[q]?) : am_R N0 D ty ad (am_u X i e) H1 := by
  have hne : ∀ {j : Nat} {x : va_E}, am_u X i e j = some x → X j ≠ none := by
    intro j x hj
    unfold am_u at hj
    by_cases hji : j = i
    · subst hji; rw [hi]; exact fun h => by cases h
    · rw [if_neg hji] at hj; rw [hj]; exact fun h => by cases h
  refine ⟨fun j x hj => ?_, fun a b ha hb => h.2 a b ?_ ?_⟩
  · have hjn := hne hj
    unfold am_u at hj
    by_cases hji : j = i
    · subst hji
      rw [if_pos rfl] at hj
      cases hj
      exact ⟨he, (h.1 j _ hi).2⟩
    · rw [if_neg hji] at hj
      exact ⟨(h.1 j x hj).1.kept (oq _ (fun q => hji (h.2 j i hjn (by rw [hi]; exact fun h => by cases h) q))), (h.1 j x hj).2⟩
  · cases hx : am_u X i e a with
    | none => exact absurd hx ha
    | some x => exact hne hx
  · cases hx : am_u X i e b with
    | none => exact absurd hx hb
    | some x => exact hne hx
theorem am_live {X : am_H} {i : Nat} {e0 : va_E} (e : va_E) (hi : X i = some e0) {ad : Nat → Nat} {x0 : am_H} {a0 : Nat → Nat} (h : ∀ j, x0 j ≠ none → X j ≠ none ∧ ad j = a0 j) : ∀ j, x0 j ≠ none → am_u X i e j ≠ none ∧ ad j = a0 j := by
  intro j hj
  refine ⟨?_, (h j hj).2⟩
  unfold am_u
  by_cases hji : j = i
  · rw [if_pos hji]; exact fun h => by cases h
  · rw [if_neg hji]; exact (h j hj).1
theorem am_getf (hF : am_F C cc nL own Ts) {i ci : Nat} {fs : List Value} (hX : X i = some (.inr (ci, fs))) {Cn ref : String} {T : u_T} {N index : Nat} (hc : vwCl[ci]? = some (Cn, T, N)) (hin : ∀ w ∈ u_ws Cn T N, w ∈ Ts) (j : Nat) (hj : j < N) (hlink : Cond.fieldLink own index ref (T j).2.1 (T j).2.2.1 ∈ Ts) (hsame : (T j).1 = ref) (v : Value) (hv : fs[j]? = some v) (hd : decode cc pc = .ok (.getfield index, 3)) (kk : am_W C X k n (pc + 3) L (v :: st)) : am_W C X k n pc L (.ref i :: st) := by
  intro ad H locs ls h1 h2 h3 h4
  obtain ⟨⟨hx, hb, hml, hown, hts⟩, hK, hN, hlk⟩ := hF
  have hP : va_P C.dg vwCl [(ad i, .inr (ci, fs.map (am_v ad)))] H := by
    intro q z hq
    match q, hq with
    | 0, hq => cases hq; exact (h2.1 i _ hX).1
    | q + 1, hq => cases hq
  refine va_get hx hb hts hin hown hK hP 0 rfl hc j hj (hts _ hlink) (fun x hx => by rw [← hsame]; exact hx) (v := am_v ad v) ?_ hd (kk ad H locs ls h1 h2 h3 h4)
  rw [List.getElem?_map, hv]
  rfl
end
end
section
/-! my layer, 4: fields and elements written, cells made -/
theorem am_v_fits {ad : Nat → Nat} {ty : FieldType} {v : Value} (h : fits ty v = true) : fits ty (am_v ad v) = true := by
  cases v <;> first | exact h | (cases ty <;> first | rfl | (revert h; simp [fits]))
theorem am_v_narrow {ad : Nat → Nat} {ty : FieldType} {v : Value} (h : narrow ty v = v) : narrow ty (am_v ad v) = am_v ad v := by
  cases v <;> first | exact h | (cases ty <;> first | rfl | (revert h; simp [narrow, am_v]))
section
variable {C : am_Cx} {X : am_H} {k n pc : Nat} {L : List (Nat × Value)} {st : List Value} {cc : ByteArray} {nL : Nat} {own : String} {Ts : List Cond} {off : Int}
theorem am_putf (hF : am_F C cc nL own Ts) {i ci : Nat} {fs : List Value} (hX : X i = some (.inr (ci, fs))) {Cn ref : String} {T : u_T} {N index : Nat} (hc : vwCl[ci]? = some (Cn, T, N)) (hin : ∀ w ∈ u_ws Cn T N, w ∈ Ts) (ty0 : Nat → FieldType) (hty : ∀ k, k < N → parseFieldDescriptor (T k).2.2.1 = some (ty0 k)) (hnm : ∀ a, a < N → ∀ b, b < N → a ≠ b → (T a).2.1 ≠ (T b).2.1) (j : Nat) (hj : j < N) (hlink : Cond.fieldLink own index ref (T j).2.1 (T j).2.2.1 ∈ Ts) (hsame : (T j).1 = ref) (hfin : (T j).2.2.2 = false ∨ (T j).2.2.2 = true ∧ C.me.name = "<init>" ∧ ref = own) {v : Value} (hn : narrow (ty0 j) v = v) (hfit : fits (ty0 j) v = true) (hl : j < fs.length) (hd : decode cc pc = .ok (.putfield index, 3))
    (kk : am_W C (am_u X i (.inr (ci, fs.set j v))) k n (pc + 3) L st) : am_W C X k n pc L (v :: .ref i :: st) := by
  intro ad H locs ls h1 h2 h3 h4
  obtain ⟨⟨hx, hb, hml, hown, hts⟩, hK, hN, hlk⟩ := hF
  have hap := va_apart (own := own) hts hin ty0 hty hnm hK hc
  obtain ⟨hat, hge⟩ := h2.1 i _ hX
  obtain ⟨r, g1, cell, q1, q2, q3, q4⟩ := hat
  have hr : r = (Cn, T, N) := Option.some.inj (g1.symm.trans hc)
  subst hr
  obtain ⟨hS, hfc, kC, hkC, hkind⟩ := hK.1 ci _ hc
  obtain ⟨cf, kf, fi, f, hi, hsl⟩ := hS j hj
  have hlay := hts _ (hin _ (u_in_lay hj))
  have hst := (u_facts hfc hkC (u_lays hts hin hj) hi).1
  have hd9 := hty j hj
  subst hsame
  have fin : ∀ H' : Heap, H'[ad i]? = some (cell.setSlot (C.dg.2 ci j) (am_v ad v)) → H'.size = H.size → (∀ q, q ≠ ad i → H'[q]? = H[q]?) → W C.pr C.la C.en C.ro C.st C.mi C.ar C.be C.me C.co H' (locs ++ [⟨ad i, C.dg.2 ci j⟩]) k n C.go (F0 C.mi (pc + 3) ls (st.map (am_v ad))) := by
    intro H' e1 e2 e3
    refine kk ad H' _ ls (am_live _ hX h1) (h2.set _ hX ?_ e3) (h3.put e2 e3 hge) h4
    refine ⟨_, hc, t_OB.to (V := updV (vp_V (fs.map (am_v ad))) j (am_v ad v)) ⟨_, e1, q2, q3, t_set q4 hap hj _⟩ (fun q _ => ?_)⟩
    rw [vp_updV_set (by rw [List.length_map]; exact hl)]
    show vp_V _ q = vp_V ((fs.set j v).map (am_v ad)) q
    rw [List.map_set]
  unfold u_lay at hlay
  rcases hfin with hfin | ⟨hfin, hname, hro⟩
  · rw [if_neg (by rw [hfin]; decide)] at hlay
    have h6 := u_store hfc hkC hkind hlay hi hd9 (am_v_narrow (ad := ad) hn) (am_v_fits (ad := ad) hfit)
    refine W.putK hx hb (f := f) ⟨hown, hts _ hlink, ⟨_, _, _, hi⟩, hst⟩ (by rw [q2]; exact h6) q1 q3 (by rw [hsl]; exact k2_hasslot (q4 j hj)) rfl rfl hd fun H' e1 e2 e3 => ?_
    rw [hsl] at e1 ⊢
    exact fin H' e1 e2 e3
  · rw [if_pos hfin] at hlay
    have hcf : C.mi.cls = cf := by
      obtain ⟨_, _, c', _, _, _, -, -, hf', -, -, -, hown2, -⟩ := Cond.laysFinal_spec hlay
      have e1 : c' = cf := by have := hi.symm.trans hf'; simp at this; exact this.1.symm
      rw [hro] at hown2
      rw [← e1]; exact Option.some.inj (hown.symm.trans hown2)
    have h6 := u_fits hfc hkC hkind (Or.inr hlay) hi hd9 (am_v_narrow (ad := ad) hn) (am_v_fits (ad := ad) hfit)
    refine W.putFinK hx hb hown (hts _ hlink) hi hst hcf hname (by rw [q2]; exact h6) q1 q3 (by rw [hsl]; exact k2_hasslot (q4 j hj)) rfl rfl hd fun H' e1 e2 e3 => ?_
    rw [hsl] at e1 ⊢
    exact fin H' e1 e2 e3
theorem am_in {x : Int32} {j m : Nat} (hx : x = nI j) (hj : j < m) (hm : m < 2 ^ 31) : vp_in x m ∧ x.toNatClampNeg = j := by
  subst hx
  exact ⟨vp_in_nI hj hm, nI_clamp (Nat.lt_trans hj hm)⟩
theorem am_iald (hF : am_F C cc nL own Ts) {i m : Nat} {f : Nat → Int32} {x : Int32} (hX : X i = some (.inl (0, m, .inl f))) (j : Nat) (hx : x = nI j) (hj : j < m) (hm : m < 2 ^ 31) (hd : decode cc pc = .ok (.iaload, 1)) (kk : am_W C X k n (pc + 1) L (.int (f j) :: st)) : am_W C X k n pc L (.int x :: .ref i :: st) := by
  intro ad H locs ls h1 h2 h3 h4
  obtain ⟨⟨hx1, hb, hml, hown, hts⟩, hK, hN, hlk⟩ := hF
  have hlt : x.toNatClampNeg < m := by rw [(am_in hx hj hm).2]; exact hj
  have hc9 : H[ad i]? = some (vp_cell (C.ty 0) (m, .inl f)) := (h2.1 i _ hX).1
  exact W.iald (v := .int (f j)) hx1 hb hc9 ((hK.2 0 _ rfl).1 m (fun j => .int (f j))) (fun q => by cases q) (by show ¬ (x < 0 ∨ (arrV _ _ _).slots.size ≤ _); rw [arrV_size]; exact (am_in hx hj hm).1) (by show (arrV _ _ _).slots[_]? = _; rw [arrV_read _ _ hlt, (am_in hx hj hm).2]) rfl rfl hd (kk ad H locs ls h1 h2 h3 h4)
theorem am_zald (hF : am_F C cc nL own Ts) {i m : Nat} {f : Nat → Int32} {x : Int32} (hX : X i = some (.inl (1, m, .inl f))) (j : Nat) (hx : x = nI j) (hj : j < m) (hm : m < 2 ^ 31) (hd : decode cc pc = .ok (.baload, 1)) (kk : am_W C X k n (pc + 1) L (.int (f j) :: st)) : am_W C X k n pc L (.int x :: .ref i :: st) := by
  intro ad H locs ls h1 h2 h3 h4
  obtain ⟨⟨hx1, hb, hml, hown, hts⟩, hK, hN, hlk⟩ := hF
  have hlt : x.toNatClampNeg < m := by rw [(am_in hx hj hm).2]; exact hj
  have hc9 : H[ad i]? = some (vp_cell (C.ty 1) (m, .inl f)) := (h2.1 i _ hX).1
  exact W.zald (v := .int (f j)) hx1 hb hc9 ((hK.2 1 _ rfl).1 m (fun j => .int (f j))) (fun q => by cases q) (by show ¬ (x < 0 ∨ (arrV _ _ _).slots.size ≤ _); rw [arrV_size]; exact (am_in hx hj hm).1) (by show (arrV _ _ _).slots[_]? = _; rw [arrV_read _ _ hlt, (am_in hx hj hm).2]) rfl rfl hd (kk ad H locs ls h1 h2 h3 h4)
theorem am_lald (hF : am_F C cc nL own Ts) {i m : Nat} {f : Nat → Int64} {x : Int32} (hX : X i = some (.inl (6, m, .inr (.inl f)))) (j : Nat) (hx : x = nI j) (hj : j < m) (hm : m < 2 ^ 31) (hd : decode cc pc = .ok (.laload, 1)) (kk : am_W C X k n (pc + 1) L (.long (f j) :: st)) : am_W C X k n pc L (.int x :: .ref i :: st) := by
  intro ad H locs ls h1 h2 h3 h4
  obtain ⟨⟨hx1, hb, hml, hown, hts⟩, hK, hN, hlk⟩ := hF
  have hlt : x.toNatClampNeg < m := by rw [(am_in hx hj hm).2]; exact hj
  have hc9 : H[ad i]? = some (vp_cell (C.ty 6) (m, .inr (.inl f))) := (h2.1 i _ hX).1
  exact W.lald (v := .long (f j)) hx1 hb hc9 ((hK.2 6 _ rfl).1 m (fun j => .long (f j))) (fun q => by cases q) (by show ¬ (x < 0 ∨ (arrV _ _ _).slots.size ≤ _); rw [arrV_size]; exact (am_in hx hj hm).1) (by show (arrV _ _ _).slots[_]? = _; rw [arrV_read _ _ hlt, (am_in hx hj hm).2]) rfl rfl hd (kk ad H locs ls h1 h2 h3 h4)
theorem am_rf (ad : Nat → Nat) (r : Option Nat) : va_rf (r.map ad) = am_v ad (va_rf r) := by cases r <;> rfl
theorem am_aald (hF : am_F C cc nL own Ts) {i m t : Nat} {Cn : String} {f : Nat → Option Nat} {x : Int32} (hX : X i = some (.inl (t, m, .inr (.inr (.inr (.inr f)))))) (ht : t < 7) (hf : am_ft t = .object Cn) (j : Nat) (hx : x = nI j) (hj : j < m) (hm : m < 2 ^ 31) (v : Value) (hv : va_rf (f j) = v) (hd : decode cc pc = .ok (.aaload, 1)) (kk : am_W C X k n (pc + 1) L (v :: st)) : am_W C X k n pc L (.int x :: .ref i :: st) := by
  intro ad H locs ls h1 h2 h3 h4
  obtain ⟨⟨hx1, hb, hml, hown, hts⟩, hK, hN, hlk⟩ := hF
  have hlt : x.toNatClampNeg < m := by rw [(am_in hx hj hm).2]; exact hj
  have ht9 : (am_tys C.ty)[t]? = some (C.ty t, FieldType.object Cn) := by
    rw [← hf]
    match t, ht with
    | 0, _ => rfl
    | 1, _ => rfl
    | 2, _ => rfl
    | 3, _ => rfl
    | 4, _ => rfl
    | 5, _ => rfl
    | 6, _ => rfl
  have hc9 : H[ad i]? = some (vp_cell (C.ty t) (m, .inr (.inr (.inr (.inr (fun j => (f j).map ad)))))) := (h2.1 i _ hX).1
  exact W.aald (v := am_v ad v) (ty := .object Cn) hx1 hb hc9 ((hK.2 t _ ht9).1 m (fun j => va_rf ((f j).map ad))) rfl (fun q => by cases q) (by show ¬ (x < 0 ∨ (arrV _ _ _).slots.size ≤ _); rw [arrV_size]; exact (am_in hx hj hm).1) (by show (arrV _ _ _).slots[_]? = _; rw [arrV_read _ _ hlt, (am_in hx hj hm).2, am_rf, hv]) rfl rfl hd (kk ad H locs ls h1 h2 h3 h4)
theorem am_iast (hF : am_F C cc nL own Ts) {i m : Nat} {f : Nat → Int32} {x v : Int32} (hX : X i = some (.inl (0, m, .inl f))) (j : Nat) (hx : x = nI j) (hj : j < m) (hm : m < 2 ^ 31) (hd : decode cc pc = .ok (.iastore, 1)) (kk : am_W C (am_u X i (.inl (0, m, .inl (upd f j v)))) k n (pc + 1) L st) : am_W C X k n pc L (.int v :: .int x :: .ref i :: st) := by
  intro ad H locs ls h1 h2 h3 h4
  obtain ⟨⟨hx1, hb, hml, hown, hts⟩, hK, hN, hlk⟩ := hF
  refine W.iast hx1 hb (h2.1 i _ hX).1 ((hK.2 0 _ rfl).1 m (fun j => .int (f j))) (fun q => by cases q) (by show ¬ (x < 0 ∨ (arrV _ _ _).slots.size ≤ _); rw [arrV_size]; exact (am_in hx hj hm).1) rfl rfl hd fun H1 e z oq => ?_
  refine kk ad H1 _ ls (am_live _ hX h1) (h2.set _ hX ?_ oq) (h3.put z oq (h2.1 i _ hX).2) h4
  show H1[ad i]? = some (vp_cell _ _)
  rw [e]
  show some ((vp_cell _ (m, .inl f)).setSlot _ _) = some (vp_cell _ (m, .inl (upd f j v)))
  rw [vp_cell_i, vp_cell_i, arrV_store, (am_in hx hj hm).2]
  congr 2
  funext q
  by_cases hq : q = j
  · subst hq; simp [updV, upd]
  · simp [updV, upd, hq]
theorem am_zast (hF : am_F C cc nL own Ts) {i m : Nat} {f : Nat → Int32} {x v : Int32} (hX : X i = some (.inl (1, m, .inl f))) (j : Nat) (hx : x = nI j) (hj : j < m) (hm : m < 2 ^ 31) (hv : narrow .boolean (.int v) = .int v) (hd : decode cc pc = .ok (.bastore, 1)) (kk : am_W C (am_u X i (.inl (1, m, .inl (upd f j v)))) k n (pc + 1) L st) : am_W C X k n pc L (.int v :: .int x :: .ref i :: st) := by
  intro ad H locs ls h1 h2 h3 h4
  obtain ⟨⟨hx1, hb, hml, hown, hts⟩, hK, hN, hlk⟩ := hF
  refine W.zast hx1 hb (h2.1 i _ hX).1 ((hK.2 1 _ rfl).1 m (fun j => .int (f j))) (fun q => by cases q) (by show ¬ (x < 0 ∨ (arrV _ _ _).slots.size ≤ _); rw [arrV_size]; exact (am_in hx hj hm).1) rfl rfl hd fun H1 e z oq => ?_
  refine kk ad H1 _ ls (am_live _ hX h1) (h2.set _ hX ?_ oq) (h3.put z oq (h2.1 i _ hX).2) h4
  show H1[ad i]? = some (vp_cell _ _)
  rw [e]
  show some ((vp_cell _ (m, .inl f)).setSlot _ _) = some (vp_cell _ (m, .inl (upd f j v)))
  rw [vp_cell_i, vp_cell_i, arrV_store, (am_in hx hj hm).2, hv]
  congr 2
  funext q
  by_cases hq : q = j
  · subst hq; simp [updV, upd]
  · simp [updV, upd, hq]
def am_updL (f : Nat → Int64) (k : Nat) (x : Int64) : Nat → Int64 := fun j => if j = k then x else f j
theorem am_last (hF : am_F C cc nL own Ts) {i m : Nat} {f : Nat → Int64} {x : Int32} {v : Int64} (hX : X i = some (.inl (6, m, .inr (.inl f)))) (j : Nat) (hx : x = nI j) (hj : j < m) (hm : m < 2 ^ 31) (hd : decode cc pc = .ok (.lastore, 1)) (kk : am_W C (am_u X i (.inl (6, m, .inr (.inl (am_updL f j v))))) k n (pc + 1) L st) : am_W C X k n pc L (.long v :: .int x :: .ref i :: st) := by
  intro ad H locs ls h1 h2 h3 h4
  obtain ⟨⟨hx1, hb, hml, hown, hts⟩, hK, hN, hlk⟩ := hF
  refine W.last hx1 hb (h2.1 i _ hX).1 ((hK.2 6 _ rfl).1 m (fun j => .long (f j))) (fun q => by cases q) (by show ¬ (x < 0 ∨ (arrV _ _ _).slots.size ≤ _); rw [arrV_size]; exact (am_in hx hj hm).1) rfl rfl hd fun H1 e z oq => ?_
  refine kk ad H1 _ ls (am_live _ hX h1) (h2.set _ hX ?_ oq) (h3.put z oq (h2.1 i _ hX).2) h4
  show H1[ad i]? = some (vp_cell _ _)
  rw [e]
  show some ((vp_cell _ (m, .inr (.inl f))).setSlot _ _) = some (vp_cell _ (m, .inr (.inl (am_updL f j v))))
  rw [vp_cell_l, vp_cell_l, arrV_store, (am_in hx hj hm).2]
  congr 2
  funext q
  by_cases hq : q = j
  · subst hq; simp [updV, am_updL]
  · simp [updV, am_updL, hq]
theorem am_ty9 {ty : Nat → ClassId} {t : Nat} (ht : t < 7) : (am_tys ty)[t]? = some (ty t, am_ft t) := by
  match t, ht with
  | 0, _ => rfl
  | 1, _ => rfl
  | 2, _ => rfl
  | 3, _ => rfl
  | 4, _ => rfl
  | 5, _ => rfl
  | 6, _ => rfl
theorem am_aast (hF : am_F C cc nL own Ts) {i m t ci q9 : Nat} {r : vw_C} {vs : List Value} {f : Nat → Option Nat} {x : Int32} (hX : X i = some (.inl (t, m, .inr (.inr (.inr (.inr f)))))) (ht : t < 7) (hc : vwCl[ci]? = some r) (hf : am_ft t = .object r.1) (hq : X q9 = some (.inr (ci, vs))) (j : Nat) (hx : x = nI j) (hj : j < m) (hm : m < 2 ^ 31) (hd : decode cc pc = .ok (.aastore, 1)) (kk : am_W C (am_u X i (.inl (t, m, .inr (.inr (.inr (.inr (va_up f j (some q9)))))))) k n (pc + 1) L st) : am_W C X k n pc L (.ref q9 :: .int x :: .ref i :: st) := by
  intro ad H locs ls h1 h2 h3 h4
  obtain ⟨⟨hx1, hb, hml, hown, hts⟩, hK, hN, hlk⟩ := hF
  have hlt : x.toNatClampNeg < m := by rw [(am_in hx hj hm).2]; exact hj
  have h0 : ¬ x < 0 := fun q => (am_in hx hj hm).1 (Or.inl q)
  obtain ⟨r', hr', cellV, g1, g2, g3, -⟩ := (h2.1 q9 _ hq).1
  have hcls := (hK.1 ci r hc).2
  have hRA := (hK.2 t _ (am_ty9 ht)).2
  unfold va_RA at hRA
  simp only [hf] at hRA
  obtain ⟨kA, comp, k1, k2, k3, -⟩ := hRA
  have hcomp : comp = C.dg.1 ci := Option.some.inj (k3.symm.trans hcls.1)
  subst hcomp
  obtain ⟨kC, hkC, -⟩ := hcls.2
  refine W.aast hx1 hb (h2.1 i _ hX).1 (fun q h => by cases h) (fun h => by cases h) k1 k2 rfl hkC ⟨h0, by show _ < (arrV _ _ _).slots.size; rw [arrV_size]; exact hlt⟩ g1 (fun q h => by rw [g3] at h; cases h) (by rw [g2]; exact hkC) (by rw [g2]; exact va_assign hcls) rfl rfl hd fun H1 e z oq => ?_
  refine kk ad H1 _ ls (am_live _ hX h1) (h2.set _ hX ?_ oq) (h3.put z oq (h2.1 i _ hX).2) h4
  show H1[ad i]? = some (vp_cell _ _)
  rw [e]
  show some ((vp_cell _ (m, .inr (.inr (.inr (.inr (fun j => (f j).map ad)))))).setSlot _ _) = some (vp_cell _ (m, .inr (.inr (.inr (.inr (fun y => (va_up f j (some q9) y).map ad))))))
  rw [vp_cell_q, vp_cell_q, arrV_store, (am_in hx hj hm).2]
  congr 2
  funext q
  by_cases hq : q = j
  · subst hq; simp [updV, va_up, va_rf]
  · simp [updV, va_up, hq]
end
end
section
/-! my layer, 5: what every method is told; contracts; calls; ends -/
def am_G : List Cond := lw_tbl.filter goodWord
theorem am_wd (i : Nat) {w : Cond} (h : lw_tbl[i]? = some w) (hg : goodWord w = true) : w ∈ am_G := List.mem_filter.mpr ⟨List.mem_of_getElem? h, hg⟩
theorem am_G_good {w : Cond} (h : w ∈ am_G) : (w.onTables && w.keeps) = true ∨ ∃ ty, w = .arrayClass ty := good_of_word (List.mem_filter.mp h).2
/-- links of nest mates -/
def am_N : List (String × Nat × MethodName) := [(RX5, 50, yX3_init), (RX2, 37, yX5_contains), (RX2, 41, yX5_bit), (RX4, 29, yX5_bit), (RX4, 37, yX5_contains), (RX0, 25, yX5_bit), (RX1, 56, yX5_contains)]
/-- what holds of the tables and of the static fields, at every method's start -/
def am_K (N0 : Nat) (D : va_G) (ty : Nat → ClassId) (U : State) : Prop :=
  va_K D vwCl (am_tys ty) U ∧ (∀ q ∈ am_N, va_Nw (.methodLinkNest q.1 q.2.1 q.2.2 "MailPriory") U) ∧ (∀ c ∈ ["MailPriory$Person", "MailPriory$MailList", "MailPriory$Mail", "MailPriory$PostDay"], va_AO c U) ∧
  vx_Zq Bundle.tN "UNASSIGNED_STACK" Bundle.steD (fun q => N0 ≤ q) U U.heap ∧ vx_Zq Bundle.tN "SUPPRESSED_SENTINEL" Bundle.listD (fun q => N0 ≤ q) U U.heap
theorem am_K.go {N0 : Nat} {D : va_G} {ty : Nat → ClassId} {s U : State} (h : am_K N0 D ty s) (hW : s.WarmedH U.vm) {locs : List Loc} (hS : va_S (fun q => N0 ≤ q) s.heap U.heap locs) : am_K N0 D ty U := by
  obtain ⟨h1, h2, h3, h4, h5⟩ := h
  have hk : ∀ a : Nat, a < s.heap.size → ¬ N0 ≤ a → U.heap[a]? = s.heap[a]? := hS.2.1
  exact ⟨va_K.moved hW.alike h1, fun q hq => va_Nw.warmM hW (h2 q hq), fun c hc => va_AO.moved hW.alike (h3 c hc), (vx_Zq.moved hW.alike h4).kept hk, (vx_Zq.moved hW.alike h5).kept hk⟩
theorem am_K.call {N0 : Nat} {D : va_G} {ty : Nat → ClassId} {U : State} (h : am_K N0 D ty U) (g : JFrame) (mk : MethodId) (a : Array Value) : am_K N0 D ty (U.calling g mk a) := by
  obtain ⟨h1, h2, h3, h4, h5⟩ := h
  have hv : U.vm.Alike (U.calling g mk a).vm := Vm.Alike.refl U.vm
  exact ⟨va_K.moved hv h1, fun q hq => va_Nw.same rfl (show U.vm = (U.calling g mk a).vm from rfl) (h2 q hq), fun c hc => va_AO.moved hv (h3 c hc), vx_Zq.moved hv h4, vx_Zq.moved hv h5⟩
/-- a contract: from the heap X with these arguments the method comes back, and P holds of the heap and of the answer -/
abbrev am_Pc (N0 : Nat) (D : va_G) (ty : Nat → ClassId) (X : am_H) (av : List Value) (ad : Nat → Nat) : Array Value → State → Prop := va_Pc (av.map (am_v ad)) (fun U => N0 ≤ U.heap.size ∧ am_R N0 D ty ad X U.heap ∧ am_K N0 D ty U)
def am_Qc (N0 : Nat) (D : va_G) (ty : Nat → ClassId) (X : am_H) (P : am_H → Option Value → Prop) (ad : Nat → Nat) : Array Value → State → Outcome → State → Prop := fun _ st oc t =>
  (∃ (ad' : Nat → Nat) (X' : am_H) (r : Option Value), (∀ i, X i ≠ none → X' i ≠ none ∧ ad' i = ad i) ∧ oc = .returned (r.map (am_v ad')) ∧ P X' r ∧ am_R N0 D ty ad' X' t.heap) ∧ va_F (fun q => N0 ≤ q) st t
abbrev am_S : Type := Launch × Nat × va_G × (Nat → ClassId)
def am_B (G : am_S) (y : MethodName) (ws : List Cond) (rm : Room) (X : am_H) (av : List Value) (P : am_H → Option Value → Prop) : Prop :=
  ∀ ad : Nat → Nat, Met G.1 y ws rm (am_Pc G.2.1 G.2.2.1 G.2.2.2 X av ad) (am_Qc G.2.1 G.2.2.1 G.2.2.2 X P ad) rm.cells rm.slots (fun q => G.2.1 ≤ q)
theorem am_blind {N0 : Nat} {D : va_G} {ty : Nat → ClassId} {X : am_H} {av : List Value} {ad : Nat → Nat} : FrameBlind (am_Pc N0 D ty X av ad) := by
  intro a U g mk q
  obtain ⟨q0, q1, qR, qK⟩ := q
  exact ⟨q0, q1, qR, qK.call g mk a⟩
/-- the setting of a frame -/
abbrev am_Cx.se (C : am_Cx) : am_S := (C.la, C.n0, C.dg, C.ty)
/-- what is known in a method's body -/
def am_O (C : am_Cx) (X : am_H) (P : am_H → Option Value → Prop) (R : Room) : Prop := am_K C.n0 C.dg C.ty C.st ∧ C.x0 = X ∧ C.go = MQ C.be (am_Qc C.n0 C.dg C.ty X P C.a0) C.ar C.st R.cells R.slots (fun q => C.n0 ≤ q) ∧ C.ro = R
theorem am_sl_len (ad : Nat → Nat) (av : List Value) : (lg_sl (av.map (am_v ad))).length = (lg_sl av).length := by
  induction av with
  | nil => rfl
  | cons v r ih =>
    simp only [lg_sl, List.map_cons, List.flatMap_cons, List.length_append] at ih ⊢
    rw [ih, am_v_cat]
    congr 1
    by_cases h : v.category = 2 <;> simp [h]
theorem am_of {G : am_S} {y : MethodName} {cc : ByteArray} {nL : Nat} {ret : Option FieldType} {ws' : List Cond} {rm : Room} {X : am_H} {av : List Value} {P : am_H → Option Value → Prop} (hy : plainName y.cls = true) (hlen : (lg_sl av).length ≤ nL)
    (body : ∀ C : am_Cx, C.se = G → C.me.sig.returnType = ret → (y.name = C.me.name) → am_F C cc nL y.cls (.code y cc nL ret :: ws') → am_O C X P rm → am_W C X 0 0 0 (lv_args 0 av) []) : am_B G y (.code y cc nL ret :: ws') rm X av P := by
  intro ad
  refine Met.ofW (cc := cc) (maxL := nL) (ret := ret) hy rfl ?_
  intro p e s m args below meth c s₁ B hml hv
  obtain ⟨rfl, hsz, hR, hK⟩ := hv
  obtain ⟨l, N0, D, ty⟩ := G
  have hlsz : (lg_sl (av.map (am_v ad))).length ≤ nL := by rw [am_sl_len]; exact hlen
  have hl := lv_entry (av.map (am_v ad)) (n := nL) hlsz
  rw [lg_entry_eq]
  have hargs : ∀ (i : Nat) (vs : List Value), lv_args i (vs.map (am_v ad)) = am_L ad (lv_args i vs) := by
    intro i vs
    induction vs generalizing i with
    | nil => rfl
    | cons v r ih =>
      simp only [List.map_cons, lv_args, am_L, am_v_cat] at ih ⊢
      rw [ih]
  rw [hargs] at hl
  have hb0 := body ((p, l, e, rm, s), (m, (av.map (am_v ad)).toArray, below, meth, c), (MQ below (am_Qc N0 D ty X P ad) (av.map (am_v ad)).toArray s rm.cells rm.slots (fun q => N0 ≤ q), N0, D, ty), (X, ad)) rfl B.returns (name_of_methodNamed B.named B.method).1.symm
    ⟨⟨B.exec, B.bytes, hml, findClass_of_methodNamed B.named, atoms_spec B.pre⟩, hK.1, hsz, B.notSynchronized⟩ ⟨hK, rfl, rfl, rfl⟩
  exact hb0 ad s.heap [] _ (fun i hi => ⟨hi, rfl⟩) hR va_S.rf (by show lv_has _ c.maxLocals _; rw [hml]; exact hl)
section
variable {C : am_Cx} {X : am_H} {k n pc : Nat} {L : List (Nat × Value)} {st : List Value} {cc : ByteArray} {nL : Nat} {own : String} {Ts : List Cond}
theorem am_widen {k' n' : Nat} (h1 : k ≤ k') (h2 : n ≤ n') (kk : am_W C X k' n' pc L st) : am_W C X k n pc L st := fun ad H locs ls a b c d => W.widen h1 h2 (kk ad H locs ls a b c d)
theorem am_iret (hF : am_F C cc nL own Ts) {X0 : am_H} {P : am_H → Option Value → Prop} {R : Room} (hO : am_O C X0 P R) {ty : FieldType} (hr : C.me.sig.returnType = some ty) {v : Int32} (hn : narrow ty (.int v) = .int v) (hd : decode cc pc = .ok (.ireturn, 1)) (hP : P X (some (.int v))) : am_W C X R.cells R.slots pc L [.int v] := by
  intro ad H locs ls h1 h2 h3 h4
  obtain ⟨⟨hx1, hb, hml, hown, hts⟩, hK, hN, hlk⟩ := hF
  obtain ⟨hK9, hX0, hgo, hR9⟩ := hO
  rw [hgo]
  exact W.zret hx1 hb hr hn (fun t ht hW => ⟨⟨ad, X, some (.int v), fun i hi => h1 i (by rw [hX0]; exact hi), rfl, hP, by rw [ht]; exact h2⟩, h3.F ht⟩) h3.2.2 hd hlk
theorem am_vret (hF : am_F C cc nL own Ts) {X0 : am_H} {P : am_H → Option Value → Prop} {R : Room} (hO : am_O C X0 P R) (hr : C.me.sig.returnType = none) (hd : decode cc pc = .ok (.return_, 1)) (hP : P X none) : am_W C X R.cells R.slots pc L [] := by
  intro ad H locs ls h1 h2 h3 h4
  obtain ⟨⟨hx1, hb, hml, hown, hts⟩, hK, hN, hlk⟩ := hF
  obtain ⟨hK9, hX0, hgo, hR9⟩ := hO
  rw [hgo]
  exact W.vret hx1 hb hr (fun t ht hW => ⟨⟨ad, X, none, fun i hi => h1 i (by rw [hX0]; exact hi), rfl, hP, by rw [ht]; exact h2⟩, h3.F ht⟩) h3.2.2 hd hlk
theorem am_aret (hF : am_F C cc nL own Ts) {X0 : am_H} {P : am_H → Option Value → Prop} {R : Room} (hO : am_O C X0 P R) {rt : FieldType} (hr : C.me.sig.returnType = some rt) (hrt : (∃ n, rt = .object n) ∨ ∃ t, rt = .array t) {v : Value} (hv : v = .null ∨ ∃ a, v = .ref a) (hd : decode cc pc = .ok (.areturn, 1)) (hP : P X (some v)) : am_W C X R.cells R.slots pc L [v] := by
  intro ad H locs ls h1 h2 h3 h4
  obtain ⟨⟨hx1, hb, hml, hown, hts⟩, hK, hN, hlk⟩ := hF
  obtain ⟨hK9, hX0, hgo, hR9⟩ := hO
  rw [hgo]
  have hv9 : am_v ad v = .null ∨ ∃ a, am_v ad v = .ref a := by
    rcases hv with rfl | ⟨a, rfl⟩
    · exact Or.inl rfl
    · exact Or.inr ⟨ad a, rfl⟩
  exact W.aret hx1 hb hr hrt hv9 (fun t ht hW => ⟨⟨ad, X, some v, fun i hi => h1 i (by rw [hX0]; exact hi), rfl, hP, by rw [ht]; exact h2⟩, h3.F ht⟩) h3.2.2 hd hlk
/-- behind a call -/
theorem am_behind {mc ms : Nat} {rest : List Value} {P : am_H → Option Value → Prop} {a : Array Value} {ad : Nat → Nat} {H : Heap} {locs : List Loc} {ls : Array Slot} {st0 : List Value}
    (hr : va_Run C.pr C.la C.en C.ro C.st C.mi C.ar C.be C.me C.co H locs k n mc ms (F0 C.mi pc ls st0) (rest.map (am_v ad)) (am_Qc C.n0 C.dg C.ty X P ad a) (fun q => C.n0 ≤ q))
    (hsz : C.n0 ≤ H.size) (hfr : ∀ v ∈ rest, ∀ i, v = .ref i → X i ≠ none) (hfl : ∀ q ∈ L, ∀ i, q.2 = .ref i → X i ≠ none)
    (h1 : ∀ i, C.x0 i ≠ none → X i ≠ none ∧ ad i = C.a0 i) (h3 : va_S (fun q => C.n0 ≤ q) C.st.heap H locs) (h4 : lv_has ls C.co.maxLocals (am_L ad L))
    (kk : ∀ (X' : am_H) (r : Option Value), (∀ i, X i ≠ none → X' i ≠ none) → P X' r → am_W C X' (k + mc) (n + ms) (pc + 3) L (r.toList ++ rest)) : W C.pr C.la C.en C.ro C.st C.mi C.ar C.be C.me C.co H locs k n C.go (F0 C.mi pc ls st0) := by
  intro T hT Y
  obtain ⟨v, st₀, t, T', L9, h0, Y', hL, e1, e2, ⟨⟨ad', X', r, hag, hv, hp, hR⟩, hz, hk⟩, stp⟩ := hr T hT Y
  cases hv
  rw [h0] at hz hk
  have hvv : ∀ v : Value, (∀ i, v = .ref i → X i ≠ none) → am_v ad' v = am_v ad v := by
    intro v hv
    cases v with
    | ref i => show Value.ref _ = Value.ref _; rw [(hag i (hv i rfl)).2]
    | _ => rfl
  have hLL : am_L ad' L = am_L ad L := by
    unfold am_L
    refine List.map_congr_left (fun q hq => ?_)
    rw [hvv q.2 (hfl q hq)]
  have hRR : rest.map (am_v ad') = rest.map (am_v ad) := List.map_congr_left (fun v hv => hvv v (hfr v hv))
  have hS' : va_S (fun q => C.n0 ≤ q) C.st.heap T'.heap (locs ++ L9) := by
    refine ⟨Nat.le_trans h3.1 (by rw [e1]; exact hz), fun q g1 g2 => ?_, fun q hq => ?_⟩
    · rw [e1, hk q (Nat.lt_of_lt_of_le g1 h3.1) g2]; exact h3.2.1 q g1 g2
    · rcases List.mem_append.mp hq with h | h
      · exact h3.2.2 q h
      · exact hL q h
  obtain ⟨t2, a1, b1⟩ := kk X' r (fun i hi => (hag i hi).1) hp ad' T'.heap (locs ++ L9) ls (fun i hi => ⟨(hag i (h1 i hi).1).1, ((hag i (h1 i hi).1).2).trans (h1 i hi).2⟩) (by rw [e1]; exact hR) hS' (by rw [hLL]; exact h4) T' rfl Y'
  refine ⟨t2, stp t2 ?_, b1⟩
  rw [List.map_append, hRR] at a1
  cases r with
  | none => exact a1
  | some w => exact a1
end
end
section
/-! my layer, 6: calls -/
theorem am_gd {w0 : Cond} {ws : List Cond} (h : ∀ w ∈ ws, w ∈ am_G) : GoodIn (w0 :: am_G) ws := fun w hw => ⟨List.mem_cons_of_mem _ (h w hw), am_G_good (h w hw)⟩
/-- a method's own words: what a call of it asks of the tables -/
def am_M (y : MethodName) (cc : ByteArray) (nL : Nat) (ret : Option FieldType) (n : Nat) : Prop := Cond.code y cc nL ret ∈ am_G ∧ Cond.initialized y.cls ∈ am_G ∧ (y.cls ≠ "java/lang/invoke/MethodHandle" ∧ y.cls ≠ "java/lang/invoke/VarHandle" ∧ (parseMethodDescriptor y.desc).map (fun d => d.parameters.length) = some n)
def am_MV (y : MethodName) : Prop := Cond.instanceMethod y ∈ am_G ∧ Cond.selects y.cls y y ∈ am_G
theorem am_hn {ad : Nat → Nat} {As rest : List Value} : (As.reverse ++ rest).map (am_v ad) = (As.map (am_v ad)).reverse ++ rest.map (am_v ad) := by rw [List.map_append, List.map_reverse]
theorem am_cat (ad : Nat → Nat) (l : List Value) : ((l.map (am_v ad)).map fun v => v.category).sum = (l.map fun v => v.category).sum := by
  congr 1
  rw [List.map_map]
  exact List.map_congr_left (fun v _ => am_v_cat ad v)
section
variable {C : am_Cx} {X : am_H} {k n pc : Nat} {L : List (Nat × Value)} {st : List Value} {cc : ByteArray} {nL : Nat} {own : String} {Ts : List Cond}
/-- the callee's start out of the caller's place -/
theorem am_pre {av : List Value} {ad : Nat → Nat} {H : Heap} {locs : List Loc} (hK : am_K C.n0 C.dg C.ty C.st) (hN : C.n0 ≤ C.st.heap.size) (h2 : am_R C.n0 C.dg C.ty ad X H) (h3 : va_S (fun q => C.n0 ≤ q) C.st.heap H locs) :
    ∀ U : State, U.heap = H → C.st.WarmedH U.vm → am_Pc C.n0 C.dg C.ty X av ad (av.map (am_v ad)).toArray U := by
  intro U hU hW
  subst hU
  exact ⟨rfl, Nat.le_trans hN h3.1, h2, hK.go hW h3⟩
/-- no reference that isn't live: of a list of values, by computation over the heap's own rows -/
def am_lv (X : am_H) (vs : List Value) : Prop := ∀ v ∈ vs, ∀ i, v = .ref i → X i ≠ none
theorem am_lv_nil {X : am_H} : am_lv X [] := fun _ h => absurd h List.not_mem_nil
theorem am_lv_int {X : am_H} {x : Int32} {vs : List Value} (h : am_lv X vs) : am_lv X (.int x :: vs) := by
  intro v hv i hi
  rcases List.mem_cons.mp hv with rfl | hv
  · cases hi
  · exact h v hv i hi
theorem am_lv_long {X : am_H} {x : Int64} {vs : List Value} (h : am_lv X vs) : am_lv X (.long x :: vs) := by
  intro v hv i hi
  rcases List.mem_cons.mp hv with rfl | hv
  · cases hi
  · exact h v hv i hi
theorem am_lv_null {X : am_H} {vs : List Value} (h : am_lv X vs) : am_lv X (.null :: vs) := by
  intro v hv i hi
  rcases List.mem_cons.mp hv with rfl | hv
  · cases hi
  · exact h v hv i hi
theorem am_lv_ref {X : am_H} {j : Nat} {e : va_E} {vs : List Value} (hj : X j = some e) (h : am_lv X vs) : am_lv X (.ref j :: vs) := by
  intro v hv i hi
  rcases List.mem_cons.mp hv with rfl | hv
  · cases hi
    rw [hj]
    exact fun h => by cases h
  · exact h v hv i hi
theorem am_lv_L {X : am_H} {L : List (Nat × Value)} (h : am_lv X (L.map (·.2))) : ∀ q ∈ L, ∀ i, q.2 = .ref i → X i ≠ none := fun q hq i hi => h q.2 (List.mem_map.mpr ⟨q, hq, rfl⟩) i hi
set_option maxHeartbeats 1000000 in
theorem am_callV {X0 : am_H} {P0 : am_H → Option Value → Prop} {R : Room} {w0 : Cond} (hF : am_F C cc nL own (w0 :: am_G)) (hO : am_O C X0 P0 R) {y : MethodName} {ccY : ByteArray} {nY : Nat} {ret : Option FieldType} {rm : Room} {P : am_H → Option Value → Prop} {b : Nat} {As rest : List Value} {index nn : Nat}
    (hB : am_B C.se y (.code y ccY nY ret :: am_G) rm X (.ref b :: As) P) (hM : am_M y ccY nY ret nn) (hV : am_MV y) (hlink : Cond.methodLink own index y ∈ am_G) {ci : Nat} {fs : List Value} (hX : X b = some (.inr (ci, fs))) {T : u_T} {N : Nat} (hc : vwCl[ci]? = some (y.cls, T, N))
    (hnn : As.length = nn) (k2 n2 : Nat) (hro : rm.frames + 1 ≤ R.frames ∧ 8 + (nY + 11) + rm.locals ≤ R.locals) (hroom : k + rm.cells ≤ k2 ∧ n + rm.slots ≤ n2 ∧ k2 ≤ R.cells ∧ n2 ≤ R.slots) (hst : st = As.reverse ++ .ref b :: rest) (hlv : am_lv X (L.map (·.2) ++ rest)) (hcat : (rest.map fun v => v.category).sum ≤ 8) (hd : decode cc pc = .ok (.invokevirtual index, 3))
    (kk : ∀ (X' : am_H) (r : Option Value), (∀ i, X i ≠ none → X' i ≠ none) → P X' r → am_W C X' k2 n2 (pc + 3) L (r.toList ++ rest)) : am_W C X k n pc L st := by
  intro ad H locs ls h1 h2 h3 h4
  obtain ⟨hr1, hr2, hr3, hr4⟩ := hroom
  rw [← hO.2.2.2] at hro hr3 hr4
  obtain ⟨⟨hx1, hb, hml, hown, hts⟩, hK, hN, hlk⟩ := hF
  obtain ⟨r', hr', cellB, g1, g2, g3, -⟩ := (h2.1 b _ hX).1
  have hcls := (hK.1 ci _ hc).2
  have hgood : GoodIn (w0 :: am_G) (wsV own index y.cls y (.code y ccY nY ret :: am_G)) := am_gd (fun w hw => by
    rcases List.mem_append.mp hw with h | h
    · simp only [List.mem_cons, List.not_mem_nil, or_false] at h
      rcases h with rfl | rfl | rfl | rfl
      · exact hlink
      · exact hV.1
      · exact hV.2
      · exact hM.2.1
    · rcases List.mem_cons.mp h with rfl | h
      · exact hM.1
      · exact h)
  refine am_behind (a := (Value.ref (ad b) :: As.map (am_v ad)).toArray) (va_runV (As := As.map (am_v ad)) (rest := rest.map (am_v ad)) (b := ad b) ⟨hx1, hb, hml, hown, hts⟩ (hB ad) (cwV nn hts hgood rfl rfl rfl ⟨rfl, hM.2.2⟩ hro) ⟨am_blind, ⟨cellB, g1, by rw [g3]; rfl, by rw [g2]; exact hcls.1⟩, am_pre hO.1 hN h2 h3⟩ rfl (by rw [List.length_map]; exact hnn) (by rw [← hml]; exact h4.1) (by rw [hst]; exact am_hn) (lv_room (by rw [am_cat]; exact hcat)) hd ⟨Nat.le_trans hr1 hr3, Nat.le_trans hr2 hr4⟩) (Nat.le_trans hN h3.1) (fun v hv => hlv v (List.mem_append_right _ hv)) (am_lv_L (fun v hv => hlv v (List.mem_append_left _ hv))) h1 h3 h4 (fun X' r g1 g2 => am_widen hr1 hr2 (kk X' r g1 g2))
set_option maxHeartbeats 1000000 in
theorem am_callS {X0 : am_H} {P0 : am_H → Option Value → Prop} {R : Room} {w0 : Cond} (hF : am_F C cc nL own (w0 :: am_G)) (hO : am_O C X0 P0 R) {y : MethodName} {ccY : ByteArray} {nY : Nat} {ret : Option FieldType} {rm : Room} {P : am_H → Option Value → Prop} {As rest : List Value} {index nn : Nat}
    (hB : am_B C.se y (.code y ccY nY ret :: am_G) rm X As P) (hM : am_M y ccY nY ret nn) (hV : Cond.static y ∈ am_G) (hlink : Cond.methodLink own index y ∈ am_G)
    (hnn : As.length = nn) (k2 n2 : Nat) (hro : rm.frames + 1 ≤ R.frames ∧ 8 + (nY + 11) + rm.locals ≤ R.locals) (hroom : k + rm.cells ≤ k2 ∧ n + rm.slots ≤ n2 ∧ k2 ≤ R.cells ∧ n2 ≤ R.slots) (hst : st = As.reverse ++ rest) (hlv : am_lv X (L.map (·.2) ++ rest)) (hcat : (rest.map fun v => v.category).sum ≤ 8) (hd : decode cc pc = .ok (.invokestatic index, 3))
    (kk : ∀ (X' : am_H) (r : Option Value), (∀ i, X i ≠ none → X' i ≠ none) → P X' r → am_W C X' k2 n2 (pc + 3) L (r.toList ++ rest)) : am_W C X k n pc L st := by
  intro ad H locs ls h1 h2 h3 h4
  obtain ⟨hr1, hr2, hr3, hr4⟩ := hroom
  rw [← hO.2.2.2] at hro hr3 hr4
  obtain ⟨⟨hx1, hb, hml, hown, hts⟩, hK, hN, hlk⟩ := hF
  have hgood : GoodIn (w0 :: am_G) (va_wsS own index y (.code y ccY nY ret :: am_G)) := am_gd (fun w hw => by
    rcases List.mem_append.mp hw with h | h
    · simp only [List.mem_cons, List.not_mem_nil, or_false] at h
      rcases h with rfl | rfl | rfl
      · exact hlink
      · exact hV
      · exact hM.2.1
    · rcases List.mem_cons.mp h with rfl | h
      · exact hM.1
      · exact h)
  refine am_behind (a := (As.map (am_v ad)).toArray) (va_runS (As := As.map (am_v ad)) (rest := rest.map (am_v ad)) ⟨hx1, hb, hml, hown, hts⟩ (hB ad) (va_cwS nn hts hgood rfl rfl rfl hM.2.2 hro) ⟨am_blind, am_pre hO.1 hN h2 h3⟩ rfl (by rw [List.length_map]; exact hnn) (by rw [← hml]; exact h4.1) (by rw [hst]; exact am_hn) (lv_room (by rw [am_cat]; exact hcat)) hd ⟨Nat.le_trans hr1 hr3, Nat.le_trans hr2 hr4⟩) (Nat.le_trans hN h3.1) (fun v hv => hlv v (List.mem_append_right _ hv)) (am_lv_L (fun v hv => hlv v (List.mem_append_left _ hv))) h1 h3 h4 (fun X' r g1 g2 => am_widen hr1 hr2 (kk X' r g1 g2))
set_option maxHeartbeats 1000000 in
theorem am_callSN {X0 : am_H} {P0 : am_H → Option Value → Prop} {R : Room} {w0 : Cond} (hF : am_F C cc nL own (w0 :: am_G)) (hO : am_O C X0 P0 R) {y : MethodName} {ccY : ByteArray} {nY : Nat} {ret : Option FieldType} {rm : Room} {P : am_H → Option Value → Prop} {As rest : List Value} {index nn : Nat}
    (hB : am_B C.se y (.code y ccY nY ret :: am_G) rm X As P) (hM : am_M y ccY nY ret nn) (hV : Cond.static y ∈ am_G) (hlink : (own, index, y) ∈ am_N)
    (hnn : As.length = nn) (k2 n2 : Nat) (hro : rm.frames + 1 ≤ R.frames ∧ 8 + (nY + 11) + rm.locals ≤ R.locals) (hroom : k + rm.cells ≤ k2 ∧ n + rm.slots ≤ n2 ∧ k2 ≤ R.cells ∧ n2 ≤ R.slots) (hst : st = As.reverse ++ rest) (hlv : am_lv X (L.map (·.2) ++ rest)) (hcat : (rest.map fun v => v.category).sum ≤ 8) (hd : decode cc pc = .ok (.invokestatic index, 3))
    (kk : ∀ (X' : am_H) (r : Option Value), (∀ i, X i ≠ none → X' i ≠ none) → P X' r → am_W C X' k2 n2 (pc + 3) L (r.toList ++ rest)) : am_W C X k n pc L st := by
  intro ad H locs ls h1 h2 h3 h4
  obtain ⟨hr1, hr2, hr3, hr4⟩ := hroom
  rw [← hO.2.2.2] at hro hr3 hr4
  obtain ⟨⟨hx1, hb, hml, hown, hts⟩, hK, hN, hlk⟩ := hF
  have hgood : GoodIn (w0 :: am_G) (.code y ccY nY ret :: am_G) := am_gd (fun w hw => by
    rcases List.mem_cons.mp hw with rfl | h
    · exact hM.1
    · exact h)
  refine am_behind (a := (As.map (am_v ad)).toArray) (va_runSN (As := As.map (am_v ad)) (rest := rest.map (am_v ad)) ⟨hx1, hb, hml, hown, hts⟩ (hB ad) ⟨va_cnB nn hts hgood rfl rfl rfl (hO.1.2.1 _ hlink) (hts _ (List.mem_cons_of_mem _ hM.2.1)) hM.2.2 hro, hts _ (List.mem_cons_of_mem _ hV), trivial⟩ ⟨am_blind, am_pre hO.1 hN h2 h3⟩ rfl (by rw [List.length_map]; exact hnn) (by rw [← hml]; exact h4.1) (by rw [hst]; exact am_hn) (lv_room (by rw [am_cat]; exact hcat)) hd ⟨Nat.le_trans hr1 hr3, Nat.le_trans hr2 hr4⟩) (Nat.le_trans hN h3.1) (fun v hv => hlv v (List.mem_append_right _ hv)) (am_lv_L (fun v hv => hlv v (List.mem_append_left _ hv))) h1 h3 h4 (fun X' r g1 g2 => am_widen hr1 hr2 (kk X' r g1 g2))
set_option maxHeartbeats 1000000 in
theorem am_callI {X0 : am_H} {P0 : am_H → Option Value → Prop} {R : Room} {w0 : Cond} (hF : am_F C cc nL own (w0 :: am_G)) (hO : am_O C X0 P0 R) {y : MethodName} {ccY : ByteArray} {nY : Nat} {rm : Room} {P : am_H → Option Value → Prop} {b : Nat} {As rest : List Value} {index nn : Nat}
    (hB : am_B C.se y (.code y ccY nY none :: am_G) rm X (.ref b :: As) P) (hM : am_M y ccY nY none nn) (hV : Cond.instanceMethod y ∈ am_G) (hy : y.name = "<init>") (hlink : Cond.methodLink own index y ∈ am_G)
    (hnn : As.length = nn) (k2 n2 : Nat) (hro : rm.frames + 1 ≤ R.frames ∧ 8 + (nY + 11) + rm.locals ≤ R.locals) (hroom : k + rm.cells ≤ k2 ∧ n + rm.slots ≤ n2 ∧ k2 ≤ R.cells ∧ n2 ≤ R.slots) (hst : st = As.reverse ++ .ref b :: rest) (hlv : am_lv X (L.map (·.2) ++ rest)) (hcat : (rest.map fun v => v.category).sum ≤ 8) (hd : decode cc pc = .ok (.invokespecial index, 3))
    (kk : ∀ (X' : am_H) (r : Option Value), (∀ i, X i ≠ none → X' i ≠ none) → P X' r → am_W C X' k2 n2 (pc + 3) L (r.toList ++ rest)) : am_W C X k n pc L st := by
  intro ad H locs ls h1 h2 h3 h4
  obtain ⟨hr1, hr2, hr3, hr4⟩ := hroom
  rw [← hO.2.2.2] at hro hr3 hr4
  obtain ⟨⟨hx1, hb, hml, hown, hts⟩, hK, hN, hlk⟩ := hF
  have hgood : GoodIn (w0 :: am_G) (.code y ccY nY none :: am_G) := am_gd (fun w hw => by
    rcases List.mem_cons.mp hw with rfl | h
    · exact hM.1
    · exact h)
  refine am_behind (a := (Value.ref (ad b) :: As.map (am_v ad)).toArray) (va_runI (As := As.map (am_v ad)) (rest := rest.map (am_v ad)) (b := ad b) ⟨hx1, hb, hml, hown, hts⟩ (hB ad) (cwI nn hts hgood rfl rfl rfl (hts _ (List.mem_cons_of_mem _ hM.2.1)) (hts _ (List.mem_cons_of_mem _ hlink)) (hts _ (List.mem_cons_of_mem _ hV)) hy hM.2.2 hro) ⟨am_blind, am_pre hO.1 hN h2 h3⟩ rfl (by rw [List.length_map]; exact hnn) (by rw [← hml]; exact h4.1) (by rw [hst]; exact am_hn) (lv_room (by rw [am_cat]; exact hcat)) hd ⟨Nat.le_trans hr1 hr3, Nat.le_trans hr2 hr4⟩) (Nat.le_trans hN h3.1) (fun v hv => hlv v (List.mem_append_right _ hv)) (am_lv_L (fun v hv => hlv v (List.mem_append_left _ hv))) h1 h3 h4 (fun X' r g1 g2 => am_widen hr1 hr2 (kk X' r g1 g2))
set_option maxHeartbeats 1000000 in
theorem am_callIN {X0 : am_H} {P0 : am_H → Option Value → Prop} {R : Room} {w0 : Cond} (hF : am_F C cc nL own (w0 :: am_G)) (hO : am_O C X0 P0 R) {y : MethodName} {ccY : ByteArray} {nY : Nat} {rm : Room} {P : am_H → Option Value → Prop} {b : Nat} {As rest : List Value} {index nn : Nat}
    (hB : am_B C.se y (.code y ccY nY none :: am_G) rm X (.ref b :: As) P) (hM : am_M y ccY nY none nn) (hV : Cond.instanceMethod y ∈ am_G) (hy : y.name = "<init>") (hlink : (own, index, y) ∈ am_N)
    (hnn : As.length = nn) (k2 n2 : Nat) (hro : rm.frames + 1 ≤ R.frames ∧ 8 + (nY + 11) + rm.locals ≤ R.locals) (hroom : k + rm.cells ≤ k2 ∧ n + rm.slots ≤ n2 ∧ k2 ≤ R.cells ∧ n2 ≤ R.slots) (hst : st = As.reverse ++ .ref b :: rest) (hlv : am_lv X (L.map (·.2) ++ rest)) (hcat : (rest.map fun v => v.category).sum ≤ 8) (hd : decode cc pc = .ok (.invokespecial index, 3))
    (kk : ∀ (X' : am_H) (r : Option Value), (∀ i, X i ≠ none → X' i ≠ none) → P X' r → am_W C X' k2 n2 (pc + 3) L (r.toList ++ rest)) : am_W C X k n pc L st := by
  intro ad H locs ls h1 h2 h3 h4
  obtain ⟨hr1, hr2, hr3, hr4⟩ := hroom
  rw [← hO.2.2.2] at hro hr3 hr4
  obtain ⟨⟨hx1, hb, hml, hown, hts⟩, hK, hN, hlk⟩ := hF
  have hgood : GoodIn (w0 :: am_G) (.code y ccY nY none :: am_G) := am_gd (fun w hw => by
    rcases List.mem_cons.mp hw with rfl | h
    · exact hM.1
    · exact h)
  refine am_behind (a := (Value.ref (ad b) :: As.map (am_v ad)).toArray) (va_runIN (As := As.map (am_v ad)) (rest := rest.map (am_v ad)) (b := ad b) ⟨hx1, hb, hml, hown, hts⟩ (hB ad) ⟨va_cnB nn hts hgood rfl rfl rfl (hO.1.2.1 _ hlink) (hts _ (List.mem_cons_of_mem _ hM.2.1)) hM.2.2 hro, hy, hts _ (List.mem_cons_of_mem _ hV)⟩ ⟨am_blind, am_pre hO.1 hN h2 h3⟩ rfl (by rw [List.length_map]; exact hnn) (by rw [← hml]; exact h4.1) (by rw [hst]; exact am_hn) (lv_room (by rw [am_cat]; exact hcat)) hd ⟨Nat.le_trans hr1 hr3, Nat.le_trans hr2 hr4⟩) (Nat.le_trans hN h3.1) (fun v hv => hlv v (List.mem_append_right _ hv)) (am_lv_L (fun v hv => hlv v (List.mem_append_left _ hv))) h1 h3 h4 (fun X' r g1 g2 => am_widen hr1 hr2 (kk X' r g1 g2))
end
end
section
/-! my layer, 7: cells made; calls whose end is known -/
/-- no cell speaks of the identity i; no value of a list does -/
def am_fr (X : am_H) (i : Nat) : Prop := ∀ (j : Nat) (e : va_E), X j = some e → ∀ (ty : Nat → ClassId) (ad : Nat → Nat) (q : Nat), am_e ty (va_up ad i q) e = am_e ty ad e
def am_nr (i : Nat) (vs : List Value) : Prop := ∀ v ∈ vs, v ≠ .ref i
theorem am_nr_v {i : Nat} {v : Value} (h : v ≠ .ref i) (ad : Nat → Nat) (q : Nat) : am_v (va_up ad i q) v = am_v ad v := by
  cases v with
  | ref a =>
    have : a ≠ i := fun e => h (by rw [e])
    show Value.ref _ = Value.ref _
    rw [va_up_ne _ _ this]
  | _ => rfl
theorem am_nr_map {i : Nat} {vs : List Value} (h : am_nr i vs) (ad : Nat → Nat) (q : Nat) : vs.map (am_v (va_up ad i q)) = vs.map (am_v ad) := List.map_congr_left (fun v hv => am_nr_v (h v hv) ad q)
theorem am_nr_L {i : Nat} {L : List (Nat × Value)} (h : am_nr i (L.map (·.2))) (ad : Nat → Nat) (q : Nat) : am_L (va_up ad i q) L = am_L ad L := List.map_congr_left (fun v hv => by rw [am_nr_v (h v.2 (List.mem_map.mpr ⟨v, hv, rfl⟩)) ad q])
theorem am_nr_nil {i : Nat} : am_nr i [] := fun _ h => absurd h List.not_mem_nil
theorem am_nr_c {i : Nat} {v : Value} {vs : List Value} (h : v ≠ .ref i) (hs : am_nr i vs) : am_nr i (v :: vs) := by
  intro w hw
  rcases List.mem_cons.mp hw with rfl | hw
  · exact h
  · exact hs w hw
theorem am_R.push {N0 : Nat} {D : va_G} {ty : Nat → ClassId} {ad : Nat → Nat} {X : am_H} {H H1 : Heap} (h : am_R N0 D ty ad X H) {i : Nat} {e : va_E} (hi : X i = none) (hfr : am_fr X i) (hN : N0 ≤ H.size) (he : va_at D vwCl (H.size, am_e ty (va_up ad i H.size) e) H1) (ho : ∀ q, q < H.size → H1[q]? = H[q]?) : am_R N0 D ty (va_up ad i H.size) (am_u X i e) H1 := by
  have hl : ∀ {j : Nat}, X j ≠ none → ad j < H.size ∧ j ≠ i := by
    intro j hj
    refine ⟨?_, fun e => hj (by rw [e]; exact hi)⟩
    cases hx : X j with
    | none => exact absurd hx hj
    | some x => exact (h.1 j x hx).1.lt
  have hu : ∀ {j : Nat}, am_u X i e j ≠ none → j = i ∨ X j ≠ none := by
    intro j hj
    by_cases hji : j = i
    · exact Or.inl hji
    · unfold am_u at hj; rw [if_neg hji] at hj; exact Or.inr hj
  refine ⟨fun j x hj => ?_, fun a b ha hb hab => ?_⟩
  · unfold am_u at hj
    by_cases hji : j = i
    · subst hji
      rw [if_pos rfl] at hj
      cases hj
      rw [va_up_self]
      exact ⟨he, hN⟩
    · rw [if_neg hji] at hj
      rw [va_up_ne _ _ hji, hfr j x hj]
      obtain ⟨h1, h2⟩ := h.1 j x hj
      exact ⟨h1.kept (ho _ h1.lt), h2⟩
  · rcases hu ha with rfl | h1 <;> rcases hu hb with rfl | h2
    · rfl
    · rw [va_up_self, va_up_ne _ _ (hl h2).2] at hab
      exact absurd hab (Nat.ne_of_gt (hl h2).1)
    · rw [va_up_self, va_up_ne _ _ (hl h1).2] at hab
      exact absurd hab (Nat.ne_of_lt (hl h1).1)
    · rw [va_up_ne _ _ (hl h1).2, va_up_ne _ _ (hl h2).2] at hab
      exact h.2 a b h1 h2 hab
theorem am_livep {X : am_H} {i : Nat} {e : va_E} (hi : X i = none) {ad : Nat → Nat} {x0 : am_H} {a0 : Nat → Nat} (h : ∀ j, x0 j ≠ none → X j ≠ none ∧ ad j = a0 j) (q : Nat) : ∀ j, x0 j ≠ none → am_u X i e j ≠ none ∧ va_up ad i q j = a0 j := by
  intro j hj
  have hji : j ≠ i := fun e => (h j hj).1 (by rw [e]; exact hi)
  refine ⟨?_, by rw [va_up_ne _ _ hji]; exact (h j hj).2⟩
  unfold am_u
  rw [if_neg hji]
  exact (h j hj).1
section
variable {C : am_Cx} {X : am_H} {k n pc : Nat} {L : List (Nat × Value)} {st : List Value} {cc : ByteArray} {nL : Nat} {own : String} {Ts : List Cond}
theorem am_S9 {H0 H H1 : Heap} {N0 : Nat} {locs : List Loc} (h : va_S (fun q => N0 ≤ q) H0 H locs) (z : H1.size = H.size + 1) (ho : ∀ q, q < H.size → H1[q]? = H[q]?) : va_S (fun q => N0 ≤ q) H0 H1 locs :=
  ⟨Nat.le_trans h.1 (by omega), fun x h1 h2 => (ho x (Nat.lt_of_lt_of_le h1 h.1)).trans (h.2.1 x h1 h2), h.2.2⟩
theorem am_new {X0 : am_H} {P0 : am_H → Option Value → Prop} {R : Room} (hF : am_F C cc nL own Ts) (hO : am_O C X0 P0 R) (i : Nat) (hi : X i = none) {Cn : String} {T : u_T} {N ci index : Nat} {fs : List Value} (hc : vwCl[ci]? = some (Cn, T, N)) (hin : ∀ w ∈ u_ws Cn T N, w ∈ Ts) (ty0 : Nat → FieldType) (hty : ∀ k, k < N → parseFieldDescriptor (T k).2.2.1 = some (ty0 k)) (hcl : Cond.classLink own index Cn ∈ Ts) (hinst : Cond.instantiable Cn N ∈ Ts) (hini : Cond.initialized Cn ∈ Ts) (hfs : ∀ j, j < N → defaultValue (ty0 j) = vp_V fs j) (hnf : ∀ ad, fs.map (am_v ad) = fs) (hfr : am_fr X i) (hnr : am_nr i (L.map (·.2) ++ st)) (k2 n2 : Nat) (hroom : k + 1 ≤ k2 ∧ n + N ≤ n2 ∧ k2 ≤ R.cells ∧ n2 ≤ R.slots) (hd : decode cc pc = .ok (.new index, 3))
    (kk : am_W C (am_u X i (.inr (ci, fs))) k2 n2 (pc + 3) L (.ref i :: st)) : am_W C X k n pc L st := by
  intro ad H locs ls h1 h2 h3 h4
  obtain ⟨⟨hx, hb, hml, hown, hts⟩, hK, hN, hlk⟩ := hF
  obtain ⟨hr1, hr2, hr3, hr4⟩ := hroom
  rw [← hO.2.2.2] at hr3 hr4
  have hKn := hK.1 ci _ hc
  refine W.newcK hx hb hown (hts _ hcl) (hts _ hinst) (hts _ hini) rfl hd (Nat.le_trans hr1 hr3) (Nat.le_trans hr2 hr4) hKn.2.1 rfl fun H1 kC hkC e1 z1 o1 => ?_
  have hRr := h2.push (e := .inr (ci, fs)) hi hfr (Nat.le_trans hN h3.1) (H1 := H1) ⟨_, hc, (by show t_OB _ _ _ _ _ (vp_V (fs.map _)); rw [hnf]; exact (u_born ty0 hts hin hKn hkC e1 hty).to hfs)⟩ o1
  have hk9 := kk (va_up ad i H.size) H1 locs ls (am_livep hi h1 _) hRr (am_S9 h3 z1 o1) (by rw [am_nr_L (fun v hv => hnr v (List.mem_append_left _ hv))]; exact h4)
  rw [List.map_cons, am_nr_map (fun v hv => hnr v (List.mem_append_right _ hv))] at hk9
  refine W.widen hr1 hr2 ?_
  have e9 : am_v (va_up ad i H.size) (.ref i) = .ref H.size := by show Value.ref _ = _; rw [va_up_self]
  rw [e9] at hk9
  exact hk9
theorem am_newa {X0 : am_H} {P0 : am_H → Option Value → Prop} {R : Room} (hF : am_F C cc nL own Ts) (hO : am_O C X0 P0 R) (i : Nat) (hi : X i = none) (t m : Nat) {x : Int32} {atype : ArrayType} {a0 : vp_A} (ht : t < 7) (hat : newarray.typeOf atype = am_ft t) (harr : Cond.arrayClass (newarray.typeOf atype) ∈ Ts) (ha : ∀ cA : ClassId, vp_cell cA a0 = arrV cA m (fun _ => defaultValue (am_ft t))) (hna : ∀ ad, am_a ad a0 = a0) (hx9 : x = nI m) (hm : m < 2 ^ 20) (hfr : am_fr X i) (hnr : am_nr i (L.map (·.2) ++ st)) (k2 n2 : Nat) (hroom : k + 1 ≤ k2 ∧ n + m ≤ n2 ∧ k2 ≤ R.cells ∧ n2 ≤ R.slots) (hd : decode cc pc = .ok (.newarray atype, 2))
    (kk : am_W C (am_u X i (.inl (t, a0))) k2 n2 (pc + 2) L (.ref i :: st)) : am_W C X k n pc L (.int x :: st) := by
  intro ad H locs ls h1 h2 h3 h4
  obtain ⟨⟨hx, hb, hml, hown, hts⟩, hK, hN, hlk⟩ := hF
  obtain ⟨hr1, hr2, hr3, hr4⟩ := hroom
  rw [← hO.2.2.2] at hr3 hr4
  have hm31 : m < 2 ^ 31 := Nat.lt_trans hm (by decide)
  have hcb : componentBytes (newarray.typeOf atype) ≤ 8 := by cases atype <;> decide
  refine va_newaK hx hb (hts _ harr) rfl hd rfl (by rw [hx9]; exact nI_pos hm31) (by rw [hx9]; exact nI_clamp hm31) (Nat.le_trans (Nat.mul_le_mul (Nat.le_of_lt hm) hcb) (by decide)) (Nat.le_trans hr1 hr3) (Nat.le_trans hr2 hr4) rfl fun H1 cA e1 z1 o1 hAr hNm => ?_
  have hRA := (hK.2 t _ (am_ty9 ht)).2
  have hcA : C.ty t = cA := by
    rw [hat] at hNm
    unfold va_RA at hRA
    cases hft : am_ft t with
    | object c9 => rw [hft] at hat; cases atype <;> cases hat
    | _ =>
      simp only [hft] at hRA
      rw [hft] at hNm
      exact Option.some.inj (hRA.symm.trans hNm)
  have hRr := h2.push (e := .inl (t, a0)) hi hfr (Nat.le_trans hN h3.1) (H1 := H1) (by
    show H1[H.size]? = some (vp_cell (C.ty t) (am_a _ a0))
    rw [hna, ha, hcA, ← hat]
    exact e1) o1
  have hk9 := kk (va_up ad i H.size) H1 locs ls (am_livep hi h1 _) hRr (am_S9 h3 z1 o1) (by rw [am_nr_L (fun v hv => hnr v (List.mem_append_left _ hv))]; exact h4)
  rw [List.map_cons, am_nr_map (fun v hv => hnr v (List.mem_append_right _ hv))] at hk9
  refine W.widen hr1 hr2 ?_
  have e9 : am_v (va_up ad i H.size) (.ref i) = .ref H.size := by show Value.ref _ = _; rw [va_up_self]
  rw [e9] at hk9
  exact hk9
theorem am_newq {X0 : am_H} {P0 : am_H → Option Value → Prop} {R : Room} (hF : am_F C cc nL own Ts) (hO : am_O C X0 P0 R) (i : Nat) (hi : X i = none) (t m : Nat) {x : Int32} {Cn : String} {index : Nat} (ht : t < 7) (hat : am_ft t = .object Cn) (hcl : Cond.classLink own index Cn ∈ Ts) (hover : Cn ∈ ["MailPriory$Person", "MailPriory$MailList", "MailPriory$Mail", "MailPriory$PostDay"]) (hx9 : x = nI m) (hm : m < 2 ^ 20) (hfr : am_fr X i) (hnr : am_nr i (L.map (·.2) ++ st)) (k2 n2 : Nat) (hroom : k + 1 ≤ k2 ∧ n + m ≤ n2 ∧ k2 ≤ R.cells ∧ n2 ≤ R.slots) (hd : decode cc pc = .ok (.anewarray index, 3))
    (kk : am_W C (am_u X i (.inl (t, m, .inr (.inr (.inr (.inr (fun _ => none))))))) k2 n2 (pc + 3) L (.ref i :: st)) : am_W C X k n pc L (.int x :: st) := by
  intro ad H locs ls h1 h2 h3 h4
  obtain ⟨⟨hx, hb, hml, hown, hts⟩, hK, hN, hlk⟩ := hF
  obtain ⟨hr1, hr2, hr3, hr4⟩ := hroom
  rw [← hO.2.2.2] at hr3 hr4
  have hm31 : m < 2 ^ 31 := Nat.lt_trans hm (by decide)
  have hcl9 : x.toNatClampNeg = m := by rw [hx9]; exact nI_clamp hm31
  refine W.anew hx hb hown (hts _ hcl) (va_AO.use (hO.1.2.2.1 _ hover)) rfl hd rfl (by rw [hx9]; exact nI_pos hm31) (by rw [hcl9]; exact Nat.le_trans (Nat.mul_le_mul (Nat.le_of_lt hm) (Nat.le_refl 4)) (by decide)) (Nat.le_trans hr1 hr3) (by rw [hcl9]; exact Nat.le_trans hr2 hr4) fun cA kA comp f1 f2 f3 f4 => ?_
  rw [hcl9]
  generalize hH1 : H.push ({ cls := cA, slots := Array.replicate m .null, vm := .none } : Cell) = H1
  have z1 : H1.size = H.size + 1 := by rw [← hH1, Array.size_push]
  have e1 : H1[H.size]? = some (arrV cA m (fun _ => .null)) := by rw [← hH1, Array.getElem?_push_size, ← arrV_new]
  have o1 : ∀ q : Nat, q < H.size → H1[q]? = H[q]? := fun q hq => by rw [← hH1, Array.getElem?_push, if_neg (Nat.ne_of_lt hq)]
  have hRA := (hK.2 t _ (am_ty9 ht)).2
  have hcA : C.ty t = cA := by
    unfold va_RA at hRA
    simp only [hat] at hRA
    obtain ⟨kA', comp', -, -, -, k4⟩ := hRA
    exact Option.some.inj (k4.symm.trans f1)
  have hRr := h2.push (e := .inl (t, m, .inr (.inr (.inr (.inr (fun _ => none)))))) hi hfr (Nat.le_trans hN h3.1) (H1 := H1) (by
    show H1[H.size]? = some (vp_cell (C.ty t) (m, .inr (.inr (.inr (.inr (fun _ => none))))))
    rw [hcA, vp_cell_q]
    exact e1) o1
  have hk9 := kk (va_up ad i H.size) H1 locs ls (am_livep hi h1 _) hRr (am_S9 h3 z1 o1) (by rw [am_nr_L (fun v hv => hnr v (List.mem_append_left _ hv))]; exact h4)
  rw [List.map_cons, am_nr_map (fun v hv => hnr v (List.mem_append_right _ hv))] at hk9
  refine W.widen hr1 hr2 ?_
  have e9 : am_v (va_up ad i H.size) (.ref i) = .ref H.size := by show Value.ref _ = _; rw [va_up_self]
  rw [e9] at hk9
  exact hk9
theorem am_oinit {X0 : am_H} {P0 : am_H → Option Value → Prop} {R : Room} (hF : am_F C cc nL own Ts) (hO : am_O C X0 P0 R) {b index : Nat} (hlink : Cond.methodLink own index Lib.objectInit ∈ Ts) (hinst : Cond.instanceMethod Lib.objectInit ∈ Ts) (hcode : Cond.code Lib.objectInit ⟨#[0xb1]⟩ 1 none ∈ Ts) (hro : 1 ≤ R.frames ∧ (st.map fun v => v.category).sum + 12 ≤ R.locals) (hd : decode cc pc = .ok (.invokespecial index, 3)) (kk : am_W C X k n (pc + 3) L st) : am_W C X k n pc L (.ref b :: st) := by
  intro ad H locs ls h1 h2 h3 h4
  obtain ⟨⟨hx, hb, hml, hown, hts⟩, hK, hN, hlk⟩ := hF
  rw [← hO.2.2.2] at hro
  refine W.objInit hx hb hown (hts _ hlink) (hts _ hinst) (hts _ hcode) rfl h4.1 rfl hd hro.1 ?_ (kk ad H locs ls h1 h2 h3 h4)
  show 2 * 0 + _ + 12 ≤ _
  rw [am_cat]
  omega
/-- a contract whose end is known -/
abbrev am_D (G : am_S) (y : MethodName) (ws : List Cond) (rm : Room) (X : am_H) (av : List Value) (X1 : am_H) (r : Option Value) : Prop := am_B G y ws rm X av (fun X' r' => X' = X1 ∧ r' = r)
theorem am_dV {X0 : am_H} {P0 : am_H → Option Value → Prop} {R : Room} {w0 : Cond} (hF : am_F C cc nL own (w0 :: am_G)) (hO : am_O C X0 P0 R) {y : MethodName} {ccY : ByteArray} {nY : Nat} {ret : Option FieldType} {rm : Room} {X1 : am_H} {r : Option Value} {b : Nat} (As rest : List Value) {index nn : Nat}
    (hB : am_D C.se y (.code y ccY nY ret :: am_G) rm X (.ref b :: As) X1 r) (hM : am_M y ccY nY ret nn) (hV : am_MV y) (hlink : Cond.methodLink own index y ∈ am_G) {ci : Nat} {fs : List Value} (hX : X b = some (.inr (ci, fs))) {T : u_T} {N : Nat} (hc : vwCl[ci]? = some (y.cls, T, N))
    (hnn : As.length = nn) (k2 n2 : Nat) (hro : rm.frames + 1 ≤ R.frames ∧ 8 + (nY + 11) + rm.locals ≤ R.locals) (hroom : k + rm.cells ≤ k2 ∧ n + rm.slots ≤ n2 ∧ k2 ≤ R.cells ∧ n2 ≤ R.slots) (hst : st = As.reverse ++ .ref b :: rest) (hlv : am_lv X (L.map (·.2) ++ rest)) (hcat : (rest.map fun v => v.category).sum ≤ 8) (hd : decode cc pc = .ok (.invokevirtual index, 3))
    (st' : List Value) (hs' : r.toList ++ rest = st') (kk : am_W C X1 k2 n2 (pc + 3) L st') : am_W C X k n pc L st :=
  am_callV hF hO hB hM hV hlink hX hc hnn k2 n2 hro hroom hst hlv hcat hd (fun X' r' _ h => by obtain ⟨rfl, rfl⟩ := h; rw [hs']; exact kk)
theorem am_dS {X0 : am_H} {P0 : am_H → Option Value → Prop} {R : Room} {w0 : Cond} (hF : am_F C cc nL own (w0 :: am_G)) (hO : am_O C X0 P0 R) {y : MethodName} {ccY : ByteArray} {nY : Nat} {ret : Option FieldType} {rm : Room} {X1 : am_H} {r : Option Value} (As rest : List Value) {index nn : Nat}
    (hB : am_D C.se y (.code y ccY nY ret :: am_G) rm X As X1 r) (hM : am_M y ccY nY ret nn) (hV : Cond.static y ∈ am_G) (hlink : Cond.methodLink own index y ∈ am_G)
    (hnn : As.length = nn) (k2 n2 : Nat) (hro : rm.frames + 1 ≤ R.frames ∧ 8 + (nY + 11) + rm.locals ≤ R.locals) (hroom : k + rm.cells ≤ k2 ∧ n + rm.slots ≤ n2 ∧ k2 ≤ R.cells ∧ n2 ≤ R.slots) (hst : st = As.reverse ++ rest) (hlv : am_lv X (L.map (·.2) ++ rest)) (hcat : (rest.map fun v => v.category).sum ≤ 8) (hd : decode cc pc = .ok (.invokestatic index, 3))
    (st' : List Value) (hs' : r.toList ++ rest = st') (kk : am_W C X1 k2 n2 (pc + 3) L st') : am_W C X k n pc L st :=
  am_callS hF hO hB hM hV hlink hnn k2 n2 hro hroom hst hlv hcat hd (fun X' r' _ h => by obtain ⟨rfl, rfl⟩ := h; rw [hs']; exact kk)
theorem am_dSN {X0 : am_H} {P0 : am_H → Option Value → Prop} {R : Room} {w0 : Cond} (hF : am_F C cc nL own (w0 :: am_G)) (hO : am_O C X0 P0 R) {y : MethodName} {ccY : ByteArray} {nY : Nat} {ret : Option FieldType} {rm : Room} {X1 : am_H} {r : Option Value} (As rest : List Value) {index nn : Nat}
    (hB : am_D C.se y (.code y ccY nY ret :: am_G) rm X As X1 r) (hM : am_M y ccY nY ret nn) (hV : Cond.static y ∈ am_G) (hlink : (own, index, y) ∈ am_N)
    (hnn : As.length = nn) (k2 n2 : Nat) (hro : rm.frames + 1 ≤ R.frames ∧ 8 + (nY + 11) + rm.locals ≤ R.locals) (hroom : k + rm.cells ≤ k2 ∧ n + rm.slots ≤ n2 ∧ k2 ≤ R.cells ∧ n2 ≤ R.slots) (hst : st = As.reverse ++ rest) (hlv : am_lv X (L.map (·.2) ++ rest)) (hcat : (rest.map fun v => v.category).sum ≤ 8) (hd : decode cc pc = .ok (.invokestatic index, 3))
    (st' : List Value) (hs' : r.toList ++ rest = st') (kk : am_W C X1 k2 n2 (pc + 3) L st') : am_W C X k n pc L st :=
  am_callSN hF hO hB hM hV hlink hnn k2 n2 hro hroom hst hlv hcat hd (fun X' r' _ h => by obtain ⟨rfl, rfl⟩ := h; rw [hs']; exact kk)
theorem am_dI {X0 : am_H} {P0 : am_H → Option Value → Prop} {R : Room} {w0 : Cond} (hF : am_F C cc nL own (w0 :: am_G)) (hO : am_O C X0 P0 R) {y : MethodName} {ccY : ByteArray} {nY : Nat} {rm : Room} {X1 : am_H} {b : Nat} (As rest : List Value) {index nn : Nat}
    (hB : am_D C.se y (.code y ccY nY none :: am_G) rm X (.ref b :: As) X1 none) (hM : am_M y ccY nY none nn) (hV : Cond.instanceMethod y ∈ am_G) (hy : y.name = "<init>") (hlink : Cond.methodLink own index y ∈ am_G)
    (hnn : As.length = nn) (k2 n2 : Nat) (hro : rm.frames + 1 ≤ R.frames ∧ 8 + (nY + 11) + rm.locals ≤ R.locals) (hroom : k + rm.cells ≤ k2 ∧ n + rm.slots ≤ n2 ∧ k2 ≤ R.cells ∧ n2 ≤ R.slots) (hst : st = As.reverse ++ .ref b :: rest) (hlv : am_lv X (L.map (·.2) ++ rest)) (hcat : (rest.map fun v => v.category).sum ≤ 8) (hd : decode cc pc = .ok (.invokespecial index, 3))
    (kk : am_W C X1 k2 n2 (pc + 3) L rest) : am_W C X k n pc L st :=
  am_callI hF hO hB hM hV hy hlink hnn k2 n2 hro hroom hst hlv hcat hd (fun X' r' _ h => by obtain ⟨rfl, rfl⟩ := h; exact kk)
theorem am_dIN {X0 : am_H} {P0 : am_H → Option Value → Prop} {R : Room} {w0 : Cond} (hF : am_F C cc nL own (w0 :: am_G)) (hO : am_O C X0 P0 R) {y : MethodName} {ccY : ByteArray} {nY : Nat} {rm : Room} {X1 : am_H} {b : Nat} (As rest : List Value) {index nn : Nat}
    (hB : am_D C.se y (.code y ccY nY none :: am_G) rm X (.ref b :: As) X1 none) (hM : am_M y ccY nY none nn) (hV : Cond.instanceMethod y ∈ am_G) (hy : y.name = "<init>") (hlink : (own, index, y) ∈ am_N)
    (hnn : As.length = nn) (k2 n2 : Nat) (hro : rm.frames + 1 ≤ R.frames ∧ 8 + (nY + 11) + rm.locals ≤ R.locals) (hroom : k + rm.cells ≤ k2 ∧ n + rm.slots ≤ n2 ∧ k2 ≤ R.cells ∧ n2 ≤ R.slots) (hst : st = As.reverse ++ .ref b :: rest) (hlv : am_lv X (L.map (·.2) ++ rest)) (hcat : (rest.map fun v => v.category).sum ≤ 8) (hd : decode cc pc = .ok (.invokespecial index, 3))
    (kk : am_W C X1 k2 n2 (pc + 3) L rest) : am_W C X k n pc L st :=
  am_callIN hF hO hB hM hV hy hlink hnn k2 n2 hro hroom hst hlv hcat hd (fun X' r' _ h => by obtain ⟨rfl, rfl⟩ := h; exact kk)
end
-- small numbers
theorem am_ad {x y : Int32} {a b : Nat} (hx : x = nI a) (hy : y = nI b) : x + y = nI (a + b) := by rw [hx, hy, nI_add]
theorem am_mu {x y : Int32} {a b : Nat} (hx : x = nI a) (hy : y = nI b) : x * y = nI (a * b) := by rw [hx, hy, pk_mul]
theorem am_sb {x y : Int32} {a b : Nat} (hx : x = nI a) (hy : y = nI b) (h : b ≤ a) : x - y = nI (a - b) := by rw [hx, hy, pk_sub h]
end
section
/-! the state: T, what the class's objects hold; S, what the reference's arrays hold; o, the law's row; hp, the heap of them -/
abbrev am_T : Type := Nat → Nat → Int32
/-- one place set -/
def st1 (S : am_T) (f j : Nat) (v : Int32) : am_T := fun a => if a = f then upd (S f) j v else S a
def am_q (f : Nat → Option Nat) (m t : Nat) : va_E := .inl (t, m, .inr (.inr (.inr (.inr f))))
def am_i (f : Nat → Int32) (m : Nat) : va_E := .inl (0, m, .inl f)
def tN (T : am_T) (f : Nat) : Nat := (T f 0).toNatClampNeg
def tMain (T : am_T) : List Value := [.ref 1, .ref 2, .ref 3, .int (T 0 0), .ref 4, .int (T 1 0), .ref 5, .int (T 2 0), .int (T 3 0)]
def tPerson (T : am_T) (p : Nat) : List Value := [.int (T 5 p), .int (T 6 p), .int (T 7 p), .ref (32 + p), .int (T 8 p)]
def tList (T : am_T) (l : Nat) : List Value := [.int (T 10 l), .int (T 11 l), .int (T 12 l), .int (T 13 l), .int (T 14 l), .int (T 15 l), .int (T 16 l), .int (T 17 l)]
def tMail (T : am_T) (k : Nat) : List Value := [.int (T 18 k), .int (T 19 k), .int (T 20 k), .ref (224 + (T 21 k).toNatClampNeg), .int (T 22 k), .int (T 23 k), .int (T 24 k), .int (T 25 k), .int (T 26 k), .int (T 27 k), if T 28 k = 1 then .ref (144 + k) else .null]
def tAppeal (T : am_T) (k : Nat) : List Value := [.int (T 29 k), .int (T 30 k), .int (T 31 k), .int (T 32 k)]
def tDay (T : am_T) (j : Nat) : List Value := [.int (T 33 j), .ref (304 + j), .ref (384 + j), .int (T 36 j), .int (T 37 j)]
def hpC (T : am_T) (i : Nat) : Option va_E :=
  if i < 16 then
    (if i = 0 then some (.inr (5, tMain T))
    else if i = 1 then some (am_q (fun p => if p < 16 then some (16 + p) else none) 16 2)
    else if i = 2 then some (am_i (T 4) 20)
    else if i = 3 then some (am_q (fun l => if l < tN T 0 then some (48 + l) else none) 10 3)
    else if i = 4 then some (am_q (fun k => if k < tN T 1 then some (64 + k) else none) 80 4)
    else if i = 5 then some (am_q (fun j => if j < tN T 2 then some (224 + j) else none) 80 5)
    else none)
  else if i < 32 then some (.inr (3, tPerson T (i - 16)))
  else if i < 48 then some (am_i (fun j => T 9 (10 * (i - 32) + j)) 10)
  else if i < 64 then (if i - 48 < tN T 0 then some (.inr (2, tList T (i - 48))) else none)
  else if i < 144 then (if i - 64 < tN T 1 then some (.inr (1, tMail T (i - 64))) else none)
  else if i < 224 then (if T 28 (i - 144) = 1 then some (.inr (0, tAppeal T (i - 144))) else none)
  else if i < 304 then (if i - 224 < tN T 2 then some (.inr (4, tDay T (i - 224))) else none)
  else if i < 384 then (if i - 304 < tN T 2 then some (am_i (fun l => T 34 (10 * (i - 304) + l)) 10) else none)
  else if i < 464 then (if i - 384 < tN T 2 then some (am_i (fun l => T 35 (10 * (i - 384) + l)) 10) else none)
  else none
/-- the reference's arrays: kind and length -/
def mT (f : Nat) : Nat := match f with
  | 13 => 1
  | 26 => 1
  | 27 => 1
  | 31 => 1
  | 32 => 1
  | _ => 0
def mL (f : Nat) : Nat := match f with
  | 3 => 20
  | 4 => 16
  | 5 => 16
  | 6 => 16
  | 7 => 16
  | 8 => 160
  | 10 => 10
  | 11 => 10
  | 12 => 10
  | 13 => 10
  | 14 => 10
  | 15 => 10
  | 16 => 160
  | 31 => 800
  | 32 => 4010
  | 33 => 4010
  | 34 => 4010
  | 35 => 4010
  | _ => 80
def mSc (f : Nat) : Bool := f == 0 || f == 1 || f == 2 || f == 9 || f == 17
def mV (S : am_T) (f : Nat) : Value := if mSc f = true then .int (S f 0) else .ref (500 + f)
def mMain (S : am_T) : List Value := (List.range 36).map (mV S)
def hpM (S : am_T) (i : Nat) : Option va_E :=
  if i < 500 then (if i = 465 then some (.inr (6, mMain S)) else none)
  else if i < 536 then (if mSc (i - 500) = true then none else some (.inl (mT (i - 500), mL (i - 500), .inl (S (i - 500))))) else none
def hpO (o : Nat → Int64) (i : Nat) : Option va_E := if i = 464 then some (.inl (6, 1, .inr (.inl o))) else none
def hp (T S : am_T) (o : Nat → Int64) : am_H := fun i => if i < 464 then hpC T i else if i < 465 then hpO o i else hpM S i
-- the reference's part
theorem hp_m (T S : am_T) (o : Nat → Int64) : hp T S o 465 = some (.inr (6, mMain S)) := rfl
theorem hp_a (T S : am_T) (o : Nat → Int64) {f : Nat} (h36 : f < 36) (hf : mSc f = false) : hp T S o (500 + f) = some (.inl (mT f, mL f, .inl (S f))) := by
  have e : 500 + f - 500 = f := by omega
  unfold hp hpM
  rw [if_neg (by omega), if_neg (by omega), if_neg (by omega), if_pos (by omega), e, hf]
  rfl
theorem mV_set {S : am_T} {f g j : Nat} {v : Int32} (h : f ≠ g ∨ mSc f = false) : mV (st1 S f j v) g = mV S g := by
  unfold mV
  by_cases hg : mSc g = true
  · rw [if_pos hg, if_pos hg]
    have hfg : ¬ g = f := by
      intro e
      subst e
      rcases h with h | h
      · exact h rfl
      · rw [hg] at h; cases h
    unfold st1
    rw [if_neg hfg]
  · rw [if_neg hg, if_neg hg]
theorem hp_sa (T S : am_T) (o : Nat → Int64) {f : Nat} (h36 : f < 36) (hf : mSc f = false) (j : Nat) (v : Int32) : am_u (hp T S o) (500 + f) (.inl (mT f, mL f, .inl (upd (S f) j v))) = hp T (st1 S f j v) o := by
  funext i
  unfold am_u
  by_cases hi : i = 500 + f
  · subst hi
    rw [if_pos rfl, hp_a T (st1 S f j v) o h36 hf]
    show some (Sum.inl (mT f, mL f, Sum.inl _)) = some (Sum.inl (mT f, mL f, Sum.inl (st1 S f j v f)))
    unfold st1
    rw [if_pos rfl]
  · rw [if_neg hi]
    unfold hp
    by_cases h1 : i < 464
    · rw [if_pos h1, if_pos h1]
    · rw [if_neg h1, if_neg h1]
      by_cases h2 : i < 465
      · rw [if_pos h2, if_pos h2]
      · rw [if_neg h2, if_neg h2]
        unfold hpM
        by_cases h3 : i < 500
        · rw [if_pos h3, if_pos h3]
          have hm : mMain (st1 S f j v) = mMain S := by
            unfold mMain
            exact List.map_congr_left (fun g _ => mV_set (Or.inr hf))
          rw [hm]
        · rw [if_neg h3, if_neg h3]
          have e : st1 S f j v (i - 500) = S (i - 500) := by
            unfold st1
            rw [if_neg (by omega)]
          rw [e]
theorem hp_ss (T S : am_T) (o : Nat → Int64) {f : Nat} (h36 : f < 36) (hf : mSc f = true) (v : Int32) : am_u (hp T S o) 465 (.inr (6, (mMain S).set f (.int v))) = hp T (st1 S f 0 v) o := by
  funext i
  unfold am_u
  by_cases hi : i = 465
  · subst hi
    rw [if_pos rfl, hp_m]
    congr 2
    congr 1
    unfold mMain
    apply List.ext_getElem?
    intro g
    rw [List.getElem?_set]
    by_cases hg : f = g
    · subst hg
      rw [if_pos rfl, List.length_map, List.length_range, if_pos h36, List.getElem?_map, List.getElem?_range h36]
      show some _ = some (mV _ f)
      unfold mV
      rw [if_pos hf]
      unfold st1
      rw [if_pos rfl]
      simp [upd]
    · rw [if_neg hg, List.getElem?_map, List.getElem?_map]
      by_cases h9 : g < 36
      · rw [List.getElem?_range h9]
        show some (mV S g) = some (mV _ g)
        rw [mV_set (Or.inl hg)]
      · rw [List.getElem?_eq_none (by rw [List.length_range]; omega)]
        rfl
  · rw [if_neg hi]
    unfold hp
    by_cases h1 : i < 464
    · rw [if_pos h1, if_pos h1]
    · rw [if_neg h1, if_neg h1]
      by_cases h2 : i < 465
      · rw [if_pos h2, if_pos h2]
      · rw [if_neg h2, if_neg h2]
        unfold hpM
        by_cases h3 : i < 500
        · rw [if_pos h3, if_pos h3, if_neg hi, if_neg hi]
        · rw [if_neg h3, if_neg h3]
          by_cases h4 : i < 536
          · rw [if_pos h4, if_pos h4]
            by_cases h5 : mSc (i - 500) = true
            · rw [if_pos h5, if_pos h5]
            · rw [if_neg h5, if_neg h5]
              have e : st1 S f 0 v (i - 500) = S (i - 500) := by
                unfold st1
                rw [if_neg (fun e => h5 (by rw [e]; exact hf))]
              rw [e]
          · rw [if_neg h4, if_neg h4]
theorem st1_same (S : am_T) (f j : Nat) (v : Int32) : st1 S f j v f j = v := by simp [st1, upd]
theorem st1_f {S : am_T} {f g j : Nat} {v : Int32} (h : g ≠ f) : st1 S f j v g = S g := by simp [st1, h]
theorem st1_j {S : am_T} {f j i : Nat} {v : Int32} (h : i ≠ j) : st1 S f j v f i = S f i := by simp [st1, upd, h]
theorem st1_at (S : am_T) (f j g i : Nat) (v : Int32) : st1 S f j v g i = if g = f ∧ i = j then v else S g i := by
  unfold st1
  by_cases hg : g = f
  · subst hg
    by_cases hi : i = j <;> simp [upd, hi]
  · simp [hg]
end
section
/-! words of the tables, each by its place (written by program) -/
theorem lf_RX5_11 : Cond.fieldLink RX5 11 "MailPriory" "persons" "[LMailPriory$Person;" ∈ am_G := am_wd 106 (by decide +kernel) (by decide +kernel)
theorem lf_RX5_15 : Cond.fieldLink RX5 15 "MailPriory" "wordWeights" "[I" ∈ am_G := am_wd 107 (by decide +kernel) (by decide +kernel)
theorem lf_RX5_21 : Cond.fieldLink RX5 21 "MailPriory" "mailLists" "[LMailPriory$MailList;" ∈ am_G := am_wd 108 (by decide +kernel) (by decide +kernel)
theorem lf_RX5_25 : Cond.fieldLink RX5 25 "MailPriory" "listCount" "I" ∈ am_G := am_wd 109 (by decide +kernel) (by decide +kernel)
theorem lf_RX5_31 : Cond.fieldLink RX5 31 "MailPriory" "post" "[LMailPriory$Mail;" ∈ am_G := am_wd 110 (by decide +kernel) (by decide +kernel)
theorem lf_RX5_35 : Cond.fieldLink RX5 35 "MailPriory" "mailCount" "I" ∈ am_G := am_wd 111 (by decide +kernel) (by decide +kernel)
theorem lf_RX5_40 : Cond.fieldLink RX5 40 "MailPriory" "postDays" "[LMailPriory$PostDay;" ∈ am_G := am_wd 112 (by decide +kernel) (by decide +kernel)
theorem lf_RX5_44 : Cond.fieldLink RX5 44 "MailPriory" "postDayCount" "I" ∈ am_G := am_wd 113 (by decide +kernel) (by decide +kernel)
theorem lf_RX5_47 : Cond.fieldLink RX5 47 "MailPriory" "today" "I" ∈ am_G := am_wd 114 (by decide +kernel) (by decide +kernel)
theorem lf_RX5_81 : Cond.fieldLink RX5 81 "MailPriory$MailList" "members" "I" ∈ am_G := am_wd 247 (by decide +kernel) (by decide +kernel)
theorem lf_RX5_100 : Cond.fieldLink RX5 100 "MailPriory$MailList" "parts" "I" ∈ am_G := am_wd 250 (by decide +kernel) (by decide +kernel)
theorem lf_RX5_122 : Cond.fieldLink RX5 122 "MailPriory$MailList" "limit" "I" ∈ am_G := am_wd 254 (by decide +kernel) (by decide +kernel)
theorem lf_RX5_125 : Cond.fieldLink RX5 125 "MailPriory$MailList" "patience" "I" ∈ am_G := am_wd 256 (by decide +kernel) (by decide +kernel)
theorem lf_RX5_128 : Cond.fieldLink RX5 128 "MailPriory$MailList" "isClosed" "Z" ∈ am_G := am_wd 258 (by decide +kernel) (by decide +kernel)
theorem lf_RX5_132 : Cond.fieldLink RX5 132 "MailPriory$MailList" "barred" "I" ∈ am_G := am_wd 252 (by decide +kernel) (by decide +kernel)
theorem lf_RX5_180 : Cond.fieldLink RX5 180 "MailPriory$Mail" "reachedPersons" "I" ∈ am_G := am_wd 512 (by decide +kernel) (by decide +kernel)
theorem lf_RX5_183 : Cond.fieldLink RX5 183 "MailPriory$Mail" "state" "I" ∈ am_G := am_wd 510 (by decide +kernel) (by decide +kernel)
theorem lf_RX5_186 : Cond.fieldLink RX5 186 "MailPriory$Mail" "score" "I" ∈ am_G := am_wd 504 (by decide +kernel) (by decide +kernel)
theorem lf_RX5_189 : Cond.fieldLink RX5 189 "MailPriory$Mail" "appeal" "LMailPriory$Appeal;" ∈ am_G := am_wd 516 (by decide +kernel) (by decide +kernel)
theorem lf_RX5_217 : Cond.fieldLink RX5 217 "MailPriory$Person" "votes" "I" ∈ am_G := am_wd 87 (by decide +kernel) (by decide +kernel)
theorem lf_RX5_230 : Cond.fieldLink RX5 230 "MailPriory$Mail" "cause" "I" ∈ am_G := am_wd 506 (by decide +kernel) (by decide +kernel)
theorem lf_RX5_237 : Cond.fieldLink RX5 237 "MailPriory$Mail" "lapseDay" "I" ∈ am_G := am_wd 508 (by decide +kernel) (by decide +kernel)
theorem lf_RX5_240 : Cond.fieldLink RX5 240 "MailPriory$Person" "weight" "I" ∈ am_G := am_wd 85 (by decide +kernel) (by decide +kernel)
theorem lf_RX5_243 : Cond.fieldLink RX5 243 "MailPriory$Person" "bounces" "I" ∈ am_G := am_wd 89 (by decide +kernel) (by decide +kernel)
theorem lf_RX5_246 : Cond.fieldLink RX5 246 "MailPriory$Person" "boxed" "I" ∈ am_G := am_wd 93 (by decide +kernel) (by decide +kernel)
theorem lf_RX5_251 : Cond.fieldLink RX5 251 "MailPriory$Person" "box" "[I" ∈ am_G := am_wd 91 (by decide +kernel) (by decide +kernel)
theorem lf_RX5_272 : Cond.fieldLink RX5 272 "MailPriory$PostDay" "editions" "[I" ∈ am_G := am_wd 477 (by decide +kernel) (by decide +kernel)
theorem lf_RX5_275 : Cond.fieldLink RX5 275 "MailPriory$PostDay" "digestReaders" "[I" ∈ am_G := am_wd 475 (by decide +kernel) (by decide +kernel)
theorem lf_RX5_309 : Cond.fieldLink RX5 309 "MailPriory$Mail" "sender" "I" ∈ am_G := am_wd 498 (by decide +kernel) (by decide +kernel)
theorem lf_RX5_312 : Cond.fieldLink RX5 312 "MailPriory$Mail" "day" "LMailPriory$PostDay;" ∈ am_G := am_wd 502 (by decide +kernel) (by decide +kernel)
theorem lf_RX5_316 : Cond.fieldLink RX5 316 "MailPriory$PostDay" "number" "I" ∈ am_G := am_wd 473 (by decide +kernel) (by decide +kernel)
theorem lf_RX5_319 : Cond.fieldLink RX5 319 "MailPriory$Mail" "list" "I" ∈ am_G := am_wd 500 (by decide +kernel) (by decide +kernel)
theorem lf_RX5_335 : Cond.fieldLink RX5 335 "MailPriory$Mail" "number" "I" ∈ am_G := am_wd 496 (by decide +kernel) (by decide +kernel)
theorem lf_RX5_342 : Cond.fieldLink RX5 342 "MailPriory$Mail" "digestLists" "I" ∈ am_G := am_wd 514 (by decide +kernel) (by decide +kernel)
theorem lf_RX5_348 : Cond.fieldLink RX5 348 "MailPriory$MailList" "lister" "I" ∈ am_G := am_wd 245 (by decide +kernel) (by decide +kernel)
theorem lf_RX0_9 : Cond.fieldLink RX0 9 "MailPriory$Appeal" "votersFor" "I" ∈ am_G := am_wd 633 (by decide +kernel) (by decide +kernel)
theorem lf_RX0_15 : Cond.fieldLink RX0 15 "MailPriory$Appeal" "votersAgainst" "I" ∈ am_G := am_wd 634 (by decide +kernel) (by decide +kernel)
theorem lf_RX0_18 : Cond.fieldLink RX0 18 "MailPriory$Appeal" "isOpen" "Z" ∈ am_G := am_wd 635 (by decide +kernel) (by decide +kernel)
theorem lf_RX0_22 : Cond.fieldLink RX0 22 "MailPriory$Appeal" "chosenJurors" "I" ∈ am_G := am_wd 632 (by decide +kernel) (by decide +kernel)
theorem lf_RX1_9 : Cond.fieldLink RX1 9 "MailPriory$Mail" "state" "I" ∈ am_G := am_wd 509 (by decide +kernel) (by decide +kernel)
theorem lf_RX1_15 : Cond.fieldLink RX1 15 "MailPriory$Mail" "reachedPersons" "I" ∈ am_G := am_wd 511 (by decide +kernel) (by decide +kernel)
theorem lf_RX1_18 : Cond.fieldLink RX1 18 "MailPriory$Mail" "digestLists" "I" ∈ am_G := am_wd 513 (by decide +kernel) (by decide +kernel)
theorem lf_RX1_21 : Cond.fieldLink RX1 21 "MailPriory$Mail" "appeal" "LMailPriory$Appeal;" ∈ am_G := am_wd 515 (by decide +kernel) (by decide +kernel)
theorem lf_RX1_25 : Cond.fieldLink RX1 25 "MailPriory$Mail" "number" "I" ∈ am_G := am_wd 495 (by decide +kernel) (by decide +kernel)
theorem lf_RX1_28 : Cond.fieldLink RX1 28 "MailPriory$Mail" "sender" "I" ∈ am_G := am_wd 497 (by decide +kernel) (by decide +kernel)
theorem lf_RX1_31 : Cond.fieldLink RX1 31 "MailPriory$Mail" "list" "I" ∈ am_G := am_wd 499 (by decide +kernel) (by decide +kernel)
theorem lf_RX1_34 : Cond.fieldLink RX1 34 "MailPriory$Mail" "day" "LMailPriory$PostDay;" ∈ am_G := am_wd 501 (by decide +kernel) (by decide +kernel)
theorem lf_RX1_38 : Cond.fieldLink RX1 38 "MailPriory$Mail" "score" "I" ∈ am_G := am_wd 503 (by decide +kernel) (by decide +kernel)
theorem lf_RX1_41 : Cond.fieldLink RX1 41 "MailPriory$Mail" "cause" "I" ∈ am_G := am_wd 505 (by decide +kernel) (by decide +kernel)
theorem lf_RX1_44 : Cond.fieldLink RX1 44 "MailPriory$PostDay" "number" "I" ∈ am_G := am_wd 472 (by decide +kernel) (by decide +kernel)
theorem lf_RX1_47 : Cond.fieldLink RX1 47 "MailPriory$Mail" "lapseDay" "I" ∈ am_G := am_wd 507 (by decide +kernel) (by decide +kernel)
theorem lf_RX1_50 : Cond.fieldLink RX1 50 "MailPriory$Appeal" "isOpen" "Z" ∈ am_G := am_wd 636 (by decide +kernel) (by decide +kernel)
theorem lf_RX2_9 : Cond.fieldLink RX2 9 "MailPriory$MailList" "members" "I" ∈ am_G := am_wd 246 (by decide +kernel) (by decide +kernel)
theorem lf_RX2_15 : Cond.fieldLink RX2 15 "MailPriory$MailList" "directMembers" "I" ∈ am_G := am_wd 248 (by decide +kernel) (by decide +kernel)
theorem lf_RX2_18 : Cond.fieldLink RX2 18 "MailPriory$MailList" "parts" "I" ∈ am_G := am_wd 249 (by decide +kernel) (by decide +kernel)
theorem lf_RX2_21 : Cond.fieldLink RX2 21 "MailPriory$MailList" "barred" "I" ∈ am_G := am_wd 251 (by decide +kernel) (by decide +kernel)
theorem lf_RX2_24 : Cond.fieldLink RX2 24 "MailPriory$MailList" "limit" "I" ∈ am_G := am_wd 253 (by decide +kernel) (by decide +kernel)
theorem lf_RX2_27 : Cond.fieldLink RX2 27 "MailPriory$MailList" "patience" "I" ∈ am_G := am_wd 255 (by decide +kernel) (by decide +kernel)
theorem lf_RX2_30 : Cond.fieldLink RX2 30 "MailPriory$MailList" "isClosed" "Z" ∈ am_G := am_wd 257 (by decide +kernel) (by decide +kernel)
theorem lf_RX2_34 : Cond.fieldLink RX2 34 "MailPriory$MailList" "lister" "I" ∈ am_G := am_wd 244 (by decide +kernel) (by decide +kernel)
theorem lf_RX3_9 : Cond.fieldLink RX3 9 "MailPriory$Person" "weight" "I" ∈ am_G := am_wd 84 (by decide +kernel) (by decide +kernel)
theorem lf_RX3_15 : Cond.fieldLink RX3 15 "MailPriory$Person" "votes" "I" ∈ am_G := am_wd 86 (by decide +kernel) (by decide +kernel)
theorem lf_RX3_18 : Cond.fieldLink RX3 18 "MailPriory$Person" "bounces" "I" ∈ am_G := am_wd 88 (by decide +kernel) (by decide +kernel)
theorem lf_RX3_21 : Cond.fieldLink RX3 21 "MailPriory$Person" "box" "[I" ∈ am_G := am_wd 90 (by decide +kernel) (by decide +kernel)
theorem lf_RX3_25 : Cond.fieldLink RX3 25 "MailPriory$Person" "boxed" "I" ∈ am_G := am_wd 92 (by decide +kernel) (by decide +kernel)
theorem lf_RX4_9 : Cond.fieldLink RX4 9 "MailPriory$PostDay" "digestReaders" "[I" ∈ am_G := am_wd 474 (by decide +kernel) (by decide +kernel)
theorem lf_RX4_15 : Cond.fieldLink RX4 15 "MailPriory$PostDay" "editions" "[I" ∈ am_G := am_wd 476 (by decide +kernel) (by decide +kernel)
theorem lf_RX4_18 : Cond.fieldLink RX4 18 "MailPriory$PostDay" "lateLists" "I" ∈ am_G := am_wd 478 (by decide +kernel) (by decide +kernel)
theorem lf_RX4_22 : Cond.fieldLink RX4 22 "MailPriory$PostDay" "isOver" "Z" ∈ am_G := am_wd 479 (by decide +kernel) (by decide +kernel)
theorem lf_RX4_26 : Cond.fieldLink RX4 26 "MailPriory$PostDay" "number" "I" ∈ am_G := am_wd 471 (by decide +kernel) (by decide +kernel)
theorem lf_RX6_7 : Cond.fieldLink RX6 7 "MailPrioryModel" "wordWeight" "[I" ∈ am_G := am_wd 863 (by decide +kernel) (by decide +kernel)
theorem lf_RX6_13 : Cond.fieldLink RX6 13 "MailPrioryModel" "weight" "[I" ∈ am_G := am_wd 864 (by decide +kernel) (by decide +kernel)
theorem lf_RX6_16 : Cond.fieldLink RX6 16 "MailPrioryModel" "judged" "[I" ∈ am_G := am_wd 865 (by decide +kernel) (by decide +kernel)
theorem lf_RX6_19 : Cond.fieldLink RX6 19 "MailPrioryModel" "bounces" "[I" ∈ am_G := am_wd 866 (by decide +kernel) (by decide +kernel)
theorem lf_RX6_22 : Cond.fieldLink RX6 22 "MailPrioryModel" "inBox" "[I" ∈ am_G := am_wd 867 (by decide +kernel) (by decide +kernel)
theorem lf_RX6_25 : Cond.fieldLink RX6 25 "MailPrioryModel" "boxes" "[I" ∈ am_G := am_wd 868 (by decide +kernel) (by decide +kernel)
theorem lf_RX6_28 : Cond.fieldLink RX6 28 "MailPrioryModel" "lister" "[I" ∈ am_G := am_wd 870 (by decide +kernel) (by decide +kernel)
theorem lf_RX6_31 : Cond.fieldLink RX6 31 "MailPrioryModel" "limit" "[I" ∈ am_G := am_wd 871 (by decide +kernel) (by decide +kernel)
theorem lf_RX6_34 : Cond.fieldLink RX6 34 "MailPrioryModel" "patience" "[I" ∈ am_G := am_wd 872 (by decide +kernel) (by decide +kernel)
theorem lf_RX6_37 : Cond.fieldLink RX6 37 "MailPrioryModel" "isClosed" "[Z" ∈ am_G := am_wd 873 (by decide +kernel) (by decide +kernel)
theorem lf_RX6_41 : Cond.fieldLink RX6 41 "MailPrioryModel" "barred" "[I" ∈ am_G := am_wd 874 (by decide +kernel) (by decide +kernel)
theorem lf_RX6_44 : Cond.fieldLink RX6 44 "MailPrioryModel" "parts" "[I" ∈ am_G := am_wd 875 (by decide +kernel) (by decide +kernel)
theorem lf_RX6_47 : Cond.fieldLink RX6 47 "MailPrioryModel" "mode" "[I" ∈ am_G := am_wd 876 (by decide +kernel) (by decide +kernel)
theorem lf_RX6_50 : Cond.fieldLink RX6 50 "MailPrioryModel" "sender" "[I" ∈ am_G := am_wd 878 (by decide +kernel) (by decide +kernel)
theorem lf_RX6_53 : Cond.fieldLink RX6 53 "MailPrioryModel" "list" "[I" ∈ am_G := am_wd 879 (by decide +kernel) (by decide +kernel)
theorem lf_RX6_56 : Cond.fieldLink RX6 56 "MailPrioryModel" "day" "[I" ∈ am_G := am_wd 880 (by decide +kernel) (by decide +kernel)
theorem lf_RX6_59 : Cond.fieldLink RX6 59 "MailPrioryModel" "lapse" "[I" ∈ am_G := am_wd 881 (by decide +kernel) (by decide +kernel)
theorem lf_RX6_62 : Cond.fieldLink RX6 62 "MailPrioryModel" "score" "[I" ∈ am_G := am_wd 882 (by decide +kernel) (by decide +kernel)
theorem lf_RX6_65 : Cond.fieldLink RX6 65 "MailPrioryModel" "cause" "[I" ∈ am_G := am_wd 883 (by decide +kernel) (by decide +kernel)
theorem lf_RX6_68 : Cond.fieldLink RX6 68 "MailPrioryModel" "state" "[I" ∈ am_G := am_wd 884 (by decide +kernel) (by decide +kernel)
theorem lf_RX6_71 : Cond.fieldLink RX6 71 "MailPrioryModel" "reached" "[I" ∈ am_G := am_wd 885 (by decide +kernel) (by decide +kernel)
theorem lf_RX6_74 : Cond.fieldLink RX6 74 "MailPrioryModel" "wasAppealed" "[Z" ∈ am_G := am_wd 886 (by decide +kernel) (by decide +kernel)
theorem lf_RX6_77 : Cond.fieldLink RX6 77 "MailPrioryModel" "isOpen" "[Z" ∈ am_G := am_wd 887 (by decide +kernel) (by decide +kernel)
theorem lf_RX6_80 : Cond.fieldLink RX6 80 "MailPrioryModel" "jurors" "[I" ∈ am_G := am_wd 888 (by decide +kernel) (by decide +kernel)
theorem lf_RX6_83 : Cond.fieldLink RX6 83 "MailPrioryModel" "votesFor" "[I" ∈ am_G := am_wd 889 (by decide +kernel) (by decide +kernel)
theorem lf_RX6_86 : Cond.fieldLink RX6 86 "MailPrioryModel" "votesAgainst" "[I" ∈ am_G := am_wd 890 (by decide +kernel) (by decide +kernel)
theorem lf_RX6_89 : Cond.fieldLink RX6 89 "MailPrioryModel" "inDigest" "[Z" ∈ am_G := am_wd 891 (by decide +kernel) (by decide +kernel)
theorem lf_RX6_92 : Cond.fieldLink RX6 92 "MailPrioryModel" "isDigest" "[Z" ∈ am_G := am_wd 892 (by decide +kernel) (by decide +kernel)
theorem lf_RX6_95 : Cond.fieldLink RX6 95 "MailPrioryModel" "edition" "[I" ∈ am_G := am_wd 893 (by decide +kernel) (by decide +kernel)
theorem lf_RX6_98 : Cond.fieldLink RX6 98 "MailPrioryModel" "readers" "[I" ∈ am_G := am_wd 894 (by decide +kernel) (by decide +kernel)
theorem lf_RX6_101 : Cond.fieldLink RX6 101 "MailPrioryModel" "touched" "[I" ∈ am_G := am_wd 895 (by decide +kernel) (by decide +kernel)
theorem lf_RX6_104 : Cond.fieldLink RX6 104 "MailPrioryModel" "thrown" "I" ∈ am_G := am_wd 860 (by decide +kernel) (by decide +kernel)
theorem lf_RX6_112 : Cond.fieldLink RX6 112 "MailPrioryModel" "lists" "I" ∈ am_G := am_wd 869 (by decide +kernel) (by decide +kernel)
theorem lf_RX6_115 : Cond.fieldLink RX6 115 "MailPrioryModel" "mails" "I" ∈ am_G := am_wd 877 (by decide +kernel) (by decide +kernel)
theorem lf_RX6_147 : Cond.fieldLink RX6 147 "MailPrioryModel" "today" "I" ∈ am_G := am_wd 861 (by decide +kernel) (by decide +kernel)
theorem lf_RX6_150 : Cond.fieldLink RX6 150 "MailPrioryModel" "calls" "I" ∈ am_G := am_wd 862 (by decide +kernel) (by decide +kernel)
theorem lm_RX5_1 : Cond.methodLink RX5 1 Lib.objectInit ∈ am_G := am_wd 68 (by decide +kernel) (by decide +kernel)
theorem lm_RX5_51 : Cond.methodLink RX5 51 yX5_checkPerson ∈ am_G := am_wd 151 (by decide +kernel) (by decide +kernel)
theorem lm_RX5_62 : Cond.methodLink RX5 62 yX2_init ∈ am_G := am_wd 240 (by decide +kernel) (by decide +kernel)
theorem lm_RX5_64 : Cond.methodLink RX5 64 yX5_findList ∈ am_G := am_wd 284 (by decide +kernel) (by decide +kernel)
theorem lm_RX5_68 : Cond.methodLink RX5 68 yX5_checkMode ∈ am_G := am_wd 289 (by decide +kernel) (by decide +kernel)
theorem lm_RX5_71 : Cond.methodLink RX5 71 yX2_hasMember ∈ am_G := am_wd 308 (by decide +kernel) (by decide +kernel)
theorem lm_RX5_77 : Cond.methodLink RX5 77 yX2_putMember ∈ am_G := am_wd 316 (by decide +kernel) (by decide +kernel)
theorem lm_RX5_84 : Cond.methodLink RX5 84 yJ6_bitCount_0f7a4 ∈ am_G := am_wd 323 (by decide +kernel) (by decide +kernel)
theorem lm_RX5_90 : Cond.methodLink RX5 90 yX5_checkMember ∈ am_G := am_wd 336 (by decide +kernel) (by decide +kernel)
theorem lm_RX5_94 : Cond.methodLink RX5 94 yX2_memberMode ∈ am_G := am_wd 340 (by decide +kernel) (by decide +kernel)
theorem lm_RX5_97 : Cond.methodLink RX5 97 yX2_dropMember ∈ am_G := am_wd 344 (by decide +kernel) (by decide +kernel)
theorem lm_RX5_103 : Cond.methodLink RX5 103 yX5_contains ∈ am_G := am_wd 362 (by decide +kernel) (by decide +kernel)
theorem lm_RX5_107 : Cond.methodLink RX5 107 yX5_listsDown ∈ am_G := am_wd 363 (by decide +kernel) (by decide +kernel)
theorem lm_RX5_115 : Cond.methodLink RX5 115 yX5_bit ∈ am_G := am_wd 367 (by decide +kernel) (by decide +kernel)
theorem lm_RX5_118 : Cond.methodLink RX5 118 yX5_checkRange ∈ am_G := am_wd 376 (by decide +kernel) (by decide +kernel)
theorem lm_RX5_140 : Cond.methodLink RX5 140 yX5_membersOf ∈ am_G := am_wd 402 (by decide +kernel) (by decide +kernel)
theorem lm_RX5_143 : Cond.methodLink RX5 143 yX5_listsUp ∈ am_G := am_wd 413 (by decide +kernel) (by decide +kernel)
theorem lm_RX5_146 : Cond.methodLink RX5 146 yX5_modeAmong ∈ am_G := am_wd 424 (by decide +kernel) (by decide +kernel)
theorem lm_RX5_150 : Cond.methodLink RX5 150 yX5_findMail ∈ am_G := am_wd 435 (by decide +kernel) (by decide +kernel)
theorem lm_RX5_156 : Cond.methodLink RX5 156 yX5_scoreOf ∈ am_G := am_wd 441 (by decide +kernel) (by decide +kernel)
theorem lm_RX5_160 : Cond.methodLink RX5 160 yX5_causeFor ∈ am_G := am_wd 453 (by decide +kernel) (by decide +kernel)
theorem lm_RX5_163 : Cond.methodLink RX5 163 yX5_postDayOfToday ∈ am_G := am_wd 458 (by decide +kernel) (by decide +kernel)
theorem lm_RX5_167 : Cond.methodLink RX5 167 yX1_init ∈ am_G := am_wd 491 (by decide +kernel) (by decide +kernel)
theorem lm_RX5_170 : Cond.methodLink RX5 170 yX5_deliver ∈ am_G := am_wd 540 (by decide +kernel) (by decide +kernel)
theorem lm_RX5_174 : Cond.methodLink RX5 174 yX5_checkListerMayDecide ∈ am_G := am_wd 581 (by decide +kernel) (by decide +kernel)
theorem lm_RX5_177 : Cond.methodLink RX5 177 yX5_settleEditions ∈ am_G := am_wd 589 (by decide +kernel) (by decide +kernel)
theorem lm_RX5_195 : Cond.methodLink RX5 195 yX5_jurorCandidates ∈ am_G := am_wd 613 (by decide +kernel) (by decide +kernel)
theorem lm_RX5_201 : Cond.methodLink RX5 201 yX5_chooseJurors ∈ am_G := am_wd 618 (by decide +kernel) (by decide +kernel)
theorem lm_RX5_206 : Cond.methodLink RX5 206 yX0_init ∈ am_G := am_wd 628 (by decide +kernel) (by decide +kernel)
theorem lm_RX5_207 : Cond.methodLink RX5 207 yX0_awaitedJurors ∈ am_G := am_wd 653 (by decide +kernel) (by decide +kernel)
theorem lm_RX5_213 : Cond.methodLink RX5 213 yX0_takeVote ∈ am_G := am_wd 658 (by decide +kernel) (by decide +kernel)
theorem lm_RX5_220 : Cond.methodLink RX5 220 yX0_isDecided ∈ am_G := am_wd 663 (by decide +kernel) (by decide +kernel)
theorem lm_RX5_224 : Cond.methodLink RX5 224 yX5_clearSender ∈ am_G := am_wd 668 (by decide +kernel) (by decide +kernel)
theorem lm_RX5_227 : Cond.methodLink RX5 227 yX5_condemnByCourt ∈ am_G := am_wd 680 (by decide +kernel) (by decide +kernel)
theorem lm_RX5_233 : Cond.methodLink RX5 233 yX1_canLapse ∈ am_G := am_wd 715 (by decide +kernel) (by decide +kernel)
theorem lm_RX5_254 : Cond.methodLink RX5 254 yX3_takeFirst ∈ am_G := am_wd 776 (by decide +kernel) (by decide +kernel)
theorem lm_RX5_257 : Cond.methodLink RX5 257 yX1_isInDigest ∈ am_G := am_wd 790 (by decide +kernel) (by decide +kernel)
theorem lm_RX5_265 : Cond.methodLink RX5 265 yX5_findPostDay ∈ am_G := am_wd 462 (by decide +kernel) (by decide +kernel)
theorem lm_RX5_269 : Cond.methodLink RX5 269 yX4_hasDigest ∈ am_G := am_wd 826 (by decide +kernel) (by decide +kernel)
theorem lm_RX5_280 : Cond.methodLink RX5 280 yX4_end ∈ am_G := am_wd 845 (by decide +kernel) (by decide +kernel)
theorem lm_RX5_283 : Cond.methodLink RX5 283 yX5_lapseHolds ∈ am_G := am_wd 850 (by decide +kernel) (by decide +kernel)
theorem lm_RX5_298 : Cond.methodLink RX5 298 yX1_isAppealOpen ∈ am_G := am_wd 584 (by decide +kernel) (by decide +kernel)
theorem lm_RX5_303 : Cond.methodLink RX5 303 yX5_sentToday ∈ am_G := am_wd 445 (by decide +kernel) (by decide +kernel)
theorem lm_RX5_306 : Cond.methodLink RX5 306 yX5_answersOwnPost ∈ am_G := am_wd 449 (by decide +kernel) (by decide +kernel)
theorem lm_RX5_322 : Cond.methodLink RX5 322 yX5_deliverTo ∈ am_G := am_wd 544 (by decide +kernel) (by decide +kernel)
theorem lm_RX5_326 : Cond.methodLink RX5 326 yX5_lowestWithMember ∈ am_G := am_wd 548 (by decide +kernel) (by decide +kernel)
theorem lm_RX5_329 : Cond.methodLink RX5 329 yX5_putIntoDigest ∈ am_G := am_wd 552 (by decide +kernel) (by decide +kernel)
theorem lm_RX5_332 : Cond.methodLink RX5 332 yX3_hasRoom ∈ am_G := am_wd 561 (by decide +kernel) (by decide +kernel)
theorem lm_RX5_336 : Cond.methodLink RX5 336 yX3_putIntoBox ∈ am_G := am_wd 565 (by decide +kernel) (by decide +kernel)
theorem lm_RX5_339 : Cond.methodLink RX5 339 yX5_bounce ∈ am_G := am_wd 570 (by decide +kernel) (by decide +kernel)
theorem lm_RX5_345 : Cond.methodLink RX5 345 yX4_addReader ∈ am_G := am_wd 556 (by decide +kernel) (by decide +kernel)
theorem lm_RX5_351 : Cond.methodLink RX5 351 yX5_leastJudged ∈ am_G := am_wd 622 (by decide +kernel) (by decide +kernel)
theorem lm_RX5_354 : Cond.methodLink RX5 354 yX1_isHeldForScore ∈ am_G := am_wd 672 (by decide +kernel) (by decide +kernel)
theorem lm_RX5_357 : Cond.methodLink RX5 357 yX1_closeAppeal ∈ am_G := am_wd 676 (by decide +kernel) (by decide +kernel)
theorem lm_RX5_360 : Cond.methodLink RX5 360 yJ9_min_7cf53 ∈ am_G := am_wd 684 (by decide +kernel) (by decide +kernel)
theorem lm_RX5_365 : Cond.methodLink RX5 365 yX4_init ∈ am_G := am_wd 467 (by decide +kernel) (by decide +kernel)
theorem lm_RX5_366 : Cond.methodLink RX5 366 yX4_settleEditions ∈ am_G := am_wd 593 (by decide +kernel) (by decide +kernel)
theorem lm_RX0_3 : Cond.methodLink RX0 3 Lib.objectInit ∈ am_G := am_wd 631 (by decide +kernel) (by decide +kernel)
theorem lm_RX0_29 : Cond.methodLink RX0 29 yJ6_bitCount_0f7a4 ∈ am_G := am_wd 667 (by decide +kernel) (by decide +kernel)
theorem lm_RX1_3 : Cond.methodLink RX1 3 Lib.objectInit ∈ am_G := am_wd 494 (by decide +kernel) (by decide +kernel)
theorem lm_RX2_3 : Cond.methodLink RX2 3 Lib.objectInit ∈ am_G := am_wd 243 (by decide +kernel) (by decide +kernel)
theorem lm_RX3_3 : Cond.methodLink RX3 3 Lib.objectInit ∈ am_G := am_wd 83 (by decide +kernel) (by decide +kernel)
theorem lm_RX3_28 : Cond.methodLink RX3 28 yX3_hasRoom ∈ am_G := am_wd 569 (by decide +kernel) (by decide +kernel)
theorem lm_RX4_3 : Cond.methodLink RX4 3 Lib.objectInit ∈ am_G := am_wd 470 (by decide +kernel) (by decide +kernel)
theorem lm_RX4_33 : Cond.methodLink RX4 33 yX4_hasDigest ∈ am_G := am_wd 849 (by decide +kernel) (by decide +kernel)
theorem lm_RL_7 : Cond.methodLink RL 7 yX5_list ∈ am_G := am_wd 147 (by decide +kernel) (by decide +kernel)
theorem lm_RL_17 : Cond.methodLink RL 17 yX5_join ∈ am_G := am_wd 280 (by decide +kernel) (by decide +kernel)
theorem lm_RL_23 : Cond.methodLink RL 23 yX5_leave ∈ am_G := am_wd 332 (by decide +kernel) (by decide +kernel)
theorem lm_RL_27 : Cond.methodLink RL 27 yX5_mode ∈ am_G := am_wd 351 (by decide +kernel) (by decide +kernel)
theorem lm_RL_30 : Cond.methodLink RL 30 yX5_nest ∈ am_G := am_wd 358 (by decide +kernel) (by decide +kernel)
theorem lm_RL_34 : Cond.methodLink RL 34 yX5_rules ∈ am_G := am_wd 372 (by decide +kernel) (by decide +kernel)
theorem lm_RL_38 : Cond.methodLink RL 38 yX5_bar ∈ am_G := am_wd 383 (by decide +kernel) (by decide +kernel)
theorem lm_RL_41 : Cond.methodLink RL 41 yX5_word ∈ am_G := am_wd 390 (by decide +kernel) (by decide +kernel)
theorem lm_RL_44 : Cond.methodLink RL 44 yX5_reaches ∈ am_G := am_wd 398 (by decide +kernel) (by decide +kernel)
theorem lm_RL_47 : Cond.methodLink RL 47 yX5_reachesByMembers ∈ am_G := am_wd 409 (by decide +kernel) (by decide +kernel)
theorem lm_RL_50 : Cond.methodLink RL 50 yX5_modeOf ∈ am_G := am_wd 420 (by decide +kernel) (by decide +kernel)
theorem lm_RL_53 : Cond.methodLink RL 53 yX5_send ∈ am_G := am_wd 431 (by decide +kernel) (by decide +kernel)
theorem lm_RL_57 : Cond.methodLink RL 57 yX5_approve ∈ am_G := am_wd 577 (by decide +kernel) (by decide +kernel)
theorem lm_RL_60 : Cond.methodLink RL 60 yX5_refuse ∈ am_G := am_wd 601 (by decide +kernel) (by decide +kernel)
theorem lm_RL_63 : Cond.methodLink RL 63 yX5_appeal ∈ am_G := am_wd 608 (by decide +kernel) (by decide +kernel)
theorem lm_RL_66 : Cond.methodLink RL 66 yX5_vote ∈ am_G := am_wd 649 (by decide +kernel) (by decide +kernel)
theorem lm_RL_70 : Cond.methodLink RL 70 yX5_state ∈ am_G := am_wd 690 (by decide +kernel) (by decide +kernel)
theorem lm_RL_73 : Cond.methodLink RL 73 yX5_cause ∈ am_G := am_wd 697 (by decide +kernel) (by decide +kernel)
theorem lm_RL_76 : Cond.methodLink RL 76 yX5_score ∈ am_G := am_wd 704 (by decide +kernel) (by decide +kernel)
theorem lm_RL_79 : Cond.methodLink RL 79 yX5_lapses ∈ am_G := am_wd 711 (by decide +kernel) (by decide +kernel)
theorem lm_RL_82 : Cond.methodLink RL 82 yX5_jurors ∈ am_G := am_wd 722 (by decide +kernel) (by decide +kernel)
theorem lm_RL_85 : Cond.methodLink RL 85 yX5_reached ∈ am_G := am_wd 729 (by decide +kernel) (by decide +kernel)
theorem lm_RL_88 : Cond.methodLink RL 88 yX5_weight ∈ am_G := am_wd 736 (by decide +kernel) (by decide +kernel)
theorem lm_RL_91 : Cond.methodLink RL 91 yX5_judged ∈ am_G := am_wd 743 (by decide +kernel) (by decide +kernel)
theorem lm_RL_94 : Cond.methodLink RL 94 yX5_bounces ∈ am_G := am_wd 750 (by decide +kernel) (by decide +kernel)
theorem lm_RL_97 : Cond.methodLink RL 97 yX5_box ∈ am_G := am_wd 757 (by decide +kernel) (by decide +kernel)
theorem lm_RL_100 : Cond.methodLink RL 100 yX5_mailAt ∈ am_G := am_wd 764 (by decide +kernel) (by decide +kernel)
theorem lm_RL_103 : Cond.methodLink RL 103 yX5_read ∈ am_G := am_wd 772 (by decide +kernel) (by decide +kernel)
theorem lm_RL_106 : Cond.methodLink RL 106 yX5_size ∈ am_G := am_wd 786 (by decide +kernel) (by decide +kernel)
theorem lm_RL_109 : Cond.methodLink RL 109 yX5_digest ∈ am_G := am_wd 799 (by decide +kernel) (by decide +kernel)
theorem lm_RL_114 : Cond.methodLink RL 114 yX5_edition ∈ am_G := am_wd 822 (by decide +kernel) (by decide +kernel)
theorem lm_RL_117 : Cond.methodLink RL 117 yX5_readers ∈ am_G := am_wd 833 (by decide +kernel) (by decide +kernel)
theorem lm_RL_120 : Cond.methodLink RL 120 yX5_pass ∈ am_G := am_wd 840 (by decide +kernel) (by decide +kernel)
theorem lm_RL_123 : Cond.methodLink RL 123 yX5_init ∈ am_G := am_wd 65 (by decide +kernel) (by decide +kernel)
theorem lm_RL_126 : Cond.methodLink RL 126 yX6_init ∈ am_G := am_wd 856 (by decide +kernel) (by decide +kernel)
theorem lm_RL_127 : Cond.methodLink RL 127 yL_list ∈ am_G := am_wd 142 (by decide +kernel) (by decide +kernel)
theorem lm_RL_132 : Cond.methodLink RL 132 yX6_list ∈ am_G := am_wd 974 (by decide +kernel) (by decide +kernel)
theorem lm_RL_133 : Cond.methodLink RL 133 yX6_thrown ∈ am_G := am_wd 970 (by decide +kernel) (by decide +kernel)
theorem lm_RL_137 : Cond.methodLink RL 137 yL_join ∈ am_G := am_wd 276 (by decide +kernel) (by decide +kernel)
theorem lm_RL_140 : Cond.methodLink RL 140 yX6_join ∈ am_G := am_wd 984 (by decide +kernel) (by decide +kernel)
theorem lm_RL_141 : Cond.methodLink RL 141 yL_leave ∈ am_G := am_wd 329 (by decide +kernel) (by decide +kernel)
theorem lm_RL_144 : Cond.methodLink RL 144 yX6_leave ∈ am_G := am_wd 996 (by decide +kernel) (by decide +kernel)
theorem lm_RL_145 : Cond.methodLink RL 145 yL_mode ∈ am_G := am_wd 348 (by decide +kernel) (by decide +kernel)
theorem lm_RL_147 : Cond.methodLink RL 147 yX6_mode ∈ am_G := am_wd 1000 (by decide +kernel) (by decide +kernel)
theorem lm_RL_148 : Cond.methodLink RL 148 yL_nest ∈ am_G := am_wd 355 (by decide +kernel) (by decide +kernel)
theorem lm_RL_150 : Cond.methodLink RL 150 yX6_nest ∈ am_G := am_wd 1004 (by decide +kernel) (by decide +kernel)
theorem lm_RL_151 : Cond.methodLink RL 151 yL_rules ∈ am_G := am_wd 369 (by decide +kernel) (by decide +kernel)
theorem lm_RL_154 : Cond.methodLink RL 154 yX6_rules ∈ am_G := am_wd 1012 (by decide +kernel) (by decide +kernel)
theorem lm_RL_155 : Cond.methodLink RL 155 yL_bar ∈ am_G := am_wd 380 (by decide +kernel) (by decide +kernel)
theorem lm_RL_157 : Cond.methodLink RL 157 yX6_bar ∈ am_G := am_wd 1016 (by decide +kernel) (by decide +kernel)
theorem lm_RL_158 : Cond.methodLink RL 158 yL_word ∈ am_G := am_wd 387 (by decide +kernel) (by decide +kernel)
theorem lm_RL_160 : Cond.methodLink RL 160 yX6_word ∈ am_G := am_wd 1020 (by decide +kernel) (by decide +kernel)
theorem lm_RL_161 : Cond.methodLink RL 161 yL_reaches ∈ am_G := am_wd 395 (by decide +kernel) (by decide +kernel)
theorem lm_RL_163 : Cond.methodLink RL 163 yX6_reaches ∈ am_G := am_wd 1024 (by decide +kernel) (by decide +kernel)
theorem lm_RL_164 : Cond.methodLink RL 164 yL_reachesByMembers ∈ am_G := am_wd 406 (by decide +kernel) (by decide +kernel)
theorem lm_RL_166 : Cond.methodLink RL 166 yX6_reachesByMembers ∈ am_G := am_wd 1036 (by decide +kernel) (by decide +kernel)
theorem lm_RL_167 : Cond.methodLink RL 167 yL_modeOf ∈ am_G := am_wd 417 (by decide +kernel) (by decide +kernel)
theorem lm_RL_169 : Cond.methodLink RL 169 yX6_modeOf ∈ am_G := am_wd 1040 (by decide +kernel) (by decide +kernel)
theorem lm_RL_170 : Cond.methodLink RL 170 yL_send ∈ am_G := am_wd 428 (by decide +kernel) (by decide +kernel)
theorem lm_RL_173 : Cond.methodLink RL 173 yX6_send ∈ am_G := am_wd 1048 (by decide +kernel) (by decide +kernel)
theorem lm_RL_174 : Cond.methodLink RL 174 yL_approve ∈ am_G := am_wd 574 (by decide +kernel) (by decide +kernel)
theorem lm_RL_176 : Cond.methodLink RL 176 yX6_approve ∈ am_G := am_wd 1081 (by decide +kernel) (by decide +kernel)
theorem lm_RL_177 : Cond.methodLink RL 177 yL_refuse ∈ am_G := am_wd 598 (by decide +kernel) (by decide +kernel)
theorem lm_RL_179 : Cond.methodLink RL 179 yX6_refuse ∈ am_G := am_wd 1089 (by decide +kernel) (by decide +kernel)
theorem lm_RL_180 : Cond.methodLink RL 180 yL_appeal ∈ am_G := am_wd 605 (by decide +kernel) (by decide +kernel)
theorem lm_RL_182 : Cond.methodLink RL 182 yX6_appeal ∈ am_G := am_wd 1093 (by decide +kernel) (by decide +kernel)
theorem lm_RL_183 : Cond.methodLink RL 183 yL_vote ∈ am_G := am_wd 646 (by decide +kernel) (by decide +kernel)
theorem lm_RL_186 : Cond.methodLink RL 186 yX6_vote ∈ am_G := am_wd 1101 (by decide +kernel) (by decide +kernel)
theorem lm_RL_187 : Cond.methodLink RL 187 yL_state ∈ am_G := am_wd 687 (by decide +kernel) (by decide +kernel)
theorem lm_RL_189 : Cond.methodLink RL 189 yX6_state ∈ am_G := am_wd 1109 (by decide +kernel) (by decide +kernel)
theorem lm_RL_190 : Cond.methodLink RL 190 yL_cause ∈ am_G := am_wd 694 (by decide +kernel) (by decide +kernel)
theorem lm_RL_192 : Cond.methodLink RL 192 yX6_cause ∈ am_G := am_wd 1117 (by decide +kernel) (by decide +kernel)
theorem lm_RL_193 : Cond.methodLink RL 193 yL_score ∈ am_G := am_wd 701 (by decide +kernel) (by decide +kernel)
theorem lm_RL_195 : Cond.methodLink RL 195 yX6_score ∈ am_G := am_wd 1121 (by decide +kernel) (by decide +kernel)
theorem lm_RL_196 : Cond.methodLink RL 196 yL_lapses ∈ am_G := am_wd 708 (by decide +kernel) (by decide +kernel)
theorem lm_RL_198 : Cond.methodLink RL 198 yX6_lapses ∈ am_G := am_wd 1125 (by decide +kernel) (by decide +kernel)
theorem lm_RL_199 : Cond.methodLink RL 199 yL_jurors ∈ am_G := am_wd 719 (by decide +kernel) (by decide +kernel)
theorem lm_RL_201 : Cond.methodLink RL 201 yX6_jurors ∈ am_G := am_wd 1129 (by decide +kernel) (by decide +kernel)
theorem lm_RL_202 : Cond.methodLink RL 202 yL_reached ∈ am_G := am_wd 726 (by decide +kernel) (by decide +kernel)
theorem lm_RL_204 : Cond.methodLink RL 204 yX6_reached ∈ am_G := am_wd 1133 (by decide +kernel) (by decide +kernel)
theorem lm_RL_205 : Cond.methodLink RL 205 yX5_mails ∈ am_G := am_wd 134 (by decide +kernel) (by decide +kernel)
theorem lm_RL_208 : Cond.methodLink RL 208 yX6_mails ∈ am_G := am_wd 1137 (by decide +kernel) (by decide +kernel)
theorem lm_RL_209 : Cond.methodLink RL 209 yX5_held ∈ am_G := am_wd 138 (by decide +kernel) (by decide +kernel)
theorem lm_RL_212 : Cond.methodLink RL 212 yX6_held_ ∈ am_G := am_wd 1141 (by decide +kernel) (by decide +kernel)
theorem lm_RL_213 : Cond.methodLink RL 213 yL_weight ∈ am_G := am_wd 733 (by decide +kernel) (by decide +kernel)
theorem lm_RL_215 : Cond.methodLink RL 215 yX6_weight ∈ am_G := am_wd 1145 (by decide +kernel) (by decide +kernel)
theorem lm_RL_216 : Cond.methodLink RL 216 yL_judged ∈ am_G := am_wd 740 (by decide +kernel) (by decide +kernel)
theorem lm_RL_218 : Cond.methodLink RL 218 yX6_judged ∈ am_G := am_wd 1153 (by decide +kernel) (by decide +kernel)
theorem lm_RL_219 : Cond.methodLink RL 219 yL_bounces ∈ am_G := am_wd 747 (by decide +kernel) (by decide +kernel)
theorem lm_RL_221 : Cond.methodLink RL 221 yX6_bounces ∈ am_G := am_wd 1157 (by decide +kernel) (by decide +kernel)
theorem lm_RL_222 : Cond.methodLink RL 222 yL_box ∈ am_G := am_wd 754 (by decide +kernel) (by decide +kernel)
theorem lm_RL_224 : Cond.methodLink RL 224 yX6_box ∈ am_G := am_wd 1161 (by decide +kernel) (by decide +kernel)
theorem lm_RL_225 : Cond.methodLink RL 225 yL_mailAt ∈ am_G := am_wd 761 (by decide +kernel) (by decide +kernel)
theorem lm_RL_227 : Cond.methodLink RL 227 yX6_mailAt ∈ am_G := am_wd 1165 (by decide +kernel) (by decide +kernel)
theorem lm_RL_228 : Cond.methodLink RL 228 yL_read ∈ am_G := am_wd 769 (by decide +kernel) (by decide +kernel)
theorem lm_RL_230 : Cond.methodLink RL 230 yX6_read ∈ am_G := am_wd 1169 (by decide +kernel) (by decide +kernel)
theorem lm_RL_231 : Cond.methodLink RL 231 yL_size ∈ am_G := am_wd 783 (by decide +kernel) (by decide +kernel)
theorem lm_RL_233 : Cond.methodLink RL 233 yX6_size ∈ am_G := am_wd 1173 (by decide +kernel) (by decide +kernel)
theorem lm_RL_234 : Cond.methodLink RL 234 yL_digest ∈ am_G := am_wd 795 (by decide +kernel) (by decide +kernel)
theorem lm_RL_236 : Cond.methodLink RL 236 yX6_digest ∈ am_G := am_wd 1181 (by decide +kernel) (by decide +kernel)
theorem lm_RL_237 : Cond.methodLink RL 237 yL_edition ∈ am_G := am_wd 819 (by decide +kernel) (by decide +kernel)
theorem lm_RL_239 : Cond.methodLink RL 239 yX6_edition ∈ am_G := am_wd 1185 (by decide +kernel) (by decide +kernel)
theorem lm_RL_240 : Cond.methodLink RL 240 yL_readers ∈ am_G := am_wd 830 (by decide +kernel) (by decide +kernel)
theorem lm_RL_242 : Cond.methodLink RL 242 yX6_readers ∈ am_G := am_wd 1189 (by decide +kernel) (by decide +kernel)
theorem lm_RL_243 : Cond.methodLink RL 243 yL_pass ∈ am_G := am_wd 837 (by decide +kernel) (by decide +kernel)
theorem lm_RL_245 : Cond.methodLink RL 245 yX6_pass ∈ am_G := am_wd 1193 (by decide +kernel) (by decide +kernel)
theorem lm_RX6_1 : Cond.methodLink RX6 1 Lib.objectInit ∈ am_G := am_wd 859 (by decide +kernel) (by decide +kernel)
theorem lm_RX6_108 : Cond.methodLink RX6 108 yX6_isIn ∈ am_G := am_wd 981 (by decide +kernel) (by decide +kernel)
theorem lm_RX6_118 : Cond.methodLink RX6 118 yX6_isPerson ∈ am_G := am_wd 978 (by decide +kernel) (by decide +kernel)
theorem lm_RX6_122 : Cond.methodLink RX6 122 yX6_isList ∈ am_G := am_wd 988 (by decide +kernel) (by decide +kernel)
theorem lm_RX6_125 : Cond.methodLink RX6 125 yX6_membersOf ∈ am_G := am_wd 992 (by decide +kernel) (by decide +kernel)
theorem lm_RX6_129 : Cond.methodLink RX6 129 yX6_within ∈ am_G := am_wd 1008 (by decide +kernel) (by decide +kernel)
theorem lm_RX6_132 : Cond.methodLink RX6 132 yX6_memberBy ∈ am_G := am_wd 1032 (by decide +kernel) (by decide +kernel)
theorem lm_RX6_136 : Cond.methodLink RX6 136 yX6_reachesOf ∈ am_G := am_wd 1028 (by decide +kernel) (by decide +kernel)
theorem lm_RX6_139 : Cond.methodLink RX6 139 yX6_modeFor ∈ am_G := am_wd 1044 (by decide +kernel) (by decide +kernel)
theorem lm_RX6_143 : Cond.methodLink RX6 143 yX6_oneMore ∈ am_G := am_wd 1073 (by decide +kernel) (by decide +kernel)
theorem lm_RX6_153 : Cond.methodLink RX6 153 yX6_comesToBox ∈ am_G := am_wd 1069 (by decide +kernel) (by decide +kernel)
theorem lm_RX6_157 : Cond.methodLink RX6 157 yX6_comesToDigest ∈ am_G := am_wd 1077 (by decide +kernel) (by decide +kernel)
theorem lm_RX6_161 : Cond.methodLink RX6 161 yX6_isMail ∈ am_G := am_wd 1052 (by decide +kernel) (by decide +kernel)
theorem lm_RX6_165 : Cond.methodLink RX6 165 yX6_scoreOf ∈ am_G := am_wd 1057 (by decide +kernel) (by decide +kernel)
theorem lm_RX6_168 : Cond.methodLink RX6 168 yX6_causeOf ∈ am_G := am_wd 1061 (by decide +kernel) (by decide +kernel)
theorem lm_RX6_171 : Cond.methodLink RX6 171 yX6_passes ∈ am_G := am_wd 1065 (by decide +kernel) (by decide +kernel)
theorem lm_RX6_174 : Cond.methodLink RX6 174 yX6_held ∈ am_G := am_wd 1085 (by decide +kernel) (by decide +kernel)
theorem lm_RX6_177 : Cond.methodLink RX6 177 yX6_canJudge ∈ am_G := am_wd 1097 (by decide +kernel) (by decide +kernel)
theorem lm_RX6_181 : Cond.methodLink RX6 181 yX6_clears ∈ am_G := am_wd 1105 (by decide +kernel) (by decide +kernel)
theorem lm_RX6_184 : Cond.methodLink RX6 184 yX6_asks ∈ am_G := am_wd 1113 (by decide +kernel) (by decide +kernel)
theorem lm_RX6_187 : Cond.methodLink RX6 187 yX6_asksPerson ∈ am_G := am_wd 1149 (by decide +kernel) (by decide +kernel)
theorem lm_RX6_190 : Cond.methodLink RX6 190 yX6_digestThrown ∈ am_G := am_wd 1177 (by decide +kernel) (by decide +kernel)
theorem lm_RX6_193 : Cond.methodLink RX6 193 yX6_nextDay ∈ am_G := am_wd 1197 (by decide +kernel) (by decide +kernel)
theorem lc_RX5_9 : Cond.classLink RX5 9 "MailPriory$Person" ∈ am_G := am_wd 71 (by decide +kernel) (by decide +kernel)
theorem lc_RX5_19 : Cond.classLink RX5 19 "MailPriory$MailList" ∈ am_G := am_wd 73 (by decide +kernel) (by decide +kernel)
theorem lc_RX5_29 : Cond.classLink RX5 29 "MailPriory$Mail" ∈ am_G := am_wd 75 (by decide +kernel) (by decide +kernel)
theorem lc_RX5_38 : Cond.classLink RX5 38 "MailPriory$PostDay" ∈ am_G := am_wd 77 (by decide +kernel) (by decide +kernel)
theorem lc_RX5_55 : Cond.classLink RX5 55 "java/lang/IllegalStateException" ∈ am_G := am_wd 223 (by decide +kernel) (by decide +kernel)
theorem lc_RX5_110 : Cond.classLink RX5 110 "java/lang/IllegalArgumentException" ∈ am_G := am_wd 292 (by decide +kernel) (by decide +kernel)
theorem lc_RX5_135 : Cond.classLink RX5 135 "java/lang/IndexOutOfBoundsException" ∈ am_G := am_wd 154 (by decide +kernel) (by decide +kernel)
theorem lc_RX5_204 : Cond.classLink RX5 204 "MailPriory$Appeal" ∈ am_G := am_wd 626 (by decide +kernel) (by decide +kernel)
theorem lc_RX5_260 : Cond.classLink RX5 260 "java/util/NoSuchElementException" ∈ am_G := am_wd 803 (by decide +kernel) (by decide +kernel)
theorem lc_RL_8 : Cond.classLink RL 8 "MailPriory" ∈ am_G := am_wd 63 (by decide +kernel) (by decide +kernel)
theorem lc_RL_13 : Cond.classLink RL 13 "java/lang/IndexOutOfBoundsException" ∈ am_G := am_wd 145 (by decide +kernel) (by decide +kernel)
theorem lc_RL_15 : Cond.classLink RL 15 "java/lang/IllegalStateException" ∈ am_G := am_wd 146 (by decide +kernel) (by decide +kernel)
theorem lc_RL_21 : Cond.classLink RL 21 "java/lang/IllegalArgumentException" ∈ am_G := am_wd 279 (by decide +kernel) (by decide +kernel)
theorem lc_RL_112 : Cond.classLink RL 112 "java/util/NoSuchElementException" ∈ am_G := am_wd 798 (by decide +kernel) (by decide +kernel)
theorem lc_RL_124 : Cond.classLink RL 124 "MailPrioryModel" ∈ am_G := am_wd 854 (by decide +kernel) (by decide +kernel)
theorem lk_RX6_164 : Cond.constant RX6 164 1048575 ∈ am_G := am_wd 1056 (by decide +kernel) (by decide +kernel)
theorem lk_RJ6_265 : Cond.constant RJ6 265 1431655765 ∈ am_G := am_wd 326 (by decide +kernel) (by decide +kernel)
theorem lk_RJ6_266 : Cond.constant RJ6 266 858993459 ∈ am_G := am_wd 327 (by decide +kernel) (by decide +kernel)
theorem lk_RJ6_267 : Cond.constant RJ6 267 252645135 ∈ am_G := am_wd 328 (by decide +kernel) (by decide +kernel)
theorem li_RX5 : Cond.instantiable "MailPriory" 9 ∈ am_G := am_wd 64 (by decide +kernel) (by decide +kernel)
theorem lz_RX5 : Cond.initialized "MailPriory" ∈ am_G := am_wd 46 (by decide +kernel) (by decide +kernel)
theorem li_RX0 : Cond.instantiable "MailPriory$Appeal" 4 ∈ am_G := am_wd 627 (by decide +kernel) (by decide +kernel)
theorem lz_RX0 : Cond.initialized "MailPriory$Appeal" ∈ am_G := am_wd 59 (by decide +kernel) (by decide +kernel)
theorem li_RX1 : Cond.instantiable "MailPriory$Mail" 11 ∈ am_G := am_wd 457 (by decide +kernel) (by decide +kernel)
theorem lz_RX1 : Cond.initialized "MailPriory$Mail" ∈ am_G := am_wd 57 (by decide +kernel) (by decide +kernel)
theorem li_RX2 : Cond.instantiable "MailPriory$MailList" 8 ∈ am_G := am_wd 239 (by decide +kernel) (by decide +kernel)
theorem lz_RX2 : Cond.initialized "MailPriory$MailList" ∈ am_G := am_wd 54 (by decide +kernel) (by decide +kernel)
theorem li_RX3 : Cond.instantiable "MailPriory$Person" 5 ∈ am_G := am_wd 79 (by decide +kernel) (by decide +kernel)
theorem lz_RX3 : Cond.initialized "MailPriory$Person" ∈ am_G := am_wd 47 (by decide +kernel) (by decide +kernel)
theorem li_RX4 : Cond.instantiable "MailPriory$PostDay" 5 ∈ am_G := am_wd 466 (by decide +kernel) (by decide +kernel)
theorem lz_RX4 : Cond.initialized "MailPriory$PostDay" ∈ am_G := am_wd 58 (by decide +kernel) (by decide +kernel)
theorem li_RX6 : Cond.instantiable "MailPrioryModel" 36 ∈ am_G := am_wd 855 (by decide +kernel) (by decide +kernel)
theorem lz_RX6 : Cond.initialized "MailPrioryModel" ∈ am_G := am_wd 48 (by decide +kernel) (by decide +kernel)
theorem la_int : Cond.arrayClass .int ∈ am_G := am_wd 105 (by decide +kernel) (by decide +kernel)
theorem la_byte : Cond.arrayClass .byte ∈ am_G := am_wd 222 (by decide +kernel) (by decide +kernel)
theorem la_boolean : Cond.arrayClass .boolean ∈ am_G := am_wd 969 (by decide +kernel) (by decide +kernel)
theorem la_long : Cond.arrayClass .long ∈ am_G := am_wd 1201 (by decide +kernel) (by decide +kernel)
theorem lo_inst : Cond.instanceMethod Lib.objectInit ∈ am_G := am_wd 69 (by decide +kernel) (by decide +kernel)
theorem lo_code : Cond.code Lib.objectInit ⟨#[0xb1]⟩ 1 none ∈ am_G := am_wd 70 (by decide +kernel) (by decide +kernel)
theorem myJ6_bitCount_0f7a4 : am_M yJ6_bitCount_0f7a4 cJ6_bitCount_0f7a4 1 (some .int) 1 := ⟨am_wd 325 (by decide +kernel) (by decide +kernel), am_wd 56 (by decide +kernel) (by decide +kernel), by decide +kernel⟩
theorem syJ6_bitCount_0f7a4 : Cond.static yJ6_bitCount_0f7a4 ∈ am_G := am_wd 324 (by decide +kernel) (by decide +kernel)
theorem myJ9_min_7cf53 : am_M yJ9_min_7cf53 cJ9_min_7cf53 2 (some .int) 2 := ⟨am_wd 686 (by decide +kernel) (by decide +kernel), am_wd 60 (by decide +kernel) (by decide +kernel), by decide +kernel⟩
theorem syJ9_min_7cf53 : Cond.static yJ9_min_7cf53 ∈ am_G := am_wd 685 (by decide +kernel) (by decide +kernel)
theorem myX0_awaitedJurors : am_M yX0_awaitedJurors cX0_awaitedJurors 1 (some .int) 0 := ⟨am_wd 656 (by decide +kernel) (by decide +kernel), am_wd 59 (by decide +kernel) (by decide +kernel), by decide +kernel⟩
theorem vyX0_awaitedJurors : am_MV yX0_awaitedJurors := ⟨am_wd 654 (by decide +kernel) (by decide +kernel), am_wd 655 (by decide +kernel) (by decide +kernel)⟩
theorem myX0_init : am_M yX0_init cX0_init 2 none 1 := ⟨am_wd 630 (by decide +kernel) (by decide +kernel), am_wd 59 (by decide +kernel) (by decide +kernel), by decide +kernel⟩
theorem iyX0_init : Cond.instanceMethod yX0_init ∈ am_G := am_wd 629 (by decide +kernel) (by decide +kernel)
theorem myX0_isDecided : am_M yX0_isDecided cX0_isDecided 2 (some .boolean) 1 := ⟨am_wd 666 (by decide +kernel) (by decide +kernel), am_wd 59 (by decide +kernel) (by decide +kernel), by decide +kernel⟩
theorem vyX0_isDecided : am_MV yX0_isDecided := ⟨am_wd 664 (by decide +kernel) (by decide +kernel), am_wd 665 (by decide +kernel) (by decide +kernel)⟩
theorem myX0_takeVote : am_M yX0_takeVote cX0_takeVote 3 none 2 := ⟨am_wd 661 (by decide +kernel) (by decide +kernel), am_wd 59 (by decide +kernel) (by decide +kernel), by decide +kernel⟩
theorem vyX0_takeVote : am_MV yX0_takeVote := ⟨am_wd 659 (by decide +kernel) (by decide +kernel), am_wd 660 (by decide +kernel) (by decide +kernel)⟩
theorem myX1_canLapse : am_M yX1_canLapse cX1_canLapse 1 (some .boolean) 0 := ⟨am_wd 718 (by decide +kernel) (by decide +kernel), am_wd 57 (by decide +kernel) (by decide +kernel), by decide +kernel⟩
theorem vyX1_canLapse : am_MV yX1_canLapse := ⟨am_wd 716 (by decide +kernel) (by decide +kernel), am_wd 717 (by decide +kernel) (by decide +kernel)⟩
theorem myX1_closeAppeal : am_M yX1_closeAppeal cX1_closeAppeal 1 none 0 := ⟨am_wd 679 (by decide +kernel) (by decide +kernel), am_wd 57 (by decide +kernel) (by decide +kernel), by decide +kernel⟩
theorem vyX1_closeAppeal : am_MV yX1_closeAppeal := ⟨am_wd 677 (by decide +kernel) (by decide +kernel), am_wd 678 (by decide +kernel) (by decide +kernel)⟩
theorem myX1_init : am_M yX1_init cX1_init 8 none 7 := ⟨am_wd 493 (by decide +kernel) (by decide +kernel), am_wd 57 (by decide +kernel) (by decide +kernel), by decide +kernel⟩
theorem iyX1_init : Cond.instanceMethod yX1_init ∈ am_G := am_wd 492 (by decide +kernel) (by decide +kernel)
theorem myX1_isAppealOpen : am_M yX1_isAppealOpen cX1_isAppealOpen 1 (some .boolean) 0 := ⟨am_wd 587 (by decide +kernel) (by decide +kernel), am_wd 57 (by decide +kernel) (by decide +kernel), by decide +kernel⟩
theorem vyX1_isAppealOpen : am_MV yX1_isAppealOpen := ⟨am_wd 585 (by decide +kernel) (by decide +kernel), am_wd 586 (by decide +kernel) (by decide +kernel)⟩
theorem myX1_isHeldForScore : am_M yX1_isHeldForScore cX1_isHeldForScore 1 (some .boolean) 0 := ⟨am_wd 675 (by decide +kernel) (by decide +kernel), am_wd 57 (by decide +kernel) (by decide +kernel), by decide +kernel⟩
theorem vyX1_isHeldForScore : am_MV yX1_isHeldForScore := ⟨am_wd 673 (by decide +kernel) (by decide +kernel), am_wd 674 (by decide +kernel) (by decide +kernel)⟩
theorem myX1_isInDigest : am_M yX1_isInDigest cX1_isInDigest 3 (some .boolean) 2 := ⟨am_wd 793 (by decide +kernel) (by decide +kernel), am_wd 57 (by decide +kernel) (by decide +kernel), by decide +kernel⟩
theorem vyX1_isInDigest : am_MV yX1_isInDigest := ⟨am_wd 791 (by decide +kernel) (by decide +kernel), am_wd 792 (by decide +kernel) (by decide +kernel)⟩
theorem myX2_dropMember : am_M yX2_dropMember cX2_dropMember 2 none 1 := ⟨am_wd 347 (by decide +kernel) (by decide +kernel), am_wd 54 (by decide +kernel) (by decide +kernel), by decide +kernel⟩
theorem vyX2_dropMember : am_MV yX2_dropMember := ⟨am_wd 345 (by decide +kernel) (by decide +kernel), am_wd 346 (by decide +kernel) (by decide +kernel)⟩
theorem myX2_hasMember : am_M yX2_hasMember cX2_hasMember 2 (some .boolean) 1 := ⟨am_wd 311 (by decide +kernel) (by decide +kernel), am_wd 54 (by decide +kernel) (by decide +kernel), by decide +kernel⟩
theorem vyX2_hasMember : am_MV yX2_hasMember := ⟨am_wd 309 (by decide +kernel) (by decide +kernel), am_wd 310 (by decide +kernel) (by decide +kernel)⟩
theorem myX2_init : am_M yX2_init cX2_init 2 none 1 := ⟨am_wd 242 (by decide +kernel) (by decide +kernel), am_wd 54 (by decide +kernel) (by decide +kernel), by decide +kernel⟩
theorem iyX2_init : Cond.instanceMethod yX2_init ∈ am_G := am_wd 241 (by decide +kernel) (by decide +kernel)
theorem myX2_memberMode : am_M yX2_memberMode cX2_memberMode 2 (some .int) 1 := ⟨am_wd 343 (by decide +kernel) (by decide +kernel), am_wd 54 (by decide +kernel) (by decide +kernel), by decide +kernel⟩
theorem vyX2_memberMode : am_MV yX2_memberMode := ⟨am_wd 341 (by decide +kernel) (by decide +kernel), am_wd 342 (by decide +kernel) (by decide +kernel)⟩
theorem myX2_putMember : am_M yX2_putMember cX2_putMember 3 none 2 := ⟨am_wd 319 (by decide +kernel) (by decide +kernel), am_wd 54 (by decide +kernel) (by decide +kernel), by decide +kernel⟩
theorem vyX2_putMember : am_MV yX2_putMember := ⟨am_wd 317 (by decide +kernel) (by decide +kernel), am_wd 318 (by decide +kernel) (by decide +kernel)⟩
theorem myX3_hasRoom : am_M yX3_hasRoom cX3_hasRoom 1 (some .boolean) 0 := ⟨am_wd 564 (by decide +kernel) (by decide +kernel), am_wd 47 (by decide +kernel) (by decide +kernel), by decide +kernel⟩
theorem vyX3_hasRoom : am_MV yX3_hasRoom := ⟨am_wd 562 (by decide +kernel) (by decide +kernel), am_wd 563 (by decide +kernel) (by decide +kernel)⟩
theorem myX3_init : am_M yX3_init cX3_init 1 none 0 := ⟨am_wd 82 (by decide +kernel) (by decide +kernel), am_wd 47 (by decide +kernel) (by decide +kernel), by decide +kernel⟩
theorem iyX3_init : Cond.instanceMethod yX3_init ∈ am_G := am_wd 81 (by decide +kernel) (by decide +kernel)
theorem myX3_putIntoBox : am_M yX3_putIntoBox cX3_putIntoBox 2 none 1 := ⟨am_wd 568 (by decide +kernel) (by decide +kernel), am_wd 47 (by decide +kernel) (by decide +kernel), by decide +kernel⟩
theorem vyX3_putIntoBox : am_MV yX3_putIntoBox := ⟨am_wd 566 (by decide +kernel) (by decide +kernel), am_wd 567 (by decide +kernel) (by decide +kernel)⟩
theorem myX3_takeFirst : am_M yX3_takeFirst cX3_takeFirst 2 (some .int) 0 := ⟨am_wd 779 (by decide +kernel) (by decide +kernel), am_wd 47 (by decide +kernel) (by decide +kernel), by decide +kernel⟩
theorem vyX3_takeFirst : am_MV yX3_takeFirst := ⟨am_wd 777 (by decide +kernel) (by decide +kernel), am_wd 778 (by decide +kernel) (by decide +kernel)⟩
theorem myX4_addReader : am_M yX4_addReader cX4_addReader 3 none 2 := ⟨am_wd 559 (by decide +kernel) (by decide +kernel), am_wd 58 (by decide +kernel) (by decide +kernel), by decide +kernel⟩
theorem vyX4_addReader : am_MV yX4_addReader := ⟨am_wd 557 (by decide +kernel) (by decide +kernel), am_wd 558 (by decide +kernel) (by decide +kernel)⟩
theorem myX4_end : am_M yX4_end cX4_end 2 none 0 := ⟨am_wd 848 (by decide +kernel) (by decide +kernel), am_wd 58 (by decide +kernel) (by decide +kernel), by decide +kernel⟩
theorem vyX4_end : am_MV yX4_end := ⟨am_wd 846 (by decide +kernel) (by decide +kernel), am_wd 847 (by decide +kernel) (by decide +kernel)⟩
theorem myX4_hasDigest : am_M yX4_hasDigest cX4_hasDigest 2 (some .boolean) 1 := ⟨am_wd 829 (by decide +kernel) (by decide +kernel), am_wd 58 (by decide +kernel) (by decide +kernel), by decide +kernel⟩
theorem vyX4_hasDigest : am_MV yX4_hasDigest := ⟨am_wd 827 (by decide +kernel) (by decide +kernel), am_wd 828 (by decide +kernel) (by decide +kernel)⟩
theorem myX4_init : am_M yX4_init cX4_init 2 none 1 := ⟨am_wd 469 (by decide +kernel) (by decide +kernel), am_wd 58 (by decide +kernel) (by decide +kernel), by decide +kernel⟩
theorem iyX4_init : Cond.instanceMethod yX4_init ∈ am_G := am_wd 468 (by decide +kernel) (by decide +kernel)
theorem myX4_settleEditions : am_M yX4_settleEditions cX4_settleEditions 2 none 0 := ⟨am_wd 596 (by decide +kernel) (by decide +kernel), am_wd 58 (by decide +kernel) (by decide +kernel), by decide +kernel⟩
theorem vyX4_settleEditions : am_MV yX4_settleEditions := ⟨am_wd 594 (by decide +kernel) (by decide +kernel), am_wd 595 (by decide +kernel) (by decide +kernel)⟩
theorem myX5_answersOwnPost : am_M yX5_answersOwnPost cX5_answersOwnPost 4 (some .boolean) 2 := ⟨am_wd 452 (by decide +kernel) (by decide +kernel), am_wd 46 (by decide +kernel) (by decide +kernel), by decide +kernel⟩
theorem vyX5_answersOwnPost : am_MV yX5_answersOwnPost := ⟨am_wd 451 (by decide +kernel) (by decide +kernel), am_wd 9 (by decide +kernel) (by decide +kernel)⟩
theorem myX5_appeal : am_M yX5_appeal cX5_appeal 5 (some .int) 1 := ⟨am_wd 611 (by decide +kernel) (by decide +kernel), am_wd 46 (by decide +kernel) (by decide +kernel), by decide +kernel⟩
theorem vyX5_appeal : am_MV yX5_appeal := ⟨am_wd 609 (by decide +kernel) (by decide +kernel), am_wd 610 (by decide +kernel) (by decide +kernel)⟩
theorem myX5_approve : am_M yX5_approve cX5_approve 3 (some .int) 1 := ⟨am_wd 580 (by decide +kernel) (by decide +kernel), am_wd 46 (by decide +kernel) (by decide +kernel), by decide +kernel⟩
theorem vyX5_approve : am_MV yX5_approve := ⟨am_wd 578 (by decide +kernel) (by decide +kernel), am_wd 579 (by decide +kernel) (by decide +kernel)⟩
theorem myX5_bar : am_M yX5_bar cX5_bar 4 (some .boolean) 2 := ⟨am_wd 386 (by decide +kernel) (by decide +kernel), am_wd 46 (by decide +kernel) (by decide +kernel), by decide +kernel⟩
theorem vyX5_bar : am_MV yX5_bar := ⟨am_wd 384 (by decide +kernel) (by decide +kernel), am_wd 385 (by decide +kernel) (by decide +kernel)⟩
theorem myX5_bit : am_M yX5_bit cX5_bit 1 (some .int) 1 := ⟨am_wd 322 (by decide +kernel) (by decide +kernel), am_wd 46 (by decide +kernel) (by decide +kernel), by decide +kernel⟩
theorem syX5_bit : Cond.static yX5_bit ∈ am_G := am_wd 321 (by decide +kernel) (by decide +kernel)
theorem myX5_bounce : am_M yX5_bounce cX5_bounce 3 none 1 := ⟨am_wd 573 (by decide +kernel) (by decide +kernel), am_wd 46 (by decide +kernel) (by decide +kernel), by decide +kernel⟩
theorem vyX5_bounce : am_MV yX5_bounce := ⟨am_wd 572 (by decide +kernel) (by decide +kernel), am_wd 17 (by decide +kernel) (by decide +kernel)⟩
theorem myX5_bounces : am_M yX5_bounces cX5_bounces 2 (some .int) 1 := ⟨am_wd 753 (by decide +kernel) (by decide +kernel), am_wd 46 (by decide +kernel) (by decide +kernel), by decide +kernel⟩
theorem vyX5_bounces : am_MV yX5_bounces := ⟨am_wd 751 (by decide +kernel) (by decide +kernel), am_wd 752 (by decide +kernel) (by decide +kernel)⟩
theorem myX5_box : am_M yX5_box cX5_box 2 (some .int) 1 := ⟨am_wd 760 (by decide +kernel) (by decide +kernel), am_wd 46 (by decide +kernel) (by decide +kernel), by decide +kernel⟩
theorem vyX5_box : am_MV yX5_box := ⟨am_wd 758 (by decide +kernel) (by decide +kernel), am_wd 759 (by decide +kernel) (by decide +kernel)⟩
theorem myX5_cause : am_M yX5_cause cX5_cause 2 (some .int) 1 := ⟨am_wd 700 (by decide +kernel) (by decide +kernel), am_wd 46 (by decide +kernel) (by decide +kernel), by decide +kernel⟩
theorem vyX5_cause : am_MV yX5_cause := ⟨am_wd 698 (by decide +kernel) (by decide +kernel), am_wd 699 (by decide +kernel) (by decide +kernel)⟩
theorem myX5_causeFor : am_M yX5_causeFor cX5_causeFor 5 (some .int) 3 := ⟨am_wd 456 (by decide +kernel) (by decide +kernel), am_wd 46 (by decide +kernel) (by decide +kernel), by decide +kernel⟩
theorem vyX5_causeFor : am_MV yX5_causeFor := ⟨am_wd 455 (by decide +kernel) (by decide +kernel), am_wd 10 (by decide +kernel) (by decide +kernel)⟩
theorem myX5_checkListerMayDecide : am_M yX5_checkListerMayDecide cX5_checkListerMayDecide 1 none 1 := ⟨am_wd 583 (by decide +kernel) (by decide +kernel), am_wd 46 (by decide +kernel) (by decide +kernel), by decide +kernel⟩
theorem syX5_checkListerMayDecide : Cond.static yX5_checkListerMayDecide ∈ am_G := am_wd 582 (by decide +kernel) (by decide +kernel)
theorem myX5_checkMember : am_M yX5_checkMember cX5_checkMember 2 none 2 := ⟨am_wd 338 (by decide +kernel) (by decide +kernel), am_wd 46 (by decide +kernel) (by decide +kernel), by decide +kernel⟩
theorem syX5_checkMember : Cond.static yX5_checkMember ∈ am_G := am_wd 337 (by decide +kernel) (by decide +kernel)
theorem myX5_checkMode : am_M yX5_checkMode cX5_checkMode 1 none 1 := ⟨am_wd 291 (by decide +kernel) (by decide +kernel), am_wd 46 (by decide +kernel) (by decide +kernel), by decide +kernel⟩
theorem syX5_checkMode : Cond.static yX5_checkMode ∈ am_G := am_wd 290 (by decide +kernel) (by decide +kernel)
theorem myX5_checkPerson : am_M yX5_checkPerson cX5_checkPerson 1 none 1 := ⟨am_wd 153 (by decide +kernel) (by decide +kernel), am_wd 46 (by decide +kernel) (by decide +kernel), by decide +kernel⟩
theorem syX5_checkPerson : Cond.static yX5_checkPerson ∈ am_G := am_wd 152 (by decide +kernel) (by decide +kernel)
theorem myX5_checkRange : am_M yX5_checkRange cX5_checkRange 3 none 3 := ⟨am_wd 378 (by decide +kernel) (by decide +kernel), am_wd 46 (by decide +kernel) (by decide +kernel), by decide +kernel⟩
theorem syX5_checkRange : Cond.static yX5_checkRange ∈ am_G := am_wd 377 (by decide +kernel) (by decide +kernel)
theorem myX5_chooseJurors : am_M yX5_chooseJurors cX5_chooseJurors 5 (some .int) 1 := ⟨am_wd 621 (by decide +kernel) (by decide +kernel), am_wd 46 (by decide +kernel) (by decide +kernel), by decide +kernel⟩
theorem vyX5_chooseJurors : am_MV yX5_chooseJurors := ⟨am_wd 620 (by decide +kernel) (by decide +kernel), am_wd 20 (by decide +kernel) (by decide +kernel)⟩
theorem myX5_clearSender : am_M yX5_clearSender cX5_clearSender 4 none 1 := ⟨am_wd 671 (by decide +kernel) (by decide +kernel), am_wd 46 (by decide +kernel) (by decide +kernel), by decide +kernel⟩
theorem vyX5_clearSender : am_MV yX5_clearSender := ⟨am_wd 670 (by decide +kernel) (by decide +kernel), am_wd 22 (by decide +kernel) (by decide +kernel)⟩
theorem myX5_condemnByCourt : am_M yX5_condemnByCourt cX5_condemnByCourt 3 none 1 := ⟨am_wd 683 (by decide +kernel) (by decide +kernel), am_wd 46 (by decide +kernel) (by decide +kernel), by decide +kernel⟩
theorem vyX5_condemnByCourt : am_MV yX5_condemnByCourt := ⟨am_wd 682 (by decide +kernel) (by decide +kernel), am_wd 23 (by decide +kernel) (by decide +kernel)⟩
theorem myX5_contains : am_M yX5_contains cX5_contains 2 (some .boolean) 2 := ⟨am_wd 314 (by decide +kernel) (by decide +kernel), am_wd 46 (by decide +kernel) (by decide +kernel), by decide +kernel⟩
theorem syX5_contains : Cond.static yX5_contains ∈ am_G := am_wd 313 (by decide +kernel) (by decide +kernel)
theorem myX5_deliver : am_M yX5_deliver cX5_deliver 4 none 1 := ⟨am_wd 543 (by decide +kernel) (by decide +kernel), am_wd 46 (by decide +kernel) (by decide +kernel), by decide +kernel⟩
theorem vyX5_deliver : am_MV yX5_deliver := ⟨am_wd 542 (by decide +kernel) (by decide +kernel), am_wd 13 (by decide +kernel) (by decide +kernel)⟩
theorem myX5_deliverTo : am_M yX5_deliverTo cX5_deliverTo 5 none 3 := ⟨am_wd 547 (by decide +kernel) (by decide +kernel), am_wd 46 (by decide +kernel) (by decide +kernel), by decide +kernel⟩
theorem vyX5_deliverTo : am_MV yX5_deliverTo := ⟨am_wd 546 (by decide +kernel) (by decide +kernel), am_wd 14 (by decide +kernel) (by decide +kernel)⟩
theorem myX5_digest : am_M yX5_digest cX5_digest 6 (some .int) 3 := ⟨am_wd 802 (by decide +kernel) (by decide +kernel), am_wd 46 (by decide +kernel) (by decide +kernel), by decide +kernel⟩
theorem vyX5_digest : am_MV yX5_digest := ⟨am_wd 800 (by decide +kernel) (by decide +kernel), am_wd 801 (by decide +kernel) (by decide +kernel)⟩
theorem myX5_edition : am_M yX5_edition cX5_edition 4 (some .int) 2 := ⟨am_wd 825 (by decide +kernel) (by decide +kernel), am_wd 46 (by decide +kernel) (by decide +kernel), by decide +kernel⟩
theorem vyX5_edition : am_MV yX5_edition := ⟨am_wd 823 (by decide +kernel) (by decide +kernel), am_wd 824 (by decide +kernel) (by decide +kernel)⟩
theorem myX5_findList : am_M yX5_findList cX5_findList 2 (some (.object "MailPriory$MailList")) 1 := ⟨am_wd 287 (by decide +kernel) (by decide +kernel), am_wd 46 (by decide +kernel) (by decide +kernel), by decide +kernel⟩
theorem vyX5_findList : am_MV yX5_findList := ⟨am_wd 286 (by decide +kernel) (by decide +kernel), am_wd 1 (by decide +kernel) (by decide +kernel)⟩
theorem myX5_findMail : am_M yX5_findMail cX5_findMail 2 (some (.object "MailPriory$Mail")) 1 := ⟨am_wd 438 (by decide +kernel) (by decide +kernel), am_wd 46 (by decide +kernel) (by decide +kernel), by decide +kernel⟩
theorem vyX5_findMail : am_MV yX5_findMail := ⟨am_wd 437 (by decide +kernel) (by decide +kernel), am_wd 6 (by decide +kernel) (by decide +kernel)⟩
theorem myX5_findPostDay : am_M yX5_findPostDay cX5_findPostDay 3 (some (.object "MailPriory$PostDay")) 1 := ⟨am_wd 465 (by decide +kernel) (by decide +kernel), am_wd 46 (by decide +kernel) (by decide +kernel), by decide +kernel⟩
theorem vyX5_findPostDay : am_MV yX5_findPostDay := ⟨am_wd 464 (by decide +kernel) (by decide +kernel), am_wd 12 (by decide +kernel) (by decide +kernel)⟩
theorem myX5_held : am_M yX5_held cX5_held 3 (some .int) 0 := ⟨am_wd 141 (by decide +kernel) (by decide +kernel), am_wd 46 (by decide +kernel) (by decide +kernel), by decide +kernel⟩
theorem vyX5_held : am_MV yX5_held := ⟨am_wd 139 (by decide +kernel) (by decide +kernel), am_wd 140 (by decide +kernel) (by decide +kernel)⟩
theorem myX5_init : am_M yX5_init cX5_init 2 none 0 := ⟨am_wd 67 (by decide +kernel) (by decide +kernel), am_wd 46 (by decide +kernel) (by decide +kernel), by decide +kernel⟩
theorem iyX5_init : Cond.instanceMethod yX5_init ∈ am_G := am_wd 66 (by decide +kernel) (by decide +kernel)
theorem myX5_join : am_M yX5_join cX5_join 5 (some .int) 3 := ⟨am_wd 283 (by decide +kernel) (by decide +kernel), am_wd 46 (by decide +kernel) (by decide +kernel), by decide +kernel⟩
theorem vyX5_join : am_MV yX5_join := ⟨am_wd 281 (by decide +kernel) (by decide +kernel), am_wd 282 (by decide +kernel) (by decide +kernel)⟩
theorem myX5_judged : am_M yX5_judged cX5_judged 2 (some .int) 1 := ⟨am_wd 746 (by decide +kernel) (by decide +kernel), am_wd 46 (by decide +kernel) (by decide +kernel), by decide +kernel⟩
theorem vyX5_judged : am_MV yX5_judged := ⟨am_wd 744 (by decide +kernel) (by decide +kernel), am_wd 745 (by decide +kernel) (by decide +kernel)⟩
theorem myX5_jurorCandidates : am_M yX5_jurorCandidates cX5_jurorCandidates 4 (some .int) 1 := ⟨am_wd 616 (by decide +kernel) (by decide +kernel), am_wd 46 (by decide +kernel) (by decide +kernel), by decide +kernel⟩
theorem vyX5_jurorCandidates : am_MV yX5_jurorCandidates := ⟨am_wd 615 (by decide +kernel) (by decide +kernel), am_wd 19 (by decide +kernel) (by decide +kernel)⟩
theorem myX5_jurors : am_M yX5_jurors cX5_jurors 3 (some .int) 1 := ⟨am_wd 725 (by decide +kernel) (by decide +kernel), am_wd 46 (by decide +kernel) (by decide +kernel), by decide +kernel⟩
theorem vyX5_jurors : am_MV yX5_jurors := ⟨am_wd 723 (by decide +kernel) (by decide +kernel), am_wd 724 (by decide +kernel) (by decide +kernel)⟩
theorem myX5_lapseHolds : am_M yX5_lapseHolds cX5_lapseHolds 4 (some .int) 0 := ⟨am_wd 853 (by decide +kernel) (by decide +kernel), am_wd 46 (by decide +kernel) (by decide +kernel), by decide +kernel⟩
theorem vyX5_lapseHolds : am_MV yX5_lapseHolds := ⟨am_wd 852 (by decide +kernel) (by decide +kernel), am_wd 24 (by decide +kernel) (by decide +kernel)⟩
theorem myX5_lapses : am_M yX5_lapses cX5_lapses 3 (some .int) 1 := ⟨am_wd 714 (by decide +kernel) (by decide +kernel), am_wd 46 (by decide +kernel) (by decide +kernel), by decide +kernel⟩
theorem vyX5_lapses : am_MV yX5_lapses := ⟨am_wd 712 (by decide +kernel) (by decide +kernel), am_wd 713 (by decide +kernel) (by decide +kernel)⟩
theorem myX5_leastJudged : am_M yX5_leastJudged cX5_leastJudged 4 (some .int) 1 := ⟨am_wd 625 (by decide +kernel) (by decide +kernel), am_wd 46 (by decide +kernel) (by decide +kernel), by decide +kernel⟩
theorem vyX5_leastJudged : am_MV yX5_leastJudged := ⟨am_wd 624 (by decide +kernel) (by decide +kernel), am_wd 21 (by decide +kernel) (by decide +kernel)⟩
theorem myX5_leave : am_M yX5_leave cX5_leave 5 (some .int) 2 := ⟨am_wd 335 (by decide +kernel) (by decide +kernel), am_wd 46 (by decide +kernel) (by decide +kernel), by decide +kernel⟩
theorem vyX5_leave : am_MV yX5_leave := ⟨am_wd 333 (by decide +kernel) (by decide +kernel), am_wd 334 (by decide +kernel) (by decide +kernel)⟩
theorem myX5_list : am_M yX5_list cX5_list 2 (some .int) 1 := ⟨am_wd 150 (by decide +kernel) (by decide +kernel), am_wd 46 (by decide +kernel) (by decide +kernel), by decide +kernel⟩
theorem vyX5_list : am_MV yX5_list := ⟨am_wd 148 (by decide +kernel) (by decide +kernel), am_wd 149 (by decide +kernel) (by decide +kernel)⟩
theorem myX5_listsDown : am_M yX5_listsDown cX5_listsDown 5 (some .int) 1 := ⟨am_wd 366 (by decide +kernel) (by decide +kernel), am_wd 46 (by decide +kernel) (by decide +kernel), by decide +kernel⟩
theorem vyX5_listsDown : am_MV yX5_listsDown := ⟨am_wd 365 (by decide +kernel) (by decide +kernel), am_wd 2 (by decide +kernel) (by decide +kernel)⟩
theorem myX5_listsUp : am_M yX5_listsUp cX5_listsUp 5 (some .int) 1 := ⟨am_wd 416 (by decide +kernel) (by decide +kernel), am_wd 46 (by decide +kernel) (by decide +kernel), by decide +kernel⟩
theorem vyX5_listsUp : am_MV yX5_listsUp := ⟨am_wd 415 (by decide +kernel) (by decide +kernel), am_wd 4 (by decide +kernel) (by decide +kernel)⟩
theorem myX5_lowestWithMember : am_M yX5_lowestWithMember cX5_lowestWithMember 4 (some .int) 2 := ⟨am_wd 551 (by decide +kernel) (by decide +kernel), am_wd 46 (by decide +kernel) (by decide +kernel), by decide +kernel⟩
theorem vyX5_lowestWithMember : am_MV yX5_lowestWithMember := ⟨am_wd 550 (by decide +kernel) (by decide +kernel), am_wd 15 (by decide +kernel) (by decide +kernel)⟩
theorem myX5_mailAt : am_M yX5_mailAt cX5_mailAt 3 (some .int) 2 := ⟨am_wd 767 (by decide +kernel) (by decide +kernel), am_wd 46 (by decide +kernel) (by decide +kernel), by decide +kernel⟩
theorem vyX5_mailAt : am_MV yX5_mailAt := ⟨am_wd 765 (by decide +kernel) (by decide +kernel), am_wd 766 (by decide +kernel) (by decide +kernel)⟩
theorem myX5_mails : am_M yX5_mails cX5_mails 1 (some .int) 0 := ⟨am_wd 137 (by decide +kernel) (by decide +kernel), am_wd 46 (by decide +kernel) (by decide +kernel), by decide +kernel⟩
theorem vyX5_mails : am_MV yX5_mails := ⟨am_wd 135 (by decide +kernel) (by decide +kernel), am_wd 136 (by decide +kernel) (by decide +kernel)⟩
theorem myX5_membersOf : am_M yX5_membersOf cX5_membersOf 4 (some .int) 1 := ⟨am_wd 405 (by decide +kernel) (by decide +kernel), am_wd 46 (by decide +kernel) (by decide +kernel), by decide +kernel⟩
theorem vyX5_membersOf : am_MV yX5_membersOf := ⟨am_wd 404 (by decide +kernel) (by decide +kernel), am_wd 3 (by decide +kernel) (by decide +kernel)⟩
theorem myX5_mode : am_M yX5_mode cX5_mode 6 (some .int) 3 := ⟨am_wd 354 (by decide +kernel) (by decide +kernel), am_wd 46 (by decide +kernel) (by decide +kernel), by decide +kernel⟩
theorem vyX5_mode : am_MV yX5_mode := ⟨am_wd 352 (by decide +kernel) (by decide +kernel), am_wd 353 (by decide +kernel) (by decide +kernel)⟩
theorem myX5_modeAmong : am_M yX5_modeAmong cX5_modeAmong 5 (some .int) 2 := ⟨am_wd 427 (by decide +kernel) (by decide +kernel), am_wd 46 (by decide +kernel) (by decide +kernel), by decide +kernel⟩
theorem vyX5_modeAmong : am_MV yX5_modeAmong := ⟨am_wd 426 (by decide +kernel) (by decide +kernel), am_wd 5 (by decide +kernel) (by decide +kernel)⟩
theorem myX5_modeOf : am_M yX5_modeOf cX5_modeOf 3 (some .int) 2 := ⟨am_wd 423 (by decide +kernel) (by decide +kernel), am_wd 46 (by decide +kernel) (by decide +kernel), by decide +kernel⟩
theorem vyX5_modeOf : am_MV yX5_modeOf := ⟨am_wd 421 (by decide +kernel) (by decide +kernel), am_wd 422 (by decide +kernel) (by decide +kernel)⟩
theorem myX5_nest : am_M yX5_nest cX5_nest 5 (some .boolean) 2 := ⟨am_wd 361 (by decide +kernel) (by decide +kernel), am_wd 46 (by decide +kernel) (by decide +kernel), by decide +kernel⟩
theorem vyX5_nest : am_MV yX5_nest := ⟨am_wd 359 (by decide +kernel) (by decide +kernel), am_wd 360 (by decide +kernel) (by decide +kernel)⟩
theorem myX5_pass : am_M yX5_pass cX5_pass 3 (some .int) 1 := ⟨am_wd 843 (by decide +kernel) (by decide +kernel), am_wd 46 (by decide +kernel) (by decide +kernel), by decide +kernel⟩
theorem vyX5_pass : am_MV yX5_pass := ⟨am_wd 841 (by decide +kernel) (by decide +kernel), am_wd 842 (by decide +kernel) (by decide +kernel)⟩
theorem myX5_postDayOfToday : am_M yX5_postDayOfToday cX5_postDayOfToday 3 (some (.object "MailPriory$PostDay")) 0 := ⟨am_wd 461 (by decide +kernel) (by decide +kernel), am_wd 46 (by decide +kernel) (by decide +kernel), by decide +kernel⟩
theorem vyX5_postDayOfToday : am_MV yX5_postDayOfToday := ⟨am_wd 460 (by decide +kernel) (by decide +kernel), am_wd 11 (by decide +kernel) (by decide +kernel)⟩
theorem myX5_putIntoDigest : am_M yX5_putIntoDigest cX5_putIntoDigest 4 none 3 := ⟨am_wd 555 (by decide +kernel) (by decide +kernel), am_wd 46 (by decide +kernel) (by decide +kernel), by decide +kernel⟩
theorem vyX5_putIntoDigest : am_MV yX5_putIntoDigest := ⟨am_wd 554 (by decide +kernel) (by decide +kernel), am_wd 16 (by decide +kernel) (by decide +kernel)⟩
theorem myX5_reached : am_M yX5_reached cX5_reached 2 (some .int) 1 := ⟨am_wd 732 (by decide +kernel) (by decide +kernel), am_wd 46 (by decide +kernel) (by decide +kernel), by decide +kernel⟩
theorem vyX5_reached : am_MV yX5_reached := ⟨am_wd 730 (by decide +kernel) (by decide +kernel), am_wd 731 (by decide +kernel) (by decide +kernel)⟩
theorem myX5_reaches : am_M yX5_reaches cX5_reaches 2 (some .int) 1 := ⟨am_wd 401 (by decide +kernel) (by decide +kernel), am_wd 46 (by decide +kernel) (by decide +kernel), by decide +kernel⟩
theorem vyX5_reaches : am_MV yX5_reaches := ⟨am_wd 399 (by decide +kernel) (by decide +kernel), am_wd 400 (by decide +kernel) (by decide +kernel)⟩
theorem myX5_reachesByMembers : am_M yX5_reachesByMembers cX5_reachesByMembers 4 (some .int) 1 := ⟨am_wd 412 (by decide +kernel) (by decide +kernel), am_wd 46 (by decide +kernel) (by decide +kernel), by decide +kernel⟩
theorem vyX5_reachesByMembers : am_MV yX5_reachesByMembers := ⟨am_wd 410 (by decide +kernel) (by decide +kernel), am_wd 411 (by decide +kernel) (by decide +kernel)⟩
theorem myX5_read : am_M yX5_read cX5_read 2 (some .int) 1 := ⟨am_wd 775 (by decide +kernel) (by decide +kernel), am_wd 46 (by decide +kernel) (by decide +kernel), by decide +kernel⟩
theorem vyX5_read : am_MV yX5_read := ⟨am_wd 773 (by decide +kernel) (by decide +kernel), am_wd 774 (by decide +kernel) (by decide +kernel)⟩
theorem myX5_readers : am_M yX5_readers cX5_readers 4 (some .int) 2 := ⟨am_wd 836 (by decide +kernel) (by decide +kernel), am_wd 46 (by decide +kernel) (by decide +kernel), by decide +kernel⟩
theorem vyX5_readers : am_MV yX5_readers := ⟨am_wd 834 (by decide +kernel) (by decide +kernel), am_wd 835 (by decide +kernel) (by decide +kernel)⟩
theorem myX5_refuse : am_M yX5_refuse cX5_refuse 3 (some .int) 1 := ⟨am_wd 604 (by decide +kernel) (by decide +kernel), am_wd 46 (by decide +kernel) (by decide +kernel), by decide +kernel⟩
theorem vyX5_refuse : am_MV yX5_refuse := ⟨am_wd 602 (by decide +kernel) (by decide +kernel), am_wd 603 (by decide +kernel) (by decide +kernel)⟩
theorem myX5_rules : am_M yX5_rules cX5_rules 7 (some .int) 4 := ⟨am_wd 375 (by decide +kernel) (by decide +kernel), am_wd 46 (by decide +kernel) (by decide +kernel), by decide +kernel⟩
theorem vyX5_rules : am_MV yX5_rules := ⟨am_wd 373 (by decide +kernel) (by decide +kernel), am_wd 374 (by decide +kernel) (by decide +kernel)⟩
theorem myX5_score : am_M yX5_score cX5_score 2 (some .int) 1 := ⟨am_wd 707 (by decide +kernel) (by decide +kernel), am_wd 46 (by decide +kernel) (by decide +kernel), by decide +kernel⟩
theorem vyX5_score : am_MV yX5_score := ⟨am_wd 705 (by decide +kernel) (by decide +kernel), am_wd 706 (by decide +kernel) (by decide +kernel)⟩
theorem myX5_scoreOf : am_M yX5_scoreOf cX5_scoreOf 6 (some .int) 3 := ⟨am_wd 444 (by decide +kernel) (by decide +kernel), am_wd 46 (by decide +kernel) (by decide +kernel), by decide +kernel⟩
theorem vyX5_scoreOf : am_MV yX5_scoreOf := ⟨am_wd 443 (by decide +kernel) (by decide +kernel), am_wd 7 (by decide +kernel) (by decide +kernel)⟩
theorem myX5_send : am_M yX5_send cX5_send 10 (some .int) 4 := ⟨am_wd 434 (by decide +kernel) (by decide +kernel), am_wd 46 (by decide +kernel) (by decide +kernel), by decide +kernel⟩
theorem vyX5_send : am_MV yX5_send := ⟨am_wd 432 (by decide +kernel) (by decide +kernel), am_wd 433 (by decide +kernel) (by decide +kernel)⟩
theorem myX5_sentToday : am_M yX5_sentToday cX5_sentToday 4 (some .int) 1 := ⟨am_wd 448 (by decide +kernel) (by decide +kernel), am_wd 46 (by decide +kernel) (by decide +kernel), by decide +kernel⟩
theorem vyX5_sentToday : am_MV yX5_sentToday := ⟨am_wd 447 (by decide +kernel) (by decide +kernel), am_wd 8 (by decide +kernel) (by decide +kernel)⟩
theorem myX5_settleEditions : am_M yX5_settleEditions cX5_settleEditions 2 none 0 := ⟨am_wd 592 (by decide +kernel) (by decide +kernel), am_wd 46 (by decide +kernel) (by decide +kernel), by decide +kernel⟩
theorem vyX5_settleEditions : am_MV yX5_settleEditions := ⟨am_wd 591 (by decide +kernel) (by decide +kernel), am_wd 18 (by decide +kernel) (by decide +kernel)⟩
theorem myX5_size : am_M yX5_size cX5_size 5 (some .int) 2 := ⟨am_wd 789 (by decide +kernel) (by decide +kernel), am_wd 46 (by decide +kernel) (by decide +kernel), by decide +kernel⟩
theorem vyX5_size : am_MV yX5_size := ⟨am_wd 787 (by decide +kernel) (by decide +kernel), am_wd 788 (by decide +kernel) (by decide +kernel)⟩
theorem myX5_state : am_M yX5_state cX5_state 2 (some .int) 1 := ⟨am_wd 693 (by decide +kernel) (by decide +kernel), am_wd 46 (by decide +kernel) (by decide +kernel), by decide +kernel⟩
theorem vyX5_state : am_MV yX5_state := ⟨am_wd 691 (by decide +kernel) (by decide +kernel), am_wd 692 (by decide +kernel) (by decide +kernel)⟩
theorem myX5_vote : am_M yX5_vote cX5_vote 6 (some .int) 3 := ⟨am_wd 652 (by decide +kernel) (by decide +kernel), am_wd 46 (by decide +kernel) (by decide +kernel), by decide +kernel⟩
theorem vyX5_vote : am_MV yX5_vote := ⟨am_wd 650 (by decide +kernel) (by decide +kernel), am_wd 651 (by decide +kernel) (by decide +kernel)⟩
theorem myX5_weight : am_M yX5_weight cX5_weight 2 (some .int) 1 := ⟨am_wd 739 (by decide +kernel) (by decide +kernel), am_wd 46 (by decide +kernel) (by decide +kernel), by decide +kernel⟩
theorem vyX5_weight : am_MV yX5_weight := ⟨am_wd 737 (by decide +kernel) (by decide +kernel), am_wd 738 (by decide +kernel) (by decide +kernel)⟩
theorem myX5_word : am_M yX5_word cX5_word 4 (some .int) 2 := ⟨am_wd 393 (by decide +kernel) (by decide +kernel), am_wd 46 (by decide +kernel) (by decide +kernel), by decide +kernel⟩
theorem vyX5_word : am_MV yX5_word := ⟨am_wd 391 (by decide +kernel) (by decide +kernel), am_wd 392 (by decide +kernel) (by decide +kernel)⟩
theorem myX6_appeal : am_M yX6_appeal cX6_appeal 8 (some .int) 1 := ⟨am_wd 1096 (by decide +kernel) (by decide +kernel), am_wd 48 (by decide +kernel) (by decide +kernel), by decide +kernel⟩
theorem vyX6_appeal : am_MV yX6_appeal := ⟨am_wd 1094 (by decide +kernel) (by decide +kernel), am_wd 1095 (by decide +kernel) (by decide +kernel)⟩
theorem myX6_approve : am_M yX6_approve cX6_approve 2 (some .int) 1 := ⟨am_wd 1084 (by decide +kernel) (by decide +kernel), am_wd 48 (by decide +kernel) (by decide +kernel), by decide +kernel⟩
theorem vyX6_approve : am_MV yX6_approve := ⟨am_wd 1082 (by decide +kernel) (by decide +kernel), am_wd 1083 (by decide +kernel) (by decide +kernel)⟩
theorem myX6_asks : am_M yX6_asks cX6_asks 2 (some .boolean) 1 := ⟨am_wd 1116 (by decide +kernel) (by decide +kernel), am_wd 48 (by decide +kernel) (by decide +kernel), by decide +kernel⟩
theorem vyX6_asks : am_MV yX6_asks := ⟨am_wd 1115 (by decide +kernel) (by decide +kernel), am_wd 41 (by decide +kernel) (by decide +kernel)⟩
theorem myX6_asksPerson : am_M yX6_asksPerson cX6_asksPerson 2 (some .boolean) 1 := ⟨am_wd 1152 (by decide +kernel) (by decide +kernel), am_wd 48 (by decide +kernel) (by decide +kernel), by decide +kernel⟩
theorem vyX6_asksPerson : am_MV yX6_asksPerson := ⟨am_wd 1151 (by decide +kernel) (by decide +kernel), am_wd 42 (by decide +kernel) (by decide +kernel)⟩
theorem myX6_bar : am_M yX6_bar cX6_bar 3 (some .boolean) 2 := ⟨am_wd 1019 (by decide +kernel) (by decide +kernel), am_wd 48 (by decide +kernel) (by decide +kernel), by decide +kernel⟩
theorem vyX6_bar : am_MV yX6_bar := ⟨am_wd 1017 (by decide +kernel) (by decide +kernel), am_wd 1018 (by decide +kernel) (by decide +kernel)⟩
theorem myX6_bounces : am_M yX6_bounces cX6_bounces 2 (some .int) 1 := ⟨am_wd 1160 (by decide +kernel) (by decide +kernel), am_wd 48 (by decide +kernel) (by decide +kernel), by decide +kernel⟩
theorem vyX6_bounces : am_MV yX6_bounces := ⟨am_wd 1158 (by decide +kernel) (by decide +kernel), am_wd 1159 (by decide +kernel) (by decide +kernel)⟩
theorem myX6_box : am_M yX6_box cX6_box 2 (some .int) 1 := ⟨am_wd 1164 (by decide +kernel) (by decide +kernel), am_wd 48 (by decide +kernel) (by decide +kernel), by decide +kernel⟩
theorem vyX6_box : am_MV yX6_box := ⟨am_wd 1162 (by decide +kernel) (by decide +kernel), am_wd 1163 (by decide +kernel) (by decide +kernel)⟩
theorem myX6_canJudge : am_M yX6_canJudge cX6_canJudge 5 (some .boolean) 2 := ⟨am_wd 1100 (by decide +kernel) (by decide +kernel), am_wd 48 (by decide +kernel) (by decide +kernel), by decide +kernel⟩
theorem vyX6_canJudge : am_MV yX6_canJudge := ⟨am_wd 1099 (by decide +kernel) (by decide +kernel), am_wd 39 (by decide +kernel) (by decide +kernel)⟩
theorem myX6_cause : am_M yX6_cause cX6_cause 2 (some .int) 1 := ⟨am_wd 1120 (by decide +kernel) (by decide +kernel), am_wd 48 (by decide +kernel) (by decide +kernel), by decide +kernel⟩
theorem vyX6_cause : am_MV yX6_cause := ⟨am_wd 1118 (by decide +kernel) (by decide +kernel), am_wd 1119 (by decide +kernel) (by decide +kernel)⟩
theorem myX6_causeOf : am_M yX6_causeOf cX6_causeOf 4 (some .int) 3 := ⟨am_wd 1064 (by decide +kernel) (by decide +kernel), am_wd 48 (by decide +kernel) (by decide +kernel), by decide +kernel⟩
theorem vyX6_causeOf : am_MV yX6_causeOf := ⟨am_wd 1063 (by decide +kernel) (by decide +kernel), am_wd 33 (by decide +kernel) (by decide +kernel)⟩
theorem myX6_clears : am_M yX6_clears cX6_clears 4 none 1 := ⟨am_wd 1108 (by decide +kernel) (by decide +kernel), am_wd 48 (by decide +kernel) (by decide +kernel), by decide +kernel⟩
theorem vyX6_clears : am_MV yX6_clears := ⟨am_wd 1107 (by decide +kernel) (by decide +kernel), am_wd 40 (by decide +kernel) (by decide +kernel)⟩
theorem myX6_comesToBox : am_M yX6_comesToBox cX6_comesToBox 3 none 2 := ⟨am_wd 1072 (by decide +kernel) (by decide +kernel), am_wd 48 (by decide +kernel) (by decide +kernel), by decide +kernel⟩
theorem vyX6_comesToBox : am_MV yX6_comesToBox := ⟨am_wd 1071 (by decide +kernel) (by decide +kernel), am_wd 35 (by decide +kernel) (by decide +kernel)⟩
theorem myX6_comesToDigest : am_M yX6_comesToDigest cX6_comesToDigest 5 none 3 := ⟨am_wd 1080 (by decide +kernel) (by decide +kernel), am_wd 48 (by decide +kernel) (by decide +kernel), by decide +kernel⟩
theorem vyX6_comesToDigest : am_MV yX6_comesToDigest := ⟨am_wd 1079 (by decide +kernel) (by decide +kernel), am_wd 37 (by decide +kernel) (by decide +kernel)⟩
theorem myX6_digest : am_M yX6_digest cX6_digest 7 (some .int) 3 := ⟨am_wd 1184 (by decide +kernel) (by decide +kernel), am_wd 48 (by decide +kernel) (by decide +kernel), by decide +kernel⟩
theorem vyX6_digest : am_MV yX6_digest := ⟨am_wd 1182 (by decide +kernel) (by decide +kernel), am_wd 1183 (by decide +kernel) (by decide +kernel)⟩
theorem myX6_digestThrown : am_M yX6_digestThrown cX6_digestThrown 3 (some .int) 2 := ⟨am_wd 1180 (by decide +kernel) (by decide +kernel), am_wd 48 (by decide +kernel) (by decide +kernel), by decide +kernel⟩
theorem vyX6_digestThrown : am_MV yX6_digestThrown := ⟨am_wd 1179 (by decide +kernel) (by decide +kernel), am_wd 43 (by decide +kernel) (by decide +kernel)⟩
theorem myX6_edition : am_M yX6_edition cX6_edition 3 (some .int) 2 := ⟨am_wd 1188 (by decide +kernel) (by decide +kernel), am_wd 48 (by decide +kernel) (by decide +kernel), by decide +kernel⟩
theorem vyX6_edition : am_MV yX6_edition := ⟨am_wd 1186 (by decide +kernel) (by decide +kernel), am_wd 1187 (by decide +kernel) (by decide +kernel)⟩
theorem myX6_held : am_M yX6_held cX6_held 2 (some .int) 1 := ⟨am_wd 1088 (by decide +kernel) (by decide +kernel), am_wd 48 (by decide +kernel) (by decide +kernel), by decide +kernel⟩
theorem vyX6_held : am_MV yX6_held := ⟨am_wd 1087 (by decide +kernel) (by decide +kernel), am_wd 38 (by decide +kernel) (by decide +kernel)⟩
theorem myX6_held_ : am_M yX6_held_ cX6_held_ 3 (some .int) 0 := ⟨am_wd 1144 (by decide +kernel) (by decide +kernel), am_wd 48 (by decide +kernel) (by decide +kernel), by decide +kernel⟩
theorem vyX6_held_ : am_MV yX6_held_ := ⟨am_wd 1142 (by decide +kernel) (by decide +kernel), am_wd 1143 (by decide +kernel) (by decide +kernel)⟩
theorem myX6_init : am_M yX6_init cX6_init 1 none 0 := ⟨am_wd 858 (by decide +kernel) (by decide +kernel), am_wd 48 (by decide +kernel) (by decide +kernel), by decide +kernel⟩
theorem iyX6_init : Cond.instanceMethod yX6_init ∈ am_G := am_wd 857 (by decide +kernel) (by decide +kernel)
theorem myX6_isIn : am_M yX6_isIn cX6_isIn 3 (some .boolean) 3 := ⟨am_wd 983 (by decide +kernel) (by decide +kernel), am_wd 48 (by decide +kernel) (by decide +kernel), by decide +kernel⟩
theorem syX6_isIn : Cond.static yX6_isIn ∈ am_G := am_wd 982 (by decide +kernel) (by decide +kernel)
theorem myX6_isList : am_M yX6_isList cX6_isList 2 (some .boolean) 1 := ⟨am_wd 991 (by decide +kernel) (by decide +kernel), am_wd 48 (by decide +kernel) (by decide +kernel), by decide +kernel⟩
theorem vyX6_isList : am_MV yX6_isList := ⟨am_wd 990 (by decide +kernel) (by decide +kernel), am_wd 25 (by decide +kernel) (by decide +kernel)⟩
theorem myX6_isMail : am_M yX6_isMail cX6_isMail 2 (some .boolean) 1 := ⟨am_wd 1055 (by decide +kernel) (by decide +kernel), am_wd 48 (by decide +kernel) (by decide +kernel), by decide +kernel⟩
theorem vyX6_isMail : am_MV yX6_isMail := ⟨am_wd 1054 (by decide +kernel) (by decide +kernel), am_wd 31 (by decide +kernel) (by decide +kernel)⟩
theorem myX6_isPerson : am_M yX6_isPerson cX6_isPerson 1 (some .boolean) 1 := ⟨am_wd 980 (by decide +kernel) (by decide +kernel), am_wd 48 (by decide +kernel) (by decide +kernel), by decide +kernel⟩
theorem syX6_isPerson : Cond.static yX6_isPerson ∈ am_G := am_wd 979 (by decide +kernel) (by decide +kernel)
theorem myX6_join : am_M yX6_join cX6_join 4 (some .int) 3 := ⟨am_wd 987 (by decide +kernel) (by decide +kernel), am_wd 48 (by decide +kernel) (by decide +kernel), by decide +kernel⟩
theorem vyX6_join : am_MV yX6_join := ⟨am_wd 985 (by decide +kernel) (by decide +kernel), am_wd 986 (by decide +kernel) (by decide +kernel)⟩
theorem myX6_judged : am_M yX6_judged cX6_judged 2 (some .int) 1 := ⟨am_wd 1156 (by decide +kernel) (by decide +kernel), am_wd 48 (by decide +kernel) (by decide +kernel), by decide +kernel⟩
theorem vyX6_judged : am_MV yX6_judged := ⟨am_wd 1154 (by decide +kernel) (by decide +kernel), am_wd 1155 (by decide +kernel) (by decide +kernel)⟩
theorem myX6_jurors : am_M yX6_jurors cX6_jurors 2 (some .int) 1 := ⟨am_wd 1132 (by decide +kernel) (by decide +kernel), am_wd 48 (by decide +kernel) (by decide +kernel), by decide +kernel⟩
theorem vyX6_jurors : am_MV yX6_jurors := ⟨am_wd 1130 (by decide +kernel) (by decide +kernel), am_wd 1131 (by decide +kernel) (by decide +kernel)⟩
theorem myX6_lapses : am_M yX6_lapses cX6_lapses 2 (some .int) 1 := ⟨am_wd 1128 (by decide +kernel) (by decide +kernel), am_wd 48 (by decide +kernel) (by decide +kernel), by decide +kernel⟩
theorem vyX6_lapses : am_MV yX6_lapses := ⟨am_wd 1126 (by decide +kernel) (by decide +kernel), am_wd 1127 (by decide +kernel) (by decide +kernel)⟩
theorem myX6_leave : am_M yX6_leave cX6_leave 4 (some .int) 2 := ⟨am_wd 999 (by decide +kernel) (by decide +kernel), am_wd 48 (by decide +kernel) (by decide +kernel), by decide +kernel⟩
theorem vyX6_leave : am_MV yX6_leave := ⟨am_wd 997 (by decide +kernel) (by decide +kernel), am_wd 998 (by decide +kernel) (by decide +kernel)⟩
theorem myX6_list : am_M yX6_list cX6_list 3 (some .int) 1 := ⟨am_wd 977 (by decide +kernel) (by decide +kernel), am_wd 48 (by decide +kernel) (by decide +kernel), by decide +kernel⟩
theorem vyX6_list : am_MV yX6_list := ⟨am_wd 975 (by decide +kernel) (by decide +kernel), am_wd 976 (by decide +kernel) (by decide +kernel)⟩
theorem myX6_mailAt : am_M yX6_mailAt cX6_mailAt 3 (some .int) 2 := ⟨am_wd 1168 (by decide +kernel) (by decide +kernel), am_wd 48 (by decide +kernel) (by decide +kernel), by decide +kernel⟩
theorem vyX6_mailAt : am_MV yX6_mailAt := ⟨am_wd 1166 (by decide +kernel) (by decide +kernel), am_wd 1167 (by decide +kernel) (by decide +kernel)⟩
theorem myX6_mails : am_M yX6_mails cX6_mails 1 (some .int) 0 := ⟨am_wd 1140 (by decide +kernel) (by decide +kernel), am_wd 48 (by decide +kernel) (by decide +kernel), by decide +kernel⟩
theorem vyX6_mails : am_MV yX6_mails := ⟨am_wd 1138 (by decide +kernel) (by decide +kernel), am_wd 1139 (by decide +kernel) (by decide +kernel)⟩
theorem myX6_memberBy : am_M yX6_memberBy cX6_memberBy 9 (some .int) 3 := ⟨am_wd 1035 (by decide +kernel) (by decide +kernel), am_wd 48 (by decide +kernel) (by decide +kernel), by decide +kernel⟩
theorem vyX6_memberBy : am_MV yX6_memberBy := ⟨am_wd 1034 (by decide +kernel) (by decide +kernel), am_wd 29 (by decide +kernel) (by decide +kernel)⟩
theorem myX6_membersOf : am_M yX6_membersOf cX6_membersOf 4 (some .int) 1 := ⟨am_wd 995 (by decide +kernel) (by decide +kernel), am_wd 48 (by decide +kernel) (by decide +kernel), by decide +kernel⟩
theorem vyX6_membersOf : am_MV yX6_membersOf := ⟨am_wd 994 (by decide +kernel) (by decide +kernel), am_wd 26 (by decide +kernel) (by decide +kernel)⟩
theorem myX6_mode : am_M yX6_mode cX6_mode 5 (some .int) 3 := ⟨am_wd 1003 (by decide +kernel) (by decide +kernel), am_wd 48 (by decide +kernel) (by decide +kernel), by decide +kernel⟩
theorem vyX6_mode : am_MV yX6_mode := ⟨am_wd 1001 (by decide +kernel) (by decide +kernel), am_wd 1002 (by decide +kernel) (by decide +kernel)⟩
theorem myX6_modeFor : am_M yX6_modeFor cX6_modeFor 3 (some .int) 2 := ⟨am_wd 1047 (by decide +kernel) (by decide +kernel), am_wd 48 (by decide +kernel) (by decide +kernel), by decide +kernel⟩
theorem vyX6_modeFor : am_MV yX6_modeFor := ⟨am_wd 1046 (by decide +kernel) (by decide +kernel), am_wd 30 (by decide +kernel) (by decide +kernel)⟩
theorem myX6_modeOf : am_M yX6_modeOf cX6_modeOf 3 (some .int) 2 := ⟨am_wd 1043 (by decide +kernel) (by decide +kernel), am_wd 48 (by decide +kernel) (by decide +kernel), by decide +kernel⟩
theorem vyX6_modeOf : am_MV yX6_modeOf := ⟨am_wd 1041 (by decide +kernel) (by decide +kernel), am_wd 1042 (by decide +kernel) (by decide +kernel)⟩
theorem myX6_nest : am_M yX6_nest cX6_nest 4 (some .boolean) 2 := ⟨am_wd 1007 (by decide +kernel) (by decide +kernel), am_wd 48 (by decide +kernel) (by decide +kernel), by decide +kernel⟩
theorem vyX6_nest : am_MV yX6_nest := ⟨am_wd 1005 (by decide +kernel) (by decide +kernel), am_wd 1006 (by decide +kernel) (by decide +kernel)⟩
theorem myX6_nextDay : am_M yX6_nextDay cX6_nextDay 3 (some .int) 0 := ⟨am_wd 1200 (by decide +kernel) (by decide +kernel), am_wd 48 (by decide +kernel) (by decide +kernel), by decide +kernel⟩
theorem vyX6_nextDay : am_MV yX6_nextDay := ⟨am_wd 1199 (by decide +kernel) (by decide +kernel), am_wd 44 (by decide +kernel) (by decide +kernel)⟩
theorem myX6_oneMore : am_M yX6_oneMore cX6_oneMore 4 none 1 := ⟨am_wd 1076 (by decide +kernel) (by decide +kernel), am_wd 48 (by decide +kernel) (by decide +kernel), by decide +kernel⟩
theorem vyX6_oneMore : am_MV yX6_oneMore := ⟨am_wd 1075 (by decide +kernel) (by decide +kernel), am_wd 36 (by decide +kernel) (by decide +kernel)⟩
theorem myX6_pass : am_M yX6_pass cX6_pass 4 (some .int) 1 := ⟨am_wd 1196 (by decide +kernel) (by decide +kernel), am_wd 48 (by decide +kernel) (by decide +kernel), by decide +kernel⟩
theorem vyX6_pass : am_MV yX6_pass := ⟨am_wd 1194 (by decide +kernel) (by decide +kernel), am_wd 1195 (by decide +kernel) (by decide +kernel)⟩
theorem myX6_passes : am_M yX6_passes cX6_passes 4 none 1 := ⟨am_wd 1068 (by decide +kernel) (by decide +kernel), am_wd 48 (by decide +kernel) (by decide +kernel), by decide +kernel⟩
theorem vyX6_passes : am_MV yX6_passes := ⟨am_wd 1067 (by decide +kernel) (by decide +kernel), am_wd 34 (by decide +kernel) (by decide +kernel)⟩
theorem myX6_reached : am_M yX6_reached cX6_reached 2 (some .int) 1 := ⟨am_wd 1136 (by decide +kernel) (by decide +kernel), am_wd 48 (by decide +kernel) (by decide +kernel), by decide +kernel⟩
theorem vyX6_reached : am_MV yX6_reached := ⟨am_wd 1134 (by decide +kernel) (by decide +kernel), am_wd 1135 (by decide +kernel) (by decide +kernel)⟩
theorem myX6_reaches : am_M yX6_reaches cX6_reaches 2 (some .int) 1 := ⟨am_wd 1027 (by decide +kernel) (by decide +kernel), am_wd 48 (by decide +kernel) (by decide +kernel), by decide +kernel⟩
theorem vyX6_reaches : am_MV yX6_reaches := ⟨am_wd 1025 (by decide +kernel) (by decide +kernel), am_wd 1026 (by decide +kernel) (by decide +kernel)⟩
theorem myX6_reachesByMembers : am_M yX6_reachesByMembers cX6_reachesByMembers 2 (some .int) 1 := ⟨am_wd 1039 (by decide +kernel) (by decide +kernel), am_wd 48 (by decide +kernel) (by decide +kernel), by decide +kernel⟩
theorem vyX6_reachesByMembers : am_MV yX6_reachesByMembers := ⟨am_wd 1037 (by decide +kernel) (by decide +kernel), am_wd 1038 (by decide +kernel) (by decide +kernel)⟩
theorem myX6_reachesOf : am_M yX6_reachesOf cX6_reachesOf 4 (some .int) 1 := ⟨am_wd 1031 (by decide +kernel) (by decide +kernel), am_wd 48 (by decide +kernel) (by decide +kernel), by decide +kernel⟩
theorem vyX6_reachesOf : am_MV yX6_reachesOf := ⟨am_wd 1030 (by decide +kernel) (by decide +kernel), am_wd 28 (by decide +kernel) (by decide +kernel)⟩
theorem myX6_read : am_M yX6_read cX6_read 4 (some .int) 1 := ⟨am_wd 1172 (by decide +kernel) (by decide +kernel), am_wd 48 (by decide +kernel) (by decide +kernel), by decide +kernel⟩
theorem vyX6_read : am_MV yX6_read := ⟨am_wd 1170 (by decide +kernel) (by decide +kernel), am_wd 1171 (by decide +kernel) (by decide +kernel)⟩
theorem myX6_readers : am_M yX6_readers cX6_readers 3 (some .int) 2 := ⟨am_wd 1192 (by decide +kernel) (by decide +kernel), am_wd 48 (by decide +kernel) (by decide +kernel), by decide +kernel⟩
theorem vyX6_readers : am_MV yX6_readers := ⟨am_wd 1190 (by decide +kernel) (by decide +kernel), am_wd 1191 (by decide +kernel) (by decide +kernel)⟩
theorem myX6_refuse : am_M yX6_refuse cX6_refuse 2 (some .int) 1 := ⟨am_wd 1092 (by decide +kernel) (by decide +kernel), am_wd 48 (by decide +kernel) (by decide +kernel), by decide +kernel⟩
theorem vyX6_refuse : am_MV yX6_refuse := ⟨am_wd 1090 (by decide +kernel) (by decide +kernel), am_wd 1091 (by decide +kernel) (by decide +kernel)⟩
theorem myX6_rules : am_M yX6_rules cX6_rules 6 (some .int) 4 := ⟨am_wd 1015 (by decide +kernel) (by decide +kernel), am_wd 48 (by decide +kernel) (by decide +kernel), by decide +kernel⟩
theorem vyX6_rules : am_MV yX6_rules := ⟨am_wd 1013 (by decide +kernel) (by decide +kernel), am_wd 1014 (by decide +kernel) (by decide +kernel)⟩
theorem myX6_score : am_M yX6_score cX6_score 2 (some .int) 1 := ⟨am_wd 1124 (by decide +kernel) (by decide +kernel), am_wd 48 (by decide +kernel) (by decide +kernel), by decide +kernel⟩
theorem vyX6_score : am_MV yX6_score := ⟨am_wd 1122 (by decide +kernel) (by decide +kernel), am_wd 1123 (by decide +kernel) (by decide +kernel)⟩
theorem myX6_scoreOf : am_M yX6_scoreOf cX6_scoreOf 6 (some .int) 3 := ⟨am_wd 1060 (by decide +kernel) (by decide +kernel), am_wd 48 (by decide +kernel) (by decide +kernel), by decide +kernel⟩
theorem vyX6_scoreOf : am_MV yX6_scoreOf := ⟨am_wd 1059 (by decide +kernel) (by decide +kernel), am_wd 32 (by decide +kernel) (by decide +kernel)⟩
theorem myX6_send : am_M yX6_send cX6_send 5 (some .int) 4 := ⟨am_wd 1051 (by decide +kernel) (by decide +kernel), am_wd 48 (by decide +kernel) (by decide +kernel), by decide +kernel⟩
theorem vyX6_send : am_MV yX6_send := ⟨am_wd 1049 (by decide +kernel) (by decide +kernel), am_wd 1050 (by decide +kernel) (by decide +kernel)⟩
theorem myX6_size : am_M yX6_size cX6_size 5 (some .int) 2 := ⟨am_wd 1176 (by decide +kernel) (by decide +kernel), am_wd 48 (by decide +kernel) (by decide +kernel), by decide +kernel⟩
theorem vyX6_size : am_MV yX6_size := ⟨am_wd 1174 (by decide +kernel) (by decide +kernel), am_wd 1175 (by decide +kernel) (by decide +kernel)⟩
theorem myX6_state : am_M yX6_state cX6_state 2 (some .int) 1 := ⟨am_wd 1112 (by decide +kernel) (by decide +kernel), am_wd 48 (by decide +kernel) (by decide +kernel), by decide +kernel⟩
theorem vyX6_state : am_MV yX6_state := ⟨am_wd 1110 (by decide +kernel) (by decide +kernel), am_wd 1111 (by decide +kernel) (by decide +kernel)⟩
theorem myX6_thrown : am_M yX6_thrown cX6_thrown 1 (some .int) 0 := ⟨am_wd 973 (by decide +kernel) (by decide +kernel), am_wd 48 (by decide +kernel) (by decide +kernel), by decide +kernel⟩
theorem vyX6_thrown : am_MV yX6_thrown := ⟨am_wd 971 (by decide +kernel) (by decide +kernel), am_wd 972 (by decide +kernel) (by decide +kernel)⟩
theorem myX6_vote : am_M yX6_vote cX6_vote 5 (some .int) 3 := ⟨am_wd 1104 (by decide +kernel) (by decide +kernel), am_wd 48 (by decide +kernel) (by decide +kernel), by decide +kernel⟩
theorem vyX6_vote : am_MV yX6_vote := ⟨am_wd 1102 (by decide +kernel) (by decide +kernel), am_wd 1103 (by decide +kernel) (by decide +kernel)⟩
theorem myX6_weight : am_M yX6_weight cX6_weight 2 (some .int) 1 := ⟨am_wd 1148 (by decide +kernel) (by decide +kernel), am_wd 48 (by decide +kernel) (by decide +kernel), by decide +kernel⟩
theorem vyX6_weight : am_MV yX6_weight := ⟨am_wd 1146 (by decide +kernel) (by decide +kernel), am_wd 1147 (by decide +kernel) (by decide +kernel)⟩
theorem myX6_within : am_M yX6_within cX6_within 5 (some .int) 1 := ⟨am_wd 1011 (by decide +kernel) (by decide +kernel), am_wd 48 (by decide +kernel) (by decide +kernel), by decide +kernel⟩
theorem vyX6_within : am_MV yX6_within := ⟨am_wd 1010 (by decide +kernel) (by decide +kernel), am_wd 27 (by decide +kernel) (by decide +kernel)⟩
theorem myX6_word : am_M yX6_word cX6_word 4 (some .int) 2 := ⟨am_wd 1023 (by decide +kernel) (by decide +kernel), am_wd 48 (by decide +kernel) (by decide +kernel), by decide +kernel⟩
theorem vyX6_word : am_MV yX6_word := ⟨am_wd 1021 (by decide +kernel) (by decide +kernel), am_wd 1022 (by decide +kernel) (by decide +kernel)⟩
theorem inG0 : ∀ w ∈ u_ws RX0 TX0 4, w ∈ am_G := by decide +kernel
theorem inG1 : ∀ w ∈ u_ws RX1 TX1 11, w ∈ am_G := by decide +kernel
theorem inG2 : ∀ w ∈ u_ws RX2 TX2 8, w ∈ am_G := by decide +kernel
theorem inG3 : ∀ w ∈ u_ws RX3 TX3 5, w ∈ am_G := by decide +kernel
theorem inG4 : ∀ w ∈ u_ws RX4 TX4 5, w ∈ am_G := by decide +kernel
theorem inG5 : ∀ w ∈ u_ws RX5 TX5 9, w ∈ am_G := by decide +kernel
theorem inG6 : ∀ w ∈ u_ws RX6 TX6 36, w ∈ am_G := by decide +kernel
end
section
/-! rows over the heap of the state: the reference's fields and arrays -/
section
variable {C : am_Cx} {T S : am_T} {o : Nat → Int64} {k n pc : Nat} {L : List (Nat × Value)} {st : List Value} {cc : ByteArray} {nL : Nat} {w0 : Cond} {index : Nat}
theorem inG (c : Nat) {Cn : String} {TT : u_T} {N : Nat} {w0 : Cond} (h : ∀ w ∈ u_ws Cn TT N, w ∈ am_G) : ∀ w ∈ u_ws Cn TT N, w ∈ w0 :: am_G := fun w hw => List.mem_cons_of_mem _ (h w hw)
theorem mMain_get {f : Nat} (h36 : f < 36) : (mMain S)[f]? = some (mV S f) := by
  unfold mMain
  rw [List.getElem?_map, List.getElem?_range h36]
  rfl
theorem mMain_len : (mMain S).length = 36 := by unfold mMain; rw [List.length_map, List.length_range]
theorem sv_get (hF : am_F C cc nL RX6 (w0 :: am_G)) (f : Nat) (h36 : f < 36) (hs : (TX6 f).1 = RX6) (hlink : Cond.fieldLink RX6 index RX6 (TX6 f).2.1 (TX6 f).2.2.1 ∈ am_G) (v : Value) (hv : mV S f = v) (hd : decode cc pc = .ok (.getfield index, 3)) (kk : am_W C (hp T S o) k n (pc + 3) L (v :: st)) : am_W C (hp T S o) k n pc L (.ref 465 :: st) :=
  am_getf hF (hp_m T S o) (T := TX6) (N := 36) rfl (inG 6 inG6) f h36 (List.mem_cons_of_mem _ hlink) hs v (by rw [mMain_get h36, hv]) hd kk
theorem tyX6_int {f : Nat} (hf : mSc f = true) : tyX6 f = .int := by
  unfold mSc at hf
  simp only [Bool.or_eq_true, beq_iff_eq] at hf
  rcases hf with (((rfl | rfl) | rfl) | rfl) | rfl <;> rfl
theorem sv_put (hF : am_F C cc nL RX6 (w0 :: am_G)) (f : Nat) (h36 : f < 36) (hf : mSc f = true) (hs : (TX6 f).1 = RX6) (hfin : (TX6 f).2.2.2 = false) (hlink : Cond.fieldLink RX6 index RX6 (TX6 f).2.1 (TX6 f).2.2.1 ∈ am_G) {v : Int32} (hd : decode cc pc = .ok (.putfield index, 3)) (kk : am_W C (hp T (st1 S f 0 v) o) k n (pc + 3) L st) : am_W C (hp T S o) k n pc L (.int v :: .ref 465 :: st) :=
  am_putf hF (hp_m T S o) (T := TX6) (N := 36) rfl (inG 6 inG6) tyX6 tyX6_ok nmX6 f h36 (List.mem_cons_of_mem _ hlink) hs (Or.inl hfin) (by rw [tyX6_int hf]; rfl) (by rw [tyX6_int hf]; rfl) (by rw [mMain_len]; exact h36) hd (by rw [hp_ss T S o h36 hf]; exact kk)
variable {own : String} {Ts : List Cond}
theorem sv_iald (hF : am_F C cc nL own Ts) (f : Nat) (h36 : f < 36) (hf : mSc f = false ∧ mT f = 0 ∧ mL f < 2 ^ 31) {x : Int32} (j : Nat) (hx : x = nI j) (hj : j < mL f) (hd : decode cc pc = .ok (.iaload, 1)) (kk : am_W C (hp T S o) k n (pc + 1) L (.int (S f j) :: st)) : am_W C (hp T S o) k n pc L (.int x :: .ref (500 + f) :: st) :=
  am_iald hF (by rw [hp_a T S o h36 hf.1, hf.2.1]) j hx hj hf.2.2 hd kk
theorem sv_zald (hF : am_F C cc nL own Ts) (f : Nat) (h36 : f < 36) (hf : mSc f = false ∧ mT f = 1 ∧ mL f < 2 ^ 31) {x : Int32} (j : Nat) (hx : x = nI j) (hj : j < mL f) (hd : decode cc pc = .ok (.baload, 1)) (kk : am_W C (hp T S o) k n (pc + 1) L (.int (S f j) :: st)) : am_W C (hp T S o) k n pc L (.int x :: .ref (500 + f) :: st) :=
  am_zald hF (by rw [hp_a T S o h36 hf.1, hf.2.1]) j hx hj hf.2.2 hd kk
theorem sv_iast (hF : am_F C cc nL own Ts) (f : Nat) (h36 : f < 36) (hf : mSc f = false ∧ mT f = 0 ∧ mL f < 2 ^ 31) {x v : Int32} (j : Nat) (hx : x = nI j) (hj : j < mL f) (hd : decode cc pc = .ok (.iastore, 1)) (kk : am_W C (hp T (st1 S f j v) o) k n (pc + 1) L st) : am_W C (hp T S o) k n pc L (.int v :: .int x :: .ref (500 + f) :: st) :=
  am_iast hF (by rw [hp_a T S o h36 hf.1, hf.2.1]) j hx hj hf.2.2 hd (by have e := hp_sa T S o h36 hf.1 j v; rw [hf.2.1] at e; rw [e]; exact kk)
theorem sv_zast (hF : am_F C cc nL own Ts) (f : Nat) (h36 : f < 36) (hf : mSc f = false ∧ mT f = 1 ∧ mL f < 2 ^ 31) {x v : Int32} (j : Nat) (hx : x = nI j) (hj : j < mL f) (hv : narrow .boolean (.int v) = .int v) (hd : decode cc pc = .ok (.bastore, 1)) (kk : am_W C (hp T (st1 S f j v) o) k n (pc + 1) L st) : am_W C (hp T S o) k n pc L (.int v :: .int x :: .ref (500 + f) :: st) :=
  am_zast hF (by rw [hp_a T S o h36 hf.1, hf.2.1]) j hx hj hf.2.2 hv hd (by have e := hp_sa T S o h36 hf.1 j v; rw [hf.2.1] at e; rw [e]; exact kk)
end
/-- a thing done n times -/
def itN {α : Type} (f : Nat → α → α) (a : α) : Nat → α
  | 0 => a
  | n + 1 => f n (itN f a n)
theorem am_ltI {a b : Nat} (ha : a < 2 ^ 31) (hb : b < 2 ^ 31) (h : nI a < nI b) : a < b := (nI_ltI ha hb).mp h
theorem am_leI {a b : Nat} (ha : a < 2 ^ 31) (hb : b < 2 ^ 31) (h : nI a ≤ nI b) : a ≤ b := (nI_leI ha hb).mp h
theorem am_nltI {a b : Nat} (ha : a < 2 ^ 31) (hb : b < 2 ^ 31) (h : ¬ nI a < nI b) : b ≤ a := Nat.le_of_not_lt (fun q => h ((nI_ltI ha hb).mpr q))
theorem am_nleI {a b : Nat} (ha : a < 2 ^ 31) (hb : b < 2 ^ 31) (h : ¬ nI a ≤ nI b) : b < a := Nat.lt_of_not_le (fun q => h ((nI_leI ha hb).mpr q))
end
section
def sgX6_isIn_0_7b09b : List Instr := [.iload_n 0, .iload_n 1]
theorem sgX6_isIn_0_7b09bd : am_dec cX6_isIn 0 sgX6_isIn_0_7b09b = true := by decide +kernel
theorem dX6_isIn_2 : decode cX6_isIn 2 = .ok (.if_icmp .lt 12, 3) := by decide +kernel
def sgX6_isIn_14_56c54 : List Instr := [.iconst 0]
theorem sgX6_isIn_14_56c54d : am_dec cX6_isIn 14 sgX6_isIn_14_56c54 = true := by decide +kernel
theorem dX6_isIn_15 : decode cX6_isIn 15 = .ok (.ireturn, 1) := by decide +kernel
def sgX6_isIn_5_69d2f : List Instr := [.iload_n 0, .iload_n 2]
theorem sgX6_isIn_5_69d2fd : am_dec cX6_isIn 5 sgX6_isIn_5_69d2f = true := by decide +kernel
theorem dX6_isIn_7 : decode cX6_isIn 7 = .ok (.if_icmp .gt 7, 3) := by decide +kernel
def sgX6_isIn_10_1c64c : List Instr := [.iconst 1, .goto 4]
theorem sgX6_isIn_10_1c64cd : am_dec cX6_isIn 10 sgX6_isIn_10_1c64c = true := by decide +kernel
def sgX6_within_0_432db : List Instr := [.iconst 1, .iload_n 1, .ishl, .istore_n 2, .iconst 0, .istore_n 3]
theorem sgX6_within_0_432dbd : am_dec cX6_within 0 sgX6_within_0_432db = true := by decide +kernel
def sgX6_within_6_e9d5b : List Instr := [.iload_n 3, .bipush 10]
theorem sgX6_within_6_e9d5bd : am_dec cX6_within 6 sgX6_within_6_e9d5b = true := by decide +kernel
theorem dX6_within_9 : decode cX6_within 9 = .ok (.if_icmp .ge 51, 3) := by decide +kernel
def sgX6_within_60_f8a59 : List Instr := [.iload_n 2]
theorem sgX6_within_60_f8a59d : am_dec cX6_within 60 sgX6_within_60_f8a59 = true := by decide +kernel
theorem dX6_within_61 : decode cX6_within 61 = .ok (.ireturn, 1) := by decide +kernel
def sgX6_within_12_b1161 : List Instr := [.iconst 0, .istore 4]
theorem sgX6_within_12_b1161d : am_dec cX6_within 12 sgX6_within_12_b1161 = true := by decide +kernel
def sgX6_within_15_49a24 : List Instr := [.iload 4, .aload_n 0]
theorem sgX6_within_15_49a24d : am_dec cX6_within 15 sgX6_within_15_49a24 = true := by decide +kernel
theorem dX6_within_18 : decode cX6_within 18 = .ok (.getfield 112, 3) := by decide +kernel
theorem dX6_within_21 : decode cX6_within 21 = .ok (.if_icmp .ge 33, 3) := by decide +kernel
def sgX6_within_54_efa23 : List Instr := [.iinc 3 1, .goto (-51)]
theorem sgX6_within_54_efa23d : am_dec cX6_within 54 sgX6_within_54_efa23 = true := by decide +kernel
def sgX6_within_24_b6d33 : List Instr := [.iload_n 2, .iload_n 2, .iload 4, .ishr, .iconst 1, .iand, .iconst 1]
theorem sgX6_within_24_b6d33d : am_dec cX6_within 24 sgX6_within_24_b6d33 = true := by decide +kernel
theorem dX6_within_32 : decode cX6_within 32 = .ok (.if_icmp .ne 13, 3) := by decide +kernel
def sgX6_within_45_f7219 : List Instr := [.iconst 0, .ior, .istore_n 2, .iinc 4 1, .goto (-36)]
theorem sgX6_within_45_f7219d : am_dec cX6_within 45 sgX6_within_45_f7219 = true := by decide +kernel
def sgX6_within_35_34db8 : List Instr := [.aload_n 0]
theorem sgX6_within_35_34db8d : am_dec cX6_within 35 sgX6_within_35_34db8 = true := by decide +kernel
theorem dX6_within_36 : decode cX6_within 36 = .ok (.getfield 44, 3) := by decide +kernel
def sgX6_within_39_c6742 : List Instr := [.iload 4]
theorem sgX6_within_39_c6742d : am_dec cX6_within 39 sgX6_within_39_c6742 = true := by decide +kernel
theorem dX6_within_41 : decode cX6_within 41 = .ok (.iaload, 1) := by decide +kernel
def sgX6_within_42_892cf : List Instr := [.goto 4, .ior, .istore_n 2, .iinc 4 1, .goto (-36)]
theorem sgX6_within_42_892cfd : am_dec cX6_within 42 sgX6_within_42_892cf = true := by decide +kernel
theorem nc_lt {x y : Int32} {a b : Nat} (h : a < b) (ha : a < 2 ^ 31) (hb : b < 2 ^ 31) (hx : x = nI a) (hy : y = nI b) : x < y := by rw [hx, hy]; exact nI_lt h hb
theorem nc_ge {x y : Int32} {a b : Nat} (h : b ≤ a) (ha : a < 2 ^ 31) (hb : b < 2 ^ 31) (hx : x = nI a) (hy : y = nI b) : y ≤ x := by rw [hx, hy]; exact nI_le h ha
theorem nc_gt {x y : Int32} {a b : Nat} (h : b < a) (ha : a < 2 ^ 31) (hb : b < 2 ^ 31) (hx : x = nI a) (hy : y = nI b) : y < x := by rw [hx, hy]; exact nI_lt h ha
theorem nc_le {x y : Int32} {a b : Nat} (h : a ≤ b) (ha : a < 2 ^ 31) (hb : b < 2 ^ 31) (hx : x = nI a) (hy : y = nI b) : x ≤ y := by rw [hx, hy]; exact nI_le h hb
theorem nc_eq {x y : Int32} {a b : Nat} (h : a = b) (ha : a < 2 ^ 31) (hb : b < 2 ^ 31) (hx : x = nI a) (hy : y = nI b) : x = y := by rw [hx, hy, h]
theorem nc_ne {x y : Int32} {a b : Nat} (h : a ≠ b) (ha : a < 2 ^ 31) (hb : b < 2 ^ 31) (hx : x = nI a) (hy : y = nI b) : ¬ x = y := by rw [hx, hy]; exact fun e => h ((nI_eq ha hb).mp e)
theorem nc_lt_f {x y : Int32} {a b : Nat} (h : a < b) (ha : a < 2 ^ 31) (hb : b < 2 ^ 31) (hx : x = nI a) (hy : y = nI b) (h9 : y ≤ x) : False := by rw [hx, hy] at h9; exact nI_ge h hb h9
theorem nc_ge_f {x y : Int32} {a b : Nat} (h : b ≤ a) (ha : a < 2 ^ 31) (hb : b < 2 ^ 31) (hx : x = nI a) (hy : y = nI b) (h9 : x < y) : False := by rw [hx, hy] at h9; exact nI_nlt h ha h9
theorem nc_gt_f {x y : Int32} {a b : Nat} (h : b < a) (ha : a < 2 ^ 31) (hb : b < 2 ^ 31) (hx : x = nI a) (hy : y = nI b) (h9 : x ≤ y) : False := by rw [hx, hy] at h9; exact nI_ge h ha h9
theorem nc_le_f {x y : Int32} {a b : Nat} (h : a ≤ b) (ha : a < 2 ^ 31) (hb : b < 2 ^ 31) (hx : x = nI a) (hy : y = nI b) (h9 : y < x) : False := by rw [hx, hy] at h9; exact nI_nlt h hb h9
theorem nc_eq_f {x y : Int32} {a b : Nat} (h : a = b) (ha : a < 2 ^ 31) (hb : b < 2 ^ 31) (hx : x = nI a) (hy : y = nI b) (h9 : ¬ x = y) : False := by rw [hx, hy, h] at h9; exact h9 rfl
theorem nc_ne_f {x y : Int32} {a b : Nat} (h : a ≠ b) (ha : a < 2 ^ 31) (hb : b < 2 ^ 31) (hx : x = nI a) (hy : y = nI b) (h9 : x = y) : False := by rw [hx, hy] at h9; exact h ((nI_eq ha hb).mp h9)
/-- the list and all that is in it, as the reference finds it -/
def rw1 (S : am_T) (k : Nat) (s : Int32) : Int32 := s ||| (if (s >>> (nI k &&& 31)) &&& 1 = 1 then S 15 k else 0)
def rWin (S : am_T) (n l : Nat) : Int32 := itN (fun _ s => itN (rw1 S) s n) ((1 : Int32) <<< (nI l &&& 31)) 10
set_option maxRecDepth 100000 in
set_option maxHeartbeats 4000000 in
theorem c_isIn {G : am_S} {X : am_H} {x lo hi : Int32} : am_D G yX6_isIn (.code yX6_isIn cX6_isIn 3 (some .boolean) :: am_G) { frames := 0, cells := 0, slots := 0, locals := 0 } X [.int x, .int lo, .int hi] X (some (.int (if x < lo then 0 else if hi < x then 0 else 1))) := by
  refine am_of (by decide +kernel) (Nat.le_of_ble_eq_true rfl) ?_
  intro C hse hret hname hF hO
  subst hse
  refine am_go hF sgX6_isIn_0_7b09b 2 [(0, .int x), (1, .int lo), (2, .int hi)] [.int lo, .int x] sgX6_isIn_0_7b09bd rfl ?_
  refine am_icmplt hF 14 dX6_isIn_2 (by decide) (fun c1 => ?_) (fun c1 => ?_)
  · skip
    refine am_go hF sgX6_isIn_14_56c54 15 [(0, .int x), (1, .int lo), (2, .int hi)] [.int 0] sgX6_isIn_14_56c54d rfl ?_
    exact am_iret hF hO hret rfl dX6_isIn_15 ⟨rfl, by simp only [c1, ↓reduceIte]⟩
  · skip
    refine am_go hF sgX6_isIn_5_69d2f 7 [(0, .int x), (1, .int lo), (2, .int hi)] [.int hi, .int x] sgX6_isIn_5_69d2fd rfl ?_
    refine am_icmpgt hF 14 dX6_isIn_7 (by decide) (fun c2 => ?_) (fun c2 => ?_)
    · skip
      refine am_go hF sgX6_isIn_14_56c54 15 [(0, .int x), (1, .int lo), (2, .int hi)] [.int 0] sgX6_isIn_14_56c54d rfl ?_
      exact am_iret hF hO hret rfl dX6_isIn_15 ⟨rfl, by simp only [c1, c2, ↓reduceIte]⟩
    · skip
      refine am_go hF sgX6_isIn_10_1c64c 15 [(0, .int x), (1, .int lo), (2, .int hi)] [.int 1] sgX6_isIn_10_1c64cd rfl ?_
      exact am_iret hF hO hret rfl dX6_isIn_15 ⟨rfl, by simp only [c1, c2, ↓reduceIte]⟩
set_option maxRecDepth 100000 in
set_option maxHeartbeats 4000000 in
theorem c_within {G : am_S} {T S : am_T} {o : Nat → Int64} {n l : Nat} (hn : S 9 0 = nI n) (hn10 : n ≤ 10) (hl : l < n) : am_D G yX6_within (.code yX6_within cX6_within 5 (some .int) :: am_G) { frames := 0, cells := 0, slots := 0, locals := 0 } (hp T S o) [.ref 465, .int (nI l)] (hp T S o) (some (.int (rWin S n l))) := by
  refine am_of (by decide +kernel) (Nat.le_of_ble_eq_true rfl) ?_
  intro C hse hret hname hF hO
  subst hse
  refine am_go hF sgX6_within_0_432db 6 [(3, .int 0), (2, .int (1 <<< ((nI l) &&& 31))), (0, .ref 465), (1, .int (nI l))] [] sgX6_within_0_432dbd rfl ?_
  refine am_drop [2, 3, 1, 0] [(0, .ref 465), (1, .int (nI l)), (2, .int (1 <<< ((nI l) &&& 31))), (3, .int 0)] rfl ?_
  have lp6 : ∀ (dr r : Nat) (a : Int32), r + dr = 10 → a = itN (fun _ s => itN (rw1 S) s n) ((1 : Int32) <<< (nI l &&& 31)) r → am_W C (hp T S o) 0 0 6 [(0, .ref 465), (1, .int (nI l)), (2, .int a), (3, .int (nI r))] [] := by
    intro dr
    induction dr with
    | zero =>
      intro r a hr ha
      have e9r : r = 10 := by omega
      refine am_go hF sgX6_within_6_e9d5b 9 [(0, .ref 465), (1, .int (nI l)), (2, .int a), (3, .int (nI r))] [.int 10, .int (nI r)] sgX6_within_6_e9d5bd rfl ?_
      refine am_icmpge hF 60 dX6_within_9 (by decide) (fun _ => ?_) (fun h9 => False.elim (absurd (nc_ge (show 10 ≤ r by omega) (by omega) (by omega) rfl rfl) h9))
      refine am_go hF sgX6_within_60_f8a59 61 [(0, .ref 465), (1, .int (nI l)), (2, .int a), (3, .int (nI r))] [.int a] sgX6_within_60_f8a59d rfl ?_
      exact am_iret hF hO hret rfl dX6_within_61 ⟨rfl, (by first | (rw [ha, e9r]; done) | (rw [ha, e9r]; rfl))⟩
    | succ dr ih6 =>
      intro r a hr ha
      have l9r : r < 10 := by omega
      refine am_go hF sgX6_within_6_e9d5b 9 [(0, .ref 465), (1, .int (nI l)), (2, .int a), (3, .int (nI r))] [.int 10, .int (nI r)] sgX6_within_6_e9d5bd rfl ?_
      refine am_icmpge hF 60 dX6_within_9 (by decide) (fun h9 => False.elim (nc_lt_f (show r < 10 by omega) (by omega) (by omega) rfl rfl h9)) (fun _ => ?_)
      refine am_go hF sgX6_within_12_b1161 15 [(4, .int 0), (0, .ref 465), (1, .int (nI l)), (2, .int a), (3, .int (nI r))] [] sgX6_within_12_b1161d rfl ?_
      refine am_drop [1, 2, 3, 4, 0] [(0, .ref 465), (1, .int (nI l)), (2, .int a), (3, .int (nI r)), (4, .int 0)] rfl ?_
      have lp15 : ∀ (dj j : Nat) (b : Int32), j + dj = n → b = itN (rw1 S) a j → am_W C (hp T S o) 0 0 15 [(0, .ref 465), (1, .int (nI l)), (2, .int b), (3, .int (nI r)), (4, .int (nI j))] [] := by
        intro dj
        induction dj with
        | zero =>
          intro j b hj hb
          have e9j : j = n := by omega
          refine am_go hF sgX6_within_15_49a24 18 [(0, .ref 465), (1, .int (nI l)), (2, .int b), (3, .int (nI r)), (4, .int (nI j))] [.ref 465, .int (nI j)] sgX6_within_15_49a24d rfl ?_
          refine sv_get hF 9 (by decide) rfl lf_RX6_112 (.int (S 9 0)) rfl dX6_within_18 ?_
          refine am_top (nI n) hn ?_
          refine am_icmpge hF 54 dX6_within_21 (by decide) (fun _ => ?_) (fun h9 => False.elim (absurd (nc_ge (show n ≤ j by omega) (by omega) (by omega) rfl rfl) h9))
          refine am_go hF sgX6_within_54_efa23 6 [(3, .int ((nI r) + 1)), (0, .ref 465), (1, .int (nI l)), (2, .int b), (4, .int (nI j))] [] sgX6_within_54_efa23d rfl ?_
          refine am_drop [1, 2, 3, 0] [(0, .ref 465), (1, .int (nI l)), (2, .int b), (3, .int ((nI r) + 1))] rfl ?_
          refine am_eqL [(0, .ref 465), (1, .int (nI l)), (2, .int b), (3, .int (nI (r + 1)))] (by rw [nI_1]) ?_
          exact ih6 (r + 1) b (by omega) (by first | (rw [hb, e9j, ha]; done) | (rw [hb, e9j, ha]; rfl))
        | succ dj ih15 =>
          intro j b hj hb
          have l9j : j < n := by omega
          refine am_go hF sgX6_within_15_49a24 18 [(0, .ref 465), (1, .int (nI l)), (2, .int b), (3, .int (nI r)), (4, .int (nI j))] [.ref 465, .int (nI j)] sgX6_within_15_49a24d rfl ?_
          refine sv_get hF 9 (by decide) rfl lf_RX6_112 (.int (S 9 0)) rfl dX6_within_18 ?_
          refine am_top (nI n) hn ?_
          refine am_icmpge hF 54 dX6_within_21 (by decide) (fun h9 => False.elim (nc_lt_f (show j < n by omega) (by omega) (by omega) rfl rfl h9)) (fun _ => ?_)
          refine am_go hF sgX6_within_24_b6d33 32 [(0, .ref 465), (1, .int (nI l)), (2, .int b), (3, .int (nI r)), (4, .int (nI j))] [.int 1, .int ((b >>> ((nI j) &&& 31)) &&& 1), .int b] sgX6_within_24_b6d33d rfl ?_
          refine am_icmpne hF 45 dX6_within_32 (by decide) (fun c5 => ?_) (fun c5 => ?_)
          · skip
            refine am_go hF sgX6_within_45_f7219 15 [(4, .int ((nI j) + 1)), (2, .int (b ||| 0)), (0, .ref 465), (1, .int (nI l)), (3, .int (nI r))] [] sgX6_within_45_f7219d rfl ?_
            refine am_drop [2, 3, 1, 4, 0] [(0, .ref 465), (1, .int (nI l)), (2, .int (b ||| 0)), (3, .int (nI r)), (4, .int ((nI j) + 1))] rfl ?_
            refine am_eqL [(0, .ref 465), (1, .int (nI l)), (2, .int (b ||| 0)), (3, .int (nI r)), (4, .int (nI (j + 1)))] (by rw [nI_1]) ?_
            exact ih15 (j + 1) (b ||| 0) (by omega) (by show _ = rw1 S j (itN (rw1 S) a j); rw [← hb]; simp only [rw1, c5, ↓reduceIte])
          · skip
            refine am_go hF sgX6_within_35_34db8 36 [(0, .ref 465), (1, .int (nI l)), (2, .int b), (3, .int (nI r)), (4, .int (nI j))] [.ref 465, .int b] sgX6_within_35_34db8d rfl ?_
            refine sv_get hF 15 (by decide) rfl lf_RX6_44 (.ref 515) rfl dX6_within_36 ?_
            refine am_go hF sgX6_within_39_c6742 41 [(0, .ref 465), (1, .int (nI l)), (2, .int b), (3, .int (nI r)), (4, .int (nI j))] [.int (nI j), .ref 515, .int b] sgX6_within_39_c6742d rfl ?_
            refine sv_iald hF 15 (by decide) ⟨rfl, rfl, by decide⟩ j rfl (show j < 10 by omega) dX6_within_41 ?_
            refine am_go hF sgX6_within_42_892cf 15 [(4, .int ((nI j) + 1)), (2, .int (b ||| (S 15 j))), (0, .ref 465), (1, .int (nI l)), (3, .int (nI r))] [] sgX6_within_42_892cfd rfl ?_
            refine am_drop [2, 3, 1, 4, 0] [(0, .ref 465), (1, .int (nI l)), (2, .int (b ||| (S 15 j))), (3, .int (nI r)), (4, .int ((nI j) + 1))] rfl ?_
            refine am_eqL [(0, .ref 465), (1, .int (nI l)), (2, .int (b ||| (S 15 j))), (3, .int (nI r)), (4, .int (nI (j + 1)))] (by rw [nI_1]) ?_
            exact ih15 (j + 1) (b ||| (S 15 j)) (by omega) (by show _ = rw1 S j (itN (rw1 S) a j); rw [← hb]; simp only [rw1, (eq_true c5), ↓reduceIte])
      exact lp15 n 0 a (by omega) rfl
  exact lp6 10 0 (1 <<< ((nI l) &&& 31)) (by omega) rfl
end
section
/-- the same from above -/
def itD {α : Type} (f : Nat → α → α) (a : α) : Nat → α
  | 0 => a
  | n + 1 => itD f (f n a) n
theorem am_pm1 (x : Int32) : x + (-1) = x - 1 := by rw [Int32.sub_eq_add_neg]
theorem itN_f {F : Nat → am_T → am_T} (g : Nat) (hF : ∀ k S, F k S g = S g) (S : am_T) : ∀ j, itN F S j g = S g
  | 0 => rfl
  | j + 1 => (hF j _).trans (itN_f g hF S j)
def rCnt (S : am_T) (l : Nat) : Int32 := itN (fun k a => a + (if S 16 (16 * l + k) = -1 then 0 else 1)) 0 16
def rmb (S : am_T) (set : Int32) (p : Nat) (how : Int32) (k : Nat) (f : Int32) : Int32 := if set >>> (nI k &&& 31) &&& 1 = 1 ∧ ¬ S 16 (16 * k + p) = -1 ∧ (how = -1 ∨ S 16 (16 * k + p) = how) then nI k else f
def rMB (S : am_T) (n l p : Nat) (how : Int32) : Int32 := itD (rmb S (rWin S n l) p how) (-1) n
def rre (S : am_T) (n l : Nat) (k : Nat) (s : Int32) : Int32 := s ||| (if rMB S n l k (-1) = -1 then 0 else (1 : Int32) <<< (nI k &&& 31))
def rRe (S : am_T) (n l : Nat) : Int32 := itN (rre S n l) 0 16
def rMode (S : am_T) (n l p : Nat) : Int32 := if rMB S n l p (-1) = -1 then -1 else if rMB S n l p 0 = -1 then 1 else 0
def rone (p : Nat) (k : Nat) (S : am_T) : am_T := st1 S 16 (16 * k + p) (if S 16 (16 * k + p) = -1 then -1 else 1)
def rOne (S : am_T) (n p : Nat) : am_T := if S 6 p + 1 = 3 then itN (rone p) (st1 (st1 S 6 p (S 6 p + 1)) 6 p 0) n else st1 S 6 p (S 6 p + 1)
def rBox (S : am_T) (n k p b : Nat) : am_T := if nI b = 10 then rOne S n p else st1 (st1 (st1 S 8 (10 * p + b) (nI k)) 7 p (nI b + 1)) 25 k (S 25 k ||| (1 : Int32) <<< (nI p &&& 31))
def rDi3 (S : am_T) (k l p d : Nat) : am_T := st1 (st1 (st1 S 32 (401 * l + d) 1) 34 (401 * l + d) (S 34 (401 * l + d) ||| (1 : Int32) <<< (nI p &&& 31))) 25 k (S 25 k ||| (1 : Int32) <<< (nI p &&& 31))
def rDig (S : am_T) (k l p d : Nat) : am_T := st1 (if S 31 (10 * k + l) = 0 ∧ ¬ S 1 0 ≤ nI d ∧ ¬ S 35 (401 * l + d) = S 2 0 then st1 (st1 (rDi3 S k l p d) 33 (401 * l + d) (S 33 (401 * l + d) + 1)) 35 (401 * l + d) (S 2 0) else rDi3 S k l p d) 31 (10 * k + l) 1
def rsw (S : am_T) (words : Int32) (k : Nat) (s : Int32) : Int32 := s + (if words >>> (nI k &&& 31) &&& 1 = 1 then S 3 k else 0)
def rsm (S : am_T) (p : Nat) (k : Nat) (s : Int32) : Int32 := s + (if S 18 k = nI p ∧ S 20 k = S 1 0 then 1 else 0)
def rSum (S : am_T) (m p : Nat) (words : Int32) : Int32 := itN (rsm S p) (itN (rsw S words) (S 4 p) 20) m
def rCause (S : am_T) (n p l : Nat) (pts : Int32) : Int32 := if S 14 l >>> (nI p &&& 31) &&& 1 = 1 then 0 else if ¬ S 13 l = 0 ∧ rRe S n l >>> (nI p &&& 31) &&& 1 = 0 then 1 else if pts < S 11 l then -1 else 2
def rcj (S : am_T) (p : Nat) (k : Nat) (s : Int32) : Int32 := if s = 0 ∧ ¬ S 10 k = nI p then 0 else 1
def rCan (S : am_T) (n k p l : Nat) : Int32 := if ¬ itN (rcj S p) 0 n = 0 ∧ ¬ nI p = S 18 k ∧ ¬ nI p = S 10 l then 1 else 0
theorem ix_out {x : Int32} {n : Nat} (hn : n < 2 ^ 31) (h : x < 0 ∨ nI n ≤ x) : (if x < 0 then (0 : Int32) else if nI n - 1 < x then 0 else 1) = 0 := by
  rcases h with h | h
  · rw [if_pos h]
  · by_cases h0 : x < 0
    · rw [if_pos h0]
    · rw [if_neg h0]
      obtain ⟨j, hj, rfl⟩ := nI_of h0
      have hnj : n ≤ j := (nI_leI hn hj).mp h
      cases n with
      | zero => rw [if_pos]; exact Int32.lt_of_lt_of_le (show nI 0 - 1 < 0 by decide) (nI_pos' hj)
      | succ n => rw [nI_pred, if_pos (nI_lt (by omega) hj)]
theorem ix_in {x : Int32} {n j : Nat} (hn : n < 2 ^ 31) (hj : j < n) (hx : x = nI j) : (if x < 0 then (0 : Int32) else if nI n - 1 < x then 0 else 1) = 1 := by
  subst hx
  rw [if_neg (nI_pos (by omega))]
  cases n with
  | zero => omega
  | succ n => rw [nI_pred, if_neg (nI_nlt (by omega) (by omega))]
def sgX6_isPerson_0_63447 : List Instr := [.iload_n 0, .iconst 0, .bipush 15]
theorem sgX6_isPerson_0_63447d : am_dec cX6_isPerson 0 sgX6_isPerson_0_63447 = true := by decide +kernel
theorem dX6_isPerson_4 : decode cX6_isPerson 4 = .ok (.invokestatic 108, 3) := by decide +kernel
theorem dX6_isPerson_7 : decode cX6_isPerson 7 = .ok (.ireturn, 1) := by decide +kernel
def sgX6_isList_0_fca3e : List Instr := [.iload_n 1, .iconst 0, .aload_n 0]
theorem sgX6_isList_0_fca3ed : am_dec cX6_isList 0 sgX6_isList_0_fca3e = true := by decide +kernel
theorem dX6_isList_3 : decode cX6_isList 3 = .ok (.getfield 112, 3) := by decide +kernel
def sgX6_isList_6_d80e0 : List Instr := [.iconst 1, .isub]
theorem sgX6_isList_6_d80e0d : am_dec cX6_isList 6 sgX6_isList_6_d80e0 = true := by decide +kernel
theorem dX6_isList_8 : decode cX6_isList 8 = .ok (.invokestatic 108, 3) := by decide +kernel
theorem dX6_isList_11 : decode cX6_isList 11 = .ok (.ireturn, 1) := by decide +kernel
def sgX6_isMail_0_fca3e : List Instr := [.iload_n 1, .iconst 0, .aload_n 0]
theorem sgX6_isMail_0_fca3ed : am_dec cX6_isMail 0 sgX6_isMail_0_fca3e = true := by decide +kernel
theorem dX6_isMail_3 : decode cX6_isMail 3 = .ok (.getfield 115, 3) := by decide +kernel
def sgX6_isMail_6_d80e0 : List Instr := [.iconst 1, .isub]
theorem sgX6_isMail_6_d80e0d : am_dec cX6_isMail 6 sgX6_isMail_6_d80e0 = true := by decide +kernel
theorem dX6_isMail_8 : decode cX6_isMail 8 = .ok (.invokestatic 108, 3) := by decide +kernel
theorem dX6_isMail_11 : decode cX6_isMail 11 = .ok (.ireturn, 1) := by decide +kernel
def sgX6_membersOf_0_24699 : List Instr := [.iconst 0, .istore_n 2, .iconst 0, .istore_n 3]
theorem sgX6_membersOf_0_24699d : am_dec cX6_membersOf 0 sgX6_membersOf_0_24699 = true := by decide +kernel
def sgX6_membersOf_4_b88ad : List Instr := [.iload_n 3, .bipush 16]
theorem sgX6_membersOf_4_b88add : am_dec cX6_membersOf 4 sgX6_membersOf_4_b88ad = true := by decide +kernel
theorem dX6_membersOf_7 : decode cX6_membersOf 7 = .ok (.if_icmp .ge 32, 3) := by decide +kernel
def sgX6_membersOf_39_f8a59 : List Instr := [.iload_n 2]
theorem sgX6_membersOf_39_f8a59d : am_dec cX6_membersOf 39 sgX6_membersOf_39_f8a59 = true := by decide +kernel
theorem dX6_membersOf_40 : decode cX6_membersOf 40 = .ok (.ireturn, 1) := by decide +kernel
def sgX6_membersOf_10_14491 : List Instr := [.iload_n 2, .aload_n 0]
theorem sgX6_membersOf_10_14491d : am_dec cX6_membersOf 10 sgX6_membersOf_10_14491 = true := by decide +kernel
theorem dX6_membersOf_12 : decode cX6_membersOf 12 = .ok (.getfield 47, 3) := by decide +kernel
def sgX6_membersOf_15_0ce03 : List Instr := [.bipush 16, .iload_n 1, .imul, .iload_n 3, .iadd]
theorem sgX6_membersOf_15_0ce03d : am_dec cX6_membersOf 15 sgX6_membersOf_15_0ce03 = true := by decide +kernel
theorem dX6_membersOf_21 : decode cX6_membersOf 21 = .ok (.iaload, 1) := by decide +kernel
def sgX6_membersOf_22_5ff24 : List Instr := [.iconst (-1)]
theorem sgX6_membersOf_22_5ff24d : am_dec cX6_membersOf 22 sgX6_membersOf_22_5ff24 = true := by decide +kernel
theorem dX6_membersOf_23 : decode cX6_membersOf 23 = .ok (.if_icmp .ne 7, 3) := by decide +kernel
def sgX6_membersOf_30_71cb3 : List Instr := [.iconst 1, .iadd, .istore_n 2, .iinc 3 1, .goto (-32)]
theorem sgX6_membersOf_30_71cb3d : am_dec cX6_membersOf 30 sgX6_membersOf_30_71cb3 = true := by decide +kernel
def sgX6_membersOf_26_32ba1 : List Instr := [.iconst 0, .goto 4, .iadd, .istore_n 2, .iinc 3 1, .goto (-32)]
theorem sgX6_membersOf_26_32ba1d : am_dec cX6_membersOf 26 sgX6_membersOf_26_32ba1 = true := by decide +kernel
def sgX6_memberBy_0_8bcf7 : List Instr := [.aload_n 0, .iload_n 1]
theorem sgX6_memberBy_0_8bcf7d : am_dec cX6_memberBy 0 sgX6_memberBy_0_8bcf7 = true := by decide +kernel
theorem dX6_memberBy_2 : decode cX6_memberBy 2 = .ok (.invokevirtual 129, 3) := by decide +kernel
def sgX6_memberBy_5_b6147 : List Instr := [.istore 4, .iconst (-1), .istore 5, .aload_n 0]
theorem sgX6_memberBy_5_b6147d : am_dec cX6_memberBy 5 sgX6_memberBy_5_b6147 = true := by decide +kernel
theorem dX6_memberBy_11 : decode cX6_memberBy 11 = .ok (.getfield 112, 3) := by decide +kernel
def sgX6_memberBy_14_0e5e8 : List Instr := [.iconst 1, .isub, .istore 6]
theorem sgX6_memberBy_14_0e5e8d : am_dec cX6_memberBy 14 sgX6_memberBy_14_0e5e8 = true := by decide +kernel
def sgX6_memberBy_18_4d8be : List Instr := [.iload 6]
theorem sgX6_memberBy_18_4d8bed : am_dec cX6_memberBy 18 sgX6_memberBy_18_4d8be = true := by decide +kernel
theorem dX6_memberBy_20 : decode cX6_memberBy 20 = .ok (.ifCond .lt 72, 3) := by decide +kernel
def sgX6_memberBy_92_9df92 : List Instr := [.iload 5]
theorem sgX6_memberBy_92_9df92d : am_dec cX6_memberBy 92 sgX6_memberBy_92_9df92 = true := by decide +kernel
theorem dX6_memberBy_94 : decode cX6_memberBy 94 = .ok (.ireturn, 1) := by decide +kernel
def sgX6_memberBy_23_34db8 : List Instr := [.aload_n 0]
theorem sgX6_memberBy_23_34db8d : am_dec cX6_memberBy 23 sgX6_memberBy_23_34db8 = true := by decide +kernel
theorem dX6_memberBy_24 : decode cX6_memberBy 24 = .ok (.getfield 47, 3) := by decide +kernel
def sgX6_memberBy_27_d2658 : List Instr := [.bipush 16, .iload 6, .imul, .iload_n 2, .iadd]
theorem sgX6_memberBy_27_d2658d : am_dec cX6_memberBy 27 sgX6_memberBy_27_d2658 = true := by decide +kernel
theorem dX6_memberBy_34 : decode cX6_memberBy 34 = .ok (.iaload, 1) := by decide +kernel
def sgX6_memberBy_35_3651f : List Instr := [.istore 7, .iload 4, .iload 6, .ishr, .iconst 1, .iand, .iconst 1]
theorem sgX6_memberBy_35_3651fd : am_dec cX6_memberBy 35 sgX6_memberBy_35_3651f = true := by decide +kernel
theorem dX6_memberBy_45 : decode cX6_memberBy 45 = .ok (.if_icmp .ne 24, 3) := by decide +kernel
def sgX6_memberBy_69_40c11 : List Instr := [.iconst 0, .istore 8, .iload 8]
theorem sgX6_memberBy_69_40c11d : am_dec cX6_memberBy 69 sgX6_memberBy_69_40c11 = true := by decide +kernel
theorem dX6_memberBy_74 : decode cX6_memberBy 74 = .ok (.ifCond .eq 8, 3) := by decide +kernel
def sgX6_memberBy_82_660ba : List Instr := [.iload 5, .istore 5, .iinc 6 (-1), .goto (-71)]
theorem sgX6_memberBy_82_660bad : am_dec cX6_memberBy 82 sgX6_memberBy_82_660ba = true := by decide +kernel
def sgX6_memberBy_48_06b1a : List Instr := [.iload 7, .iconst (-1)]
theorem sgX6_memberBy_48_06b1ad : am_dec cX6_memberBy 48 sgX6_memberBy_48_06b1a = true := by decide +kernel
theorem dX6_memberBy_51 : decode cX6_memberBy 51 = .ok (.if_icmp .eq 18, 3) := by decide +kernel
def sgX6_memberBy_54_8324a : List Instr := [.iload_n 3, .iconst (-1)]
theorem sgX6_memberBy_54_8324ad : am_dec cX6_memberBy 54 sgX6_memberBy_54_8324a = true := by decide +kernel
theorem dX6_memberBy_56 : decode cX6_memberBy 56 = .ok (.if_icmp .eq 9, 3) := by decide +kernel
def sgX6_memberBy_65_ef18d : List Instr := [.iconst 1, .goto 4, .istore 8, .iload 8]
theorem sgX6_memberBy_65_ef18dd : am_dec cX6_memberBy 65 sgX6_memberBy_65_ef18d = true := by decide +kernel
def sgX6_memberBy_77_74c9a : List Instr := [.iload 6, .goto 5, .istore 5, .iinc 6 (-1), .goto (-71)]
theorem sgX6_memberBy_77_74c9ad : am_dec cX6_memberBy 77 sgX6_memberBy_77_74c9a = true := by decide +kernel
def sgX6_memberBy_59_4501e : List Instr := [.iload 7, .iload_n 3]
theorem sgX6_memberBy_59_4501ed : am_dec cX6_memberBy 59 sgX6_memberBy_59_4501e = true := by decide +kernel
theorem dX6_memberBy_62 : decode cX6_memberBy 62 = .ok (.if_icmp .ne 7, 3) := by decide +kernel
def sgX6_reachesOf_0_24699 : List Instr := [.iconst 0, .istore_n 2, .iconst 0, .istore_n 3]
theorem sgX6_reachesOf_0_24699d : am_dec cX6_reachesOf 0 sgX6_reachesOf_0_24699 = true := by decide +kernel
def sgX6_reachesOf_4_b88ad : List Instr := [.iload_n 3, .bipush 16]
theorem sgX6_reachesOf_4_b88add : am_dec cX6_reachesOf 4 sgX6_reachesOf_4_b88ad = true := by decide +kernel
theorem dX6_reachesOf_7 : decode cX6_reachesOf 7 = .ok (.if_icmp .ge 30, 3) := by decide +kernel
def sgX6_reachesOf_37_f8a59 : List Instr := [.iload_n 2]
theorem sgX6_reachesOf_37_f8a59d : am_dec cX6_reachesOf 37 sgX6_reachesOf_37_f8a59 = true := by decide +kernel
theorem dX6_reachesOf_38 : decode cX6_reachesOf 38 = .ok (.ireturn, 1) := by decide +kernel
def sgX6_reachesOf_10_f708f : List Instr := [.iload_n 2, .aload_n 0, .iload_n 1, .iload_n 3, .iconst (-1)]
theorem sgX6_reachesOf_10_f708fd : am_dec cX6_reachesOf 10 sgX6_reachesOf_10_f708f = true := by decide +kernel
theorem dX6_reachesOf_15 : decode cX6_reachesOf 15 = .ok (.invokevirtual 132, 3) := by decide +kernel
def sgX6_reachesOf_18_5ff24 : List Instr := [.iconst (-1)]
theorem sgX6_reachesOf_18_5ff24d : am_dec cX6_reachesOf 18 sgX6_reachesOf_18_5ff24 = true := by decide +kernel
theorem dX6_reachesOf_19 : decode cX6_reachesOf 19 = .ok (.if_icmp .ne 7, 3) := by decide +kernel
def sgX6_reachesOf_26_8d1e4 : List Instr := [.iconst 1, .iload_n 3, .ishl, .ior, .istore_n 2, .iinc 3 1, .goto (-30)]
theorem sgX6_reachesOf_26_8d1e4d : am_dec cX6_reachesOf 26 sgX6_reachesOf_26_8d1e4 = true := by decide +kernel
def sgX6_reachesOf_22_468b6 : List Instr := [.iconst 0, .goto 6, .ior, .istore_n 2, .iinc 3 1, .goto (-30)]
theorem sgX6_reachesOf_22_468b6d : am_dec cX6_reachesOf 22 sgX6_reachesOf_22_468b6 = true := by decide +kernel
def sgX6_modeFor_0_58030 : List Instr := [.aload_n 0, .iload_n 1, .iload_n 2, .iconst (-1)]
theorem sgX6_modeFor_0_58030d : am_dec cX6_modeFor 0 sgX6_modeFor_0_58030 = true := by decide +kernel
theorem dX6_modeFor_4 : decode cX6_modeFor 4 = .ok (.invokevirtual 132, 3) := by decide +kernel
def sgX6_modeFor_7_5ff24 : List Instr := [.iconst (-1)]
theorem sgX6_modeFor_7_5ff24d : am_dec cX6_modeFor 7 sgX6_modeFor_7_5ff24 = true := by decide +kernel
theorem dX6_modeFor_8 : decode cX6_modeFor 8 = .ok (.if_icmp .ne 5, 3) := by decide +kernel
def sgX6_modeFor_13_07487 : List Instr := [.aload_n 0, .iload_n 1, .iload_n 2, .iconst 0]
theorem sgX6_modeFor_13_07487d : am_dec cX6_modeFor 13 sgX6_modeFor_13_07487 = true := by decide +kernel
theorem dX6_modeFor_17 : decode cX6_modeFor 17 = .ok (.invokevirtual 132, 3) := by decide +kernel
def sgX6_modeFor_20_5ff24 : List Instr := [.iconst (-1)]
theorem sgX6_modeFor_20_5ff24d : am_dec cX6_modeFor 20 sgX6_modeFor_20_5ff24 = true := by decide +kernel
theorem dX6_modeFor_21 : decode cX6_modeFor 21 = .ok (.if_icmp .ne 7, 3) := by decide +kernel
def sgX6_modeFor_28_56c54 : List Instr := [.iconst 0]
theorem sgX6_modeFor_28_56c54d : am_dec cX6_modeFor 28 sgX6_modeFor_28_56c54 = true := by decide +kernel
theorem dX6_modeFor_29 : decode cX6_modeFor 29 = .ok (.ireturn, 1) := by decide +kernel
def sgX6_modeFor_24_1c64c : List Instr := [.iconst 1, .goto 4]
theorem sgX6_modeFor_24_1c64cd : am_dec cX6_modeFor 24 sgX6_modeFor_24_1c64c = true := by decide +kernel
def sgX6_modeFor_11_5ff24 : List Instr := [.iconst (-1)]
theorem sgX6_modeFor_11_5ff24d : am_dec cX6_modeFor 11 sgX6_modeFor_11_5ff24 = true := by decide +kernel
theorem dX6_modeFor_12 : decode cX6_modeFor 12 = .ok (.ireturn, 1) := by decide +kernel
def sgX6_oneMore_0_34db8 : List Instr := [.aload_n 0]
theorem sgX6_oneMore_0_34db8d : am_dec cX6_oneMore 0 sgX6_oneMore_0_34db8 = true := by decide +kernel
theorem dX6_oneMore_1 : decode cX6_oneMore 1 = .ok (.getfield 19, 3) := by decide +kernel
def sgX6_oneMore_4_563cd : List Instr := [.iload_n 1, .dup2]
theorem sgX6_oneMore_4_563cdd : am_dec cX6_oneMore 4 sgX6_oneMore_4_563cd = true := by decide +kernel
theorem dX6_oneMore_6 : decode cX6_oneMore 6 = .ok (.iaload, 1) := by decide +kernel
def sgX6_oneMore_7_c7176 : List Instr := [.iconst 1, .iadd]
theorem sgX6_oneMore_7_c7176d : am_dec cX6_oneMore 7 sgX6_oneMore_7_c7176 = true := by decide +kernel
theorem dX6_oneMore_9 : decode cX6_oneMore 9 = .ok (.iastore, 1) := by decide +kernel
def sgX6_oneMore_10_34db8 : List Instr := [.aload_n 0]
theorem sgX6_oneMore_10_34db8d : am_dec cX6_oneMore 10 sgX6_oneMore_10_34db8 = true := by decide +kernel
theorem dX6_oneMore_11 : decode cX6_oneMore 11 = .ok (.getfield 19, 3) := by decide +kernel
def sgX6_oneMore_14_840bf : List Instr := [.iload_n 1]
theorem sgX6_oneMore_14_840bfd : am_dec cX6_oneMore 14 sgX6_oneMore_14_840bf = true := by decide +kernel
theorem dX6_oneMore_15 : decode cX6_oneMore 15 = .ok (.iaload, 1) := by decide +kernel
def sgX6_oneMore_16_800cc : List Instr := [.iconst 3]
theorem sgX6_oneMore_16_800ccd : am_dec cX6_oneMore 16 sgX6_oneMore_16_800cc = true := by decide +kernel
theorem dX6_oneMore_17 : decode cX6_oneMore 17 = .ok (.if_icmp .ne 54, 3) := by decide +kernel
theorem dX6_oneMore_71 : decode cX6_oneMore 71 = .ok (.return_, 1) := by decide +kernel
def sgX6_oneMore_20_34db8 : List Instr := [.aload_n 0]
theorem sgX6_oneMore_20_34db8d : am_dec cX6_oneMore 20 sgX6_oneMore_20_34db8 = true := by decide +kernel
theorem dX6_oneMore_21 : decode cX6_oneMore 21 = .ok (.getfield 19, 3) := by decide +kernel
def sgX6_oneMore_24_cd6b4 : List Instr := [.iload_n 1, .iconst 0]
theorem sgX6_oneMore_24_cd6b4d : am_dec cX6_oneMore 24 sgX6_oneMore_24_cd6b4 = true := by decide +kernel
theorem dX6_oneMore_26 : decode cX6_oneMore 26 = .ok (.iastore, 1) := by decide +kernel
def sgX6_oneMore_27_01fef : List Instr := [.iconst 0, .istore_n 2]
theorem sgX6_oneMore_27_01fefd : am_dec cX6_oneMore 27 sgX6_oneMore_27_01fef = true := by decide +kernel
def sgX6_oneMore_29_14491 : List Instr := [.iload_n 2, .aload_n 0]
theorem sgX6_oneMore_29_14491d : am_dec cX6_oneMore 29 sgX6_oneMore_29_14491 = true := by decide +kernel
theorem dX6_oneMore_31 : decode cX6_oneMore 31 = .ok (.getfield 112, 3) := by decide +kernel
theorem dX6_oneMore_34 : decode cX6_oneMore 34 = .ok (.if_icmp .ge 37, 3) := by decide +kernel
def sgX6_oneMore_37_6c3f3 : List Instr := [.bipush 16, .iload_n 2, .imul, .iload_n 1, .iadd, .istore_n 3, .aload_n 0]
theorem sgX6_oneMore_37_6c3f3d : am_dec cX6_oneMore 37 sgX6_oneMore_37_6c3f3 = true := by decide +kernel
theorem dX6_oneMore_45 : decode cX6_oneMore 45 = .ok (.getfield 47, 3) := by decide +kernel
def sgX6_oneMore_48_a1b5b : List Instr := [.iload_n 3, .aload_n 0]
theorem sgX6_oneMore_48_a1b5bd : am_dec cX6_oneMore 48 sgX6_oneMore_48_a1b5b = true := by decide +kernel
theorem dX6_oneMore_50 : decode cX6_oneMore 50 = .ok (.getfield 47, 3) := by decide +kernel
def sgX6_oneMore_53_13b50 : List Instr := [.iload_n 3]
theorem sgX6_oneMore_53_13b50d : am_dec cX6_oneMore 53 sgX6_oneMore_53_13b50 = true := by decide +kernel
theorem dX6_oneMore_54 : decode cX6_oneMore 54 = .ok (.iaload, 1) := by decide +kernel
def sgX6_oneMore_55_5ff24 : List Instr := [.iconst (-1)]
theorem sgX6_oneMore_55_5ff24d : am_dec cX6_oneMore 55 sgX6_oneMore_55_5ff24 = true := by decide +kernel
theorem dX6_oneMore_56 : decode cX6_oneMore 56 = .ok (.if_icmp .ne 7, 3) := by decide +kernel
def sgX6_oneMore_63_4de0a : List Instr := [.iconst 1]
theorem sgX6_oneMore_63_4de0ad : am_dec cX6_oneMore 63 sgX6_oneMore_63_4de0a = true := by decide +kernel
theorem dX6_oneMore_64 : decode cX6_oneMore 64 = .ok (.iastore, 1) := by decide +kernel
def sgX6_oneMore_65_92559 : List Instr := [.iinc 2 1, .goto (-39)]
theorem sgX6_oneMore_65_92559d : am_dec cX6_oneMore 65 sgX6_oneMore_65_92559 = true := by decide +kernel
def sgX6_oneMore_59_06683 : List Instr := [.iconst (-1), .goto 4]
theorem sgX6_oneMore_59_06683d : am_dec cX6_oneMore 59 sgX6_oneMore_59_06683 = true := by decide +kernel
def sgX6_comesToBox_0_34db8 : List Instr := [.aload_n 0]
theorem sgX6_comesToBox_0_34db8d : am_dec cX6_comesToBox 0 sgX6_comesToBox_0_34db8 = true := by decide +kernel
theorem dX6_comesToBox_1 : decode cX6_comesToBox 1 = .ok (.getfield 22, 3) := by decide +kernel
def sgX6_comesToBox_4_f8a59 : List Instr := [.iload_n 2]
theorem sgX6_comesToBox_4_f8a59d : am_dec cX6_comesToBox 4 sgX6_comesToBox_4_f8a59 = true := by decide +kernel
theorem dX6_comesToBox_5 : decode cX6_comesToBox 5 = .ok (.iaload, 1) := by decide +kernel
def sgX6_comesToBox_6_ee951 : List Instr := [.bipush 10]
theorem sgX6_comesToBox_6_ee951d : am_dec cX6_comesToBox 6 sgX6_comesToBox_6_ee951 = true := by decide +kernel
theorem dX6_comesToBox_8 : decode cX6_comesToBox 8 = .ok (.if_icmp .ne 11, 3) := by decide +kernel
def sgX6_comesToBox_19_34db8 : List Instr := [.aload_n 0]
theorem sgX6_comesToBox_19_34db8d : am_dec cX6_comesToBox 19 sgX6_comesToBox_19_34db8 = true := by decide +kernel
theorem dX6_comesToBox_20 : decode cX6_comesToBox 20 = .ok (.getfield 25, 3) := by decide +kernel
def sgX6_comesToBox_23_56481 : List Instr := [.bipush 10, .iload_n 2, .imul, .aload_n 0]
theorem sgX6_comesToBox_23_56481d : am_dec cX6_comesToBox 23 sgX6_comesToBox_23_56481 = true := by decide +kernel
theorem dX6_comesToBox_28 : decode cX6_comesToBox 28 = .ok (.getfield 22, 3) := by decide +kernel
def sgX6_comesToBox_31_f8a59 : List Instr := [.iload_n 2]
theorem sgX6_comesToBox_31_f8a59d : am_dec cX6_comesToBox 31 sgX6_comesToBox_31_f8a59 = true := by decide +kernel
theorem dX6_comesToBox_32 : decode cX6_comesToBox 32 = .ok (.iaload, 1) := by decide +kernel
def sgX6_comesToBox_33_ebc32 : List Instr := [.iadd, .iload_n 1]
theorem sgX6_comesToBox_33_ebc32d : am_dec cX6_comesToBox 33 sgX6_comesToBox_33_ebc32 = true := by decide +kernel
theorem dX6_comesToBox_35 : decode cX6_comesToBox 35 = .ok (.iastore, 1) := by decide +kernel
def sgX6_comesToBox_36_34db8 : List Instr := [.aload_n 0]
theorem sgX6_comesToBox_36_34db8d : am_dec cX6_comesToBox 36 sgX6_comesToBox_36_34db8 = true := by decide +kernel
theorem dX6_comesToBox_37 : decode cX6_comesToBox 37 = .ok (.getfield 22, 3) := by decide +kernel
def sgX6_comesToBox_40_9241e : List Instr := [.iload_n 2, .dup2]
theorem sgX6_comesToBox_40_9241ed : am_dec cX6_comesToBox 40 sgX6_comesToBox_40_9241e = true := by decide +kernel
theorem dX6_comesToBox_42 : decode cX6_comesToBox 42 = .ok (.iaload, 1) := by decide +kernel
def sgX6_comesToBox_43_c7176 : List Instr := [.iconst 1, .iadd]
theorem sgX6_comesToBox_43_c7176d : am_dec cX6_comesToBox 43 sgX6_comesToBox_43_c7176 = true := by decide +kernel
theorem dX6_comesToBox_45 : decode cX6_comesToBox 45 = .ok (.iastore, 1) := by decide +kernel
def sgX6_comesToBox_46_34db8 : List Instr := [.aload_n 0]
theorem sgX6_comesToBox_46_34db8d : am_dec cX6_comesToBox 46 sgX6_comesToBox_46_34db8 = true := by decide +kernel
theorem dX6_comesToBox_47 : decode cX6_comesToBox 47 = .ok (.getfield 71, 3) := by decide +kernel
def sgX6_comesToBox_50_563cd : List Instr := [.iload_n 1, .dup2]
theorem sgX6_comesToBox_50_563cdd : am_dec cX6_comesToBox 50 sgX6_comesToBox_50_563cd = true := by decide +kernel
theorem dX6_comesToBox_52 : decode cX6_comesToBox 52 = .ok (.iaload, 1) := by decide +kernel
def sgX6_comesToBox_53_76418 : List Instr := [.iconst 1, .iload_n 2, .ishl, .ior]
theorem sgX6_comesToBox_53_76418d : am_dec cX6_comesToBox 53 sgX6_comesToBox_53_76418 = true := by decide +kernel
theorem dX6_comesToBox_57 : decode cX6_comesToBox 57 = .ok (.iastore, 1) := by decide +kernel
theorem dX6_comesToBox_58 : decode cX6_comesToBox 58 = .ok (.return_, 1) := by decide +kernel
def sgX6_comesToBox_11_78e74 : List Instr := [.aload_n 0, .iload_n 2]
theorem sgX6_comesToBox_11_78e74d : am_dec cX6_comesToBox 11 sgX6_comesToBox_11_78e74 = true := by decide +kernel
theorem dX6_comesToBox_13 : decode cX6_comesToBox 13 = .ok (.invokevirtual 143, 3) := by decide +kernel
def sgX6_comesToBox_16_933e7 : List Instr := [.goto 42]
theorem sgX6_comesToBox_16_933e7d : am_dec cX6_comesToBox 16 sgX6_comesToBox_16_933e7 = true := by decide +kernel
def sgX6_comesToDigest_0_2baf6 : List Instr := [.sipush 401, .iload_n 2, .imul, .aload_n 0]
theorem sgX6_comesToDigest_0_2baf6d : am_dec cX6_comesToDigest 0 sgX6_comesToDigest_0_2baf6 = true := by decide +kernel
theorem dX6_comesToDigest_6 : decode cX6_comesToDigest 6 = .ok (.getfield 56, 3) := by decide +kernel
def sgX6_comesToDigest_9_840bf : List Instr := [.iload_n 1]
theorem sgX6_comesToDigest_9_840bfd : am_dec cX6_comesToDigest 9 sgX6_comesToDigest_9_840bf = true := by decide +kernel
theorem dX6_comesToDigest_10 : decode cX6_comesToDigest 10 = .ok (.iaload, 1) := by decide +kernel
def sgX6_comesToDigest_11_4dc44 : List Instr := [.iadd, .istore 4, .aload_n 0]
theorem sgX6_comesToDigest_11_4dc44d : am_dec cX6_comesToDigest 11 sgX6_comesToDigest_11_4dc44 = true := by decide +kernel
theorem dX6_comesToDigest_15 : decode cX6_comesToDigest 15 = .ok (.getfield 92, 3) := by decide +kernel
def sgX6_comesToDigest_18_40916 : List Instr := [.iload 4, .iconst 1]
theorem sgX6_comesToDigest_18_40916d : am_dec cX6_comesToDigest 18 sgX6_comesToDigest_18_40916 = true := by decide +kernel
theorem dX6_comesToDigest_21 : decode cX6_comesToDigest 21 = .ok (.bastore, 1) := by decide +kernel
def sgX6_comesToDigest_22_34db8 : List Instr := [.aload_n 0]
theorem sgX6_comesToDigest_22_34db8d : am_dec cX6_comesToDigest 22 sgX6_comesToDigest_22_34db8 = true := by decide +kernel
theorem dX6_comesToDigest_23 : decode cX6_comesToDigest 23 = .ok (.getfield 98, 3) := by decide +kernel
def sgX6_comesToDigest_26_01ce9 : List Instr := [.iload 4, .dup2]
theorem sgX6_comesToDigest_26_01ce9d : am_dec cX6_comesToDigest 26 sgX6_comesToDigest_26_01ce9 = true := by decide +kernel
theorem dX6_comesToDigest_29 : decode cX6_comesToDigest 29 = .ok (.iaload, 1) := by decide +kernel
def sgX6_comesToDigest_30_4473e : List Instr := [.iconst 1, .iload_n 3, .ishl, .ior]
theorem sgX6_comesToDigest_30_4473ed : am_dec cX6_comesToDigest 30 sgX6_comesToDigest_30_4473e = true := by decide +kernel
theorem dX6_comesToDigest_34 : decode cX6_comesToDigest 34 = .ok (.iastore, 1) := by decide +kernel
def sgX6_comesToDigest_35_34db8 : List Instr := [.aload_n 0]
theorem sgX6_comesToDigest_35_34db8d : am_dec cX6_comesToDigest 35 sgX6_comesToDigest_35_34db8 = true := by decide +kernel
theorem dX6_comesToDigest_36 : decode cX6_comesToDigest 36 = .ok (.getfield 71, 3) := by decide +kernel
def sgX6_comesToDigest_39_563cd : List Instr := [.iload_n 1, .dup2]
theorem sgX6_comesToDigest_39_563cdd : am_dec cX6_comesToDigest 39 sgX6_comesToDigest_39_563cd = true := by decide +kernel
theorem dX6_comesToDigest_41 : decode cX6_comesToDigest 41 = .ok (.iaload, 1) := by decide +kernel
def sgX6_comesToDigest_42_4473e : List Instr := [.iconst 1, .iload_n 3, .ishl, .ior]
theorem sgX6_comesToDigest_42_4473ed : am_dec cX6_comesToDigest 42 sgX6_comesToDigest_42_4473e = true := by decide +kernel
theorem dX6_comesToDigest_46 : decode cX6_comesToDigest 46 = .ok (.iastore, 1) := by decide +kernel
def sgX6_comesToDigest_47_34db8 : List Instr := [.aload_n 0]
theorem sgX6_comesToDigest_47_34db8d : am_dec cX6_comesToDigest 47 sgX6_comesToDigest_47_34db8 = true := by decide +kernel
theorem dX6_comesToDigest_48 : decode cX6_comesToDigest 48 = .ok (.getfield 89, 3) := by decide +kernel
def sgX6_comesToDigest_51_afa86 : List Instr := [.bipush 10, .iload_n 1, .imul, .iload_n 2, .iadd]
theorem sgX6_comesToDigest_51_afa86d : am_dec cX6_comesToDigest 51 sgX6_comesToDigest_51_afa86 = true := by decide +kernel
theorem dX6_comesToDigest_57 : decode cX6_comesToDigest 57 = .ok (.baload, 1) := by decide +kernel
theorem dX6_comesToDigest_58 : decode cX6_comesToDigest 58 = .ok (.ifCond .ne 52, 3) := by decide +kernel
def sgX6_comesToDigest_110_34db8 : List Instr := [.aload_n 0]
theorem sgX6_comesToDigest_110_34db8d : am_dec cX6_comesToDigest 110 sgX6_comesToDigest_110_34db8 = true := by decide +kernel
theorem dX6_comesToDigest_111 : decode cX6_comesToDigest 111 = .ok (.getfield 89, 3) := by decide +kernel
def sgX6_comesToDigest_114_e8b24 : List Instr := [.bipush 10, .iload_n 1, .imul, .iload_n 2, .iadd, .iconst 1]
theorem sgX6_comesToDigest_114_e8b24d : am_dec cX6_comesToDigest 114 sgX6_comesToDigest_114_e8b24 = true := by decide +kernel
theorem dX6_comesToDigest_121 : decode cX6_comesToDigest 121 = .ok (.bastore, 1) := by decide +kernel
theorem dX6_comesToDigest_122 : decode cX6_comesToDigest 122 = .ok (.return_, 1) := by decide +kernel
def sgX6_comesToDigest_61_34db8 : List Instr := [.aload_n 0]
theorem sgX6_comesToDigest_61_34db8d : am_dec cX6_comesToDigest 61 sgX6_comesToDigest_61_34db8 = true := by decide +kernel
theorem dX6_comesToDigest_62 : decode cX6_comesToDigest 62 = .ok (.getfield 56, 3) := by decide +kernel
def sgX6_comesToDigest_65_840bf : List Instr := [.iload_n 1]
theorem sgX6_comesToDigest_65_840bfd : am_dec cX6_comesToDigest 65 sgX6_comesToDigest_65_840bf = true := by decide +kernel
theorem dX6_comesToDigest_66 : decode cX6_comesToDigest 66 = .ok (.iaload, 1) := by decide +kernel
def sgX6_comesToDigest_67_34db8 : List Instr := [.aload_n 0]
theorem sgX6_comesToDigest_67_34db8d : am_dec cX6_comesToDigest 67 sgX6_comesToDigest_67_34db8 = true := by decide +kernel
theorem dX6_comesToDigest_68 : decode cX6_comesToDigest 68 = .ok (.getfield 147, 3) := by decide +kernel
theorem dX6_comesToDigest_71 : decode cX6_comesToDigest 71 = .ok (.if_icmp .ge 39, 3) := by decide +kernel
def sgX6_comesToDigest_74_34db8 : List Instr := [.aload_n 0]
theorem sgX6_comesToDigest_74_34db8d : am_dec cX6_comesToDigest 74 sgX6_comesToDigest_74_34db8 = true := by decide +kernel
theorem dX6_comesToDigest_75 : decode cX6_comesToDigest 75 = .ok (.getfield 101, 3) := by decide +kernel
def sgX6_comesToDigest_78_c6742 : List Instr := [.iload 4]
theorem sgX6_comesToDigest_78_c6742d : am_dec cX6_comesToDigest 78 sgX6_comesToDigest_78_c6742 = true := by decide +kernel
theorem dX6_comesToDigest_80 : decode cX6_comesToDigest 80 = .ok (.iaload, 1) := by decide +kernel
def sgX6_comesToDigest_81_34db8 : List Instr := [.aload_n 0]
theorem sgX6_comesToDigest_81_34db8d : am_dec cX6_comesToDigest 81 sgX6_comesToDigest_81_34db8 = true := by decide +kernel
theorem dX6_comesToDigest_82 : decode cX6_comesToDigest 82 = .ok (.getfield 150, 3) := by decide +kernel
theorem dX6_comesToDigest_85 : decode cX6_comesToDigest 85 = .ok (.if_icmp .eq 25, 3) := by decide +kernel
def sgX6_comesToDigest_88_34db8 : List Instr := [.aload_n 0]
theorem sgX6_comesToDigest_88_34db8d : am_dec cX6_comesToDigest 88 sgX6_comesToDigest_88_34db8 = true := by decide +kernel
theorem dX6_comesToDigest_89 : decode cX6_comesToDigest 89 = .ok (.getfield 95, 3) := by decide +kernel
def sgX6_comesToDigest_92_01ce9 : List Instr := [.iload 4, .dup2]
theorem sgX6_comesToDigest_92_01ce9d : am_dec cX6_comesToDigest 92 sgX6_comesToDigest_92_01ce9 = true := by decide +kernel
theorem dX6_comesToDigest_95 : decode cX6_comesToDigest 95 = .ok (.iaload, 1) := by decide +kernel
def sgX6_comesToDigest_96_c7176 : List Instr := [.iconst 1, .iadd]
theorem sgX6_comesToDigest_96_c7176d : am_dec cX6_comesToDigest 96 sgX6_comesToDigest_96_c7176 = true := by decide +kernel
theorem dX6_comesToDigest_98 : decode cX6_comesToDigest 98 = .ok (.iastore, 1) := by decide +kernel
def sgX6_comesToDigest_99_34db8 : List Instr := [.aload_n 0]
theorem sgX6_comesToDigest_99_34db8d : am_dec cX6_comesToDigest 99 sgX6_comesToDigest_99_34db8 = true := by decide +kernel
theorem dX6_comesToDigest_100 : decode cX6_comesToDigest 100 = .ok (.getfield 101, 3) := by decide +kernel
def sgX6_comesToDigest_103_49a24 : List Instr := [.iload 4, .aload_n 0]
theorem sgX6_comesToDigest_103_49a24d : am_dec cX6_comesToDigest 103 sgX6_comesToDigest_103_49a24 = true := by decide +kernel
theorem dX6_comesToDigest_106 : decode cX6_comesToDigest 106 = .ok (.getfield 150, 3) := by decide +kernel
theorem dX6_comesToDigest_109 : decode cX6_comesToDigest 109 = .ok (.iastore, 1) := by decide +kernel
def sgX6_scoreOf_0_34db8 : List Instr := [.aload_n 0]
theorem sgX6_scoreOf_0_34db8d : am_dec cX6_scoreOf 0 sgX6_scoreOf_0_34db8 = true := by decide +kernel
theorem dX6_scoreOf_1 : decode cX6_scoreOf 1 = .ok (.getfield 13, 3) := by decide +kernel
def sgX6_scoreOf_4_840bf : List Instr := [.iload_n 1]
theorem sgX6_scoreOf_4_840bfd : am_dec cX6_scoreOf 4 sgX6_scoreOf_4_840bf = true := by decide +kernel
theorem dX6_scoreOf_5 : decode cX6_scoreOf 5 = .ok (.iaload, 1) := by decide +kernel
def sgX6_scoreOf_6_06618 : List Instr := [.istore 4, .iconst 0, .istore 5]
theorem sgX6_scoreOf_6_06618d : am_dec cX6_scoreOf 6 sgX6_scoreOf_6_06618 = true := by decide +kernel
def sgX6_scoreOf_11_ea47b : List Instr := [.iload 5, .bipush 20]
theorem sgX6_scoreOf_11_ea47bd : am_dec cX6_scoreOf 11 sgX6_scoreOf_11_ea47b = true := by decide +kernel
theorem dX6_scoreOf_15 : decode cX6_scoreOf 15 = .ok (.if_icmp .ge 35, 3) := by decide +kernel
def sgX6_scoreOf_50_d9665 : List Instr := [.iconst 0, .istore 5]
theorem sgX6_scoreOf_50_d9665d : am_dec cX6_scoreOf 50 sgX6_scoreOf_50_d9665 = true := by decide +kernel
def sgX6_scoreOf_53_e57aa : List Instr := [.iload 5, .aload_n 0]
theorem sgX6_scoreOf_53_e57aad : am_dec cX6_scoreOf 53 sgX6_scoreOf_53_e57aa = true := by decide +kernel
theorem dX6_scoreOf_56 : decode cX6_scoreOf 56 = .ok (.getfield 115, 3) := by decide +kernel
theorem dX6_scoreOf_59 : decode cX6_scoreOf 59 = .ok (.if_icmp .ge 44, 3) := by decide +kernel
def sgX6_scoreOf_103_8324a : List Instr := [.iload_n 3, .iconst (-1)]
theorem sgX6_scoreOf_103_8324ad : am_dec cX6_scoreOf 103 sgX6_scoreOf_103_8324a = true := by decide +kernel
theorem dX6_scoreOf_105 : decode cX6_scoreOf 105 = .ok (.if_icmp .eq 49, 3) := by decide +kernel
def sgX6_scoreOf_154_93f95 : List Instr := [.iconst 0, .istore 5, .iload 4, .iload 5]
theorem sgX6_scoreOf_154_93f95d : am_dec cX6_scoreOf 154 sgX6_scoreOf_154_93f95 = true := by decide +kernel
theorem dX6_scoreOf_161 : decode cX6_scoreOf 161 = .ok (.ifCond .eq 7, 3) := by decide +kernel
def sgX6_scoreOf_168_7f98f : List Instr := [.iconst 0, .isub]
theorem sgX6_scoreOf_168_7f98fd : am_dec cX6_scoreOf 168 sgX6_scoreOf_168_7f98f = true := by decide +kernel
theorem dX6_scoreOf_170 : decode cX6_scoreOf 170 = .ok (.ireturn, 1) := by decide +kernel
def sgX6_scoreOf_62_49a24 : List Instr := [.iload 4, .aload_n 0]
theorem sgX6_scoreOf_62_49a24d : am_dec cX6_scoreOf 62 sgX6_scoreOf_62_49a24 = true := by decide +kernel
theorem dX6_scoreOf_65 : decode cX6_scoreOf 65 = .ok (.getfield 50, 3) := by decide +kernel
def sgX6_scoreOf_68_9df92 : List Instr := [.iload 5]
theorem sgX6_scoreOf_68_9df92d : am_dec cX6_scoreOf 68 sgX6_scoreOf_68_9df92 = true := by decide +kernel
theorem dX6_scoreOf_70 : decode cX6_scoreOf 70 = .ok (.iaload, 1) := by decide +kernel
def sgX6_scoreOf_71_840bf : List Instr := [.iload_n 1]
theorem sgX6_scoreOf_71_840bfd : am_dec cX6_scoreOf 71 sgX6_scoreOf_71_840bf = true := by decide +kernel
theorem dX6_scoreOf_72 : decode cX6_scoreOf 72 = .ok (.if_icmp .ne 21, 3) := by decide +kernel
def sgX6_scoreOf_93_db923 : List Instr := [.iconst 0, .iadd, .istore 4, .iinc 5 1, .goto (-47)]
theorem sgX6_scoreOf_93_db923d : am_dec cX6_scoreOf 93 sgX6_scoreOf_93_db923 = true := by decide +kernel
def sgX6_scoreOf_75_34db8 : List Instr := [.aload_n 0]
theorem sgX6_scoreOf_75_34db8d : am_dec cX6_scoreOf 75 sgX6_scoreOf_75_34db8 = true := by decide +kernel
theorem dX6_scoreOf_76 : decode cX6_scoreOf 76 = .ok (.getfield 56, 3) := by decide +kernel
def sgX6_scoreOf_79_9df92 : List Instr := [.iload 5]
theorem sgX6_scoreOf_79_9df92d : am_dec cX6_scoreOf 79 sgX6_scoreOf_79_9df92 = true := by decide +kernel
theorem dX6_scoreOf_81 : decode cX6_scoreOf 81 = .ok (.iaload, 1) := by decide +kernel
def sgX6_scoreOf_82_34db8 : List Instr := [.aload_n 0]
theorem sgX6_scoreOf_82_34db8d : am_dec cX6_scoreOf 82 sgX6_scoreOf_82_34db8 = true := by decide +kernel
theorem dX6_scoreOf_83 : decode cX6_scoreOf 83 = .ok (.getfield 147, 3) := by decide +kernel
theorem dX6_scoreOf_86 : decode cX6_scoreOf 86 = .ok (.if_icmp .ne 7, 3) := by decide +kernel
def sgX6_scoreOf_89_f2611 : List Instr := [.iconst 1, .goto 4, .iadd, .istore 4, .iinc 5 1, .goto (-47)]
theorem sgX6_scoreOf_89_f2611d : am_dec cX6_scoreOf 89 sgX6_scoreOf_89_f2611 = true := by decide +kernel
def sgX6_scoreOf_18_0ca7e : List Instr := [.iload 4, .iload_n 2, .iload 5, .ishr, .iconst 1, .iand, .iconst 1]
theorem sgX6_scoreOf_18_0ca7ed : am_dec cX6_scoreOf 18 sgX6_scoreOf_18_0ca7e = true := by decide +kernel
theorem dX6_scoreOf_27 : decode cX6_scoreOf 27 = .ok (.if_icmp .ne 13, 3) := by decide +kernel
def sgX6_scoreOf_40_e2933 : List Instr := [.iconst 0, .iadd, .istore 4, .iinc 5 1, .goto (-36)]
theorem sgX6_scoreOf_40_e2933d : am_dec cX6_scoreOf 40 sgX6_scoreOf_40_e2933 = true := by decide +kernel
def sgX6_scoreOf_30_34db8 : List Instr := [.aload_n 0]
theorem sgX6_scoreOf_30_34db8d : am_dec cX6_scoreOf 30 sgX6_scoreOf_30_34db8 = true := by decide +kernel
theorem dX6_scoreOf_31 : decode cX6_scoreOf 31 = .ok (.getfield 7, 3) := by decide +kernel
def sgX6_scoreOf_34_9df92 : List Instr := [.iload 5]
theorem sgX6_scoreOf_34_9df92d : am_dec cX6_scoreOf 34 sgX6_scoreOf_34_9df92 = true := by decide +kernel
theorem dX6_scoreOf_36 : decode cX6_scoreOf 36 = .ok (.iaload, 1) := by decide +kernel
def sgX6_scoreOf_37_85052 : List Instr := [.goto 4, .iadd, .istore 4, .iinc 5 1, .goto (-36)]
theorem sgX6_scoreOf_37_85052d : am_dec cX6_scoreOf 37 sgX6_scoreOf_37_85052 = true := by decide +kernel
def sgX6_scoreOf_108_34db8 : List Instr := [.aload_n 0]
theorem sgX6_scoreOf_108_34db8d : am_dec cX6_scoreOf 108 sgX6_scoreOf_108_34db8 = true := by decide +kernel
theorem dX6_scoreOf_109 : decode cX6_scoreOf 109 = .ok (.getfield 50, 3) := by decide +kernel
def sgX6_scoreOf_112_8324a : List Instr := [.iload_n 3, .iconst (-1)]
theorem sgX6_scoreOf_112_8324ad : am_dec cX6_scoreOf 112 sgX6_scoreOf_112_8324a = true := by decide +kernel
theorem dX6_scoreOf_114 : decode cX6_scoreOf 114 = .ok (.if_icmp .ne 7, 3) := by decide +kernel
def sgX6_scoreOf_121_13b50 : List Instr := [.iload_n 3]
theorem sgX6_scoreOf_121_13b50d : am_dec cX6_scoreOf 121 sgX6_scoreOf_121_13b50 = true := by decide +kernel
theorem dX6_scoreOf_122 : decode cX6_scoreOf 122 = .ok (.iaload, 1) := by decide +kernel
def sgX6_scoreOf_123_840bf : List Instr := [.iload_n 1]
theorem sgX6_scoreOf_123_840bfd : am_dec cX6_scoreOf 123 sgX6_scoreOf_123_840bf = true := by decide +kernel
theorem dX6_scoreOf_124 : decode cX6_scoreOf 124 = .ok (.if_icmp .eq 26, 3) := by decide +kernel
def sgX6_scoreOf_150_1f015 : List Instr := [.iconst 1, .goto 4, .istore 5, .iload 4, .iload 5]
theorem sgX6_scoreOf_150_1f015d : am_dec cX6_scoreOf 150 sgX6_scoreOf_150_1f015 = true := by decide +kernel
def sgX6_scoreOf_164_b5ffe : List Instr := [.iconst 3, .goto 4, .isub]
theorem sgX6_scoreOf_164_b5ffed : am_dec cX6_scoreOf 164 sgX6_scoreOf_164_b5ffe = true := by decide +kernel
def sgX6_scoreOf_127_34db8 : List Instr := [.aload_n 0]
theorem sgX6_scoreOf_127_34db8d : am_dec cX6_scoreOf 127 sgX6_scoreOf_127_34db8 = true := by decide +kernel
theorem dX6_scoreOf_128 : decode cX6_scoreOf 128 = .ok (.getfield 71, 3) := by decide +kernel
def sgX6_scoreOf_131_8324a : List Instr := [.iload_n 3, .iconst (-1)]
theorem sgX6_scoreOf_131_8324ad : am_dec cX6_scoreOf 131 sgX6_scoreOf_131_8324a = true := by decide +kernel
theorem dX6_scoreOf_133 : decode cX6_scoreOf 133 = .ok (.if_icmp .ne 7, 3) := by decide +kernel
def sgX6_scoreOf_140_13b50 : List Instr := [.iload_n 3]
theorem sgX6_scoreOf_140_13b50d : am_dec cX6_scoreOf 140 sgX6_scoreOf_140_13b50 = true := by decide +kernel
theorem dX6_scoreOf_141 : decode cX6_scoreOf 141 = .ok (.iaload, 1) := by decide +kernel
def sgX6_scoreOf_142_43adf : List Instr := [.iload_n 1, .ishr, .iconst 1, .iand, .iconst 1]
theorem sgX6_scoreOf_142_43adfd : am_dec cX6_scoreOf 142 sgX6_scoreOf_142_43adf = true := by decide +kernel
theorem dX6_scoreOf_147 : decode cX6_scoreOf 147 = .ok (.if_icmp .ne 7, 3) := by decide +kernel
def sgX6_causeOf_0_34db8 : List Instr := [.aload_n 0]
theorem sgX6_causeOf_0_34db8d : am_dec cX6_causeOf 0 sgX6_causeOf_0_34db8 = true := by decide +kernel
theorem dX6_causeOf_1 : decode cX6_causeOf 1 = .ok (.getfield 41, 3) := by decide +kernel
def sgX6_causeOf_4_f8a59 : List Instr := [.iload_n 2]
theorem sgX6_causeOf_4_f8a59d : am_dec cX6_causeOf 4 sgX6_causeOf_4_f8a59 = true := by decide +kernel
theorem dX6_causeOf_5 : decode cX6_causeOf 5 = .ok (.iaload, 1) := by decide +kernel
def sgX6_causeOf_6_43adf : List Instr := [.iload_n 1, .ishr, .iconst 1, .iand, .iconst 1]
theorem sgX6_causeOf_6_43adfd : am_dec cX6_causeOf 6 sgX6_causeOf_6_43adf = true := by decide +kernel
theorem dX6_causeOf_11 : decode cX6_causeOf 11 = .ok (.if_icmp .ne 5, 3) := by decide +kernel
def sgX6_causeOf_16_34db8 : List Instr := [.aload_n 0]
theorem sgX6_causeOf_16_34db8d : am_dec cX6_causeOf 16 sgX6_causeOf_16_34db8 = true := by decide +kernel
theorem dX6_causeOf_17 : decode cX6_causeOf 17 = .ok (.getfield 37, 3) := by decide +kernel
def sgX6_causeOf_20_f8a59 : List Instr := [.iload_n 2]
theorem sgX6_causeOf_20_f8a59d : am_dec cX6_causeOf 20 sgX6_causeOf_20_f8a59 = true := by decide +kernel
theorem dX6_causeOf_21 : decode cX6_causeOf 21 = .ok (.baload, 1) := by decide +kernel
theorem dX6_causeOf_22 : decode cX6_causeOf 22 = .ok (.ifCond .eq 17, 3) := by decide +kernel
def sgX6_causeOf_39_a1b5b : List Instr := [.iload_n 3, .aload_n 0]
theorem sgX6_causeOf_39_a1b5bd : am_dec cX6_causeOf 39 sgX6_causeOf_39_a1b5b = true := by decide +kernel
theorem dX6_causeOf_41 : decode cX6_causeOf 41 = .ok (.getfield 31, 3) := by decide +kernel
def sgX6_causeOf_44_f8a59 : List Instr := [.iload_n 2]
theorem sgX6_causeOf_44_f8a59d : am_dec cX6_causeOf 44 sgX6_causeOf_44_f8a59 = true := by decide +kernel
theorem dX6_causeOf_45 : decode cX6_causeOf 45 = .ok (.iaload, 1) := by decide +kernel
theorem dX6_causeOf_46 : decode cX6_causeOf 46 = .ok (.if_icmp .lt 7, 3) := by decide +kernel
def sgX6_causeOf_53_5ff24 : List Instr := [.iconst (-1)]
theorem sgX6_causeOf_53_5ff24d : am_dec cX6_causeOf 53 sgX6_causeOf_53_5ff24 = true := by decide +kernel
theorem dX6_causeOf_54 : decode cX6_causeOf 54 = .ok (.ireturn, 1) := by decide +kernel
def sgX6_causeOf_49_abe91 : List Instr := [.iconst 2, .goto 4]
theorem sgX6_causeOf_49_abe91d : am_dec cX6_causeOf 49 sgX6_causeOf_49_abe91 = true := by decide +kernel
def sgX6_causeOf_25_78e74 : List Instr := [.aload_n 0, .iload_n 2]
theorem sgX6_causeOf_25_78e74d : am_dec cX6_causeOf 25 sgX6_causeOf_25_78e74 = true := by decide +kernel
theorem dX6_causeOf_27 : decode cX6_causeOf 27 = .ok (.invokevirtual 136, 3) := by decide +kernel
def sgX6_causeOf_30_59d23 : List Instr := [.iload_n 1, .ishr, .iconst 1, .iand]
theorem sgX6_causeOf_30_59d23d : am_dec cX6_causeOf 30 sgX6_causeOf_30_59d23 = true := by decide +kernel
theorem dX6_causeOf_34 : decode cX6_causeOf 34 = .ok (.ifCond .ne 5, 3) := by decide +kernel
def sgX6_causeOf_37_4de0a : List Instr := [.iconst 1]
theorem sgX6_causeOf_37_4de0ad : am_dec cX6_causeOf 37 sgX6_causeOf_37_4de0a = true := by decide +kernel
theorem dX6_causeOf_38 : decode cX6_causeOf 38 = .ok (.ireturn, 1) := by decide +kernel
def sgX6_causeOf_14_56c54 : List Instr := [.iconst 0]
theorem sgX6_causeOf_14_56c54d : am_dec cX6_causeOf 14 sgX6_causeOf_14_56c54 = true := by decide +kernel
theorem dX6_causeOf_15 : decode cX6_causeOf 15 = .ok (.ireturn, 1) := by decide +kernel
def sgX6_canJudge_0_1e911 : List Instr := [.iconst 0, .istore_n 3, .iconst 0, .istore 4]
theorem sgX6_canJudge_0_1e911d : am_dec cX6_canJudge 0 sgX6_canJudge_0_1e911 = true := by decide +kernel
def sgX6_canJudge_5_49a24 : List Instr := [.iload 4, .aload_n 0]
theorem sgX6_canJudge_5_49a24d : am_dec cX6_canJudge 5 sgX6_canJudge_5_49a24 = true := by decide +kernel
theorem dX6_canJudge_8 : decode cX6_canJudge 8 = .ok (.getfield 112, 3) := by decide +kernel
theorem dX6_canJudge_11 : decode cX6_canJudge 11 = .ok (.if_icmp .ge 30, 3) := by decide +kernel
def sgX6_canJudge_41_13b50 : List Instr := [.iload_n 3]
theorem sgX6_canJudge_41_13b50d : am_dec cX6_canJudge 41 sgX6_canJudge_41_13b50 = true := by decide +kernel
theorem dX6_canJudge_42 : decode cX6_canJudge 42 = .ok (.ifCond .eq 32, 3) := by decide +kernel
def sgX6_canJudge_74_56c54 : List Instr := [.iconst 0]
theorem sgX6_canJudge_74_56c54d : am_dec cX6_canJudge 74 sgX6_canJudge_74_56c54 = true := by decide +kernel
theorem dX6_canJudge_75 : decode cX6_canJudge 75 = .ok (.ireturn, 1) := by decide +kernel
def sgX6_canJudge_45_14491 : List Instr := [.iload_n 2, .aload_n 0]
theorem sgX6_canJudge_45_14491d : am_dec cX6_canJudge 45 sgX6_canJudge_45_14491 = true := by decide +kernel
theorem dX6_canJudge_47 : decode cX6_canJudge 47 = .ok (.getfield 50, 3) := by decide +kernel
def sgX6_canJudge_50_840bf : List Instr := [.iload_n 1]
theorem sgX6_canJudge_50_840bfd : am_dec cX6_canJudge 50 sgX6_canJudge_50_840bf = true := by decide +kernel
theorem dX6_canJudge_51 : decode cX6_canJudge 51 = .ok (.iaload, 1) := by decide +kernel
theorem dX6_canJudge_52 : decode cX6_canJudge 52 = .ok (.if_icmp .eq 22, 3) := by decide +kernel
def sgX6_canJudge_55_14491 : List Instr := [.iload_n 2, .aload_n 0]
theorem sgX6_canJudge_55_14491d : am_dec cX6_canJudge 55 sgX6_canJudge_55_14491 = true := by decide +kernel
theorem dX6_canJudge_57 : decode cX6_canJudge 57 = .ok (.getfield 28, 3) := by decide +kernel
def sgX6_canJudge_60_34db8 : List Instr := [.aload_n 0]
theorem sgX6_canJudge_60_34db8d : am_dec cX6_canJudge 60 sgX6_canJudge_60_34db8 = true := by decide +kernel
theorem dX6_canJudge_61 : decode cX6_canJudge 61 = .ok (.getfield 53, 3) := by decide +kernel
def sgX6_canJudge_64_840bf : List Instr := [.iload_n 1]
theorem sgX6_canJudge_64_840bfd : am_dec cX6_canJudge 64 sgX6_canJudge_64_840bf = true := by decide +kernel
theorem dX6_canJudge_65 : decode cX6_canJudge 65 = .ok (.iaload, 1) := by decide +kernel
theorem dX6_canJudge_66 : decode cX6_canJudge 66 = .ok (.iaload, 1) := by decide +kernel
theorem dX6_canJudge_67 : decode cX6_canJudge 67 = .ok (.if_icmp .eq 7, 3) := by decide +kernel
def sgX6_canJudge_70_1c64c : List Instr := [.iconst 1, .goto 4]
theorem sgX6_canJudge_70_1c64cd : am_dec cX6_canJudge 70 sgX6_canJudge_70_1c64c = true := by decide +kernel
def sgX6_canJudge_14_13b50 : List Instr := [.iload_n 3]
theorem sgX6_canJudge_14_13b50d : am_dec cX6_canJudge 14 sgX6_canJudge_14_13b50 = true := by decide +kernel
theorem dX6_canJudge_15 : decode cX6_canJudge 15 = .ok (.ifCond .ne 14, 3) := by decide +kernel
def sgX6_canJudge_29_2a01b : List Instr := [.iconst 1, .goto 4, .istore_n 3, .iinc 4 1, .goto (-33)]
theorem sgX6_canJudge_29_2a01bd : am_dec cX6_canJudge 29 sgX6_canJudge_29_2a01b = true := by decide +kernel
def sgX6_canJudge_18_34db8 : List Instr := [.aload_n 0]
theorem sgX6_canJudge_18_34db8d : am_dec cX6_canJudge 18 sgX6_canJudge_18_34db8 = true := by decide +kernel
theorem dX6_canJudge_19 : decode cX6_canJudge 19 = .ok (.getfield 28, 3) := by decide +kernel
def sgX6_canJudge_22_c6742 : List Instr := [.iload 4]
theorem sgX6_canJudge_22_c6742d : am_dec cX6_canJudge 22 sgX6_canJudge_22_c6742 = true := by decide +kernel
theorem dX6_canJudge_24 : decode cX6_canJudge 24 = .ok (.iaload, 1) := by decide +kernel
def sgX6_canJudge_25_f8a59 : List Instr := [.iload_n 2]
theorem sgX6_canJudge_25_f8a59d : am_dec cX6_canJudge 25 sgX6_canJudge_25_f8a59 = true := by decide +kernel
theorem dX6_canJudge_26 : decode cX6_canJudge 26 = .ok (.if_icmp .ne 7, 3) := by decide +kernel
def sgX6_canJudge_33_e1e62 : List Instr := [.iconst 0, .istore_n 3, .iinc 4 1, .goto (-33)]
theorem sgX6_canJudge_33_e1e62d : am_dec cX6_canJudge 33 sgX6_canJudge_33_e1e62 = true := by decide +kernel
theorem pk_nm1 {a : Nat} (h : a < 2 ^ 31) : ¬ nI a = -1 := fun e => nI_pos h (by rw [e]; decide)
set_option maxRecDepth 100000 in
set_option maxHeartbeats 4000000 in
theorem c_isPerson_t {G : am_S} {X : am_H} {x : Int32} {p : Nat} (hp9 : p < 16) (hx : x = nI p) : am_D G yX6_isPerson (.code yX6_isPerson cX6_isPerson 1 (some .boolean) :: am_G) { frames := 1, cells := 0, slots := 0, locals := 22 } X [.int x] X (some (.int 1)) := by
  refine am_of (by decide +kernel) (Nat.le_of_ble_eq_true rfl) ?_
  intro C hse hret hname hF hO
  subst hse
  refine am_go hF sgX6_isPerson_0_63447 4 [(0, .int x)] [.int 15, .int 0, .int x] sgX6_isPerson_0_63447d rfl ?_
  refine am_dS hF hO [.int x, .int 0, .int 15] [] (c_isIn) myX6_isIn syX6_isIn lm_RX6_108 rfl 0 0 ⟨Nat.le_of_ble_eq_true rfl, Nat.le_of_ble_eq_true rfl⟩ ⟨Nat.le_of_ble_eq_true rfl, Nat.le_of_ble_eq_true rfl, Nat.le_of_ble_eq_true rfl, Nat.le_of_ble_eq_true rfl⟩ rfl (am_lv_int am_lv_nil) (Nat.le_of_ble_eq_true rfl) dX6_isPerson_4 [.int (if x < 0 then 0 else if 15 < x then 0 else 1)] rfl ?_
  refine am_top 1 (ix_in (n := 16) (by decide) hp9 hx) ?_
  exact am_iret hF hO hret rfl dX6_isPerson_7 ⟨rfl, rfl⟩
set_option maxRecDepth 100000 in
set_option maxHeartbeats 4000000 in
theorem c_isPerson_f {G : am_S} {X : am_H} {x : Int32} (hx : x < 0 ∨ nI 16 ≤ x) : am_D G yX6_isPerson (.code yX6_isPerson cX6_isPerson 1 (some .boolean) :: am_G) { frames := 1, cells := 0, slots := 0, locals := 22 } X [.int x] X (some (.int 0)) := by
  refine am_of (by decide +kernel) (Nat.le_of_ble_eq_true rfl) ?_
  intro C hse hret hname hF hO
  subst hse
  refine am_go hF sgX6_isPerson_0_63447 4 [(0, .int x)] [.int 15, .int 0, .int x] sgX6_isPerson_0_63447d rfl ?_
  refine am_dS hF hO [.int x, .int 0, .int 15] [] (c_isIn) myX6_isIn syX6_isIn lm_RX6_108 rfl 0 0 ⟨Nat.le_of_ble_eq_true rfl, Nat.le_of_ble_eq_true rfl⟩ ⟨Nat.le_of_ble_eq_true rfl, Nat.le_of_ble_eq_true rfl, Nat.le_of_ble_eq_true rfl, Nat.le_of_ble_eq_true rfl⟩ rfl (am_lv_int am_lv_nil) (Nat.le_of_ble_eq_true rfl) dX6_isPerson_4 [.int (if x < 0 then 0 else if 15 < x then 0 else 1)] rfl ?_
  refine am_top 0 (ix_out (n := 16) (by decide) hx) ?_
  exact am_iret hF hO hret rfl dX6_isPerson_7 ⟨rfl, rfl⟩
set_option maxRecDepth 100000 in
set_option maxHeartbeats 4000000 in
theorem c_isList_t {G : am_S} {T S : am_T} {o : Nat → Int64} {n : Nat} (hn : S 9 0 = nI n) (hn10 : n ≤ 10) {x : Int32} {j : Nat} (hj : j < n) (hx : x = nI j) : am_D G yX6_isList (.code yX6_isList cX6_isList 2 (some .boolean) :: am_G) { frames := 1, cells := 0, slots := 0, locals := 22 } (hp T S o) [.ref 465, .int x] (hp T S o) (some (.int 1)) := by
  refine am_of (by decide +kernel) (Nat.le_of_ble_eq_true rfl) ?_
  intro C hse hret hname hF hO
  subst hse
  refine am_go hF sgX6_isList_0_fca3e 3 [(0, .ref 465), (1, .int x)] [.ref 465, .int 0, .int x] sgX6_isList_0_fca3ed rfl ?_
  refine sv_get hF 9 (by decide) rfl lf_RX6_112 (.int (S 9 0)) rfl dX6_isList_3 ?_
  refine am_top (nI n) hn ?_
  refine am_go hF sgX6_isList_6_d80e0 8 [(0, .ref 465), (1, .int x)] [.int ((nI n) - 1), .int 0, .int x] sgX6_isList_6_d80e0d rfl ?_
  refine am_dS hF hO [.int x, .int 0, .int ((nI n) - 1)] [] (c_isIn) myX6_isIn syX6_isIn lm_RX6_108 rfl 0 0 ⟨Nat.le_of_ble_eq_true rfl, Nat.le_of_ble_eq_true rfl⟩ ⟨Nat.le_of_ble_eq_true rfl, Nat.le_of_ble_eq_true rfl, Nat.le_of_ble_eq_true rfl, Nat.le_of_ble_eq_true rfl⟩ rfl (am_lv_ref (hp_m _ _ _) (am_lv_int am_lv_nil)) (Nat.le_of_ble_eq_true rfl) dX6_isList_8 [.int (if x < 0 then 0 else if (nI n) - 1 < x then 0 else 1)] rfl ?_
  refine am_top 1 (ix_in (by omega) hj hx) ?_
  exact am_iret hF hO hret rfl dX6_isList_11 ⟨rfl, rfl⟩
set_option maxRecDepth 100000 in
set_option maxHeartbeats 4000000 in
theorem c_isList_f {G : am_S} {T S : am_T} {o : Nat → Int64} {n : Nat} (hn : S 9 0 = nI n) (hn10 : n ≤ 10) {x : Int32} (hx : x < 0 ∨ nI n ≤ x) : am_D G yX6_isList (.code yX6_isList cX6_isList 2 (some .boolean) :: am_G) { frames := 1, cells := 0, slots := 0, locals := 22 } (hp T S o) [.ref 465, .int x] (hp T S o) (some (.int 0)) := by
  refine am_of (by decide +kernel) (Nat.le_of_ble_eq_true rfl) ?_
  intro C hse hret hname hF hO
  subst hse
  refine am_go hF sgX6_isList_0_fca3e 3 [(0, .ref 465), (1, .int x)] [.ref 465, .int 0, .int x] sgX6_isList_0_fca3ed rfl ?_
  refine sv_get hF 9 (by decide) rfl lf_RX6_112 (.int (S 9 0)) rfl dX6_isList_3 ?_
  refine am_top (nI n) hn ?_
  refine am_go hF sgX6_isList_6_d80e0 8 [(0, .ref 465), (1, .int x)] [.int ((nI n) - 1), .int 0, .int x] sgX6_isList_6_d80e0d rfl ?_
  refine am_dS hF hO [.int x, .int 0, .int ((nI n) - 1)] [] (c_isIn) myX6_isIn syX6_isIn lm_RX6_108 rfl 0 0 ⟨Nat.le_of_ble_eq_true rfl, Nat.le_of_ble_eq_true rfl⟩ ⟨Nat.le_of_ble_eq_true rfl, Nat.le_of_ble_eq_true rfl, Nat.le_of_ble_eq_true rfl, Nat.le_of_ble_eq_true rfl⟩ rfl (am_lv_ref (hp_m _ _ _) (am_lv_int am_lv_nil)) (Nat.le_of_ble_eq_true rfl) dX6_isList_8 [.int (if x < 0 then 0 else if (nI n) - 1 < x then 0 else 1)] rfl ?_
  refine am_top 0 (ix_out (by omega) hx) ?_
  exact am_iret hF hO hret rfl dX6_isList_11 ⟨rfl, rfl⟩
set_option maxRecDepth 100000 in
set_option maxHeartbeats 4000000 in
theorem c_isMail_t {G : am_S} {T S : am_T} {o : Nat → Int64} {m : Nat} (hn : S 17 0 = nI m) (hn10 : m ≤ 80) {x : Int32} {j : Nat} (hj : j < m) (hx : x = nI j) : am_D G yX6_isMail (.code yX6_isMail cX6_isMail 2 (some .boolean) :: am_G) { frames := 1, cells := 0, slots := 0, locals := 22 } (hp T S o) [.ref 465, .int x] (hp T S o) (some (.int 1)) := by
  refine am_of (by decide +kernel) (Nat.le_of_ble_eq_true rfl) ?_
  intro C hse hret hname hF hO
  subst hse
  refine am_go hF sgX6_isMail_0_fca3e 3 [(0, .ref 465), (1, .int x)] [.ref 465, .int 0, .int x] sgX6_isMail_0_fca3ed rfl ?_
  refine sv_get hF 17 (by decide) rfl lf_RX6_115 (.int (S 17 0)) rfl dX6_isMail_3 ?_
  refine am_top (nI m) hn ?_
  refine am_go hF sgX6_isMail_6_d80e0 8 [(0, .ref 465), (1, .int x)] [.int ((nI m) - 1), .int 0, .int x] sgX6_isMail_6_d80e0d rfl ?_
  refine am_dS hF hO [.int x, .int 0, .int ((nI m) - 1)] [] (c_isIn) myX6_isIn syX6_isIn lm_RX6_108 rfl 0 0 ⟨Nat.le_of_ble_eq_true rfl, Nat.le_of_ble_eq_true rfl⟩ ⟨Nat.le_of_ble_eq_true rfl, Nat.le_of_ble_eq_true rfl, Nat.le_of_ble_eq_true rfl, Nat.le_of_ble_eq_true rfl⟩ rfl (am_lv_ref (hp_m _ _ _) (am_lv_int am_lv_nil)) (Nat.le_of_ble_eq_true rfl) dX6_isMail_8 [.int (if x < 0 then 0 else if (nI m) - 1 < x then 0 else 1)] rfl ?_
  refine am_top 1 (ix_in (by omega) hj hx) ?_
  exact am_iret hF hO hret rfl dX6_isMail_11 ⟨rfl, rfl⟩
set_option maxRecDepth 100000 in
set_option maxHeartbeats 4000000 in
theorem c_isMail_f {G : am_S} {T S : am_T} {o : Nat → Int64} {m : Nat} (hn : S 17 0 = nI m) (hn10 : m ≤ 80) {x : Int32} (hx : x < 0 ∨ nI m ≤ x) : am_D G yX6_isMail (.code yX6_isMail cX6_isMail 2 (some .boolean) :: am_G) { frames := 1, cells := 0, slots := 0, locals := 22 } (hp T S o) [.ref 465, .int x] (hp T S o) (some (.int 0)) := by
  refine am_of (by decide +kernel) (Nat.le_of_ble_eq_true rfl) ?_
  intro C hse hret hname hF hO
  subst hse
  refine am_go hF sgX6_isMail_0_fca3e 3 [(0, .ref 465), (1, .int x)] [.ref 465, .int 0, .int x] sgX6_isMail_0_fca3ed rfl ?_
  refine sv_get hF 17 (by decide) rfl lf_RX6_115 (.int (S 17 0)) rfl dX6_isMail_3 ?_
  refine am_top (nI m) hn ?_
  refine am_go hF sgX6_isMail_6_d80e0 8 [(0, .ref 465), (1, .int x)] [.int ((nI m) - 1), .int 0, .int x] sgX6_isMail_6_d80e0d rfl ?_
  refine am_dS hF hO [.int x, .int 0, .int ((nI m) - 1)] [] (c_isIn) myX6_isIn syX6_isIn lm_RX6_108 rfl 0 0 ⟨Nat.le_of_ble_eq_true rfl, Nat.le_of_ble_eq_true rfl⟩ ⟨Nat.le_of_ble_eq_true rfl, Nat.le_of_ble_eq_true rfl, Nat.le_of_ble_eq_true rfl, Nat.le_of_ble_eq_true rfl⟩ rfl (am_lv_ref (hp_m _ _ _) (am_lv_int am_lv_nil)) (Nat.le_of_ble_eq_true rfl) dX6_isMail_8 [.int (if x < 0 then 0 else if (nI m) - 1 < x then 0 else 1)] rfl ?_
  refine am_top 0 (ix_out (by omega) hx) ?_
  exact am_iret hF hO hret rfl dX6_isMail_11 ⟨rfl, rfl⟩
set_option maxRecDepth 100000 in
set_option maxHeartbeats 4000000 in
theorem c_membersOf {G : am_S} {T S : am_T} {o : Nat → Int64} {l : Nat} (hl : l < 10) : am_D G yX6_membersOf (.code yX6_membersOf cX6_membersOf 4 (some .int) :: am_G) { frames := 0, cells := 0, slots := 0, locals := 0 } (hp T S o) [.ref 465, .int (nI l)] (hp T S o) (some (.int (rCnt S l))) := by
  refine am_of (by decide +kernel) (Nat.le_of_ble_eq_true rfl) ?_
  intro C hse hret hname hF hO
  subst hse
  refine am_go hF sgX6_membersOf_0_24699 4 [(3, .int 0), (2, .int 0), (0, .ref 465), (1, .int (nI l))] [] sgX6_membersOf_0_24699d rfl ?_
  refine am_drop [2, 3, 1, 0] [(0, .ref 465), (1, .int (nI l)), (2, .int 0), (3, .int 0)] rfl ?_
  have lp4 : ∀ (d j : Nat) (a : Int32), j + d = 16 → a = itN (fun k a => a + (if S 16 (16 * l + k) = -1 then 0 else 1)) 0 j → am_W C (hp T S o) 0 0 4 [(0, .ref 465), (1, .int (nI l)), (2, .int a), (3, .int (nI j))] [] := by
    intro d
    induction d with
    | zero =>
      intro j a hj ha
      have e9j : j = 16 := by omega
      refine am_go hF sgX6_membersOf_4_b88ad 7 [(0, .ref 465), (1, .int (nI l)), (2, .int a), (3, .int (nI j))] [.int 16, .int (nI j)] sgX6_membersOf_4_b88add rfl ?_
      refine am_icmpge hF 39 dX6_membersOf_7 (by decide) (fun _ => ?_) (fun h9 => False.elim (absurd (nc_ge (show 16 ≤ j by omega) (by omega) (by omega) rfl rfl) h9))
      refine am_go hF sgX6_membersOf_39_f8a59 40 [(0, .ref 465), (1, .int (nI l)), (2, .int a), (3, .int (nI j))] [.int a] sgX6_membersOf_39_f8a59d rfl ?_
      exact am_iret hF hO hret rfl dX6_membersOf_40 ⟨rfl, (by first | (rw [ha, e9j]; done) | (rw [ha, e9j]; rfl))⟩
    | succ d ih4 =>
      intro j a hj ha
      have l9j : j < 16 := by omega
      refine am_go hF sgX6_membersOf_4_b88ad 7 [(0, .ref 465), (1, .int (nI l)), (2, .int a), (3, .int (nI j))] [.int 16, .int (nI j)] sgX6_membersOf_4_b88add rfl ?_
      refine am_icmpge hF 39 dX6_membersOf_7 (by decide) (fun h9 => False.elim (nc_lt_f (show j < 16 by omega) (by omega) (by omega) rfl rfl h9)) (fun _ => ?_)
      refine am_go hF sgX6_membersOf_10_14491 12 [(0, .ref 465), (1, .int (nI l)), (2, .int a), (3, .int (nI j))] [.ref 465, .int a] sgX6_membersOf_10_14491d rfl ?_
      refine sv_get hF 16 (by decide) rfl lf_RX6_47 (.ref 516) rfl dX6_membersOf_12 ?_
      refine am_go hF sgX6_membersOf_15_0ce03 21 [(0, .ref 465), (1, .int (nI l)), (2, .int a), (3, .int (nI j))] [.int ((16 * (nI l)) + (nI j)), .ref 516, .int a] sgX6_membersOf_15_0ce03d rfl ?_
      refine sv_iald hF 16 (by decide) ⟨rfl, rfl, by decide⟩ ((16 * l) + j) (am_ad (am_mu rfl rfl) rfl) (show (16 * l) + j < 160 by omega) dX6_membersOf_21 ?_
      refine am_go hF sgX6_membersOf_22_5ff24 23 [(0, .ref 465), (1, .int (nI l)), (2, .int a), (3, .int (nI j))] [.int (-1), .int (S 16 ((16 * l) + j)), .int a] sgX6_membersOf_22_5ff24d rfl ?_
      refine am_icmpne hF 30 dX6_membersOf_23 (by decide) (fun c3 => ?_) (fun c3 => ?_)
      · skip
        refine am_go hF sgX6_membersOf_30_71cb3 4 [(3, .int ((nI j) + 1)), (2, .int (a + 1)), (0, .ref 465), (1, .int (nI l))] [] sgX6_membersOf_30_71cb3d rfl ?_
        refine am_drop [2, 3, 1, 0] [(0, .ref 465), (1, .int (nI l)), (2, .int (a + 1)), (3, .int ((nI j) + 1))] rfl ?_
        refine am_eqL [(0, .ref 465), (1, .int (nI l)), (2, .int (a + 1)), (3, .int (nI (j + 1)))] (by rw [nI_1]) ?_
        exact ih4 (j + 1) (a + 1) (by omega) (by show _ = (itN (fun k a => a + (if S 16 (16 * l + k) = -1 then 0 else 1)) 0 j) + (if S 16 (16 * l + j) = -1 then 0 else 1); rw [← ha]; simp only [c3, ↓reduceIte])
      · skip
        refine am_go hF sgX6_membersOf_26_32ba1 4 [(3, .int ((nI j) + 1)), (2, .int (a + 0)), (0, .ref 465), (1, .int (nI l))] [] sgX6_membersOf_26_32ba1d rfl ?_
        refine am_drop [2, 3, 1, 0] [(0, .ref 465), (1, .int (nI l)), (2, .int (a + 0)), (3, .int ((nI j) + 1))] rfl ?_
        refine am_eqL [(0, .ref 465), (1, .int (nI l)), (2, .int (a + 0)), (3, .int (nI (j + 1)))] (by rw [nI_1]) ?_
        exact ih4 (j + 1) (a + 0) (by omega) (by show _ = (itN (fun k a => a + (if S 16 (16 * l + k) = -1 then 0 else 1)) 0 j) + (if S 16 (16 * l + j) = -1 then 0 else 1); rw [← ha]; simp only [(eq_true c3), ↓reduceIte])
  exact lp4 16 0 0 (by omega) rfl
set_option maxRecDepth 100000 in
set_option maxHeartbeats 4000000 in
theorem c_memberBy {G : am_S} {T S : am_T} {o : Nat → Int64} {n : Nat} (hn : S 9 0 = nI n) (hn10 : n ≤ 10) {l p : Nat} (hl : l < n) (hp9 : p < 16) : am_D G yX6_memberBy (.code yX6_memberBy cX6_memberBy 9 (some .int) :: am_G) { frames := 1, cells := 0, slots := 0, locals := 24 } (hp T S o) [.ref 465, .int (nI l), .int (nI p), .int (-1)] (hp T S o) (some (.int (rMB S n l p (-1)))) := by
  refine am_of (by decide +kernel) (Nat.le_of_ble_eq_true rfl) ?_
  intro C hse hret hname hF hO
  subst hse
  refine am_go hF sgX6_memberBy_0_8bcf7 2 [(0, .ref 465), (1, .int (nI l)), (2, .int (nI p)), (3, .int (-1))] [.int (nI l), .ref 465] sgX6_memberBy_0_8bcf7d rfl ?_
  refine am_dV hF hO [.int (nI l)] [] (c_within (n := n) hn (by omega) (by omega)) myX6_within vyX6_within lm_RX6_129 (hp_m _ _ _) rfl rfl 0 0 ⟨Nat.le_of_ble_eq_true rfl, Nat.le_of_ble_eq_true rfl⟩ ⟨Nat.le_of_ble_eq_true rfl, Nat.le_of_ble_eq_true rfl, Nat.le_of_ble_eq_true rfl, Nat.le_of_ble_eq_true rfl⟩ rfl (am_lv_ref (hp_m _ _ _) (am_lv_int (am_lv_int (am_lv_int am_lv_nil)))) (Nat.le_of_ble_eq_true rfl) dX6_memberBy_2 [.int (rWin S n l)] rfl ?_
  refine am_go hF sgX6_memberBy_5_b6147 11 [(5, .int (-1)), (4, .int (rWin S n l)), (0, .ref 465), (1, .int (nI l)), (2, .int (nI p)), (3, .int (-1))] [.ref 465] sgX6_memberBy_5_b6147d rfl ?_
  refine sv_get hF 9 (by decide) rfl lf_RX6_112 (.int (S 9 0)) rfl dX6_memberBy_11 ?_
  refine am_top (nI n) hn ?_
  refine am_go hF sgX6_memberBy_14_0e5e8 18 [(6, .int ((nI n) - 1)), (5, .int (-1)), (4, .int (rWin S n l)), (0, .ref 465), (1, .int (nI l)), (2, .int (nI p)), (3, .int (-1))] [] sgX6_memberBy_14_0e5e8d rfl ?_
  refine am_drop [3, 4, 5, 6, 2, 1, 0] [(0, .ref 465), (1, .int (nI l)), (2, .int (nI p)), (3, .int (-1)), (4, .int (rWin S n l)), (5, .int (-1)), (6, .int ((nI n) - 1))] rfl ?_
  refine am_eqL [(0, .ref 465), (1, .int (nI l)), (2, .int (nI p)), (3, .int (-1)), (4, .int (rWin S n l)), (5, .int (-1)), (6, .int (nI n - 1))] rfl ?_
  have lp18 : ∀ (r : Nat) (f : Int32), r ≤ n → itD (rmb S (rWin S n l) p (-1)) f r = itD (rmb S (rWin S n l) p (-1)) (-1) n → am_W C (hp T S o) 0 0 18 [(0, .ref 465), (1, .int (nI l)), (2, .int (nI p)), (3, .int (-1)), (4, .int (rWin S n l)), (5, .int f), (6, .int (nI r - 1))] [] := by
    intro r
    induction r with
    | zero =>
      intro f hr hf
      refine am_eqL [(0, .ref 465), (1, .int (nI l)), (2, .int (nI p)), (3, .int (-1)), (4, .int (rWin S n l)), (5, .int f), (6, .int (-1))] rfl ?_
      refine am_go hF sgX6_memberBy_18_4d8be 20 [(0, .ref 465), (1, .int (nI l)), (2, .int (nI p)), (3, .int (-1)), (4, .int (rWin S n l)), (5, .int f), (6, .int (-1))] [.int (-1)] sgX6_memberBy_18_4d8bed rfl ?_
      refine am_iflt hF 92 dX6_memberBy_20 (by decide) (fun _ => ?_) (fun h9 => False.elim ((by revert h9; decide)))
      refine am_go hF sgX6_memberBy_92_9df92 94 [(0, .ref 465), (1, .int (nI l)), (2, .int (nI p)), (3, .int (-1)), (4, .int (rWin S n l)), (5, .int f), (6, .int (-1))] [.int f] sgX6_memberBy_92_9df92d rfl ?_
      exact am_iret hF hO hret rfl dX6_memberBy_94 ⟨rfl, by rw [show f = rMB S n l p (-1) from hf]⟩
    | succ r ih18 =>
      intro f hr hf
      refine am_eqL [(0, .ref 465), (1, .int (nI l)), (2, .int (nI p)), (3, .int (-1)), (4, .int (rWin S n l)), (5, .int f), (6, .int (nI r))] (by rw [nI_pred]) ?_
      refine am_go hF sgX6_memberBy_18_4d8be 20 [(0, .ref 465), (1, .int (nI l)), (2, .int (nI p)), (3, .int (-1)), (4, .int (rWin S n l)), (5, .int f), (6, .int (nI r))] [.int (nI r)] sgX6_memberBy_18_4d8bed rfl ?_
      refine am_iflt hF 92 dX6_memberBy_20 (by decide) (fun h9 => False.elim (nc_ge_f (show 0 ≤ r by omega) (by omega) (by omega) rfl rfl h9)) (fun _ => ?_)
      refine am_go hF sgX6_memberBy_23_34db8 24 [(0, .ref 465), (1, .int (nI l)), (2, .int (nI p)), (3, .int (-1)), (4, .int (rWin S n l)), (5, .int f), (6, .int (nI r))] [.ref 465] sgX6_memberBy_23_34db8d rfl ?_
      refine sv_get hF 16 (by decide) rfl lf_RX6_47 (.ref 516) rfl dX6_memberBy_24 ?_
      refine am_go hF sgX6_memberBy_27_d2658 34 [(0, .ref 465), (1, .int (nI l)), (2, .int (nI p)), (3, .int (-1)), (4, .int (rWin S n l)), (5, .int f), (6, .int (nI r))] [.int ((16 * (nI r)) + (nI p)), .ref 516] sgX6_memberBy_27_d2658d rfl ?_
      refine sv_iald hF 16 (by decide) ⟨rfl, rfl, by decide⟩ ((16 * r) + p) (am_ad (am_mu rfl rfl) rfl) (show (16 * r) + p < 160 by omega) dX6_memberBy_34 ?_
      refine am_go hF sgX6_memberBy_35_3651f 45 [(7, .int (S 16 ((16 * r) + p))), (0, .ref 465), (1, .int (nI l)), (2, .int (nI p)), (3, .int (-1)), (4, .int (rWin S n l)), (5, .int f), (6, .int (nI r))] [.int 1, .int (((rWin S n l) >>> ((nI r) &&& 31)) &&& 1)] sgX6_memberBy_35_3651fd rfl ?_
      refine am_icmpne hF 69 dX6_memberBy_45 (by decide) (fun c3 => ?_) (fun c3 => ?_)
      · skip
        refine am_go hF sgX6_memberBy_69_40c11 74 [(8, .int 0), (7, .int (S 16 ((16 * r) + p))), (0, .ref 465), (1, .int (nI l)), (2, .int (nI p)), (3, .int (-1)), (4, .int (rWin S n l)), (5, .int f), (6, .int (nI r))] [.int 0] sgX6_memberBy_69_40c11d rfl ?_
        refine am_ifeq hF 82 dX6_memberBy_74 (by decide) (fun _ => ?_) (fun h9 => False.elim ((by revert h9; decide)))
        refine am_go hF sgX6_memberBy_82_660ba 18 [(6, .int ((nI r) + (-1))), (5, .int f), (8, .int 0), (7, .int (S 16 ((16 * r) + p))), (0, .ref 465), (1, .int (nI l)), (2, .int (nI p)), (3, .int (-1)), (4, .int (rWin S n l))] [] sgX6_memberBy_82_660bad rfl ?_
        refine am_drop [4, 5, 6, 7, 8, 1, 0] [(0, .ref 465), (1, .int (nI l)), (2, .int (nI p)), (3, .int (-1)), (4, .int (rWin S n l)), (5, .int f), (6, .int ((nI r) + (-1)))] rfl ?_
        refine am_eqL [(0, .ref 465), (1, .int (nI l)), (2, .int (nI p)), (3, .int (-1)), (4, .int (rWin S n l)), (5, .int f), (6, .int (nI r - 1))] (by rw [am_pm1]) ?_
        exact ih18 f (by omega) (by rw [← hf]; show itD (rmb S (rWin S n l) p (-1)) _ r = itD (rmb S (rWin S n l) p (-1)) (rmb S (rWin S n l) p (-1) r f) r; congr 1; simp only [rmb, c3, ↓reduceIte, not_false_eq_true, not_true_eq_false, and_self, and_true, true_and, and_false, false_and, true_or, or_true, or_false, false_or])
      · skip
        refine am_go hF sgX6_memberBy_48_06b1a 51 [(7, .int (S 16 ((16 * r) + p))), (0, .ref 465), (1, .int (nI l)), (2, .int (nI p)), (3, .int (-1)), (4, .int (rWin S n l)), (5, .int f), (6, .int (nI r))] [.int (-1), .int (S 16 ((16 * r) + p))] sgX6_memberBy_48_06b1ad rfl ?_
        refine am_icmpeq hF 69 dX6_memberBy_51 (by decide) (fun c5 => ?_) (fun c5 => ?_)
        · skip
          refine am_go hF sgX6_memberBy_69_40c11 74 [(8, .int 0), (7, .int (S 16 ((16 * r) + p))), (0, .ref 465), (1, .int (nI l)), (2, .int (nI p)), (3, .int (-1)), (4, .int (rWin S n l)), (5, .int f), (6, .int (nI r))] [.int 0] sgX6_memberBy_69_40c11d rfl ?_
          refine am_ifeq hF 82 dX6_memberBy_74 (by decide) (fun _ => ?_) (fun h9 => False.elim ((by revert h9; decide)))
          refine am_go hF sgX6_memberBy_82_660ba 18 [(6, .int ((nI r) + (-1))), (5, .int f), (8, .int 0), (7, .int (S 16 ((16 * r) + p))), (0, .ref 465), (1, .int (nI l)), (2, .int (nI p)), (3, .int (-1)), (4, .int (rWin S n l))] [] sgX6_memberBy_82_660bad rfl ?_
          refine am_drop [4, 5, 6, 7, 8, 1, 0] [(0, .ref 465), (1, .int (nI l)), (2, .int (nI p)), (3, .int (-1)), (4, .int (rWin S n l)), (5, .int f), (6, .int ((nI r) + (-1)))] rfl ?_
          refine am_eqL [(0, .ref 465), (1, .int (nI l)), (2, .int (nI p)), (3, .int (-1)), (4, .int (rWin S n l)), (5, .int f), (6, .int (nI r - 1))] (by rw [am_pm1]) ?_
          exact ih18 f (by omega) (by rw [← hf]; show itD (rmb S (rWin S n l) p (-1)) _ r = itD (rmb S (rWin S n l) p (-1)) (rmb S (rWin S n l) p (-1) r f) r; congr 1; simp only [rmb, (eq_true c3), (eq_true c5), ↓reduceIte, not_false_eq_true, not_true_eq_false, and_self, and_true, true_and, and_false, false_and, true_or, or_true, or_false, false_or])
        · skip
          refine am_go hF sgX6_memberBy_54_8324a 56 [(7, .int (S 16 ((16 * r) + p))), (0, .ref 465), (1, .int (nI l)), (2, .int (nI p)), (3, .int (-1)), (4, .int (rWin S n l)), (5, .int f), (6, .int (nI r))] [.int (-1), .int (-1)] sgX6_memberBy_54_8324ad rfl ?_
          refine am_icmpeq hF 65 dX6_memberBy_56 (by decide) (fun _ => ?_) (fun h9 => False.elim ((by revert h9; decide)))
          refine am_go hF sgX6_memberBy_65_ef18d 74 [(8, .int 1), (7, .int (S 16 ((16 * r) + p))), (0, .ref 465), (1, .int (nI l)), (2, .int (nI p)), (3, .int (-1)), (4, .int (rWin S n l)), (5, .int f), (6, .int (nI r))] [.int 1] sgX6_memberBy_65_ef18dd rfl ?_
          refine am_ifeq hF 82 dX6_memberBy_74 (by decide) (fun h9 => False.elim ((by revert h9; decide))) (fun _ => ?_)
          refine am_go hF sgX6_memberBy_77_74c9a 18 [(6, .int ((nI r) + (-1))), (5, .int (nI r)), (8, .int 1), (7, .int (S 16 ((16 * r) + p))), (0, .ref 465), (1, .int (nI l)), (2, .int (nI p)), (3, .int (-1)), (4, .int (rWin S n l))] [] sgX6_memberBy_77_74c9ad rfl ?_
          refine am_drop [4, 5, 6, 7, 8, 1, 0] [(0, .ref 465), (1, .int (nI l)), (2, .int (nI p)), (3, .int (-1)), (4, .int (rWin S n l)), (5, .int (nI r)), (6, .int ((nI r) + (-1)))] rfl ?_
          refine am_eqL [(0, .ref 465), (1, .int (nI l)), (2, .int (nI p)), (3, .int (-1)), (4, .int (rWin S n l)), (5, .int (nI r)), (6, .int (nI r - 1))] (by rw [am_pm1]) ?_
          exact ih18 (nI r) (by omega) (by rw [← hf]; show itD (rmb S (rWin S n l) p (-1)) _ r = itD (rmb S (rWin S n l) p (-1)) (rmb S (rWin S n l) p (-1) r f) r; congr 1; simp only [rmb, (eq_true c3), c5, ↓reduceIte, not_false_eq_true, not_true_eq_false, and_self, and_true, true_and, and_false, false_and, true_or, or_true, or_false, false_or])
  exact lp18 n (-1) (Nat.le_refl _) rfl
set_option maxRecDepth 100000 in
set_option maxHeartbeats 4000000 in
theorem c_memberBy0 {G : am_S} {T S : am_T} {o : Nat → Int64} {n : Nat} (hn : S 9 0 = nI n) (hn10 : n ≤ 10) {l p : Nat} (hl : l < n) (hp9 : p < 16) : am_D G yX6_memberBy (.code yX6_memberBy cX6_memberBy 9 (some .int) :: am_G) { frames := 1, cells := 0, slots := 0, locals := 24 } (hp T S o) [.ref 465, .int (nI l), .int (nI p), .int 0] (hp T S o) (some (.int (rMB S n l p (0)))) := by
  refine am_of (by decide +kernel) (Nat.le_of_ble_eq_true rfl) ?_
  intro C hse hret hname hF hO
  subst hse
  refine am_go hF sgX6_memberBy_0_8bcf7 2 [(0, .ref 465), (1, .int (nI l)), (2, .int (nI p)), (3, .int 0)] [.int (nI l), .ref 465] sgX6_memberBy_0_8bcf7d rfl ?_
  refine am_dV hF hO [.int (nI l)] [] (c_within (n := n) hn (by omega) (by omega)) myX6_within vyX6_within lm_RX6_129 (hp_m _ _ _) rfl rfl 0 0 ⟨Nat.le_of_ble_eq_true rfl, Nat.le_of_ble_eq_true rfl⟩ ⟨Nat.le_of_ble_eq_true rfl, Nat.le_of_ble_eq_true rfl, Nat.le_of_ble_eq_true rfl, Nat.le_of_ble_eq_true rfl⟩ rfl (am_lv_ref (hp_m _ _ _) (am_lv_int (am_lv_int (am_lv_int am_lv_nil)))) (Nat.le_of_ble_eq_true rfl) dX6_memberBy_2 [.int (rWin S n l)] rfl ?_
  refine am_go hF sgX6_memberBy_5_b6147 11 [(5, .int (-1)), (4, .int (rWin S n l)), (0, .ref 465), (1, .int (nI l)), (2, .int (nI p)), (3, .int 0)] [.ref 465] sgX6_memberBy_5_b6147d rfl ?_
  refine sv_get hF 9 (by decide) rfl lf_RX6_112 (.int (S 9 0)) rfl dX6_memberBy_11 ?_
  refine am_top (nI n) hn ?_
  refine am_go hF sgX6_memberBy_14_0e5e8 18 [(6, .int ((nI n) - 1)), (5, .int (-1)), (4, .int (rWin S n l)), (0, .ref 465), (1, .int (nI l)), (2, .int (nI p)), (3, .int 0)] [] sgX6_memberBy_14_0e5e8d rfl ?_
  refine am_drop [3, 4, 5, 6, 2, 1, 0] [(0, .ref 465), (1, .int (nI l)), (2, .int (nI p)), (3, .int 0), (4, .int (rWin S n l)), (5, .int (-1)), (6, .int ((nI n) - 1))] rfl ?_
  refine am_eqL [(0, .ref 465), (1, .int (nI l)), (2, .int (nI p)), (3, .int 0), (4, .int (rWin S n l)), (5, .int (-1)), (6, .int (nI n - 1))] rfl ?_
  have lp18 : ∀ (r : Nat) (f : Int32), r ≤ n → itD (rmb S (rWin S n l) p (0)) f r = itD (rmb S (rWin S n l) p (0)) (-1) n → am_W C (hp T S o) 0 0 18 [(0, .ref 465), (1, .int (nI l)), (2, .int (nI p)), (3, .int 0), (4, .int (rWin S n l)), (5, .int f), (6, .int (nI r - 1))] [] := by
    intro r
    induction r with
    | zero =>
      intro f hr hf
      refine am_eqL [(0, .ref 465), (1, .int (nI l)), (2, .int (nI p)), (3, .int 0), (4, .int (rWin S n l)), (5, .int f), (6, .int (-1))] rfl ?_
      refine am_go hF sgX6_memberBy_18_4d8be 20 [(0, .ref 465), (1, .int (nI l)), (2, .int (nI p)), (3, .int 0), (4, .int (rWin S n l)), (5, .int f), (6, .int (-1))] [.int (-1)] sgX6_memberBy_18_4d8bed rfl ?_
      refine am_iflt hF 92 dX6_memberBy_20 (by decide) (fun _ => ?_) (fun h9 => False.elim ((by revert h9; decide)))
      refine am_go hF sgX6_memberBy_92_9df92 94 [(0, .ref 465), (1, .int (nI l)), (2, .int (nI p)), (3, .int 0), (4, .int (rWin S n l)), (5, .int f), (6, .int (-1))] [.int f] sgX6_memberBy_92_9df92d rfl ?_
      exact am_iret hF hO hret rfl dX6_memberBy_94 ⟨rfl, by rw [show f = rMB S n l p (0) from hf]⟩
    | succ r ih18 =>
      intro f hr hf
      refine am_eqL [(0, .ref 465), (1, .int (nI l)), (2, .int (nI p)), (3, .int 0), (4, .int (rWin S n l)), (5, .int f), (6, .int (nI r))] (by rw [nI_pred]) ?_
      refine am_go hF sgX6_memberBy_18_4d8be 20 [(0, .ref 465), (1, .int (nI l)), (2, .int (nI p)), (3, .int 0), (4, .int (rWin S n l)), (5, .int f), (6, .int (nI r))] [.int (nI r)] sgX6_memberBy_18_4d8bed rfl ?_
      refine am_iflt hF 92 dX6_memberBy_20 (by decide) (fun h9 => False.elim (nc_ge_f (show 0 ≤ r by omega) (by omega) (by omega) rfl rfl h9)) (fun _ => ?_)
      refine am_go hF sgX6_memberBy_23_34db8 24 [(0, .ref 465), (1, .int (nI l)), (2, .int (nI p)), (3, .int 0), (4, .int (rWin S n l)), (5, .int f), (6, .int (nI r))] [.ref 465] sgX6_memberBy_23_34db8d rfl ?_
      refine sv_get hF 16 (by decide) rfl lf_RX6_47 (.ref 516) rfl dX6_memberBy_24 ?_
      refine am_go hF sgX6_memberBy_27_d2658 34 [(0, .ref 465), (1, .int (nI l)), (2, .int (nI p)), (3, .int 0), (4, .int (rWin S n l)), (5, .int f), (6, .int (nI r))] [.int ((16 * (nI r)) + (nI p)), .ref 516] sgX6_memberBy_27_d2658d rfl ?_
      refine sv_iald hF 16 (by decide) ⟨rfl, rfl, by decide⟩ ((16 * r) + p) (am_ad (am_mu rfl rfl) rfl) (show (16 * r) + p < 160 by omega) dX6_memberBy_34 ?_
      refine am_go hF sgX6_memberBy_35_3651f 45 [(7, .int (S 16 ((16 * r) + p))), (0, .ref 465), (1, .int (nI l)), (2, .int (nI p)), (3, .int 0), (4, .int (rWin S n l)), (5, .int f), (6, .int (nI r))] [.int 1, .int (((rWin S n l) >>> ((nI r) &&& 31)) &&& 1)] sgX6_memberBy_35_3651fd rfl ?_
      refine am_icmpne hF 69 dX6_memberBy_45 (by decide) (fun c3 => ?_) (fun c3 => ?_)
      · skip
        refine am_go hF sgX6_memberBy_69_40c11 74 [(8, .int 0), (7, .int (S 16 ((16 * r) + p))), (0, .ref 465), (1, .int (nI l)), (2, .int (nI p)), (3, .int 0), (4, .int (rWin S n l)), (5, .int f), (6, .int (nI r))] [.int 0] sgX6_memberBy_69_40c11d rfl ?_
        refine am_ifeq hF 82 dX6_memberBy_74 (by decide) (fun _ => ?_) (fun h9 => False.elim ((by revert h9; decide)))
        refine am_go hF sgX6_memberBy_82_660ba 18 [(6, .int ((nI r) + (-1))), (5, .int f), (8, .int 0), (7, .int (S 16 ((16 * r) + p))), (0, .ref 465), (1, .int (nI l)), (2, .int (nI p)), (3, .int 0), (4, .int (rWin S n l))] [] sgX6_memberBy_82_660bad rfl ?_
        refine am_drop [4, 5, 6, 7, 8, 1, 0] [(0, .ref 465), (1, .int (nI l)), (2, .int (nI p)), (3, .int 0), (4, .int (rWin S n l)), (5, .int f), (6, .int ((nI r) + (-1)))] rfl ?_
        refine am_eqL [(0, .ref 465), (1, .int (nI l)), (2, .int (nI p)), (3, .int 0), (4, .int (rWin S n l)), (5, .int f), (6, .int (nI r - 1))] (by rw [am_pm1]) ?_
        exact ih18 f (by omega) (by rw [← hf]; show itD (rmb S (rWin S n l) p (0)) _ r = itD (rmb S (rWin S n l) p (0)) (rmb S (rWin S n l) p (0) r f) r; congr 1; simp only [rmb, c3, ↓reduceIte, not_false_eq_true, not_true_eq_false, and_self, and_true, true_and, and_false, false_and, true_or, or_true, or_false, false_or, (by decide : ¬ (0 : Int32) = -1)])
      · skip
        refine am_go hF sgX6_memberBy_48_06b1a 51 [(7, .int (S 16 ((16 * r) + p))), (0, .ref 465), (1, .int (nI l)), (2, .int (nI p)), (3, .int 0), (4, .int (rWin S n l)), (5, .int f), (6, .int (nI r))] [.int (-1), .int (S 16 ((16 * r) + p))] sgX6_memberBy_48_06b1ad rfl ?_
        refine am_icmpeq hF 69 dX6_memberBy_51 (by decide) (fun c5 => ?_) (fun c5 => ?_)
        · skip
          refine am_go hF sgX6_memberBy_69_40c11 74 [(8, .int 0), (7, .int (S 16 ((16 * r) + p))), (0, .ref 465), (1, .int (nI l)), (2, .int (nI p)), (3, .int 0), (4, .int (rWin S n l)), (5, .int f), (6, .int (nI r))] [.int 0] sgX6_memberBy_69_40c11d rfl ?_
          refine am_ifeq hF 82 dX6_memberBy_74 (by decide) (fun _ => ?_) (fun h9 => False.elim ((by revert h9; decide)))
          refine am_go hF sgX6_memberBy_82_660ba 18 [(6, .int ((nI r) + (-1))), (5, .int f), (8, .int 0), (7, .int (S 16 ((16 * r) + p))), (0, .ref 465), (1, .int (nI l)), (2, .int (nI p)), (3, .int 0), (4, .int (rWin S n l))] [] sgX6_memberBy_82_660bad rfl ?_
          refine am_drop [4, 5, 6, 7, 8, 1, 0] [(0, .ref 465), (1, .int (nI l)), (2, .int (nI p)), (3, .int 0), (4, .int (rWin S n l)), (5, .int f), (6, .int ((nI r) + (-1)))] rfl ?_
          refine am_eqL [(0, .ref 465), (1, .int (nI l)), (2, .int (nI p)), (3, .int 0), (4, .int (rWin S n l)), (5, .int f), (6, .int (nI r - 1))] (by rw [am_pm1]) ?_
          exact ih18 f (by omega) (by rw [← hf]; show itD (rmb S (rWin S n l) p (0)) _ r = itD (rmb S (rWin S n l) p (0)) (rmb S (rWin S n l) p (0) r f) r; congr 1; simp only [rmb, (eq_true c3), (eq_true c5), ↓reduceIte, not_false_eq_true, not_true_eq_false, and_self, and_true, true_and, and_false, false_and, true_or, or_true, or_false, false_or, (by decide : ¬ (0 : Int32) = -1)])
        · skip
          refine am_go hF sgX6_memberBy_54_8324a 56 [(7, .int (S 16 ((16 * r) + p))), (0, .ref 465), (1, .int (nI l)), (2, .int (nI p)), (3, .int 0), (4, .int (rWin S n l)), (5, .int f), (6, .int (nI r))] [.int (-1), .int 0] sgX6_memberBy_54_8324ad rfl ?_
          refine am_icmpeq hF 65 dX6_memberBy_56 (by decide) (fun h9 => False.elim ((by revert h9; decide))) (fun _ => ?_)
          refine am_go hF sgX6_memberBy_59_4501e 62 [(7, .int (S 16 ((16 * r) + p))), (0, .ref 465), (1, .int (nI l)), (2, .int (nI p)), (3, .int 0), (4, .int (rWin S n l)), (5, .int f), (6, .int (nI r))] [.int 0, .int (S 16 ((16 * r) + p))] sgX6_memberBy_59_4501ed rfl ?_
          refine am_icmpne hF 69 dX6_memberBy_62 (by decide) (fun c8 => ?_) (fun c8 => ?_)
          · skip
            refine am_go hF sgX6_memberBy_69_40c11 74 [(8, .int 0), (7, .int (S 16 ((16 * r) + p))), (0, .ref 465), (1, .int (nI l)), (2, .int (nI p)), (3, .int 0), (4, .int (rWin S n l)), (5, .int f), (6, .int (nI r))] [.int 0] sgX6_memberBy_69_40c11d rfl ?_
            refine am_ifeq hF 82 dX6_memberBy_74 (by decide) (fun _ => ?_) (fun h9 => False.elim ((by revert h9; decide)))
            refine am_go hF sgX6_memberBy_82_660ba 18 [(6, .int ((nI r) + (-1))), (5, .int f), (8, .int 0), (7, .int (S 16 ((16 * r) + p))), (0, .ref 465), (1, .int (nI l)), (2, .int (nI p)), (3, .int 0), (4, .int (rWin S n l))] [] sgX6_memberBy_82_660bad rfl ?_
            refine am_drop [4, 5, 6, 7, 8, 1, 0] [(0, .ref 465), (1, .int (nI l)), (2, .int (nI p)), (3, .int 0), (4, .int (rWin S n l)), (5, .int f), (6, .int ((nI r) + (-1)))] rfl ?_
            refine am_eqL [(0, .ref 465), (1, .int (nI l)), (2, .int (nI p)), (3, .int 0), (4, .int (rWin S n l)), (5, .int f), (6, .int (nI r - 1))] (by rw [am_pm1]) ?_
            exact ih18 f (by omega) (by rw [← hf]; show itD (rmb S (rWin S n l) p (0)) _ r = itD (rmb S (rWin S n l) p (0)) (rmb S (rWin S n l) p (0) r f) r; congr 1; simp only [rmb, (eq_true c3), c5, c8, ↓reduceIte, not_false_eq_true, not_true_eq_false, and_self, and_true, true_and, and_false, false_and, true_or, or_true, or_false, false_or, (by decide : ¬ (0 : Int32) = -1)])
          · skip
            refine am_go hF sgX6_memberBy_65_ef18d 74 [(8, .int 1), (7, .int (S 16 ((16 * r) + p))), (0, .ref 465), (1, .int (nI l)), (2, .int (nI p)), (3, .int 0), (4, .int (rWin S n l)), (5, .int f), (6, .int (nI r))] [.int 1] sgX6_memberBy_65_ef18dd rfl ?_
            refine am_ifeq hF 82 dX6_memberBy_74 (by decide) (fun h9 => False.elim ((by revert h9; decide))) (fun _ => ?_)
            refine am_go hF sgX6_memberBy_77_74c9a 18 [(6, .int ((nI r) + (-1))), (5, .int (nI r)), (8, .int 1), (7, .int (S 16 ((16 * r) + p))), (0, .ref 465), (1, .int (nI l)), (2, .int (nI p)), (3, .int 0), (4, .int (rWin S n l))] [] sgX6_memberBy_77_74c9ad rfl ?_
            refine am_drop [4, 5, 6, 7, 8, 1, 0] [(0, .ref 465), (1, .int (nI l)), (2, .int (nI p)), (3, .int 0), (4, .int (rWin S n l)), (5, .int (nI r)), (6, .int ((nI r) + (-1)))] rfl ?_
            refine am_eqL [(0, .ref 465), (1, .int (nI l)), (2, .int (nI p)), (3, .int 0), (4, .int (rWin S n l)), (5, .int (nI r)), (6, .int (nI r - 1))] (by rw [am_pm1]) ?_
            exact ih18 (nI r) (by omega) (by rw [← hf]; show itD (rmb S (rWin S n l) p (0)) _ r = itD (rmb S (rWin S n l) p (0)) (rmb S (rWin S n l) p (0) r f) r; congr 1; simp only [rmb, (eq_true c3), c5, (eq_true c8), ↓reduceIte, not_false_eq_true, not_true_eq_false, and_self, and_true, true_and, and_false, false_and, true_or, or_true, or_false, false_or, (by decide : ¬ (0 : Int32) = -1)])
  exact lp18 n (-1) (Nat.le_refl _) rfl
set_option maxRecDepth 100000 in
set_option maxHeartbeats 4000000 in
theorem c_reachesOf {G : am_S} {T S : am_T} {o : Nat → Int64} {n : Nat} (hn : S 9 0 = nI n) (hn10 : n ≤ 10) {l : Nat} (hl : l < n) : am_D G yX6_reachesOf (.code yX6_reachesOf cX6_reachesOf 4 (some .int) :: am_G) { frames := 2, cells := 0, slots := 0, locals := 52 } (hp T S o) [.ref 465, .int (nI l)] (hp T S o) (some (.int (rRe S n l))) := by
  refine am_of (by decide +kernel) (Nat.le_of_ble_eq_true rfl) ?_
  intro C hse hret hname hF hO
  subst hse
  refine am_go hF sgX6_reachesOf_0_24699 4 [(3, .int 0), (2, .int 0), (0, .ref 465), (1, .int (nI l))] [] sgX6_reachesOf_0_24699d rfl ?_
  refine am_drop [2, 3, 1, 0] [(0, .ref 465), (1, .int (nI l)), (2, .int 0), (3, .int 0)] rfl ?_
  have lp4 : ∀ (d j : Nat) (a : Int32), j + d = 16 → a = itN (rre S n l) 0 j → am_W C (hp T S o) 0 0 4 [(0, .ref 465), (1, .int (nI l)), (2, .int a), (3, .int (nI j))] [] := by
    intro d
    induction d with
    | zero =>
      intro j a hj ha
      have e9j : j = 16 := by omega
      refine am_go hF sgX6_reachesOf_4_b88ad 7 [(0, .ref 465), (1, .int (nI l)), (2, .int a), (3, .int (nI j))] [.int 16, .int (nI j)] sgX6_reachesOf_4_b88add rfl ?_
      refine am_icmpge hF 37 dX6_reachesOf_7 (by decide) (fun _ => ?_) (fun h9 => False.elim (absurd (nc_ge (show 16 ≤ j by omega) (by omega) (by omega) rfl rfl) h9))
      refine am_go hF sgX6_reachesOf_37_f8a59 38 [(0, .ref 465), (1, .int (nI l)), (2, .int a), (3, .int (nI j))] [.int a] sgX6_reachesOf_37_f8a59d rfl ?_
      exact am_iret hF hO hret rfl dX6_reachesOf_38 ⟨rfl, (by first | (rw [ha, e9j]; done) | (rw [ha, e9j]; rfl))⟩
    | succ d ih4 =>
      intro j a hj ha
      have l9j : j < 16 := by omega
      refine am_go hF sgX6_reachesOf_4_b88ad 7 [(0, .ref 465), (1, .int (nI l)), (2, .int a), (3, .int (nI j))] [.int 16, .int (nI j)] sgX6_reachesOf_4_b88add rfl ?_
      refine am_icmpge hF 37 dX6_reachesOf_7 (by decide) (fun h9 => False.elim (nc_lt_f (show j < 16 by omega) (by omega) (by omega) rfl rfl h9)) (fun _ => ?_)
      refine am_go hF sgX6_reachesOf_10_f708f 15 [(0, .ref 465), (1, .int (nI l)), (2, .int a), (3, .int (nI j))] [.int (-1), .int (nI j), .int (nI l), .ref 465, .int a] sgX6_reachesOf_10_f708fd rfl ?_
      refine am_dV hF hO [.int (nI l), .int (nI j), .int (-1)] [.int a] (c_memberBy hn (by omega) (by omega) (by omega)) myX6_memberBy vyX6_memberBy lm_RX6_132 (hp_m _ _ _) rfl rfl 0 0 ⟨Nat.le_of_ble_eq_true rfl, Nat.le_of_ble_eq_true rfl⟩ ⟨Nat.le_of_ble_eq_true rfl, Nat.le_of_ble_eq_true rfl, Nat.le_of_ble_eq_true rfl, Nat.le_of_ble_eq_true rfl⟩ rfl (am_lv_ref (hp_m _ _ _) (am_lv_int (am_lv_int (am_lv_int (am_lv_int am_lv_nil))))) (Nat.le_of_ble_eq_true rfl) dX6_reachesOf_15 [.int (rMB S n l j (-1)), .int a] rfl ?_
      refine am_go hF sgX6_reachesOf_18_5ff24 19 [(0, .ref 465), (1, .int (nI l)), (2, .int a), (3, .int (nI j))] [.int (-1), .int (rMB S n l j (-1)), .int a] sgX6_reachesOf_18_5ff24d rfl ?_
      refine am_icmpne hF 26 dX6_reachesOf_19 (by decide) (fun c3 => ?_) (fun c3 => ?_)
      · skip
        refine am_go hF sgX6_reachesOf_26_8d1e4 4 [(3, .int ((nI j) + 1)), (2, .int (a ||| (1 <<< ((nI j) &&& 31)))), (0, .ref 465), (1, .int (nI l))] [] sgX6_reachesOf_26_8d1e4d rfl ?_
        refine am_drop [2, 3, 1, 0] [(0, .ref 465), (1, .int (nI l)), (2, .int (a ||| (1 <<< ((nI j) &&& 31)))), (3, .int ((nI j) + 1))] rfl ?_
        refine am_eqL [(0, .ref 465), (1, .int (nI l)), (2, .int (a ||| (1 <<< ((nI j) &&& 31)))), (3, .int (nI (j + 1)))] (by rw [nI_1]) ?_
        exact ih4 (j + 1) (a ||| (1 <<< ((nI j) &&& 31))) (by omega) (by show _ = rre S n l j (itN (rre S n l) 0 j); rw [← ha]; simp only [rre, c3, ↓reduceIte])
      · skip
        refine am_go hF sgX6_reachesOf_22_468b6 4 [(3, .int ((nI j) + 1)), (2, .int (a ||| 0)), (0, .ref 465), (1, .int (nI l))] [] sgX6_reachesOf_22_468b6d rfl ?_
        refine am_drop [2, 3, 1, 0] [(0, .ref 465), (1, .int (nI l)), (2, .int (a ||| 0)), (3, .int ((nI j) + 1))] rfl ?_
        refine am_eqL [(0, .ref 465), (1, .int (nI l)), (2, .int (a ||| 0)), (3, .int (nI (j + 1)))] (by rw [nI_1]) ?_
        exact ih4 (j + 1) (a ||| 0) (by omega) (by show _ = rre S n l j (itN (rre S n l) 0 j); rw [← ha]; simp only [rre, (eq_true c3), ↓reduceIte])
  exact lp4 16 0 0 (by omega) rfl
set_option maxRecDepth 100000 in
set_option maxHeartbeats 4000000 in
theorem c_modeFor {G : am_S} {T S : am_T} {o : Nat → Int64} {n : Nat} (hn : S 9 0 = nI n) (hn10 : n ≤ 10) {l p : Nat} (hl : l < n) (hp9 : p < 16) : am_D G yX6_modeFor (.code yX6_modeFor cX6_modeFor 3 (some .int) :: am_G) { frames := 2, cells := 0, slots := 0, locals := 52 } (hp T S o) [.ref 465, .int (nI l), .int (nI p)] (hp T S o) (some (.int (rMode S n l p))) := by
  refine am_of (by decide +kernel) (Nat.le_of_ble_eq_true rfl) ?_
  intro C hse hret hname hF hO
  subst hse
  refine am_go hF sgX6_modeFor_0_58030 4 [(0, .ref 465), (1, .int (nI l)), (2, .int (nI p))] [.int (-1), .int (nI p), .int (nI l), .ref 465] sgX6_modeFor_0_58030d rfl ?_
  refine am_dV hF hO [.int (nI l), .int (nI p), .int (-1)] [] (c_memberBy hn (by omega) (by omega) (by omega)) myX6_memberBy vyX6_memberBy lm_RX6_132 (hp_m _ _ _) rfl rfl 0 0 ⟨Nat.le_of_ble_eq_true rfl, Nat.le_of_ble_eq_true rfl⟩ ⟨Nat.le_of_ble_eq_true rfl, Nat.le_of_ble_eq_true rfl, Nat.le_of_ble_eq_true rfl, Nat.le_of_ble_eq_true rfl⟩ rfl (am_lv_ref (hp_m _ _ _) (am_lv_int (am_lv_int am_lv_nil))) (Nat.le_of_ble_eq_true rfl) dX6_modeFor_4 [.int (rMB S n l p (-1))] rfl ?_
  refine am_go hF sgX6_modeFor_7_5ff24 8 [(0, .ref 465), (1, .int (nI l)), (2, .int (nI p))] [.int (-1), .int (rMB S n l p (-1))] sgX6_modeFor_7_5ff24d rfl ?_
  refine am_icmpne hF 13 dX6_modeFor_8 (by decide) (fun c1 => ?_) (fun c1 => ?_)
  · skip
    refine am_go hF sgX6_modeFor_13_07487 17 [(0, .ref 465), (1, .int (nI l)), (2, .int (nI p))] [.int 0, .int (nI p), .int (nI l), .ref 465] sgX6_modeFor_13_07487d rfl ?_
    refine am_dV hF hO [.int (nI l), .int (nI p), .int 0] [] (c_memberBy0 hn (by omega) (by omega) (by omega)) myX6_memberBy vyX6_memberBy lm_RX6_132 (hp_m _ _ _) rfl rfl 0 0 ⟨Nat.le_of_ble_eq_true rfl, Nat.le_of_ble_eq_true rfl⟩ ⟨Nat.le_of_ble_eq_true rfl, Nat.le_of_ble_eq_true rfl, Nat.le_of_ble_eq_true rfl, Nat.le_of_ble_eq_true rfl⟩ rfl (am_lv_ref (hp_m _ _ _) (am_lv_int (am_lv_int am_lv_nil))) (Nat.le_of_ble_eq_true rfl) dX6_modeFor_17 [.int (rMB S n l p (0))] rfl ?_
    refine am_go hF sgX6_modeFor_20_5ff24 21 [(0, .ref 465), (1, .int (nI l)), (2, .int (nI p))] [.int (-1), .int (rMB S n l p (0))] sgX6_modeFor_20_5ff24d rfl ?_
    refine am_icmpne hF 28 dX6_modeFor_21 (by decide) (fun c2 => ?_) (fun c2 => ?_)
    · skip
      refine am_go hF sgX6_modeFor_28_56c54 29 [(0, .ref 465), (1, .int (nI l)), (2, .int (nI p))] [.int 0] sgX6_modeFor_28_56c54d rfl ?_
      exact am_iret hF hO hret rfl dX6_modeFor_29 ⟨rfl, by simp only [rMode, c1, c2, ↓reduceIte]⟩
    · skip
      refine am_go hF sgX6_modeFor_24_1c64c 29 [(0, .ref 465), (1, .int (nI l)), (2, .int (nI p))] [.int 1] sgX6_modeFor_24_1c64cd rfl ?_
      exact am_iret hF hO hret rfl dX6_modeFor_29 ⟨rfl, by simp only [rMode, c1, (eq_true c2), ↓reduceIte]⟩
  · skip
    refine am_go hF sgX6_modeFor_11_5ff24 12 [(0, .ref 465), (1, .int (nI l)), (2, .int (nI p))] [.int (-1)] sgX6_modeFor_11_5ff24d rfl ?_
    exact am_iret hF hO hret rfl dX6_modeFor_12 ⟨rfl, by simp only [rMode, (eq_true c1), ↓reduceIte]⟩
set_option maxRecDepth 100000 in
set_option maxHeartbeats 4000000 in
theorem c_oneMore {G : am_S} {T S : am_T} {o : Nat → Int64} {n : Nat} (hn : S 9 0 = nI n) (hn10 : n ≤ 10) {p : Nat} (hp9 : p < 16) : am_D G yX6_oneMore (.code yX6_oneMore cX6_oneMore 4 none :: am_G) { frames := 0, cells := 0, slots := 0, locals := 0 } (hp T S o) [.ref 465, .int (nI p)] (hp T (rOne S n p) o) none := by
  refine am_of (by decide +kernel) (Nat.le_of_ble_eq_true rfl) ?_
  intro C hse hret hname hF hO
  subst hse
  refine am_go hF sgX6_oneMore_0_34db8 1 [(0, .ref 465), (1, .int (nI p))] [.ref 465] sgX6_oneMore_0_34db8d rfl ?_
  refine sv_get hF 6 (by decide) rfl lf_RX6_19 (.ref 506) rfl dX6_oneMore_1 ?_
  refine am_go hF sgX6_oneMore_4_563cd 6 [(0, .ref 465), (1, .int (nI p))] [.int (nI p), .ref 506, .int (nI p), .ref 506] sgX6_oneMore_4_563cdd rfl ?_
  refine sv_iald hF 6 (by decide) ⟨rfl, rfl, by decide⟩ p rfl (show p < 16 by omega) dX6_oneMore_6 ?_
  refine am_go hF sgX6_oneMore_7_c7176 9 [(0, .ref 465), (1, .int (nI p))] [.int ((S 6 p) + 1), .int (nI p), .ref 506] sgX6_oneMore_7_c7176d rfl ?_
  refine sv_iast hF 6 (by decide) ⟨rfl, rfl, by decide⟩ p rfl (show p < 16 by omega) dX6_oneMore_9 ?_
  refine am_go hF sgX6_oneMore_10_34db8 11 [(0, .ref 465), (1, .int (nI p))] [.ref 465] sgX6_oneMore_10_34db8d rfl ?_
  refine sv_get hF 6 (by decide) rfl lf_RX6_19 (.ref 506) rfl dX6_oneMore_11 ?_
  refine am_go hF sgX6_oneMore_14_840bf 15 [(0, .ref 465), (1, .int (nI p))] [.int (nI p), .ref 506] sgX6_oneMore_14_840bfd rfl ?_
  refine sv_iald hF 6 (by decide) ⟨rfl, rfl, by decide⟩ p rfl (show p < 16 by omega) dX6_oneMore_15 ?_
  refine am_top ((S 6 p) + 1) (st1_same _ _ _ _) ?_
  refine am_go hF sgX6_oneMore_16_800cc 17 [(0, .ref 465), (1, .int (nI p))] [.int 3, .int ((S 6 p) + 1)] sgX6_oneMore_16_800ccd rfl ?_
  refine am_icmpne hF 71 dX6_oneMore_17 (by decide) (fun c1 => ?_) (fun c1 => ?_)
  · skip
    exact am_vret hF hO hret dX6_oneMore_71 ⟨by unfold rOne; simp only [c1, ↓reduceIte], rfl⟩
  · skip
    refine am_go hF sgX6_oneMore_20_34db8 21 [(0, .ref 465), (1, .int (nI p))] [.ref 465] sgX6_oneMore_20_34db8d rfl ?_
    refine sv_get hF 6 (by decide) rfl lf_RX6_19 (.ref 506) rfl dX6_oneMore_21 ?_
    refine am_go hF sgX6_oneMore_24_cd6b4 26 [(0, .ref 465), (1, .int (nI p))] [.int 0, .int (nI p), .ref 506] sgX6_oneMore_24_cd6b4d rfl ?_
    refine sv_iast hF 6 (by decide) ⟨rfl, rfl, by decide⟩ p rfl (show p < 16 by omega) dX6_oneMore_26 ?_
    refine am_go hF sgX6_oneMore_27_01fef 29 [(2, .int 0), (0, .ref 465), (1, .int (nI p))] [] sgX6_oneMore_27_01fefd rfl ?_
    refine am_drop [1, 2, 0] [(0, .ref 465), (1, .int (nI p)), (2, .int 0)] rfl ?_
    have lp29 : ∀ (d j : Nat) (S1 : am_T), j + d = n → S1 = itN (rone p) (st1 (st1 S 6 p (S 6 p + 1)) 6 p 0) j → am_W C (hp T S1 o) 0 0 29 [(0, .ref 465), (1, .int (nI p)), (2, .int (nI j))] [] := by
      intro d
      induction d with
      | zero =>
        intro j S1 hj hS1
        have e9j : j = n := by omega
        have hn1 : S1 9 0 = nI n := by rw [hS1]; exact (congrFun (itN_f (F := rone p) 9 (fun k S => st1_f (show 9 ≠ 16 by decide)) _ j) 0).trans hn
        refine am_go hF sgX6_oneMore_29_14491 31 [(0, .ref 465), (1, .int (nI p)), (2, .int (nI j))] [.ref 465, .int (nI j)] sgX6_oneMore_29_14491d rfl ?_
        refine sv_get hF 9 (by decide) rfl lf_RX6_112 (.int (S1 9 0)) rfl dX6_oneMore_31 ?_
        refine am_top (nI n) hn1 ?_
        refine am_icmpge hF 71 dX6_oneMore_34 (by decide) (fun _ => ?_) (fun h9 => False.elim (absurd (nc_ge (show n ≤ j by omega) (by omega) (by omega) rfl rfl) h9))
        exact am_vret hF hO hret dX6_oneMore_71 ⟨by unfold rOne; simp only [(eq_true c1), ↓reduceIte]; rw [hS1, e9j], rfl⟩
      | succ d ih29 =>
        intro j S1 hj hS1
        have l9j : j < n := by omega
        have hn1 : S1 9 0 = nI n := by rw [hS1]; exact (congrFun (itN_f (F := rone p) 9 (fun k S => st1_f (show 9 ≠ 16 by decide)) _ j) 0).trans hn
        refine am_go hF sgX6_oneMore_29_14491 31 [(0, .ref 465), (1, .int (nI p)), (2, .int (nI j))] [.ref 465, .int (nI j)] sgX6_oneMore_29_14491d rfl ?_
        refine sv_get hF 9 (by decide) rfl lf_RX6_112 (.int (S1 9 0)) rfl dX6_oneMore_31 ?_
        refine am_top (nI n) hn1 ?_
        refine am_icmpge hF 71 dX6_oneMore_34 (by decide) (fun h9 => False.elim (nc_lt_f (show j < n by omega) (by omega) (by omega) rfl rfl h9)) (fun _ => ?_)
        refine am_go hF sgX6_oneMore_37_6c3f3 45 [(3, .int ((16 * (nI j)) + (nI p))), (0, .ref 465), (1, .int (nI p)), (2, .int (nI j))] [.ref 465] sgX6_oneMore_37_6c3f3d rfl ?_
        refine sv_get hF 16 (by decide) rfl lf_RX6_47 (.ref 516) rfl dX6_oneMore_45 ?_
        refine am_go hF sgX6_oneMore_48_a1b5b 50 [(3, .int ((16 * (nI j)) + (nI p))), (0, .ref 465), (1, .int (nI p)), (2, .int (nI j))] [.ref 465, .int ((16 * (nI j)) + (nI p)), .ref 516] sgX6_oneMore_48_a1b5bd rfl ?_
        refine sv_get hF 16 (by decide) rfl lf_RX6_47 (.ref 516) rfl dX6_oneMore_50 ?_
        refine am_go hF sgX6_oneMore_53_13b50 54 [(3, .int ((16 * (nI j)) + (nI p))), (0, .ref 465), (1, .int (nI p)), (2, .int (nI j))] [.int ((16 * (nI j)) + (nI p)), .ref 516, .int ((16 * (nI j)) + (nI p)), .ref 516] sgX6_oneMore_53_13b50d rfl ?_
        refine sv_iald hF 16 (by decide) ⟨rfl, rfl, by decide⟩ ((16 * j) + p) (am_ad (am_mu rfl rfl) rfl) (show (16 * j) + p < 160 by omega) dX6_oneMore_54 ?_
        refine am_go hF sgX6_oneMore_55_5ff24 56 [(3, .int ((16 * (nI j)) + (nI p))), (0, .ref 465), (1, .int (nI p)), (2, .int (nI j))] [.int (-1), .int (S1 16 ((16 * j) + p)), .int ((16 * (nI j)) + (nI p)), .ref 516] sgX6_oneMore_55_5ff24d rfl ?_
        refine am_icmpne hF 63 dX6_oneMore_56 (by decide) (fun c4 => ?_) (fun c4 => ?_)
        · skip
          refine am_go hF sgX6_oneMore_63_4de0a 64 [(3, .int ((16 * (nI j)) + (nI p))), (0, .ref 465), (1, .int (nI p)), (2, .int (nI j))] [.int 1, .int ((16 * (nI j)) + (nI p)), .ref 516] sgX6_oneMore_63_4de0ad rfl ?_
          refine sv_iast hF 16 (by decide) ⟨rfl, rfl, by decide⟩ ((16 * j) + p) (am_ad (am_mu rfl rfl) rfl) (show (16 * j) + p < 160 by omega) dX6_oneMore_64 ?_
          refine am_go hF sgX6_oneMore_65_92559 29 [(2, .int ((nI j) + 1)), (3, .int ((16 * (nI j)) + (nI p))), (0, .ref 465), (1, .int (nI p))] [] sgX6_oneMore_65_92559d rfl ?_
          refine am_drop [2, 3, 0] [(0, .ref 465), (1, .int (nI p)), (2, .int ((nI j) + 1))] rfl ?_
          refine am_eqL [(0, .ref 465), (1, .int (nI p)), (2, .int (nI (j + 1)))] (by rw [nI_1]) ?_
          exact ih29 (j + 1) (st1 S1 16 ((16 * j) + p) 1) (by omega) (by show _ = rone p j (itN (rone p) (st1 (st1 S 6 p (S 6 p + 1)) 6 p 0) j); rw [← hS1]; simp only [rone, c4, ↓reduceIte])
        · skip
          refine am_go hF sgX6_oneMore_59_06683 64 [(3, .int ((16 * (nI j)) + (nI p))), (0, .ref 465), (1, .int (nI p)), (2, .int (nI j))] [.int (-1), .int ((16 * (nI j)) + (nI p)), .ref 516] sgX6_oneMore_59_06683d rfl ?_
          refine sv_iast hF 16 (by decide) ⟨rfl, rfl, by decide⟩ ((16 * j) + p) (am_ad (am_mu rfl rfl) rfl) (show (16 * j) + p < 160 by omega) dX6_oneMore_64 ?_
          refine am_go hF sgX6_oneMore_65_92559 29 [(2, .int ((nI j) + 1)), (3, .int ((16 * (nI j)) + (nI p))), (0, .ref 465), (1, .int (nI p))] [] sgX6_oneMore_65_92559d rfl ?_
          refine am_drop [2, 3, 0] [(0, .ref 465), (1, .int (nI p)), (2, .int ((nI j) + 1))] rfl ?_
          refine am_eqL [(0, .ref 465), (1, .int (nI p)), (2, .int (nI (j + 1)))] (by rw [nI_1]) ?_
          exact ih29 (j + 1) (st1 S1 16 ((16 * j) + p) (-1)) (by omega) (by show _ = rone p j (itN (rone p) (st1 (st1 S 6 p (S 6 p + 1)) 6 p 0) j); rw [← hS1]; simp only [rone, (eq_true c4), ↓reduceIte])
    exact lp29 n 0 (st1 (st1 S 6 p ((S 6 p) + 1)) 6 p 0) (by omega) rfl
set_option maxRecDepth 100000 in
set_option maxHeartbeats 4000000 in
theorem c_comesToBox {G : am_S} {T S : am_T} {o : Nat → Int64} {n : Nat} (hn : S 9 0 = nI n) (hn10 : n ≤ 10) {k p b : Nat} (hk : k < 80) (hp9 : p < 16) (hb : S 7 p = nI b) (hb10 : b ≤ 10) : am_D G yX6_comesToBox (.code yX6_comesToBox cX6_comesToBox 3 none :: am_G) { frames := 1, cells := 0, slots := 0, locals := 23 } (hp T S o) [.ref 465, .int (nI k), .int (nI p)] (hp T (rBox S n k p b) o) none := by
  refine am_of (by decide +kernel) (Nat.le_of_ble_eq_true rfl) ?_
  intro C hse hret hname hF hO
  subst hse
  refine am_go hF sgX6_comesToBox_0_34db8 1 [(0, .ref 465), (1, .int (nI k)), (2, .int (nI p))] [.ref 465] sgX6_comesToBox_0_34db8d rfl ?_
  refine sv_get hF 7 (by decide) rfl lf_RX6_22 (.ref 507) rfl dX6_comesToBox_1 ?_
  refine am_go hF sgX6_comesToBox_4_f8a59 5 [(0, .ref 465), (1, .int (nI k)), (2, .int (nI p))] [.int (nI p), .ref 507] sgX6_comesToBox_4_f8a59d rfl ?_
  refine sv_iald hF 7 (by decide) ⟨rfl, rfl, by decide⟩ p rfl (show p < 16 by omega) dX6_comesToBox_5 ?_
  refine am_top (nI b) hb ?_
  refine am_go hF sgX6_comesToBox_6_ee951 8 [(0, .ref 465), (1, .int (nI k)), (2, .int (nI p))] [.int 10, .int (nI b)] sgX6_comesToBox_6_ee951d rfl ?_
  refine am_icmpne hF 19 dX6_comesToBox_8 (by decide) (fun c1 => ?_) (fun c1 => ?_)
  · skip
    have hb9 : b ≠ 10 := fun e => c1 (by rw [e]; rfl)
    refine am_go hF sgX6_comesToBox_19_34db8 20 [(0, .ref 465), (1, .int (nI k)), (2, .int (nI p))] [.ref 465] sgX6_comesToBox_19_34db8d rfl ?_
    refine sv_get hF 8 (by decide) rfl lf_RX6_25 (.ref 508) rfl dX6_comesToBox_20 ?_
    refine am_go hF sgX6_comesToBox_23_56481 28 [(0, .ref 465), (1, .int (nI k)), (2, .int (nI p))] [.ref 465, .int (10 * (nI p)), .ref 508] sgX6_comesToBox_23_56481d rfl ?_
    refine sv_get hF 7 (by decide) rfl lf_RX6_22 (.ref 507) rfl dX6_comesToBox_28 ?_
    refine am_go hF sgX6_comesToBox_31_f8a59 32 [(0, .ref 465), (1, .int (nI k)), (2, .int (nI p))] [.int (nI p), .ref 507, .int (10 * (nI p)), .ref 508] sgX6_comesToBox_31_f8a59d rfl ?_
    refine sv_iald hF 7 (by decide) ⟨rfl, rfl, by decide⟩ p rfl (show p < 16 by omega) dX6_comesToBox_32 ?_
    refine am_top (nI b) hb ?_
    refine am_go hF sgX6_comesToBox_33_ebc32 35 [(0, .ref 465), (1, .int (nI k)), (2, .int (nI p))] [.int (nI k), .int ((10 * (nI p)) + (nI b)), .ref 508] sgX6_comesToBox_33_ebc32d rfl ?_
    refine sv_iast hF 8 (by decide) ⟨rfl, rfl, by decide⟩ ((10 * p) + b) (am_ad (am_mu rfl rfl) rfl) (show (10 * p) + b < 160 by omega) dX6_comesToBox_35 ?_
    refine am_go hF sgX6_comesToBox_36_34db8 37 [(0, .ref 465), (1, .int (nI k)), (2, .int (nI p))] [.ref 465] sgX6_comesToBox_36_34db8d rfl ?_
    refine sv_get hF 7 (by decide) rfl lf_RX6_22 (.ref 507) rfl dX6_comesToBox_37 ?_
    refine am_go hF sgX6_comesToBox_40_9241e 42 [(0, .ref 465), (1, .int (nI k)), (2, .int (nI p))] [.int (nI p), .ref 507, .int (nI p), .ref 507] sgX6_comesToBox_40_9241ed rfl ?_
    refine sv_iald hF 7 (by decide) ⟨rfl, rfl, by decide⟩ p rfl (show p < 16 by omega) dX6_comesToBox_42 ?_
    refine am_top (nI b) hb ?_
    refine am_go hF sgX6_comesToBox_43_c7176 45 [(0, .ref 465), (1, .int (nI k)), (2, .int (nI p))] [.int ((nI b) + 1), .int (nI p), .ref 507] sgX6_comesToBox_43_c7176d rfl ?_
    refine sv_iast hF 7 (by decide) ⟨rfl, rfl, by decide⟩ p rfl (show p < 16 by omega) dX6_comesToBox_45 ?_
    refine am_go hF sgX6_comesToBox_46_34db8 47 [(0, .ref 465), (1, .int (nI k)), (2, .int (nI p))] [.ref 465] sgX6_comesToBox_46_34db8d rfl ?_
    refine sv_get hF 25 (by decide) rfl lf_RX6_71 (.ref 525) rfl dX6_comesToBox_47 ?_
    refine am_go hF sgX6_comesToBox_50_563cd 52 [(0, .ref 465), (1, .int (nI k)), (2, .int (nI p))] [.int (nI k), .ref 525, .int (nI k), .ref 525] sgX6_comesToBox_50_563cdd rfl ?_
    refine sv_iald hF 25 (by decide) ⟨rfl, rfl, by decide⟩ k rfl (show k < 80 by omega) dX6_comesToBox_52 ?_
    refine am_top (S 25 k) rfl ?_
    refine am_go hF sgX6_comesToBox_53_76418 57 [(0, .ref 465), (1, .int (nI k)), (2, .int (nI p))] [.int ((S 25 k) ||| (1 <<< ((nI p) &&& 31))), .int (nI k), .ref 525] sgX6_comesToBox_53_76418d rfl ?_
    refine sv_iast hF 25 (by decide) ⟨rfl, rfl, by decide⟩ k rfl (show k < 80 by omega) dX6_comesToBox_57 ?_
    exact am_vret hF hO hret dX6_comesToBox_58 ⟨by simp only [rBox, c1, ↓reduceIte], rfl⟩
  · skip
    refine am_go hF sgX6_comesToBox_11_78e74 13 [(0, .ref 465), (1, .int (nI k)), (2, .int (nI p))] [.int (nI p), .ref 465] sgX6_comesToBox_11_78e74d rfl ?_
    refine am_dV hF hO [.int (nI p)] [] (c_oneMore hn hn10 (by omega)) myX6_oneMore vyX6_oneMore lm_RX6_143 (hp_m _ _ _) rfl rfl 0 0 ⟨Nat.le_of_ble_eq_true rfl, Nat.le_of_ble_eq_true rfl⟩ ⟨Nat.le_of_ble_eq_true rfl, Nat.le_of_ble_eq_true rfl, Nat.le_of_ble_eq_true rfl, Nat.le_of_ble_eq_true rfl⟩ rfl (am_lv_ref (hp_m _ _ _) (am_lv_int (am_lv_int am_lv_nil))) (Nat.le_of_ble_eq_true rfl) dX6_comesToBox_13 [] rfl ?_
    refine am_go hF sgX6_comesToBox_16_933e7 58 [(0, .ref 465), (1, .int (nI k)), (2, .int (nI p))] [] sgX6_comesToBox_16_933e7d rfl ?_
    exact am_vret hF hO hret dX6_comesToBox_58 ⟨by simp only [rBox, (eq_true c1), ↓reduceIte], rfl⟩
set_option maxRecDepth 100000 in
set_option maxHeartbeats 4000000 in
theorem c_comesToDigest {G : am_S} {T S : am_T} {o : Nat → Int64} {k l p d : Nat} (hk : k < 80) (hl : l < 10) (hp9 : p < 16) (hd : S 20 k = nI d) (hd4 : d ≤ 400) : am_D G yX6_comesToDigest (.code yX6_comesToDigest cX6_comesToDigest 5 none :: am_G) { frames := 0, cells := 0, slots := 0, locals := 0 } (hp T S o) [.ref 465, .int (nI k), .int (nI l), .int (nI p)] (hp T (rDig S k l p d) o) none := by
  refine am_of (by decide +kernel) (Nat.le_of_ble_eq_true rfl) ?_
  intro C hse hret hname hF hO
  subst hse
  refine am_go hF sgX6_comesToDigest_0_2baf6 6 [(0, .ref 465), (1, .int (nI k)), (2, .int (nI l)), (3, .int (nI p))] [.ref 465, .int (401 * (nI l))] sgX6_comesToDigest_0_2baf6d rfl ?_
  refine sv_get hF 20 (by decide) rfl lf_RX6_56 (.ref 520) rfl dX6_comesToDigest_6 ?_
  refine am_go hF sgX6_comesToDigest_9_840bf 10 [(0, .ref 465), (1, .int (nI k)), (2, .int (nI l)), (3, .int (nI p))] [.int (nI k), .ref 520, .int (401 * (nI l))] sgX6_comesToDigest_9_840bfd rfl ?_
  refine sv_iald hF 20 (by decide) ⟨rfl, rfl, by decide⟩ k rfl (show k < 80 by omega) dX6_comesToDigest_10 ?_
  refine am_top (nI d) hd ?_
  refine am_go hF sgX6_comesToDigest_11_4dc44 15 [(4, .int ((401 * (nI l)) + (nI d))), (0, .ref 465), (1, .int (nI k)), (2, .int (nI l)), (3, .int (nI p))] [.ref 465] sgX6_comesToDigest_11_4dc44d rfl ?_
  refine sv_get hF 32 (by decide) rfl lf_RX6_92 (.ref 532) rfl dX6_comesToDigest_15 ?_
  refine am_go hF sgX6_comesToDigest_18_40916 21 [(4, .int ((401 * (nI l)) + (nI d))), (0, .ref 465), (1, .int (nI k)), (2, .int (nI l)), (3, .int (nI p))] [.int 1, .int ((401 * (nI l)) + (nI d)), .ref 532] sgX6_comesToDigest_18_40916d rfl ?_
  refine sv_zast hF 32 (by decide) ⟨rfl, rfl, by decide⟩ ((401 * l) + d) (am_ad (am_mu rfl rfl) rfl) (show (401 * l) + d < 4010 by omega) rfl dX6_comesToDigest_21 ?_
  refine am_go hF sgX6_comesToDigest_22_34db8 23 [(4, .int ((401 * (nI l)) + (nI d))), (0, .ref 465), (1, .int (nI k)), (2, .int (nI l)), (3, .int (nI p))] [.ref 465] sgX6_comesToDigest_22_34db8d rfl ?_
  refine sv_get hF 34 (by decide) rfl lf_RX6_98 (.ref 534) rfl dX6_comesToDigest_23 ?_
  refine am_go hF sgX6_comesToDigest_26_01ce9 29 [(4, .int ((401 * (nI l)) + (nI d))), (0, .ref 465), (1, .int (nI k)), (2, .int (nI l)), (3, .int (nI p))] [.int ((401 * (nI l)) + (nI d)), .ref 534, .int ((401 * (nI l)) + (nI d)), .ref 534] sgX6_comesToDigest_26_01ce9d rfl ?_
  refine sv_iald hF 34 (by decide) ⟨rfl, rfl, by decide⟩ ((401 * l) + d) (am_ad (am_mu rfl rfl) rfl) (show (401 * l) + d < 4010 by omega) dX6_comesToDigest_29 ?_
  refine am_top (S 34 ((401 * l) + d)) rfl ?_
  refine am_go hF sgX6_comesToDigest_30_4473e 34 [(4, .int ((401 * (nI l)) + (nI d))), (0, .ref 465), (1, .int (nI k)), (2, .int (nI l)), (3, .int (nI p))] [.int ((S 34 ((401 * l) + d)) ||| (1 <<< ((nI p) &&& 31))), .int ((401 * (nI l)) + (nI d)), .ref 534] sgX6_comesToDigest_30_4473ed rfl ?_
  refine sv_iast hF 34 (by decide) ⟨rfl, rfl, by decide⟩ ((401 * l) + d) (am_ad (am_mu rfl rfl) rfl) (show (401 * l) + d < 4010 by omega) dX6_comesToDigest_34 ?_
  refine am_go hF sgX6_comesToDigest_35_34db8 36 [(4, .int ((401 * (nI l)) + (nI d))), (0, .ref 465), (1, .int (nI k)), (2, .int (nI l)), (3, .int (nI p))] [.ref 465] sgX6_comesToDigest_35_34db8d rfl ?_
  refine sv_get hF 25 (by decide) rfl lf_RX6_71 (.ref 525) rfl dX6_comesToDigest_36 ?_
  refine am_go hF sgX6_comesToDigest_39_563cd 41 [(4, .int ((401 * (nI l)) + (nI d))), (0, .ref 465), (1, .int (nI k)), (2, .int (nI l)), (3, .int (nI p))] [.int (nI k), .ref 525, .int (nI k), .ref 525] sgX6_comesToDigest_39_563cdd rfl ?_
  refine sv_iald hF 25 (by decide) ⟨rfl, rfl, by decide⟩ k rfl (show k < 80 by omega) dX6_comesToDigest_41 ?_
  refine am_top (S 25 k) rfl ?_
  refine am_go hF sgX6_comesToDigest_42_4473e 46 [(4, .int ((401 * (nI l)) + (nI d))), (0, .ref 465), (1, .int (nI k)), (2, .int (nI l)), (3, .int (nI p))] [.int ((S 25 k) ||| (1 <<< ((nI p) &&& 31))), .int (nI k), .ref 525] sgX6_comesToDigest_42_4473ed rfl ?_
  refine sv_iast hF 25 (by decide) ⟨rfl, rfl, by decide⟩ k rfl (show k < 80 by omega) dX6_comesToDigest_46 ?_
  refine am_go hF sgX6_comesToDigest_47_34db8 48 [(4, .int ((401 * (nI l)) + (nI d))), (0, .ref 465), (1, .int (nI k)), (2, .int (nI l)), (3, .int (nI p))] [.ref 465] sgX6_comesToDigest_47_34db8d rfl ?_
  refine sv_get hF 31 (by decide) rfl lf_RX6_89 (.ref 531) rfl dX6_comesToDigest_48 ?_
  refine am_go hF sgX6_comesToDigest_51_afa86 57 [(4, .int ((401 * (nI l)) + (nI d))), (0, .ref 465), (1, .int (nI k)), (2, .int (nI l)), (3, .int (nI p))] [.int ((10 * (nI k)) + (nI l)), .ref 531] sgX6_comesToDigest_51_afa86d rfl ?_
  refine sv_zald hF 31 (by decide) ⟨rfl, rfl, by decide⟩ ((10 * k) + l) (am_ad (am_mu rfl rfl) rfl) (show (10 * k) + l < 800 by omega) dX6_comesToDigest_57 ?_
  refine am_top (S 31 ((10 * k) + l)) rfl ?_
  refine am_ifne hF 110 dX6_comesToDigest_58 (by decide) (fun c1 => ?_) (fun c1 => ?_)
  · skip
    refine am_go hF sgX6_comesToDigest_110_34db8 111 [(4, .int ((401 * (nI l)) + (nI d))), (0, .ref 465), (1, .int (nI k)), (2, .int (nI l)), (3, .int (nI p))] [.ref 465] sgX6_comesToDigest_110_34db8d rfl ?_
    refine sv_get hF 31 (by decide) rfl lf_RX6_89 (.ref 531) rfl dX6_comesToDigest_111 ?_
    refine am_go hF sgX6_comesToDigest_114_e8b24 121 [(4, .int ((401 * (nI l)) + (nI d))), (0, .ref 465), (1, .int (nI k)), (2, .int (nI l)), (3, .int (nI p))] [.int 1, .int ((10 * (nI k)) + (nI l)), .ref 531] sgX6_comesToDigest_114_e8b24d rfl ?_
    refine sv_zast hF 31 (by decide) ⟨rfl, rfl, by decide⟩ ((10 * k) + l) (am_ad (am_mu rfl rfl) rfl) (show (10 * k) + l < 800 by omega) rfl dX6_comesToDigest_121 ?_
    exact am_vret hF hO hret dX6_comesToDigest_122 ⟨by simp only [rDig, not_false_eq_true, not_true_eq_false, and_self, and_true, true_and, and_false, false_and, rDi3, c1, ↓reduceIte], rfl⟩
  · skip
    refine am_go hF sgX6_comesToDigest_61_34db8 62 [(4, .int ((401 * (nI l)) + (nI d))), (0, .ref 465), (1, .int (nI k)), (2, .int (nI l)), (3, .int (nI p))] [.ref 465] sgX6_comesToDigest_61_34db8d rfl ?_
    refine sv_get hF 20 (by decide) rfl lf_RX6_56 (.ref 520) rfl dX6_comesToDigest_62 ?_
    refine am_go hF sgX6_comesToDigest_65_840bf 66 [(4, .int ((401 * (nI l)) + (nI d))), (0, .ref 465), (1, .int (nI k)), (2, .int (nI l)), (3, .int (nI p))] [.int (nI k), .ref 520] sgX6_comesToDigest_65_840bfd rfl ?_
    refine sv_iald hF 20 (by decide) ⟨rfl, rfl, by decide⟩ k rfl (show k < 80 by omega) dX6_comesToDigest_66 ?_
    refine am_top (nI d) hd ?_
    refine am_go hF sgX6_comesToDigest_67_34db8 68 [(4, .int ((401 * (nI l)) + (nI d))), (0, .ref 465), (1, .int (nI k)), (2, .int (nI l)), (3, .int (nI p))] [.ref 465, .int (nI d)] sgX6_comesToDigest_67_34db8d rfl ?_
    refine sv_get hF 1 (by decide) rfl lf_RX6_147 (.int (S 1 0)) rfl dX6_comesToDigest_68 ?_
    refine am_icmpge hF 110 dX6_comesToDigest_71 (by decide) (fun c2 => ?_) (fun c2 => ?_)
    · skip
      refine am_go hF sgX6_comesToDigest_110_34db8 111 [(4, .int ((401 * (nI l)) + (nI d))), (0, .ref 465), (1, .int (nI k)), (2, .int (nI l)), (3, .int (nI p))] [.ref 465] sgX6_comesToDigest_110_34db8d rfl ?_
      refine sv_get hF 31 (by decide) rfl lf_RX6_89 (.ref 531) rfl dX6_comesToDigest_111 ?_
      refine am_go hF sgX6_comesToDigest_114_e8b24 121 [(4, .int ((401 * (nI l)) + (nI d))), (0, .ref 465), (1, .int (nI k)), (2, .int (nI l)), (3, .int (nI p))] [.int 1, .int ((10 * (nI k)) + (nI l)), .ref 531] sgX6_comesToDigest_114_e8b24d rfl ?_
      refine sv_zast hF 31 (by decide) ⟨rfl, rfl, by decide⟩ ((10 * k) + l) (am_ad (am_mu rfl rfl) rfl) (show (10 * k) + l < 800 by omega) rfl dX6_comesToDigest_121 ?_
      exact am_vret hF hO hret dX6_comesToDigest_122 ⟨by simp only [rDig, not_false_eq_true, not_true_eq_false, and_self, and_true, true_and, and_false, false_and, rDi3, (eq_true c1), c2, ↓reduceIte], rfl⟩
    · skip
      refine am_go hF sgX6_comesToDigest_74_34db8 75 [(4, .int ((401 * (nI l)) + (nI d))), (0, .ref 465), (1, .int (nI k)), (2, .int (nI l)), (3, .int (nI p))] [.ref 465] sgX6_comesToDigest_74_34db8d rfl ?_
      refine sv_get hF 35 (by decide) rfl lf_RX6_101 (.ref 535) rfl dX6_comesToDigest_75 ?_
      refine am_go hF sgX6_comesToDigest_78_c6742 80 [(4, .int ((401 * (nI l)) + (nI d))), (0, .ref 465), (1, .int (nI k)), (2, .int (nI l)), (3, .int (nI p))] [.int ((401 * (nI l)) + (nI d)), .ref 535] sgX6_comesToDigest_78_c6742d rfl ?_
      refine sv_iald hF 35 (by decide) ⟨rfl, rfl, by decide⟩ ((401 * l) + d) (am_ad (am_mu rfl rfl) rfl) (show (401 * l) + d < 4010 by omega) dX6_comesToDigest_80 ?_
      refine am_top (S 35 ((401 * l) + d)) rfl ?_
      refine am_go hF sgX6_comesToDigest_81_34db8 82 [(4, .int ((401 * (nI l)) + (nI d))), (0, .ref 465), (1, .int (nI k)), (2, .int (nI l)), (3, .int (nI p))] [.ref 465, .int (S 35 ((401 * l) + d))] sgX6_comesToDigest_81_34db8d rfl ?_
      refine sv_get hF 2 (by decide) rfl lf_RX6_150 (.int (S 2 0)) rfl dX6_comesToDigest_82 ?_
      refine am_icmpeq hF 110 dX6_comesToDigest_85 (by decide) (fun c3 => ?_) (fun c3 => ?_)
      · skip
        refine am_go hF sgX6_comesToDigest_110_34db8 111 [(4, .int ((401 * (nI l)) + (nI d))), (0, .ref 465), (1, .int (nI k)), (2, .int (nI l)), (3, .int (nI p))] [.ref 465] sgX6_comesToDigest_110_34db8d rfl ?_
        refine sv_get hF 31 (by decide) rfl lf_RX6_89 (.ref 531) rfl dX6_comesToDigest_111 ?_
        refine am_go hF sgX6_comesToDigest_114_e8b24 121 [(4, .int ((401 * (nI l)) + (nI d))), (0, .ref 465), (1, .int (nI k)), (2, .int (nI l)), (3, .int (nI p))] [.int 1, .int ((10 * (nI k)) + (nI l)), .ref 531] sgX6_comesToDigest_114_e8b24d rfl ?_
        refine sv_zast hF 31 (by decide) ⟨rfl, rfl, by decide⟩ ((10 * k) + l) (am_ad (am_mu rfl rfl) rfl) (show (10 * k) + l < 800 by omega) rfl dX6_comesToDigest_121 ?_
        exact am_vret hF hO hret dX6_comesToDigest_122 ⟨by simp only [rDig, not_false_eq_true, not_true_eq_false, and_self, and_true, true_and, and_false, false_and, rDi3, (eq_true c1), c2, (eq_true c3), ↓reduceIte], rfl⟩
      · skip
        refine am_go hF sgX6_comesToDigest_88_34db8 89 [(4, .int ((401 * (nI l)) + (nI d))), (0, .ref 465), (1, .int (nI k)), (2, .int (nI l)), (3, .int (nI p))] [.ref 465] sgX6_comesToDigest_88_34db8d rfl ?_
        refine sv_get hF 33 (by decide) rfl lf_RX6_95 (.ref 533) rfl dX6_comesToDigest_89 ?_
        refine am_go hF sgX6_comesToDigest_92_01ce9 95 [(4, .int ((401 * (nI l)) + (nI d))), (0, .ref 465), (1, .int (nI k)), (2, .int (nI l)), (3, .int (nI p))] [.int ((401 * (nI l)) + (nI d)), .ref 533, .int ((401 * (nI l)) + (nI d)), .ref 533] sgX6_comesToDigest_92_01ce9d rfl ?_
        refine sv_iald hF 33 (by decide) ⟨rfl, rfl, by decide⟩ ((401 * l) + d) (am_ad (am_mu rfl rfl) rfl) (show (401 * l) + d < 4010 by omega) dX6_comesToDigest_95 ?_
        refine am_top (S 33 ((401 * l) + d)) rfl ?_
        refine am_go hF sgX6_comesToDigest_96_c7176 98 [(4, .int ((401 * (nI l)) + (nI d))), (0, .ref 465), (1, .int (nI k)), (2, .int (nI l)), (3, .int (nI p))] [.int ((S 33 ((401 * l) + d)) + 1), .int ((401 * (nI l)) + (nI d)), .ref 533] sgX6_comesToDigest_96_c7176d rfl ?_
        refine sv_iast hF 33 (by decide) ⟨rfl, rfl, by decide⟩ ((401 * l) + d) (am_ad (am_mu rfl rfl) rfl) (show (401 * l) + d < 4010 by omega) dX6_comesToDigest_98 ?_
        refine am_go hF sgX6_comesToDigest_99_34db8 100 [(4, .int ((401 * (nI l)) + (nI d))), (0, .ref 465), (1, .int (nI k)), (2, .int (nI l)), (3, .int (nI p))] [.ref 465] sgX6_comesToDigest_99_34db8d rfl ?_
        refine sv_get hF 35 (by decide) rfl lf_RX6_101 (.ref 535) rfl dX6_comesToDigest_100 ?_
        refine am_go hF sgX6_comesToDigest_103_49a24 106 [(4, .int ((401 * (nI l)) + (nI d))), (0, .ref 465), (1, .int (nI k)), (2, .int (nI l)), (3, .int (nI p))] [.ref 465, .int ((401 * (nI l)) + (nI d)), .ref 535] sgX6_comesToDigest_103_49a24d rfl ?_
        refine sv_get hF 2 (by decide) rfl lf_RX6_150 (.int (S 2 0)) rfl dX6_comesToDigest_106 ?_
        refine sv_iast hF 35 (by decide) ⟨rfl, rfl, by decide⟩ ((401 * l) + d) (am_ad (am_mu rfl rfl) rfl) (show (401 * l) + d < 4010 by omega) dX6_comesToDigest_109 ?_
        refine am_go hF sgX6_comesToDigest_110_34db8 111 [(4, .int ((401 * (nI l)) + (nI d))), (0, .ref 465), (1, .int (nI k)), (2, .int (nI l)), (3, .int (nI p))] [.ref 465] sgX6_comesToDigest_110_34db8d rfl ?_
        refine sv_get hF 31 (by decide) rfl lf_RX6_89 (.ref 531) rfl dX6_comesToDigest_111 ?_
        refine am_go hF sgX6_comesToDigest_114_e8b24 121 [(4, .int ((401 * (nI l)) + (nI d))), (0, .ref 465), (1, .int (nI k)), (2, .int (nI l)), (3, .int (nI p))] [.int 1, .int ((10 * (nI k)) + (nI l)), .ref 531] sgX6_comesToDigest_114_e8b24d rfl ?_
        refine sv_zast hF 31 (by decide) ⟨rfl, rfl, by decide⟩ ((10 * k) + l) (am_ad (am_mu rfl rfl) rfl) (show (10 * k) + l < 800 by omega) rfl dX6_comesToDigest_121 ?_
        exact am_vret hF hO hret dX6_comesToDigest_122 ⟨by simp only [rDig, not_false_eq_true, not_true_eq_false, and_self, and_true, true_and, and_false, false_and, rDi3, (eq_true c1), c2, c3, ↓reduceIte], rfl⟩
set_option maxRecDepth 100000 in
set_option maxHeartbeats 4000000 in
theorem c_scoreOf_n {G : am_S} {T S : am_T} {o : Nat → Int64} {m p : Nat} {words : Int32} (hm : S 17 0 = nI m) (hm80 : m ≤ 80) (hp9 : p < 16) : am_D G yX6_scoreOf (.code yX6_scoreOf cX6_scoreOf 6 (some .int) :: am_G) { frames := 0, cells := 0, slots := 0, locals := 0 } (hp T S o) [.ref 465, .int (nI p), .int words, .int (-1)] (hp T S o) (some (.int (rSum S m p words))) := by
  refine am_of (by decide +kernel) (Nat.le_of_ble_eq_true rfl) ?_
  intro C hse hret hname hF hO
  subst hse
  refine am_go hF sgX6_scoreOf_0_34db8 1 [(0, .ref 465), (1, .int (nI p)), (2, .int words), (3, .int (-1))] [.ref 465] sgX6_scoreOf_0_34db8d rfl ?_
  refine sv_get hF 4 (by decide) rfl lf_RX6_13 (.ref 504) rfl dX6_scoreOf_1 ?_
  refine am_go hF sgX6_scoreOf_4_840bf 5 [(0, .ref 465), (1, .int (nI p)), (2, .int words), (3, .int (-1))] [.int (nI p), .ref 504] sgX6_scoreOf_4_840bfd rfl ?_
  refine sv_iald hF 4 (by decide) ⟨rfl, rfl, by decide⟩ p rfl (show p < 16 by omega) dX6_scoreOf_5 ?_
  refine am_go hF sgX6_scoreOf_6_06618 11 [(5, .int 0), (4, .int (S 4 p)), (0, .ref 465), (1, .int (nI p)), (2, .int words), (3, .int (-1))] [] sgX6_scoreOf_6_06618d rfl ?_
  refine am_drop [2, 3, 4, 5, 1, 0] [(0, .ref 465), (1, .int (nI p)), (2, .int words), (3, .int (-1)), (4, .int (S 4 p)), (5, .int 0)] rfl ?_
  have lp11 : ∀ (dj j : Nat) (s : Int32), j + dj = 20 → s = itN (rsw S words) (S 4 p) j → am_W C (hp T S o) 0 0 11 [(0, .ref 465), (1, .int (nI p)), (2, .int words), (3, .int (-1)), (4, .int s), (5, .int (nI j))] [] := by
    intro dj
    induction dj with
    | zero =>
      intro j s hj hs
      have e9j : j = 20 := by omega
      refine am_go hF sgX6_scoreOf_11_ea47b 15 [(0, .ref 465), (1, .int (nI p)), (2, .int words), (3, .int (-1)), (4, .int s), (5, .int (nI j))] [.int 20, .int (nI j)] sgX6_scoreOf_11_ea47bd rfl ?_
      refine am_icmpge hF 50 dX6_scoreOf_15 (by decide) (fun _ => ?_) (fun h9 => False.elim (absurd (nc_ge (show 20 ≤ j by omega) (by omega) (by omega) rfl rfl) h9))
      refine am_go hF sgX6_scoreOf_50_d9665 53 [(5, .int 0), (0, .ref 465), (1, .int (nI p)), (2, .int words), (3, .int (-1)), (4, .int s)] [] sgX6_scoreOf_50_d9665d rfl ?_
      refine am_drop [1, 2, 3, 4, 5, 0] [(0, .ref 465), (1, .int (nI p)), (2, .int words), (3, .int (-1)), (4, .int s), (5, .int 0)] rfl ?_
      have lp53 : ∀ (di i : Nat) (s2 : Int32), i + di = m → s2 = itN (rsm S p) s i → am_W C (hp T S o) 0 0 53 [(0, .ref 465), (1, .int (nI p)), (2, .int words), (3, .int (-1)), (4, .int s2), (5, .int (nI i))] [] := by
        intro di
        induction di with
        | zero =>
          intro i s2 hi hs2
          have e9i : i = m := by omega
          refine am_go hF sgX6_scoreOf_53_e57aa 56 [(0, .ref 465), (1, .int (nI p)), (2, .int words), (3, .int (-1)), (4, .int s2), (5, .int (nI i))] [.ref 465, .int (nI i)] sgX6_scoreOf_53_e57aad rfl ?_
          refine sv_get hF 17 (by decide) rfl lf_RX6_115 (.int (S 17 0)) rfl dX6_scoreOf_56 ?_
          refine am_top (nI m) hm ?_
          refine am_icmpge hF 103 dX6_scoreOf_59 (by decide) (fun _ => ?_) (fun h9 => False.elim (absurd (nc_ge (show m ≤ i by omega) (by omega) (by omega) rfl rfl) h9))
          refine am_go hF sgX6_scoreOf_103_8324a 105 [(0, .ref 465), (1, .int (nI p)), (2, .int words), (3, .int (-1)), (4, .int s2), (5, .int (nI i))] [.int (-1), .int (-1)] sgX6_scoreOf_103_8324ad rfl ?_
          refine am_icmpeq hF 154 dX6_scoreOf_105 (by decide) (fun _ => ?_) (fun h9 => False.elim ((by revert h9; decide)))
          refine am_go hF sgX6_scoreOf_154_93f95 161 [(5, .int 0), (0, .ref 465), (1, .int (nI p)), (2, .int words), (3, .int (-1)), (4, .int s2)] [.int 0, .int s2] sgX6_scoreOf_154_93f95d rfl ?_
          refine am_ifeq hF 168 dX6_scoreOf_161 (by decide) (fun _ => ?_) (fun h9 => False.elim ((by revert h9; decide)))
          refine am_go hF sgX6_scoreOf_168_7f98f 170 [(5, .int 0), (0, .ref 465), (1, .int (nI p)), (2, .int words), (3, .int (-1)), (4, .int s2)] [.int (s2 - 0)] sgX6_scoreOf_168_7f98fd rfl ?_
          exact am_iret hF hO hret rfl dX6_scoreOf_170 ⟨rfl, by rw [show s2 = rSum S m p words by rw [hs2, e9i, hs, e9j]; rfl]; simp only [true_or, or_true, or_false, false_or, or_self, ↓reduceIte, Int32.sub_zero]⟩
        | succ di ih53 =>
          intro i s2 hi hs2
          have l9i : i < m := by omega
          refine am_go hF sgX6_scoreOf_53_e57aa 56 [(0, .ref 465), (1, .int (nI p)), (2, .int words), (3, .int (-1)), (4, .int s2), (5, .int (nI i))] [.ref 465, .int (nI i)] sgX6_scoreOf_53_e57aad rfl ?_
          refine sv_get hF 17 (by decide) rfl lf_RX6_115 (.int (S 17 0)) rfl dX6_scoreOf_56 ?_
          refine am_top (nI m) hm ?_
          refine am_icmpge hF 103 dX6_scoreOf_59 (by decide) (fun h9 => False.elim (nc_lt_f (show i < m by omega) (by omega) (by omega) rfl rfl h9)) (fun _ => ?_)
          refine am_go hF sgX6_scoreOf_62_49a24 65 [(0, .ref 465), (1, .int (nI p)), (2, .int words), (3, .int (-1)), (4, .int s2), (5, .int (nI i))] [.ref 465, .int s2] sgX6_scoreOf_62_49a24d rfl ?_
          refine sv_get hF 18 (by decide) rfl lf_RX6_50 (.ref 518) rfl dX6_scoreOf_65 ?_
          refine am_go hF sgX6_scoreOf_68_9df92 70 [(0, .ref 465), (1, .int (nI p)), (2, .int words), (3, .int (-1)), (4, .int s2), (5, .int (nI i))] [.int (nI i), .ref 518, .int s2] sgX6_scoreOf_68_9df92d rfl ?_
          refine sv_iald hF 18 (by decide) ⟨rfl, rfl, by decide⟩ i rfl (show i < 80 by omega) dX6_scoreOf_70 ?_
          refine am_go hF sgX6_scoreOf_71_840bf 72 [(0, .ref 465), (1, .int (nI p)), (2, .int words), (3, .int (-1)), (4, .int s2), (5, .int (nI i))] [.int (nI p), .int (S 18 i), .int s2] sgX6_scoreOf_71_840bfd rfl ?_
          refine am_icmpne hF 93 dX6_scoreOf_72 (by decide) (fun c6 => ?_) (fun c6 => ?_)
          · skip
            refine am_go hF sgX6_scoreOf_93_db923 53 [(5, .int ((nI i) + 1)), (4, .int (s2 + 0)), (0, .ref 465), (1, .int (nI p)), (2, .int words), (3, .int (-1))] [] sgX6_scoreOf_93_db923d rfl ?_
            refine am_drop [2, 3, 4, 5, 1, 0] [(0, .ref 465), (1, .int (nI p)), (2, .int words), (3, .int (-1)), (4, .int (s2 + 0)), (5, .int ((nI i) + 1))] rfl ?_
            refine am_eqL [(0, .ref 465), (1, .int (nI p)), (2, .int words), (3, .int (-1)), (4, .int (s2 + 0)), (5, .int (nI (i + 1)))] (by rw [nI_1]) ?_
            exact ih53 (i + 1) (s2 + 0) (by omega) (by show _ = rsm S p i (itN (rsm S p) s i); rw [← hs2]; simp only [rsm, c6, ↓reduceIte, not_false_eq_true, and_self, and_true, true_and, and_false, false_and])
          · skip
            refine am_go hF sgX6_scoreOf_75_34db8 76 [(0, .ref 465), (1, .int (nI p)), (2, .int words), (3, .int (-1)), (4, .int s2), (5, .int (nI i))] [.ref 465, .int s2] sgX6_scoreOf_75_34db8d rfl ?_
            refine sv_get hF 20 (by decide) rfl lf_RX6_56 (.ref 520) rfl dX6_scoreOf_76 ?_
            refine am_go hF sgX6_scoreOf_79_9df92 81 [(0, .ref 465), (1, .int (nI p)), (2, .int words), (3, .int (-1)), (4, .int s2), (5, .int (nI i))] [.int (nI i), .ref 520, .int s2] sgX6_scoreOf_79_9df92d rfl ?_
            refine sv_iald hF 20 (by decide) ⟨rfl, rfl, by decide⟩ i rfl (show i < 80 by omega) dX6_scoreOf_81 ?_
            refine am_go hF sgX6_scoreOf_82_34db8 83 [(0, .ref 465), (1, .int (nI p)), (2, .int words), (3, .int (-1)), (4, .int s2), (5, .int (nI i))] [.ref 465, .int (S 20 i), .int s2] sgX6_scoreOf_82_34db8d rfl ?_
            refine sv_get hF 1 (by decide) rfl lf_RX6_147 (.int (S 1 0)) rfl dX6_scoreOf_83 ?_
            refine am_icmpne hF 93 dX6_scoreOf_86 (by decide) (fun c7 => ?_) (fun c7 => ?_)
            · skip
              refine am_go hF sgX6_scoreOf_93_db923 53 [(5, .int ((nI i) + 1)), (4, .int (s2 + 0)), (0, .ref 465), (1, .int (nI p)), (2, .int words), (3, .int (-1))] [] sgX6_scoreOf_93_db923d rfl ?_
              refine am_drop [2, 3, 4, 5, 1, 0] [(0, .ref 465), (1, .int (nI p)), (2, .int words), (3, .int (-1)), (4, .int (s2 + 0)), (5, .int ((nI i) + 1))] rfl ?_
              refine am_eqL [(0, .ref 465), (1, .int (nI p)), (2, .int words), (3, .int (-1)), (4, .int (s2 + 0)), (5, .int (nI (i + 1)))] (by rw [nI_1]) ?_
              exact ih53 (i + 1) (s2 + 0) (by omega) (by show _ = rsm S p i (itN (rsm S p) s i); rw [← hs2]; simp only [rsm, (eq_true c6), c7, ↓reduceIte, not_false_eq_true, and_self, and_true, true_and, and_false, false_and])
            · skip
              refine am_go hF sgX6_scoreOf_89_f2611 53 [(5, .int ((nI i) + 1)), (4, .int (s2 + 1)), (0, .ref 465), (1, .int (nI p)), (2, .int words), (3, .int (-1))] [] sgX6_scoreOf_89_f2611d rfl ?_
              refine am_drop [2, 3, 4, 5, 1, 0] [(0, .ref 465), (1, .int (nI p)), (2, .int words), (3, .int (-1)), (4, .int (s2 + 1)), (5, .int ((nI i) + 1))] rfl ?_
              refine am_eqL [(0, .ref 465), (1, .int (nI p)), (2, .int words), (3, .int (-1)), (4, .int (s2 + 1)), (5, .int (nI (i + 1)))] (by rw [nI_1]) ?_
              exact ih53 (i + 1) (s2 + 1) (by omega) (by show _ = rsm S p i (itN (rsm S p) s i); rw [← hs2]; simp only [rsm, (eq_true c6), (eq_true c7), ↓reduceIte, not_false_eq_true, and_self, and_true, true_and, and_false, false_and])
      exact lp53 m 0 s (by omega) rfl
    | succ dj ih11 =>
      intro j s hj hs
      have l9j : j < 20 := by omega
      refine am_go hF sgX6_scoreOf_11_ea47b 15 [(0, .ref 465), (1, .int (nI p)), (2, .int words), (3, .int (-1)), (4, .int s), (5, .int (nI j))] [.int 20, .int (nI j)] sgX6_scoreOf_11_ea47bd rfl ?_
      refine am_icmpge hF 50 dX6_scoreOf_15 (by decide) (fun h9 => False.elim (nc_lt_f (show j < 20 by omega) (by omega) (by omega) rfl rfl h9)) (fun _ => ?_)
      refine am_go hF sgX6_scoreOf_18_0ca7e 27 [(0, .ref 465), (1, .int (nI p)), (2, .int words), (3, .int (-1)), (4, .int s), (5, .int (nI j))] [.int 1, .int ((words >>> ((nI j) &&& 31)) &&& 1), .int s] sgX6_scoreOf_18_0ca7ed rfl ?_
      refine am_icmpne hF 40 dX6_scoreOf_27 (by decide) (fun c9 => ?_) (fun c9 => ?_)
      · skip
        refine am_go hF sgX6_scoreOf_40_e2933 11 [(5, .int ((nI j) + 1)), (4, .int (s + 0)), (0, .ref 465), (1, .int (nI p)), (2, .int words), (3, .int (-1))] [] sgX6_scoreOf_40_e2933d rfl ?_
        refine am_drop [2, 3, 4, 5, 1, 0] [(0, .ref 465), (1, .int (nI p)), (2, .int words), (3, .int (-1)), (4, .int (s + 0)), (5, .int ((nI j) + 1))] rfl ?_
        refine am_eqL [(0, .ref 465), (1, .int (nI p)), (2, .int words), (3, .int (-1)), (4, .int (s + 0)), (5, .int (nI (j + 1)))] (by rw [nI_1]) ?_
        exact ih11 (j + 1) (s + 0) (by omega) (by show _ = rsw S words j (itN (rsw S words) (S 4 p) j); rw [← hs]; simp only [rsw, c9, ↓reduceIte])
      · skip
        refine am_go hF sgX6_scoreOf_30_34db8 31 [(0, .ref 465), (1, .int (nI p)), (2, .int words), (3, .int (-1)), (4, .int s), (5, .int (nI j))] [.ref 465, .int s] sgX6_scoreOf_30_34db8d rfl ?_
        refine sv_get hF 3 (by decide) rfl lf_RX6_7 (.ref 503) rfl dX6_scoreOf_31 ?_
        refine am_go hF sgX6_scoreOf_34_9df92 36 [(0, .ref 465), (1, .int (nI p)), (2, .int words), (3, .int (-1)), (4, .int s), (5, .int (nI j))] [.int (nI j), .ref 503, .int s] sgX6_scoreOf_34_9df92d rfl ?_
        refine sv_iald hF 3 (by decide) ⟨rfl, rfl, by decide⟩ j rfl (show j < 20 by omega) dX6_scoreOf_36 ?_
        refine am_go hF sgX6_scoreOf_37_85052 11 [(5, .int ((nI j) + 1)), (4, .int (s + (S 3 j))), (0, .ref 465), (1, .int (nI p)), (2, .int words), (3, .int (-1))] [] sgX6_scoreOf_37_85052d rfl ?_
        refine am_drop [2, 3, 4, 5, 1, 0] [(0, .ref 465), (1, .int (nI p)), (2, .int words), (3, .int (-1)), (4, .int (s + (S 3 j))), (5, .int ((nI j) + 1))] rfl ?_
        refine am_eqL [(0, .ref 465), (1, .int (nI p)), (2, .int words), (3, .int (-1)), (4, .int (s + (S 3 j))), (5, .int (nI (j + 1)))] (by rw [nI_1]) ?_
        exact ih11 (j + 1) (s + (S 3 j)) (by omega) (by show _ = rsw S words j (itN (rsw S words) (S 4 p) j); rw [← hs]; simp only [rsw, (eq_true c9), ↓reduceIte])
  exact lp11 20 0 (S 4 p) (by omega) rfl
set_option maxRecDepth 100000 in
set_option maxHeartbeats 4000000 in
theorem c_scoreOf_a {G : am_S} {T S : am_T} {o : Nat → Int64} {m p : Nat} {words : Int32} (hm : S 17 0 = nI m) (hm80 : m ≤ 80) (hp9 : p < 16) {a : Nat} (ha9 : a < m) : am_D G yX6_scoreOf (.code yX6_scoreOf cX6_scoreOf 6 (some .int) :: am_G) { frames := 0, cells := 0, slots := 0, locals := 0 } (hp T S o) [.ref 465, .int (nI p), .int words, .int (nI a)] (hp T S o) (some (.int (if S 18 a = nI p ∨ S 25 a >>> (nI p &&& 31) &&& 1 = 1 then rSum S m p words - 3 else rSum S m p words))) := by
  refine am_of (by decide +kernel) (Nat.le_of_ble_eq_true rfl) ?_
  intro C hse hret hname hF hO
  subst hse
  refine am_go hF sgX6_scoreOf_0_34db8 1 [(0, .ref 465), (1, .int (nI p)), (2, .int words), (3, .int (nI a))] [.ref 465] sgX6_scoreOf_0_34db8d rfl ?_
  refine sv_get hF 4 (by decide) rfl lf_RX6_13 (.ref 504) rfl dX6_scoreOf_1 ?_
  refine am_go hF sgX6_scoreOf_4_840bf 5 [(0, .ref 465), (1, .int (nI p)), (2, .int words), (3, .int (nI a))] [.int (nI p), .ref 504] sgX6_scoreOf_4_840bfd rfl ?_
  refine sv_iald hF 4 (by decide) ⟨rfl, rfl, by decide⟩ p rfl (show p < 16 by omega) dX6_scoreOf_5 ?_
  refine am_go hF sgX6_scoreOf_6_06618 11 [(5, .int 0), (4, .int (S 4 p)), (0, .ref 465), (1, .int (nI p)), (2, .int words), (3, .int (nI a))] [] sgX6_scoreOf_6_06618d rfl ?_
  refine am_drop [2, 3, 4, 5, 1, 0] [(0, .ref 465), (1, .int (nI p)), (2, .int words), (3, .int (nI a)), (4, .int (S 4 p)), (5, .int 0)] rfl ?_
  have lp11 : ∀ (dj j : Nat) (s : Int32), j + dj = 20 → s = itN (rsw S words) (S 4 p) j → am_W C (hp T S o) 0 0 11 [(0, .ref 465), (1, .int (nI p)), (2, .int words), (3, .int (nI a)), (4, .int s), (5, .int (nI j))] [] := by
    intro dj
    induction dj with
    | zero =>
      intro j s hj hs
      have e9j : j = 20 := by omega
      refine am_go hF sgX6_scoreOf_11_ea47b 15 [(0, .ref 465), (1, .int (nI p)), (2, .int words), (3, .int (nI a)), (4, .int s), (5, .int (nI j))] [.int 20, .int (nI j)] sgX6_scoreOf_11_ea47bd rfl ?_
      refine am_icmpge hF 50 dX6_scoreOf_15 (by decide) (fun _ => ?_) (fun h9 => False.elim (absurd (nc_ge (show 20 ≤ j by omega) (by omega) (by omega) rfl rfl) h9))
      refine am_go hF sgX6_scoreOf_50_d9665 53 [(5, .int 0), (0, .ref 465), (1, .int (nI p)), (2, .int words), (3, .int (nI a)), (4, .int s)] [] sgX6_scoreOf_50_d9665d rfl ?_
      refine am_drop [1, 2, 3, 4, 5, 0] [(0, .ref 465), (1, .int (nI p)), (2, .int words), (3, .int (nI a)), (4, .int s), (5, .int 0)] rfl ?_
      have lp53 : ∀ (di i : Nat) (s2 : Int32), i + di = m → s2 = itN (rsm S p) s i → am_W C (hp T S o) 0 0 53 [(0, .ref 465), (1, .int (nI p)), (2, .int words), (3, .int (nI a)), (4, .int s2), (5, .int (nI i))] [] := by
        intro di
        induction di with
        | zero =>
          intro i s2 hi hs2
          have e9i : i = m := by omega
          refine am_go hF sgX6_scoreOf_53_e57aa 56 [(0, .ref 465), (1, .int (nI p)), (2, .int words), (3, .int (nI a)), (4, .int s2), (5, .int (nI i))] [.ref 465, .int (nI i)] sgX6_scoreOf_53_e57aad rfl ?_
          refine sv_get hF 17 (by decide) rfl lf_RX6_115 (.int (S 17 0)) rfl dX6_scoreOf_56 ?_
          refine am_top (nI m) hm ?_
          refine am_icmpge hF 103 dX6_scoreOf_59 (by decide) (fun _ => ?_) (fun h9 => False.elim (absurd (nc_ge (show m ≤ i by omega) (by omega) (by omega) rfl rfl) h9))
          refine am_go hF sgX6_scoreOf_103_8324a 105 [(0, .ref 465), (1, .int (nI p)), (2, .int words), (3, .int (nI a)), (4, .int s2), (5, .int (nI i))] [.int (-1), .int (nI a)] sgX6_scoreOf_103_8324ad rfl ?_
          refine am_icmpeq hF 154 dX6_scoreOf_105 (by decide) (fun h9 => False.elim (absurd h9 (pk_nm1 (by omega)))) (fun _ => ?_)
          refine am_go hF sgX6_scoreOf_108_34db8 109 [(0, .ref 465), (1, .int (nI p)), (2, .int words), (3, .int (nI a)), (4, .int s2), (5, .int (nI i))] [.ref 465] sgX6_scoreOf_108_34db8d rfl ?_
          refine sv_get hF 18 (by decide) rfl lf_RX6_50 (.ref 518) rfl dX6_scoreOf_109 ?_
          refine am_go hF sgX6_scoreOf_112_8324a 114 [(0, .ref 465), (1, .int (nI p)), (2, .int words), (3, .int (nI a)), (4, .int s2), (5, .int (nI i))] [.int (-1), .int (nI a), .ref 518] sgX6_scoreOf_112_8324ad rfl ?_
          refine am_icmpne hF 121 dX6_scoreOf_114 (by decide) (fun _ => ?_) (fun h9 => False.elim (absurd h9 (pk_nm1 (by omega))))
          refine am_go hF sgX6_scoreOf_121_13b50 122 [(0, .ref 465), (1, .int (nI p)), (2, .int words), (3, .int (nI a)), (4, .int s2), (5, .int (nI i))] [.int (nI a), .ref 518] sgX6_scoreOf_121_13b50d rfl ?_
          refine sv_iald hF 18 (by decide) ⟨rfl, rfl, by decide⟩ a rfl (show a < 80 by omega) dX6_scoreOf_122 ?_
          refine am_go hF sgX6_scoreOf_123_840bf 124 [(0, .ref 465), (1, .int (nI p)), (2, .int words), (3, .int (nI a)), (4, .int s2), (5, .int (nI i))] [.int (nI p), .int (S 18 a)] sgX6_scoreOf_123_840bfd rfl ?_
          refine am_icmpeq hF 150 dX6_scoreOf_124 (by decide) (fun c5 => ?_) (fun c5 => ?_)
          · skip
            refine am_go hF sgX6_scoreOf_150_1f015 161 [(5, .int 1), (0, .ref 465), (1, .int (nI p)), (2, .int words), (3, .int (nI a)), (4, .int s2)] [.int 1, .int s2] sgX6_scoreOf_150_1f015d rfl ?_
            refine am_ifeq hF 168 dX6_scoreOf_161 (by decide) (fun h9 => False.elim ((by revert h9; decide))) (fun _ => ?_)
            refine am_go hF sgX6_scoreOf_164_b5ffe 170 [(5, .int 1), (0, .ref 465), (1, .int (nI p)), (2, .int words), (3, .int (nI a)), (4, .int s2)] [.int (s2 - 3)] sgX6_scoreOf_164_b5ffed rfl ?_
            exact am_iret hF hO hret rfl dX6_scoreOf_170 ⟨rfl, by rw [show s2 = rSum S m p words by rw [hs2, e9i, hs, e9j]; rfl]; simp only [(eq_true c5), true_or, or_true, or_false, false_or, or_self, ↓reduceIte, Int32.sub_zero]⟩
          · skip
            refine am_go hF sgX6_scoreOf_127_34db8 128 [(0, .ref 465), (1, .int (nI p)), (2, .int words), (3, .int (nI a)), (4, .int s2), (5, .int (nI i))] [.ref 465] sgX6_scoreOf_127_34db8d rfl ?_
            refine sv_get hF 25 (by decide) rfl lf_RX6_71 (.ref 525) rfl dX6_scoreOf_128 ?_
            refine am_go hF sgX6_scoreOf_131_8324a 133 [(0, .ref 465), (1, .int (nI p)), (2, .int words), (3, .int (nI a)), (4, .int s2), (5, .int (nI i))] [.int (-1), .int (nI a), .ref 525] sgX6_scoreOf_131_8324ad rfl ?_
            refine am_icmpne hF 140 dX6_scoreOf_133 (by decide) (fun _ => ?_) (fun h9 => False.elim (absurd h9 (pk_nm1 (by omega))))
            refine am_go hF sgX6_scoreOf_140_13b50 141 [(0, .ref 465), (1, .int (nI p)), (2, .int words), (3, .int (nI a)), (4, .int s2), (5, .int (nI i))] [.int (nI a), .ref 525] sgX6_scoreOf_140_13b50d rfl ?_
            refine sv_iald hF 25 (by decide) ⟨rfl, rfl, by decide⟩ a rfl (show a < 80 by omega) dX6_scoreOf_141 ?_
            refine am_go hF sgX6_scoreOf_142_43adf 147 [(0, .ref 465), (1, .int (nI p)), (2, .int words), (3, .int (nI a)), (4, .int s2), (5, .int (nI i))] [.int 1, .int (((S 25 a) >>> ((nI p) &&& 31)) &&& 1)] sgX6_scoreOf_142_43adfd rfl ?_
            refine am_icmpne hF 154 dX6_scoreOf_147 (by decide) (fun c8 => ?_) (fun c8 => ?_)
            · skip
              refine am_go hF sgX6_scoreOf_154_93f95 161 [(5, .int 0), (0, .ref 465), (1, .int (nI p)), (2, .int words), (3, .int (nI a)), (4, .int s2)] [.int 0, .int s2] sgX6_scoreOf_154_93f95d rfl ?_
              refine am_ifeq hF 168 dX6_scoreOf_161 (by decide) (fun _ => ?_) (fun h9 => False.elim ((by revert h9; decide)))
              refine am_go hF sgX6_scoreOf_168_7f98f 170 [(5, .int 0), (0, .ref 465), (1, .int (nI p)), (2, .int words), (3, .int (nI a)), (4, .int s2)] [.int (s2 - 0)] sgX6_scoreOf_168_7f98fd rfl ?_
              exact am_iret hF hO hret rfl dX6_scoreOf_170 ⟨rfl, by rw [show s2 = rSum S m p words by rw [hs2, e9i, hs, e9j]; rfl]; simp only [c5, c8, true_or, or_true, or_false, false_or, or_self, ↓reduceIte, Int32.sub_zero]⟩
            · skip
              refine am_go hF sgX6_scoreOf_150_1f015 161 [(5, .int 1), (0, .ref 465), (1, .int (nI p)), (2, .int words), (3, .int (nI a)), (4, .int s2)] [.int 1, .int s2] sgX6_scoreOf_150_1f015d rfl ?_
              refine am_ifeq hF 168 dX6_scoreOf_161 (by decide) (fun h9 => False.elim ((by revert h9; decide))) (fun _ => ?_)
              refine am_go hF sgX6_scoreOf_164_b5ffe 170 [(5, .int 1), (0, .ref 465), (1, .int (nI p)), (2, .int words), (3, .int (nI a)), (4, .int s2)] [.int (s2 - 3)] sgX6_scoreOf_164_b5ffed rfl ?_
              exact am_iret hF hO hret rfl dX6_scoreOf_170 ⟨rfl, by rw [show s2 = rSum S m p words by rw [hs2, e9i, hs, e9j]; rfl]; simp only [c5, (eq_true c8), true_or, or_true, or_false, false_or, or_self, ↓reduceIte, Int32.sub_zero]⟩
        | succ di ih53 =>
          intro i s2 hi hs2
          have l9i : i < m := by omega
          refine am_go hF sgX6_scoreOf_53_e57aa 56 [(0, .ref 465), (1, .int (nI p)), (2, .int words), (3, .int (nI a)), (4, .int s2), (5, .int (nI i))] [.ref 465, .int (nI i)] sgX6_scoreOf_53_e57aad rfl ?_
          refine sv_get hF 17 (by decide) rfl lf_RX6_115 (.int (S 17 0)) rfl dX6_scoreOf_56 ?_
          refine am_top (nI m) hm ?_
          refine am_icmpge hF 103 dX6_scoreOf_59 (by decide) (fun h9 => False.elim (nc_lt_f (show i < m by omega) (by omega) (by omega) rfl rfl h9)) (fun _ => ?_)
          refine am_go hF sgX6_scoreOf_62_49a24 65 [(0, .ref 465), (1, .int (nI p)), (2, .int words), (3, .int (nI a)), (4, .int s2), (5, .int (nI i))] [.ref 465, .int s2] sgX6_scoreOf_62_49a24d rfl ?_
          refine sv_get hF 18 (by decide) rfl lf_RX6_50 (.ref 518) rfl dX6_scoreOf_65 ?_
          refine am_go hF sgX6_scoreOf_68_9df92 70 [(0, .ref 465), (1, .int (nI p)), (2, .int words), (3, .int (nI a)), (4, .int s2), (5, .int (nI i))] [.int (nI i), .ref 518, .int s2] sgX6_scoreOf_68_9df92d rfl ?_
          refine sv_iald hF 18 (by decide) ⟨rfl, rfl, by decide⟩ i rfl (show i < 80 by omega) dX6_scoreOf_70 ?_
          refine am_go hF sgX6_scoreOf_71_840bf 72 [(0, .ref 465), (1, .int (nI p)), (2, .int words), (3, .int (nI a)), (4, .int s2), (5, .int (nI i))] [.int (nI p), .int (S 18 i), .int s2] sgX6_scoreOf_71_840bfd rfl ?_
          refine am_icmpne hF 93 dX6_scoreOf_72 (by decide) (fun c12 => ?_) (fun c12 => ?_)
          · skip
            refine am_go hF sgX6_scoreOf_93_db923 53 [(5, .int ((nI i) + 1)), (4, .int (s2 + 0)), (0, .ref 465), (1, .int (nI p)), (2, .int words), (3, .int (nI a))] [] sgX6_scoreOf_93_db923d rfl ?_
            refine am_drop [2, 3, 4, 5, 1, 0] [(0, .ref 465), (1, .int (nI p)), (2, .int words), (3, .int (nI a)), (4, .int (s2 + 0)), (5, .int ((nI i) + 1))] rfl ?_
            refine am_eqL [(0, .ref 465), (1, .int (nI p)), (2, .int words), (3, .int (nI a)), (4, .int (s2 + 0)), (5, .int (nI (i + 1)))] (by rw [nI_1]) ?_
            exact ih53 (i + 1) (s2 + 0) (by omega) (by show _ = rsm S p i (itN (rsm S p) s i); rw [← hs2]; simp only [rsm, c12, ↓reduceIte, not_false_eq_true, and_self, and_true, true_and, and_false, false_and])
          · skip
            refine am_go hF sgX6_scoreOf_75_34db8 76 [(0, .ref 465), (1, .int (nI p)), (2, .int words), (3, .int (nI a)), (4, .int s2), (5, .int (nI i))] [.ref 465, .int s2] sgX6_scoreOf_75_34db8d rfl ?_
            refine sv_get hF 20 (by decide) rfl lf_RX6_56 (.ref 520) rfl dX6_scoreOf_76 ?_
            refine am_go hF sgX6_scoreOf_79_9df92 81 [(0, .ref 465), (1, .int (nI p)), (2, .int words), (3, .int (nI a)), (4, .int s2), (5, .int (nI i))] [.int (nI i), .ref 520, .int s2] sgX6_scoreOf_79_9df92d rfl ?_
            refine sv_iald hF 20 (by decide) ⟨rfl, rfl, by decide⟩ i rfl (show i < 80 by omega) dX6_scoreOf_81 ?_
            refine am_go hF sgX6_scoreOf_82_34db8 83 [(0, .ref 465), (1, .int (nI p)), (2, .int words), (3, .int (nI a)), (4, .int s2), (5, .int (nI i))] [.ref 465, .int (S 20 i), .int s2] sgX6_scoreOf_82_34db8d rfl ?_
            refine sv_get hF 1 (by decide) rfl lf_RX6_147 (.int (S 1 0)) rfl dX6_scoreOf_83 ?_
            refine am_icmpne hF 93 dX6_scoreOf_86 (by decide) (fun c13 => ?_) (fun c13 => ?_)
            · skip
              refine am_go hF sgX6_scoreOf_93_db923 53 [(5, .int ((nI i) + 1)), (4, .int (s2 + 0)), (0, .ref 465), (1, .int (nI p)), (2, .int words), (3, .int (nI a))] [] sgX6_scoreOf_93_db923d rfl ?_
              refine am_drop [2, 3, 4, 5, 1, 0] [(0, .ref 465), (1, .int (nI p)), (2, .int words), (3, .int (nI a)), (4, .int (s2 + 0)), (5, .int ((nI i) + 1))] rfl ?_
              refine am_eqL [(0, .ref 465), (1, .int (nI p)), (2, .int words), (3, .int (nI a)), (4, .int (s2 + 0)), (5, .int (nI (i + 1)))] (by rw [nI_1]) ?_
              exact ih53 (i + 1) (s2 + 0) (by omega) (by show _ = rsm S p i (itN (rsm S p) s i); rw [← hs2]; simp only [rsm, (eq_true c12), c13, ↓reduceIte, not_false_eq_true, and_self, and_true, true_and, and_false, false_and])
            · skip
              refine am_go hF sgX6_scoreOf_89_f2611 53 [(5, .int ((nI i) + 1)), (4, .int (s2 + 1)), (0, .ref 465), (1, .int (nI p)), (2, .int words), (3, .int (nI a))] [] sgX6_scoreOf_89_f2611d rfl ?_
              refine am_drop [2, 3, 4, 5, 1, 0] [(0, .ref 465), (1, .int (nI p)), (2, .int words), (3, .int (nI a)), (4, .int (s2 + 1)), (5, .int ((nI i) + 1))] rfl ?_
              refine am_eqL [(0, .ref 465), (1, .int (nI p)), (2, .int words), (3, .int (nI a)), (4, .int (s2 + 1)), (5, .int (nI (i + 1)))] (by rw [nI_1]) ?_
              exact ih53 (i + 1) (s2 + 1) (by omega) (by show _ = rsm S p i (itN (rsm S p) s i); rw [← hs2]; simp only [rsm, (eq_true c12), (eq_true c13), ↓reduceIte, not_false_eq_true, and_self, and_true, true_and, and_false, false_and])
      exact lp53 m 0 s (by omega) rfl
    | succ dj ih11 =>
      intro j s hj hs
      have l9j : j < 20 := by omega
      refine am_go hF sgX6_scoreOf_11_ea47b 15 [(0, .ref 465), (1, .int (nI p)), (2, .int words), (3, .int (nI a)), (4, .int s), (5, .int (nI j))] [.int 20, .int (nI j)] sgX6_scoreOf_11_ea47bd rfl ?_
      refine am_icmpge hF 50 dX6_scoreOf_15 (by decide) (fun h9 => False.elim (nc_lt_f (show j < 20 by omega) (by omega) (by omega) rfl rfl h9)) (fun _ => ?_)
      refine am_go hF sgX6_scoreOf_18_0ca7e 27 [(0, .ref 465), (1, .int (nI p)), (2, .int words), (3, .int (nI a)), (4, .int s), (5, .int (nI j))] [.int 1, .int ((words >>> ((nI j) &&& 31)) &&& 1), .int s] sgX6_scoreOf_18_0ca7ed rfl ?_
      refine am_icmpne hF 40 dX6_scoreOf_27 (by decide) (fun c15 => ?_) (fun c15 => ?_)
      · skip
        refine am_go hF sgX6_scoreOf_40_e2933 11 [(5, .int ((nI j) + 1)), (4, .int (s + 0)), (0, .ref 465), (1, .int (nI p)), (2, .int words), (3, .int (nI a))] [] sgX6_scoreOf_40_e2933d rfl ?_
        refine am_drop [2, 3, 4, 5, 1, 0] [(0, .ref 465), (1, .int (nI p)), (2, .int words), (3, .int (nI a)), (4, .int (s + 0)), (5, .int ((nI j) + 1))] rfl ?_
        refine am_eqL [(0, .ref 465), (1, .int (nI p)), (2, .int words), (3, .int (nI a)), (4, .int (s + 0)), (5, .int (nI (j + 1)))] (by rw [nI_1]) ?_
        exact ih11 (j + 1) (s + 0) (by omega) (by show _ = rsw S words j (itN (rsw S words) (S 4 p) j); rw [← hs]; simp only [rsw, c15, ↓reduceIte])
      · skip
        refine am_go hF sgX6_scoreOf_30_34db8 31 [(0, .ref 465), (1, .int (nI p)), (2, .int words), (3, .int (nI a)), (4, .int s), (5, .int (nI j))] [.ref 465, .int s] sgX6_scoreOf_30_34db8d rfl ?_
        refine sv_get hF 3 (by decide) rfl lf_RX6_7 (.ref 503) rfl dX6_scoreOf_31 ?_
        refine am_go hF sgX6_scoreOf_34_9df92 36 [(0, .ref 465), (1, .int (nI p)), (2, .int words), (3, .int (nI a)), (4, .int s), (5, .int (nI j))] [.int (nI j), .ref 503, .int s] sgX6_scoreOf_34_9df92d rfl ?_
        refine sv_iald hF 3 (by decide) ⟨rfl, rfl, by decide⟩ j rfl (show j < 20 by omega) dX6_scoreOf_36 ?_
        refine am_go hF sgX6_scoreOf_37_85052 11 [(5, .int ((nI j) + 1)), (4, .int (s + (S 3 j))), (0, .ref 465), (1, .int (nI p)), (2, .int words), (3, .int (nI a))] [] sgX6_scoreOf_37_85052d rfl ?_
        refine am_drop [2, 3, 4, 5, 1, 0] [(0, .ref 465), (1, .int (nI p)), (2, .int words), (3, .int (nI a)), (4, .int (s + (S 3 j))), (5, .int ((nI j) + 1))] rfl ?_
        refine am_eqL [(0, .ref 465), (1, .int (nI p)), (2, .int words), (3, .int (nI a)), (4, .int (s + (S 3 j))), (5, .int (nI (j + 1)))] (by rw [nI_1]) ?_
        exact ih11 (j + 1) (s + (S 3 j)) (by omega) (by show _ = rsw S words j (itN (rsw S words) (S 4 p) j); rw [← hs]; simp only [rsw, (eq_true c15), ↓reduceIte])
  exact lp11 20 0 (S 4 p) (by omega) rfl
set_option maxRecDepth 100000 in
set_option maxHeartbeats 4000000 in
theorem c_causeOf {G : am_S} {T S : am_T} {o : Nat → Int64} {n : Nat} (hn : S 9 0 = nI n) (hn10 : n ≤ 10) {l p : Nat} {pts : Int32} (hl : l < n) (hp9 : p < 16) : am_D G yX6_causeOf (.code yX6_causeOf cX6_causeOf 4 (some .int) :: am_G) { frames := 3, cells := 0, slots := 0, locals := 75 } (hp T S o) [.ref 465, .int (nI p), .int (nI l), .int pts] (hp T S o) (some (.int (rCause S n p l pts))) := by
  refine am_of (by decide +kernel) (Nat.le_of_ble_eq_true rfl) ?_
  intro C hse hret hname hF hO
  subst hse
  refine am_go hF sgX6_causeOf_0_34db8 1 [(0, .ref 465), (1, .int (nI p)), (2, .int (nI l)), (3, .int pts)] [.ref 465] sgX6_causeOf_0_34db8d rfl ?_
  refine sv_get hF 14 (by decide) rfl lf_RX6_41 (.ref 514) rfl dX6_causeOf_1 ?_
  refine am_go hF sgX6_causeOf_4_f8a59 5 [(0, .ref 465), (1, .int (nI p)), (2, .int (nI l)), (3, .int pts)] [.int (nI l), .ref 514] sgX6_causeOf_4_f8a59d rfl ?_
  refine sv_iald hF 14 (by decide) ⟨rfl, rfl, by decide⟩ l rfl (show l < 10 by omega) dX6_causeOf_5 ?_
  refine am_go hF sgX6_causeOf_6_43adf 11 [(0, .ref 465), (1, .int (nI p)), (2, .int (nI l)), (3, .int pts)] [.int 1, .int (((S 14 l) >>> ((nI p) &&& 31)) &&& 1)] sgX6_causeOf_6_43adfd rfl ?_
  refine am_icmpne hF 16 dX6_causeOf_11 (by decide) (fun c1 => ?_) (fun c1 => ?_)
  · skip
    refine am_go hF sgX6_causeOf_16_34db8 17 [(0, .ref 465), (1, .int (nI p)), (2, .int (nI l)), (3, .int pts)] [.ref 465] sgX6_causeOf_16_34db8d rfl ?_
    refine sv_get hF 13 (by decide) rfl lf_RX6_37 (.ref 513) rfl dX6_causeOf_17 ?_
    refine am_go hF sgX6_causeOf_20_f8a59 21 [(0, .ref 465), (1, .int (nI p)), (2, .int (nI l)), (3, .int pts)] [.int (nI l), .ref 513] sgX6_causeOf_20_f8a59d rfl ?_
    refine sv_zald hF 13 (by decide) ⟨rfl, rfl, by decide⟩ l rfl (show l < 10 by omega) dX6_causeOf_21 ?_
    refine am_ifeq hF 39 dX6_causeOf_22 (by decide) (fun c2 => ?_) (fun c2 => ?_)
    · skip
      refine am_go hF sgX6_causeOf_39_a1b5b 41 [(0, .ref 465), (1, .int (nI p)), (2, .int (nI l)), (3, .int pts)] [.ref 465, .int pts] sgX6_causeOf_39_a1b5bd rfl ?_
      refine sv_get hF 11 (by decide) rfl lf_RX6_31 (.ref 511) rfl dX6_causeOf_41 ?_
      refine am_go hF sgX6_causeOf_44_f8a59 45 [(0, .ref 465), (1, .int (nI p)), (2, .int (nI l)), (3, .int pts)] [.int (nI l), .ref 511, .int pts] sgX6_causeOf_44_f8a59d rfl ?_
      refine sv_iald hF 11 (by decide) ⟨rfl, rfl, by decide⟩ l rfl (show l < 10 by omega) dX6_causeOf_45 ?_
      refine am_icmplt hF 53 dX6_causeOf_46 (by decide) (fun c3 => ?_) (fun c3 => ?_)
      · skip
        refine am_go hF sgX6_causeOf_53_5ff24 54 [(0, .ref 465), (1, .int (nI p)), (2, .int (nI l)), (3, .int pts)] [.int (-1)] sgX6_causeOf_53_5ff24d rfl ?_
        exact am_iret hF hO hret rfl dX6_causeOf_54 ⟨rfl, by simp only [rCause, not_false_eq_true, not_true_eq_false, and_self, and_true, true_and, and_false, false_and, c1, (eq_true c2), c3, ↓reduceIte]⟩
      · skip
        refine am_go hF sgX6_causeOf_49_abe91 54 [(0, .ref 465), (1, .int (nI p)), (2, .int (nI l)), (3, .int pts)] [.int 2] sgX6_causeOf_49_abe91d rfl ?_
        exact am_iret hF hO hret rfl dX6_causeOf_54 ⟨rfl, by simp only [rCause, not_false_eq_true, not_true_eq_false, and_self, and_true, true_and, and_false, false_and, c1, (eq_true c2), c3, ↓reduceIte]⟩
    · skip
      refine am_go hF sgX6_causeOf_25_78e74 27 [(0, .ref 465), (1, .int (nI p)), (2, .int (nI l)), (3, .int pts)] [.int (nI l), .ref 465] sgX6_causeOf_25_78e74d rfl ?_
      refine am_dV hF hO [.int (nI l)] [] (c_reachesOf hn (by omega) (by omega)) myX6_reachesOf vyX6_reachesOf lm_RX6_136 (hp_m _ _ _) rfl rfl 0 0 ⟨Nat.le_of_ble_eq_true rfl, Nat.le_of_ble_eq_true rfl⟩ ⟨Nat.le_of_ble_eq_true rfl, Nat.le_of_ble_eq_true rfl, Nat.le_of_ble_eq_true rfl, Nat.le_of_ble_eq_true rfl⟩ rfl (am_lv_ref (hp_m _ _ _) (am_lv_int (am_lv_int (am_lv_int am_lv_nil)))) (Nat.le_of_ble_eq_true rfl) dX6_causeOf_27 [.int (rRe S n l)] rfl ?_
      refine am_go hF sgX6_causeOf_30_59d23 34 [(0, .ref 465), (1, .int (nI p)), (2, .int (nI l)), (3, .int pts)] [.int (((rRe S n l) >>> ((nI p) &&& 31)) &&& 1)] sgX6_causeOf_30_59d23d rfl ?_
      refine am_ifne hF 39 dX6_causeOf_34 (by decide) (fun c4 => ?_) (fun c4 => ?_)
      · skip
        refine am_go hF sgX6_causeOf_39_a1b5b 41 [(0, .ref 465), (1, .int (nI p)), (2, .int (nI l)), (3, .int pts)] [.ref 465, .int pts] sgX6_causeOf_39_a1b5bd rfl ?_
        refine sv_get hF 11 (by decide) rfl lf_RX6_31 (.ref 511) rfl dX6_causeOf_41 ?_
        refine am_go hF sgX6_causeOf_44_f8a59 45 [(0, .ref 465), (1, .int (nI p)), (2, .int (nI l)), (3, .int pts)] [.int (nI l), .ref 511, .int pts] sgX6_causeOf_44_f8a59d rfl ?_
        refine sv_iald hF 11 (by decide) ⟨rfl, rfl, by decide⟩ l rfl (show l < 10 by omega) dX6_causeOf_45 ?_
        refine am_icmplt hF 53 dX6_causeOf_46 (by decide) (fun c5 => ?_) (fun c5 => ?_)
        · skip
          refine am_go hF sgX6_causeOf_53_5ff24 54 [(0, .ref 465), (1, .int (nI p)), (2, .int (nI l)), (3, .int pts)] [.int (-1)] sgX6_causeOf_53_5ff24d rfl ?_
          exact am_iret hF hO hret rfl dX6_causeOf_54 ⟨rfl, by simp only [rCause, not_false_eq_true, not_true_eq_false, and_self, and_true, true_and, and_false, false_and, c1, c2, c4, c5, ↓reduceIte]⟩
        · skip
          refine am_go hF sgX6_causeOf_49_abe91 54 [(0, .ref 465), (1, .int (nI p)), (2, .int (nI l)), (3, .int pts)] [.int 2] sgX6_causeOf_49_abe91d rfl ?_
          exact am_iret hF hO hret rfl dX6_causeOf_54 ⟨rfl, by simp only [rCause, not_false_eq_true, not_true_eq_false, and_self, and_true, true_and, and_false, false_and, c1, c2, c4, c5, ↓reduceIte]⟩
      · skip
        refine am_go hF sgX6_causeOf_37_4de0a 38 [(0, .ref 465), (1, .int (nI p)), (2, .int (nI l)), (3, .int pts)] [.int 1] sgX6_causeOf_37_4de0ad rfl ?_
        exact am_iret hF hO hret rfl dX6_causeOf_38 ⟨rfl, by simp only [rCause, not_false_eq_true, not_true_eq_false, and_self, and_true, true_and, and_false, false_and, c1, c2, (eq_true c4), ↓reduceIte]⟩
  · skip
    refine am_go hF sgX6_causeOf_14_56c54 15 [(0, .ref 465), (1, .int (nI p)), (2, .int (nI l)), (3, .int pts)] [.int 0] sgX6_causeOf_14_56c54d rfl ?_
    exact am_iret hF hO hret rfl dX6_causeOf_15 ⟨rfl, by simp only [rCause, not_false_eq_true, not_true_eq_false, and_self, and_true, true_and, and_false, false_and, (eq_true c1), ↓reduceIte]⟩
set_option maxRecDepth 100000 in
set_option maxHeartbeats 4000000 in
theorem c_canJudge {G : am_S} {T S : am_T} {o : Nat → Int64} {n : Nat} (hn : S 9 0 = nI n) (hn10 : n ≤ 10) {k p l : Nat} (hk : k < 80) (hp9 : p < 16) (hkl : S 19 k = nI l) (hl : l < n) : am_D G yX6_canJudge (.code yX6_canJudge cX6_canJudge 5 (some .boolean) :: am_G) { frames := 0, cells := 0, slots := 0, locals := 0 } (hp T S o) [.ref 465, .int (nI k), .int (nI p)] (hp T S o) (some (.int (rCan S n k p l))) := by
  refine am_of (by decide +kernel) (Nat.le_of_ble_eq_true rfl) ?_
  intro C hse hret hname hF hO
  subst hse
  refine am_go hF sgX6_canJudge_0_1e911 5 [(4, .int 0), (3, .int 0), (0, .ref 465), (1, .int (nI k)), (2, .int (nI p))] [] sgX6_canJudge_0_1e911d rfl ?_
  refine am_drop [2, 3, 4, 1, 0] [(0, .ref 465), (1, .int (nI k)), (2, .int (nI p)), (3, .int 0), (4, .int 0)] rfl ?_
  have lp5 : ∀ (d j : Nat) (s : Int32), j + d = n → s = itN (rcj S p) 0 j → am_W C (hp T S o) 0 0 5 [(0, .ref 465), (1, .int (nI k)), (2, .int (nI p)), (3, .int s), (4, .int (nI j))] [] := by
    intro d
    induction d with
    | zero =>
      intro j s hj hs
      have e9j : j = n := by omega
      refine am_go hF sgX6_canJudge_5_49a24 8 [(0, .ref 465), (1, .int (nI k)), (2, .int (nI p)), (3, .int s), (4, .int (nI j))] [.ref 465, .int (nI j)] sgX6_canJudge_5_49a24d rfl ?_
      refine sv_get hF 9 (by decide) rfl lf_RX6_112 (.int (S 9 0)) rfl dX6_canJudge_8 ?_
      refine am_top (nI n) hn ?_
      refine am_icmpge hF 41 dX6_canJudge_11 (by decide) (fun _ => ?_) (fun h9 => False.elim (absurd (nc_ge (show n ≤ j by omega) (by omega) (by omega) rfl rfl) h9))
      refine am_go hF sgX6_canJudge_41_13b50 42 [(0, .ref 465), (1, .int (nI k)), (2, .int (nI p)), (3, .int s), (4, .int (nI j))] [.int s] sgX6_canJudge_41_13b50d rfl ?_
      refine am_ifeq hF 74 dX6_canJudge_42 (by decide) (fun c2 => ?_) (fun c2 => ?_)
      · skip
        refine am_go hF sgX6_canJudge_74_56c54 75 [(0, .ref 465), (1, .int (nI k)), (2, .int (nI p)), (3, .int s), (4, .int (nI j))] [.int 0] sgX6_canJudge_74_56c54d rfl ?_
        exact am_iret hF hO hret rfl dX6_canJudge_75 ⟨rfl, by unfold rCan; rw [← e9j, ← hs]; simp only [(eq_true c2), not_false_eq_true, not_true_eq_false, and_self, and_true, true_and, and_false, false_and, ↓reduceIte]⟩
      · skip
        refine am_go hF sgX6_canJudge_45_14491 47 [(0, .ref 465), (1, .int (nI k)), (2, .int (nI p)), (3, .int s), (4, .int (nI j))] [.ref 465, .int (nI p)] sgX6_canJudge_45_14491d rfl ?_
        refine sv_get hF 18 (by decide) rfl lf_RX6_50 (.ref 518) rfl dX6_canJudge_47 ?_
        refine am_go hF sgX6_canJudge_50_840bf 51 [(0, .ref 465), (1, .int (nI k)), (2, .int (nI p)), (3, .int s), (4, .int (nI j))] [.int (nI k), .ref 518, .int (nI p)] sgX6_canJudge_50_840bfd rfl ?_
        refine sv_iald hF 18 (by decide) ⟨rfl, rfl, by decide⟩ k rfl (show k < 80 by omega) dX6_canJudge_51 ?_
        refine am_icmpeq hF 74 dX6_canJudge_52 (by decide) (fun c3 => ?_) (fun c3 => ?_)
        · skip
          refine am_go hF sgX6_canJudge_74_56c54 75 [(0, .ref 465), (1, .int (nI k)), (2, .int (nI p)), (3, .int s), (4, .int (nI j))] [.int 0] sgX6_canJudge_74_56c54d rfl ?_
          exact am_iret hF hO hret rfl dX6_canJudge_75 ⟨rfl, by unfold rCan; rw [← e9j, ← hs]; simp only [c2, (eq_true c3), not_false_eq_true, not_true_eq_false, and_self, and_true, true_and, and_false, false_and, ↓reduceIte]⟩
        · skip
          refine am_go hF sgX6_canJudge_55_14491 57 [(0, .ref 465), (1, .int (nI k)), (2, .int (nI p)), (3, .int s), (4, .int (nI j))] [.ref 465, .int (nI p)] sgX6_canJudge_55_14491d rfl ?_
          refine sv_get hF 10 (by decide) rfl lf_RX6_28 (.ref 510) rfl dX6_canJudge_57 ?_
          refine am_go hF sgX6_canJudge_60_34db8 61 [(0, .ref 465), (1, .int (nI k)), (2, .int (nI p)), (3, .int s), (4, .int (nI j))] [.ref 465, .ref 510, .int (nI p)] sgX6_canJudge_60_34db8d rfl ?_
          refine sv_get hF 19 (by decide) rfl lf_RX6_53 (.ref 519) rfl dX6_canJudge_61 ?_
          refine am_go hF sgX6_canJudge_64_840bf 65 [(0, .ref 465), (1, .int (nI k)), (2, .int (nI p)), (3, .int s), (4, .int (nI j))] [.int (nI k), .ref 519, .ref 510, .int (nI p)] sgX6_canJudge_64_840bfd rfl ?_
          refine sv_iald hF 19 (by decide) ⟨rfl, rfl, by decide⟩ k rfl (show k < 80 by omega) dX6_canJudge_65 ?_
          refine am_top (nI l) hkl ?_
          refine sv_iald hF 10 (by decide) ⟨rfl, rfl, by decide⟩ l rfl (show l < 10 by omega) dX6_canJudge_66 ?_
          refine am_icmpeq hF 74 dX6_canJudge_67 (by decide) (fun c4 => ?_) (fun c4 => ?_)
          · skip
            refine am_go hF sgX6_canJudge_74_56c54 75 [(0, .ref 465), (1, .int (nI k)), (2, .int (nI p)), (3, .int s), (4, .int (nI j))] [.int 0] sgX6_canJudge_74_56c54d rfl ?_
            exact am_iret hF hO hret rfl dX6_canJudge_75 ⟨rfl, by unfold rCan; rw [← e9j, ← hs]; simp only [c2, c3, (eq_true c4), not_false_eq_true, not_true_eq_false, and_self, and_true, true_and, and_false, false_and, ↓reduceIte]⟩
          · skip
            refine am_go hF sgX6_canJudge_70_1c64c 75 [(0, .ref 465), (1, .int (nI k)), (2, .int (nI p)), (3, .int s), (4, .int (nI j))] [.int 1] sgX6_canJudge_70_1c64cd rfl ?_
            exact am_iret hF hO hret rfl dX6_canJudge_75 ⟨rfl, by unfold rCan; rw [← e9j, ← hs]; simp only [c2, c3, c4, not_false_eq_true, not_true_eq_false, and_self, and_true, true_and, and_false, false_and, ↓reduceIte]⟩
    | succ d ih5 =>
      intro j s hj hs
      have l9j : j < n := by omega
      refine am_go hF sgX6_canJudge_5_49a24 8 [(0, .ref 465), (1, .int (nI k)), (2, .int (nI p)), (3, .int s), (4, .int (nI j))] [.ref 465, .int (nI j)] sgX6_canJudge_5_49a24d rfl ?_
      refine sv_get hF 9 (by decide) rfl lf_RX6_112 (.int (S 9 0)) rfl dX6_canJudge_8 ?_
      refine am_top (nI n) hn ?_
      refine am_icmpge hF 41 dX6_canJudge_11 (by decide) (fun h9 => False.elim (nc_lt_f (show j < n by omega) (by omega) (by omega) rfl rfl h9)) (fun _ => ?_)
      refine am_go hF sgX6_canJudge_14_13b50 15 [(0, .ref 465), (1, .int (nI k)), (2, .int (nI p)), (3, .int s), (4, .int (nI j))] [.int s] sgX6_canJudge_14_13b50d rfl ?_
      refine am_ifne hF 29 dX6_canJudge_15 (by decide) (fun c6 => ?_) (fun c6 => ?_)
      · skip
        refine am_go hF sgX6_canJudge_29_2a01b 5 [(4, .int ((nI j) + 1)), (3, .int 1), (0, .ref 465), (1, .int (nI k)), (2, .int (nI p))] [] sgX6_canJudge_29_2a01bd rfl ?_
        refine am_drop [2, 3, 4, 1, 0] [(0, .ref 465), (1, .int (nI k)), (2, .int (nI p)), (3, .int 1), (4, .int ((nI j) + 1))] rfl ?_
        refine am_eqL [(0, .ref 465), (1, .int (nI k)), (2, .int (nI p)), (3, .int 1), (4, .int (nI (j + 1)))] (by rw [nI_1]) ?_
        exact ih5 (j + 1) 1 (by omega) (by show _ = rcj S p j (itN (rcj S p) 0 j); rw [← hs]; simp only [rcj, c6, ↓reduceIte, not_false_eq_true, not_true_eq_false, and_self, and_true, true_and, and_false, false_and])
      · skip
        refine am_go hF sgX6_canJudge_18_34db8 19 [(0, .ref 465), (1, .int (nI k)), (2, .int (nI p)), (3, .int s), (4, .int (nI j))] [.ref 465] sgX6_canJudge_18_34db8d rfl ?_
        refine sv_get hF 10 (by decide) rfl lf_RX6_28 (.ref 510) rfl dX6_canJudge_19 ?_
        refine am_go hF sgX6_canJudge_22_c6742 24 [(0, .ref 465), (1, .int (nI k)), (2, .int (nI p)), (3, .int s), (4, .int (nI j))] [.int (nI j), .ref 510] sgX6_canJudge_22_c6742d rfl ?_
        refine sv_iald hF 10 (by decide) ⟨rfl, rfl, by decide⟩ j rfl (show j < 10 by omega) dX6_canJudge_24 ?_
        refine am_go hF sgX6_canJudge_25_f8a59 26 [(0, .ref 465), (1, .int (nI k)), (2, .int (nI p)), (3, .int s), (4, .int (nI j))] [.int (nI p), .int (S 10 j)] sgX6_canJudge_25_f8a59d rfl ?_
        refine am_icmpne hF 33 dX6_canJudge_26 (by decide) (fun c7 => ?_) (fun c7 => ?_)
        · skip
          refine am_go hF sgX6_canJudge_33_e1e62 5 [(4, .int ((nI j) + 1)), (3, .int 0), (0, .ref 465), (1, .int (nI k)), (2, .int (nI p))] [] sgX6_canJudge_33_e1e62d rfl ?_
          refine am_drop [2, 3, 4, 1, 0] [(0, .ref 465), (1, .int (nI k)), (2, .int (nI p)), (3, .int 0), (4, .int ((nI j) + 1))] rfl ?_
          refine am_eqL [(0, .ref 465), (1, .int (nI k)), (2, .int (nI p)), (3, .int 0), (4, .int (nI (j + 1)))] (by rw [nI_1]) ?_
          exact ih5 (j + 1) 0 (by omega) (by show _ = rcj S p j (itN (rcj S p) 0 j); rw [← hs]; simp only [rcj, (eq_true c6), c7, ↓reduceIte, not_false_eq_true, not_true_eq_false, and_self, and_true, true_and, and_false, false_and])
        · skip
          refine am_go hF sgX6_canJudge_29_2a01b 5 [(4, .int ((nI j) + 1)), (3, .int 1), (0, .ref 465), (1, .int (nI k)), (2, .int (nI p))] [] sgX6_canJudge_29_2a01bd rfl ?_
          refine am_drop [2, 3, 4, 1, 0] [(0, .ref 465), (1, .int (nI k)), (2, .int (nI p)), (3, .int 1), (4, .int ((nI j) + 1))] rfl ?_
          refine am_eqL [(0, .ref 465), (1, .int (nI k)), (2, .int (nI p)), (3, .int 1), (4, .int (nI (j + 1)))] (by rw [nI_1]) ?_
          exact ih5 (j + 1) 1 (by omega) (by show _ = rcj S p j (itN (rcj S p) 0 j); rw [← hs]; simp only [rcj, (eq_true c6), (eq_true c7), ↓reduceIte, not_false_eq_true, not_true_eq_false, and_self, and_true, true_and, and_false, false_and])
  exact lp5 n 0 0 (by omega) rfl
end
section
/-! ===== Int32 by its bits: bt x i ===== -/
def bt (x : Int32) (i : Nat) : Bool := x.toBitVec.getLsbD i
theorem b_ext {x y : Int32} (h : ∀ i, i < 32 → bt x i = bt y i) : x = y := Int32.toBitVec_inj.mp (BitVec.eq_of_getLsbD_eq (fun i hi => h i hi))
theorem b_or (x y : Int32) (i : Nat) : bt (x ||| y) i = (bt x i || bt y i) := by unfold bt; rw [Int32.toBitVec_or, BitVec.getLsbD_or]
theorem b_and (x y : Int32) (i : Nat) : bt (x &&& y) i = (bt x i && bt y i) := by unfold bt; rw [Int32.toBitVec_and, BitVec.getLsbD_and]
theorem b_xor (x y : Int32) (i : Nat) : bt (x ^^^ y) i = (bt x i ^^ bt y i) := by unfold bt; rw [Int32.toBitVec_xor, BitVec.getLsbD_xor]
theorem b_big {x : Int32} {i : Nat} (h : 32 ≤ i) : bt x i = false := BitVec.getLsbD_of_ge _ _ h
theorem b_255 (i : Nat) : bt 255 i = decide (i < 8) := by
  rcases Nat.lt_or_ge i 32 with h | h
  · exact (by decide +kernel : ∀ i, i < 32 → bt 255 i = decide (i < 8)) i h
  · rw [b_big h, decide_eq_false (by omega)]
theorem b_65535 (i : Nat) : bt 65535 i = decide (i < 16) := by
  rcases Nat.lt_or_ge i 32 with h | h
  · exact (by decide +kernel : ∀ i, i < 32 → bt 65535 i = decide (i < 16)) i h
  · rw [b_big h, decide_eq_false (by omega)]
theorem b_m1 : ∀ i, i < 32 → bt (-1) i = true := by decide +kernel
theorem b_0 (i : Nat) : bt 0 i = false := BitVec.getLsbD_zero
theorem s_l : ∀ n, n < 32 → ((nI n &&& 31).toBitVec.smod 32).toNat = n := by decide +kernel
theorem s_u : ∀ n, n < 32 → (((nI n).toUInt32 &&& Int32.toUInt32 31).toBitVec % 32).toNat = n := by decide +kernel
theorem b_shl (n : Nat) (hn : n < 32) (x : Int32) {i : Nat} (hi : i < 32) : bt (x <<< (nI n &&& 31)) i = (decide (n ≤ i) && bt x (i - n)) := by
  unfold bt
  rw [Int32.toBitVec_shiftLeft]
  show (x.toBitVec <<< ((nI n &&& 31).toBitVec.smod 32).toNat).getLsbD i = _
  rw [s_l n hn, BitVec.getLsbD_shiftLeft]
  rcases Nat.lt_or_ge i n with h | h
  · simp [h, Nat.not_le.mpr h]
  · simp [hi, h, Nat.not_lt.mpr h]
theorem b_ushr (n : Nat) (hn : n < 32) (x : Int32) (i : Nat) : bt ((x.toUInt32 >>> ((nI n).toUInt32 &&& Int32.toUInt32 31)).toInt32) i = bt x (n + i) := by
  show (x.toUInt32 >>> ((nI n).toUInt32 &&& Int32.toUInt32 31)).toBitVec.getLsbD i = x.toUInt32.toBitVec.getLsbD (n + i)
  rw [UInt32.toBitVec_shiftRight]
  show (x.toUInt32.toBitVec >>> (((nI n).toUInt32 &&& Int32.toUInt32 31).toBitVec % 32).toNat).getLsbD i = _
  rw [s_u n hn, BitVec.getLsbD_ushiftRight]
theorem b_sshr (n : Nat) (hn : n < 32) (x : Int32) {i : Nat} (hi : i < 32) : bt (x >>> (nI n &&& 31)) i = if n + i < 32 then bt x (n + i) else bt x 31 := by
  unfold bt
  rw [Int32.toBitVec_shiftRight]
  show (x.toBitVec.sshiftRight ((nI n &&& 31).toBitVec.smod 32).toNat).getLsbD i = _
  rw [s_l n hn, BitVec.getLsbD_sshiftRight, BitVec.msb_eq_getLsbD_last]
  simp [hi]
theorem b_shl8 (x : Int32) {i : Nat} (hi : i < 32) : bt (x <<< ((8 : Int32) &&& 31)) i = (decide (8 ≤ i) && bt x (i - 8)) := b_shl 8 (by omega) x hi
theorem b_shl16 (x : Int32) {i : Nat} (hi : i < 32) : bt (x <<< ((16 : Int32) &&& 31)) i = (decide (16 ≤ i) && bt x (i - 16)) := b_shl 16 (by omega) x hi
theorem b_shl24 (x : Int32) {i : Nat} (hi : i < 32) : bt (x <<< ((24 : Int32) &&& 31)) i = (decide (24 ≤ i) && bt x (i - 24)) := b_shl 24 (by omega) x hi
theorem b_sshr8 (x : Int32) {i : Nat} (hi : i < 32) : bt (x >>> ((8 : Int32) &&& 31)) i = if 8 + i < 32 then bt x (8 + i) else bt x 31 := b_sshr 8 (by omega) x hi
theorem b_1 (i : Nat) : bt 1 i = decide (i = 0) := by
  rcases Nat.lt_or_ge i 32 with h | h
  · exact (by decide +kernel : ∀ i, i < 32 → bt 1 i = decide (i = 0)) i h
  · rw [b_big h, decide_eq_false (by omega)]
theorem b_bit {j : Nat} (hj : j < 32) {i : Nat} (hi : i < 32) : bt ((1 : Int32) <<< (nI j &&& 31)) i = decide (i = j) := by
  rw [b_shl j hj 1 hi, b_1]
  by_cases h : i = j
  · subst h; simp
  · rw [decide_eq_false h]
    by_cases h2 : j ≤ i
    · rw [decide_eq_true h2, decide_eq_false (by omega)]; rfl
    · rw [decide_eq_false h2]; rfl
theorem bt_iff {x : Int32} {k : Nat} (hk : k < 32) : (x >>> (nI k &&& 31)) &&& 1 = 1 ↔ bt x k = true := by
  have key : ∀ i, i < 32 → bt ((x >>> (nI k &&& 31)) &&& 1) i = (bt x k && decide (i = 0)) := by
    intro i hi
    rw [b_and, b_1, b_sshr k hk x hi]
    by_cases h : i = 0
    · subst h; simp [hk]
    · simp [h]
  constructor
  · intro h
    have := key 0 (by decide)
    rw [h, b_1] at this
    simpa using this.symm
  · intro h
    refine b_ext (fun i hi => ?_)
    rw [key i hi, h, b_1]
    rfl
theorem bt_iff0 {x : Int32} {k : Nat} (hk : k < 32) : (x >>> (nI k &&& 31)) &&& 1 = 0 ↔ bt x k = false := by
  have key : ∀ i, i < 32 → bt ((x >>> (nI k &&& 31)) &&& 1) i = (bt x k && decide (i = 0)) := by
    intro i hi
    rw [b_and, b_1, b_sshr k hk x hi]
    by_cases h : i = 0
    · subst h; simp [hk]
    · simp [h]
  constructor
  · intro h
    have := key 0 (by decide)
    rw [h, b_0] at this
    simpa using this.symm
  · intro h
    refine b_ext (fun i hi => ?_)
    rw [key i hi, h, b_0]
    rfl
-- what a mail's passing leaves as it was, in the reference
theorem rOne_f {S : am_T} {n p g : Nat} (h6 : g ≠ 6) (h16 : g ≠ 16) : rOne S n p g = S g := by
  unfold rOne
  split
  · rw [itN_f (F := rone p) g (fun k S => st1_f h16), st1_f h6, st1_f h6]
  · rw [st1_f h6]
theorem rone_m (p : Nat) (k : Nat) (S : am_T) (j : Nat) : rone p k S 16 j = -1 ↔ S 16 j = -1 := by
  unfold rone
  rw [st1_at]
  by_cases h : j = 16 * k + p
  · subst h
    rw [if_pos ⟨rfl, rfl⟩]
    by_cases h2 : S 16 (16 * k + p) = -1
    · rw [if_pos h2]; exact ⟨fun _ => h2, fun _ => rfl⟩
    · rw [if_neg h2]; exact ⟨fun e => absurd e (by decide), fun e => absurd e h2⟩
  · rw [if_neg (fun e => h e.2)]
theorem rOne_m (S : am_T) (n p j : Nat) : rOne S n p 16 j = -1 ↔ S 16 j = -1 := by
  unfold rOne
  split
  · have : ∀ i (S0 : am_T), itN (rone p) S0 i 16 j = -1 ↔ S0 16 j = -1 := by
      intro i S0
      induction i with
      | zero => exact Iff.rfl
      | succ i ih => exact (rone_m p i _ j).trans ih
    rw [this, st1_f (by decide), st1_f (by decide)]
  · rw [st1_f (by decide)]
theorem rBox_f {S : am_T} {n k p b g : Nat} (h6 : g ≠ 6) (h16 : g ≠ 16) (h7 : g ≠ 7) (h8 : g ≠ 8) (h25 : g ≠ 25) : rBox S n k p b g = S g := by
  unfold rBox
  split
  · exact rOne_f h6 h16
  · rw [st1_f h25, st1_f h7, st1_f h8]
theorem rBox_m (S : am_T) (n k p b j : Nat) : rBox S n k p b 16 j = -1 ↔ S 16 j = -1 := by
  unfold rBox
  split
  · exact rOne_m S n p j
  · rw [st1_f (by decide), st1_f (by decide), st1_f (by decide)]
theorem rDi3_f {S : am_T} {k l p d g : Nat} (h32 : g ≠ 32) (h34 : g ≠ 34) (h25 : g ≠ 25) : rDi3 S k l p d g = S g := by
  unfold rDi3
  rw [st1_f h25, st1_f h34, st1_f h32]
theorem rDig_f {S : am_T} {k l p d g : Nat} (h31 : g ≠ 31) (h32 : g ≠ 32) (h33 : g ≠ 33) (h34 : g ≠ 34) (h35 : g ≠ 35) (h25 : g ≠ 25) : rDig S k l p d g = S g := by
  unfold rDig
  rw [st1_f h31]
  split
  · rw [st1_f h35, st1_f h33, rDi3_f h32 h34 h25]
  · exact rDi3_f h32 h34 h25
def rMm (S1 S0 : am_T) : Prop := S1 15 = S0 15 ∧ ∀ j, S1 16 j = -1 ↔ S0 16 j = -1
theorem rWin_c {S1 S0 : am_T} (h : S1 15 = S0 15) (n l : Nat) : rWin S1 n l = rWin S0 n l := by
  have : rw1 S1 = rw1 S0 := by funext k s; unfold rw1; rw [h]
  unfold rWin
  rw [this]
theorem rMB_c {S1 S0 : am_T} (h : rMm S1 S0) (n l p : Nat) : rMB S1 n l p (-1) = rMB S0 n l p (-1) := by
  unfold rMB
  rw [rWin_c h.1]
  congr 1
  funext k f
  unfold rmb
  simp only [h.2, true_or, and_true]
theorem rMB_in (S : am_T) (n l p : Nat) (how : Int32) : rMB S n l p how = -1 ∨ ∃ q, q < n ∧ rMB S n l p how = nI q := by
  have : ∀ (i : Nat) (f : Int32), i ≤ n → (f = -1 ∨ ∃ q, q < n ∧ f = nI q) → (itD (rmb S (rWin S n l) p how) f i = -1 ∨ ∃ q, q < n ∧ itD (rmb S (rWin S n l) p how) f i = nI q) := by
    intro i
    induction i with
    | zero => intro f _ h; exact h
    | succ i ih =>
      intro f hi h
      refine ih _ (by omega) ?_
      unfold rmb
      split
      · exact Or.inr ⟨i, by omega, rfl⟩
      · exact h
  exact this n (-1) (Nat.le_refl _) (Or.inl rfl)
theorem rRe_bit (S : am_T) (n l : Nat) {q : Nat} (hq : q < 16) : bt (rRe S n l) q = decide (rMB S n l q (-1) ≠ -1) := by
  have : ∀ i, i ≤ 16 → bt (itN (rre S n l) 0 i) q = decide (q < i ∧ rMB S n l q (-1) ≠ -1) := by
    intro i
    induction i with
    | zero => intro _; exact (b_0 q).trans (by simp)
    | succ i ih =>
      intro hi
      show bt (itN (rre S n l) 0 i ||| (if rMB S n l i (-1) = -1 then 0 else (1 : Int32) <<< (nI i &&& 31))) q = _
      rw [b_or, ih (by omega)]
      by_cases h : rMB S n l i (-1) = -1
      · rw [if_pos h, b_0, Bool.or_false]
        by_cases e : q = i
        · subst e; simp [h]
        · have : (q < i + 1) ↔ q < i := by omega
          simp [this]
      · rw [if_neg h, b_bit (by omega) (by omega)]
        by_cases e : q = i
        · subst e; simp [h]
        · have : (q < i + 1) ↔ q < i := by omega
          simp [this, e]
  have h := this 16 (Nat.le_refl _)
  simp only [hq, true_and] at h
  exact h
/-- one person's turn when the mail k passes -/
def rps (n l k : Nat) (set : Int32) (q : Nat) (S : am_T) : am_T := if nI q = S 18 k then S else if set >>> (nI q &&& 31) &&& 1 = 1 then (if rMode S n l q = 0 then rBox S n k q (S 7 q).toNatClampNeg else rDig S k (rMB S n l q (-1)).toNatClampNeg q (S 20 k).toNatClampNeg) else S
def rPass (S : am_T) (n k l : Nat) : am_T := itN (rps n l k (rRe (st1 S 24 k 0) n l)) (st1 S 24 k 0) 16
def rSafe (S : am_T) (n k l d : Nat) : Prop := S 9 0 = nI n ∧ n ≤ 10 ∧ l < n ∧ k < 80 ∧ S 19 k = nI l ∧ S 20 k = nI d ∧ d ≤ 400 ∧ ∀ q, q < 16 → ∃ b, b ≤ 10 ∧ S 7 q = nI b
theorem rps_f {n l k q : Nat} {set : Int32} {S : am_T} {g : Nat} (h : g ≠ 6 ∧ g ≠ 16 ∧ g ≠ 7 ∧ g ≠ 8 ∧ g ≠ 25 ∧ g ≠ 31 ∧ g ≠ 32 ∧ g ≠ 33 ∧ g ≠ 34 ∧ g ≠ 35) : rps n l k set q S g = S g := by
  obtain ⟨h6, h16, h7, h8, h25, h31, h32, h33, h34, h35⟩ := h
  unfold rps
  split
  · rfl
  · split
    · split
      · exact rBox_f h6 h16 h7 h8 h25
      · exact rDig_f h31 h32 h33 h34 h35 h25
    · rfl
theorem rps_m (n l k q : Nat) (set : Int32) (S : am_T) (j : Nat) : rps n l k set q S 16 j = -1 ↔ S 16 j = -1 := by
  unfold rps
  split
  · exact Iff.rfl
  · split
    · split
      · exact rBox_m _ _ _ _ _ _
      · rw [rDig_f (by decide) (by decide) (by decide) (by decide) (by decide) (by decide)]
    · exact Iff.rfl
theorem rps_7 {n l k q : Nat} {set : Int32} {S : am_T} (hS : ∀ q, q < 16 → ∃ b, b ≤ 10 ∧ S 7 q = nI b) (hq : q < 16) : ∀ i, i < 16 → ∃ b, b ≤ 10 ∧ rps n l k set q S 7 i = nI b := by
  intro i hi
  unfold rps
  split
  · exact hS i hi
  · split
    · split
      · unfold rBox
        split
        · rw [rOne_f (by decide) (by decide)]; exact hS i hi
        · rename_i h10
          rw [st1_f (by decide), st1_at]
          by_cases e : i = q
          · subst e
            rw [if_pos ⟨rfl, rfl⟩]
            obtain ⟨b, hb, e⟩ := hS i hi
            rw [e, nI_clamp (by omega)] at h10 ⊢
            have : b ≠ 10 := fun e => h10 (by rw [e]; rfl)
            exact ⟨b + 1, by omega, nI_1 b⟩
          · rw [if_neg (fun h => e h.2), st1_f (by decide)]
            exact hS i hi
      · rw [rDig_f (by decide) (by decide) (by decide) (by decide) (by decide) (by decide)]
        exact hS i hi
    · exact hS i hi
theorem rps_safe {n l k d q : Nat} {set : Int32} {S : am_T} (h : rSafe S n k l d) (hq : q < 16) : rSafe (rps n l k set q S) n k l d := by
  obtain ⟨h1, h2, h3, h4, h5, h6, h7, h8⟩ := h
  refine ⟨?_, h2, h3, h4, ?_, ?_, h7, rps_7 h8 hq⟩
  · rw [rps_f (by decide)]; exact h1
  · rw [rps_f (by decide)]; exact h5
  · rw [rps_f (by decide)]; exact h6
theorem rps_it {n l k d : Nat} {set : Int32} {S : am_T} (h : rSafe S n k l d) : ∀ j, j ≤ 16 → rSafe (itN (rps n l k set) S j) n k l d ∧ rMm (itN (rps n l k set) S j) S := by
  intro j
  induction j with
  | zero => intro _; exact ⟨h, rfl, fun _ => Iff.rfl⟩
  | succ j ih =>
    intro hj
    obtain ⟨a, b⟩ := ih (by omega)
    refine ⟨rps_safe a (by omega), ?_, fun i => (rps_m _ _ _ _ _ _ i).trans (b.2 i)⟩
    show rps n l k set j _ 15 = _
    rw [rps_f (by decide)]
    exact b.1
/-- a person of the set is a member by one of the lists, whatever came to pass since -/
theorem rps_low {S1 S0 : am_T} {n l q : Nat} (hq : q < 16) (hm : rMm S1 S0) (hb : rRe S0 n l >>> (nI q &&& 31) &&& 1 = 1) : ∃ i, i < n ∧ rMB S1 n l q (-1) = nI i := by
  have h1 := (bt_iff (by omega)).mp hb
  rw [rRe_bit S0 n l hq, decide_eq_true_eq, ← rMB_c hm n l q] at h1
  rcases rMB_in S1 n l q (-1) with h | h
  · exact absurd h h1
  · exact h
end
section
/-- what the reference's rows hold, as far as its indices need it -/
def rAll (S : am_T) (n m : Nat) : Prop := S 9 0 = nI n ∧ n ≤ 10 ∧ S 17 0 = nI m ∧ m ≤ 80 ∧ (∀ q, q < 16 → ∃ b, b ≤ 10 ∧ S 7 q = nI b) ∧ ∀ k, k < m → (∃ p, p < 16 ∧ S 18 k = nI p) ∧ (∃ l, l < n ∧ S 19 k = nI l) ∧ ∃ d, d ≤ 400 ∧ S 20 k = nI d
theorem rAll_eq {S S1 : am_T} {n m : Nat} (h : rAll S n m) (h9 : S1 9 = S 9) (h17 : S1 17 = S 17) (h7 : S1 7 = S 7) (h18 : S1 18 = S 18) (h19 : S1 19 = S 19) (h20 : S1 20 = S 20) : rAll S1 n m := by
  unfold rAll
  rw [h9, h17, h7, h18, h19, h20]
  exact h
theorem rAll_st {S : am_T} {n m : Nat} (h : rAll S n m) {f : Nat} (hf : 9 ≠ f ∧ 17 ≠ f ∧ 7 ≠ f ∧ 18 ≠ f ∧ 19 ≠ f ∧ 20 ≠ f) (j : Nat) (v : Int32) : rAll (st1 S f j v) n m :=
  rAll_eq h (st1_f hf.1) (st1_f hf.2.1) (st1_f hf.2.2.1) (st1_f hf.2.2.2.1) (st1_f hf.2.2.2.2.1) (st1_f hf.2.2.2.2.2)
theorem rAll_safe {S : am_T} {n m k : Nat} (h : rAll S n m) (hk : k < m) : ∃ l d, rSafe S n k l d := by
  obtain ⟨h1, h2, h3, h4, h5, h6⟩ := h
  obtain ⟨-, ⟨l, hl, e1⟩, d, hd, e2⟩ := h6 k hk
  exact ⟨l, d, h1, h2, hl, by omega, e1, e2, hd, h5⟩
theorem rAll_ps {S : am_T} {n m k l q : Nat} {set : Int32} (h : rAll S n m) (hq : q < 16) : rAll (rps n l k set q S) n m := by
  obtain ⟨h1, h2, h3, h4, h5, h6⟩ := h
  refine ⟨?_, h2, ?_, h4, rps_7 h5 hq, fun i hi => ?_⟩
  · rw [rps_f (by decide)]; exact h1
  · rw [rps_f (by decide)]; exact h3
  · rw [rps_f (by decide), rps_f (by decide), rps_f (by decide)]; exact h6 i hi
theorem rAll_pass {S : am_T} {n m k l : Nat} (h : rAll S n m) : rAll (rPass S n k l) n m := by
  have : ∀ j, j ≤ 16 → rAll (itN (rps n l k (rRe (st1 S 24 k 0) n l)) (st1 S 24 k 0) j) n m := by
    intro j
    induction j with
    | zero => intro _; exact rAll_st h (by decide) _ _
    | succ j ih => intro hj; exact rAll_ps (ih (by omega)) (by omega)
  exact this 16 (Nat.le_refl _)
def rcl (n c k : Nat) (S : am_T) : am_T := if nI k = nI c ∨ (S 18 k = S 18 c ∧ S 24 k = 1 ∧ S 23 k = 2) then rPass (st1 S 27 k 0) n k (S 19 k).toNatClampNeg else S
def rClear (S : am_T) (n m c : Nat) : am_T := itN (rcl n c) (st1 S 4 (S 18 c).toNatClampNeg (-10)) m
theorem rcl_all {S : am_T} {n m c : Nat} (h : rAll S n m) : ∀ j, rAll (itN (rcl n c) S j) n m := by
  intro j
  induction j with
  | zero => exact h
  | succ j ih =>
    show rAll (rcl n c j _) n m
    unfold rcl
    split
    · exact rAll_pass (rAll_st ih (by decide) _ _)
    · exact ih
def rn1 (t k : Nat) (S : am_T) : am_T := st1 S 33 (401 * k + t) (if S 32 (401 * k + t) = 0 then 0 else 1)
def rn2 (k : Nat) (x : am_T × Int32) : am_T × Int32 := if x.1 24 k = 1 ∧ x.1 21 k = x.1 1 0 ∧ x.1 27 k = 0 then (st1 x.1 24 k 2, x.2 + 1) else x
def rNext0 (S : am_T) (n t : Nat) : am_T := st1 (itN (rn1 t) S n) 1 0 (nI t + 1)
def rNext (S : am_T) (n m t : Nat) : am_T × Int32 := itN rn2 (rNext0 S n t, 0) m
theorem rn2_f (g : Nat) (hg : g ≠ 24) (x : am_T × Int32) : ∀ j, (itN rn2 x j).1 g = x.1 g := by
  intro j
  induction j with
  | zero => rfl
  | succ j ih =>
    show (rn2 j _).1 g = _
    unfold rn2
    split
    · exact (st1_f hg).trans ih
    · exact ih
theorem rn2_s {j : Nat} {x : am_T × Int32} {S1 : am_T} {a : Int32} (hS : S1 = (itN rn2 x j).1) (ha : a = (itN rn2 x j).2) : itN rn2 x j = (S1, a) := by rw [hS, ha]
theorem rn2_1 {j : Nat} {x : am_T × Int32} {S1 : am_T} {a : Int32} (hS : S1 = (itN rn2 x j).1) (ha : a = (itN rn2 x j).2) (h : S1 24 j = 1 ∧ S1 21 j = S1 1 0 ∧ S1 27 j = 0) : st1 S1 24 j 2 = (itN rn2 x (j + 1)).1 ∧ a + 1 = (itN rn2 x (j + 1)).2 := by
  show _ = (rn2 j (itN rn2 x j)).1 ∧ _ = (rn2 j (itN rn2 x j)).2
  rw [rn2_s hS ha]
  unfold rn2
  rw [if_pos h]
  exact ⟨rfl, rfl⟩
theorem rn2_0 {j : Nat} {x : am_T × Int32} {S1 : am_T} {a : Int32} (hS : S1 = (itN rn2 x j).1) (ha : a = (itN rn2 x j).2) (h : ¬ (S1 24 j = 1 ∧ S1 21 j = S1 1 0 ∧ S1 27 j = 0)) : S1 = (itN rn2 x (j + 1)).1 ∧ a = (itN rn2 x (j + 1)).2 := by
  show _ = (rn2 j (itN rn2 x j)).1 ∧ _ = (rn2 j (itN rn2 x j)).2
  rw [rn2_s hS ha]
  unfold rn2
  rw [if_neg h]
  exact ⟨rfl, rfl⟩
theorem cl_ne {a b : Nat} (h : ¬ nI a = nI b) : ¬ a = b := fun e => h (by rw [e])
def sgX6_passes_0_34db8 : List Instr := [.aload_n 0]
theorem sgX6_passes_0_34db8d : am_dec cX6_passes 0 sgX6_passes_0_34db8 = true := by decide +kernel
theorem dX6_passes_1 : decode cX6_passes 1 = .ok (.getfield 68, 3) := by decide +kernel
def sgX6_passes_4_cd6b4 : List Instr := [.iload_n 1, .iconst 0]
theorem sgX6_passes_4_cd6b4d : am_dec cX6_passes 4 sgX6_passes_4_cd6b4 = true := by decide +kernel
theorem dX6_passes_6 : decode cX6_passes 6 = .ok (.iastore, 1) := by decide +kernel
def sgX6_passes_7_c81f7 : List Instr := [.aload_n 0, .aload_n 0]
theorem sgX6_passes_7_c81f7d : am_dec cX6_passes 7 sgX6_passes_7_c81f7 = true := by decide +kernel
theorem dX6_passes_9 : decode cX6_passes 9 = .ok (.getfield 53, 3) := by decide +kernel
def sgX6_passes_12_840bf : List Instr := [.iload_n 1]
theorem sgX6_passes_12_840bfd : am_dec cX6_passes 12 sgX6_passes_12_840bf = true := by decide +kernel
theorem dX6_passes_13 : decode cX6_passes 13 = .ok (.iaload, 1) := by decide +kernel
theorem dX6_passes_14 : decode cX6_passes 14 = .ok (.invokevirtual 136, 3) := by decide +kernel
def sgX6_passes_17_7e279 : List Instr := [.istore_n 2, .iconst 0, .istore_n 3]
theorem sgX6_passes_17_7e279d : am_dec cX6_passes 17 sgX6_passes_17_7e279 = true := by decide +kernel
def sgX6_passes_20_b88ad : List Instr := [.iload_n 3, .bipush 16]
theorem sgX6_passes_20_b88add : am_dec cX6_passes 20 sgX6_passes_20_b88ad = true := by decide +kernel
theorem dX6_passes_23 : decode cX6_passes 23 = .ok (.if_icmp .ge 69, 3) := by decide +kernel
theorem dX6_passes_92 : decode cX6_passes 92 = .ok (.return_, 1) := by decide +kernel
def sgX6_passes_26_a1b5b : List Instr := [.iload_n 3, .aload_n 0]
theorem sgX6_passes_26_a1b5bd : am_dec cX6_passes 26 sgX6_passes_26_a1b5b = true := by decide +kernel
theorem dX6_passes_28 : decode cX6_passes 28 = .ok (.getfield 50, 3) := by decide +kernel
def sgX6_passes_31_840bf : List Instr := [.iload_n 1]
theorem sgX6_passes_31_840bfd : am_dec cX6_passes 31 sgX6_passes_31_840bf = true := by decide +kernel
theorem dX6_passes_32 : decode cX6_passes 32 = .ok (.iaload, 1) := by decide +kernel
theorem dX6_passes_33 : decode cX6_passes 33 = .ok (.if_icmp .eq 53, 3) := by decide +kernel
def sgX6_passes_86_49337 : List Instr := [.iinc 3 1, .goto (-69)]
theorem sgX6_passes_86_49337d : am_dec cX6_passes 86 sgX6_passes_86_49337 = true := by decide +kernel
def sgX6_passes_36_5906e : List Instr := [.iload_n 2, .iload_n 3, .ishr, .iconst 1, .iand, .iconst 1]
theorem sgX6_passes_36_5906ed : am_dec cX6_passes 36 sgX6_passes_36_5906e = true := by decide +kernel
theorem dX6_passes_42 : decode cX6_passes 42 = .ok (.if_icmp .ne 44, 3) := by decide +kernel
def sgX6_passes_45_c81f7 : List Instr := [.aload_n 0, .aload_n 0]
theorem sgX6_passes_45_c81f7d : am_dec cX6_passes 45 sgX6_passes_45_c81f7 = true := by decide +kernel
theorem dX6_passes_47 : decode cX6_passes 47 = .ok (.getfield 53, 3) := by decide +kernel
def sgX6_passes_50_840bf : List Instr := [.iload_n 1]
theorem sgX6_passes_50_840bfd : am_dec cX6_passes 50 sgX6_passes_50_840bf = true := by decide +kernel
theorem dX6_passes_51 : decode cX6_passes 51 = .ok (.iaload, 1) := by decide +kernel
def sgX6_passes_52_13b50 : List Instr := [.iload_n 3]
theorem sgX6_passes_52_13b50d : am_dec cX6_passes 52 sgX6_passes_52_13b50 = true := by decide +kernel
theorem dX6_passes_53 : decode cX6_passes 53 = .ok (.invokevirtual 139, 3) := by decide +kernel
theorem dX6_passes_56 : decode cX6_passes 56 = .ok (.ifCond .ne 12, 3) := by decide +kernel
def sgX6_passes_68_716ad : List Instr := [.aload_n 0, .iload_n 1, .aload_n 0, .aload_n 0]
theorem sgX6_passes_68_716add : am_dec cX6_passes 68 sgX6_passes_68_716ad = true := by decide +kernel
theorem dX6_passes_72 : decode cX6_passes 72 = .ok (.getfield 53, 3) := by decide +kernel
def sgX6_passes_75_840bf : List Instr := [.iload_n 1]
theorem sgX6_passes_75_840bfd : am_dec cX6_passes 75 sgX6_passes_75_840bf = true := by decide +kernel
theorem dX6_passes_76 : decode cX6_passes 76 = .ok (.iaload, 1) := by decide +kernel
def sgX6_passes_77_8324a : List Instr := [.iload_n 3, .iconst (-1)]
theorem sgX6_passes_77_8324ad : am_dec cX6_passes 77 sgX6_passes_77_8324a = true := by decide +kernel
theorem dX6_passes_79 : decode cX6_passes 79 = .ok (.invokevirtual 132, 3) := by decide +kernel
def sgX6_passes_82_13b50 : List Instr := [.iload_n 3]
theorem sgX6_passes_82_13b50d : am_dec cX6_passes 82 sgX6_passes_82_13b50 = true := by decide +kernel
theorem dX6_passes_83 : decode cX6_passes 83 = .ok (.invokevirtual 157, 3) := by decide +kernel
def sgX6_passes_59_5abed : List Instr := [.aload_n 0, .iload_n 1, .iload_n 3]
theorem sgX6_passes_59_5abedd : am_dec cX6_passes 59 sgX6_passes_59_5abed = true := by decide +kernel
theorem dX6_passes_62 : decode cX6_passes 62 = .ok (.invokevirtual 153, 3) := by decide +kernel
def sgX6_passes_65_96386 : List Instr := [.goto 21, .iinc 3 1, .goto (-69)]
theorem sgX6_passes_65_96386d : am_dec cX6_passes 65 sgX6_passes_65_96386 = true := by decide +kernel
set_option maxRecDepth 100000 in
set_option maxHeartbeats 4000000 in
theorem c_isIn_t {G : am_S} {X : am_H} {x lo hi : Int32} (h1 : ¬ x < lo) (h2 : ¬ hi < x) : am_D G yX6_isIn (.code yX6_isIn cX6_isIn 3 (some .boolean) :: am_G) { frames := 0, cells := 0, slots := 0, locals := 0 } X [.int x, .int lo, .int hi] X (some (.int 1)) := by
  refine am_of (by decide +kernel) (Nat.le_of_ble_eq_true rfl) ?_
  intro C hse hret hname hF hO
  subst hse
  refine am_go hF sgX6_isIn_0_7b09b 2 [(0, .int x), (1, .int lo), (2, .int hi)] [.int lo, .int x] sgX6_isIn_0_7b09bd rfl ?_
  refine am_icmplt hF 14 dX6_isIn_2 (by decide) (fun h9 => False.elim (absurd h9 h1)) (fun _ => ?_)
  refine am_go hF sgX6_isIn_5_69d2f 7 [(0, .int x), (1, .int lo), (2, .int hi)] [.int hi, .int x] sgX6_isIn_5_69d2fd rfl ?_
  refine am_icmpgt hF 14 dX6_isIn_7 (by decide) (fun h9 => False.elim (absurd h9 h2)) (fun _ => ?_)
  refine am_go hF sgX6_isIn_10_1c64c 15 [(0, .int x), (1, .int lo), (2, .int hi)] [.int 1] sgX6_isIn_10_1c64cd rfl ?_
  exact am_iret hF hO hret rfl dX6_isIn_15 ⟨rfl, rfl⟩
set_option maxRecDepth 100000 in
set_option maxHeartbeats 4000000 in
theorem c_isIn_f {G : am_S} {X : am_H} {x lo hi : Int32} (h : x < lo ∨ hi < x) : am_D G yX6_isIn (.code yX6_isIn cX6_isIn 3 (some .boolean) :: am_G) { frames := 0, cells := 0, slots := 0, locals := 0 } X [.int x, .int lo, .int hi] X (some (.int 0)) := by
  refine am_of (by decide +kernel) (Nat.le_of_ble_eq_true rfl) ?_
  intro C hse hret hname hF hO
  subst hse
  refine am_go hF sgX6_isIn_0_7b09b 2 [(0, .int x), (1, .int lo), (2, .int hi)] [.int lo, .int x] sgX6_isIn_0_7b09bd rfl ?_
  refine am_icmplt hF 14 dX6_isIn_2 (by decide) (fun c1 => ?_) (fun c1 => ?_)
  · skip
    refine am_go hF sgX6_isIn_14_56c54 15 [(0, .int x), (1, .int lo), (2, .int hi)] [.int 0] sgX6_isIn_14_56c54d rfl ?_
    exact am_iret hF hO hret rfl dX6_isIn_15 ⟨rfl, rfl⟩
  · skip
    refine am_go hF sgX6_isIn_5_69d2f 7 [(0, .int x), (1, .int lo), (2, .int hi)] [.int hi, .int x] sgX6_isIn_5_69d2fd rfl ?_
    refine am_icmpgt hF 14 dX6_isIn_7 (by decide) (fun c2 => ?_) (fun c2 => ?_)
    · skip
      refine am_go hF sgX6_isIn_14_56c54 15 [(0, .int x), (1, .int lo), (2, .int hi)] [.int 0] sgX6_isIn_14_56c54d rfl ?_
      exact am_iret hF hO hret rfl dX6_isIn_15 ⟨rfl, rfl⟩
    · skip
      refine am_go hF sgX6_isIn_10_1c64c 15 [(0, .int x), (1, .int lo), (2, .int hi)] [.int 1] sgX6_isIn_10_1c64cd rfl ?_
      exact am_iret hF hO hret rfl dX6_isIn_15 (False.elim (by rcases h with h | h; exact c1 h; exact c2 h))
set_option maxRecDepth 100000 in
set_option maxHeartbeats 4000000 in
theorem c_passes {G : am_S} {T S : am_T} {o : Nat → Int64} {n k l d : Nat} (hs : rSafe S n k l d) : am_D G yX6_passes (.code yX6_passes cX6_passes 4 none :: am_G) { frames := 3, cells := 0, slots := 0, locals := 75 } (hp T S o) [.ref 465, .int (nI k)] (hp T (rPass S n k l) o) none := by
  refine am_of (by decide +kernel) (Nat.le_of_ble_eq_true rfl) ?_
  intro C hse hret hname hF hO
  subst hse
  have hs0 : rSafe (st1 S 24 k 0) n k l d := hs
  have hn10 := hs.2.1
  have hl9 := hs.2.2.1
  refine am_go hF sgX6_passes_0_34db8 1 [(0, .ref 465), (1, .int (nI k))] [.ref 465] sgX6_passes_0_34db8d rfl ?_
  refine sv_get hF 24 (by decide) rfl lf_RX6_68 (.ref 524) rfl dX6_passes_1 ?_
  refine am_go hF sgX6_passes_4_cd6b4 6 [(0, .ref 465), (1, .int (nI k))] [.int 0, .int (nI k), .ref 524] sgX6_passes_4_cd6b4d rfl ?_
  refine sv_iast hF 24 (by decide) ⟨rfl, rfl, by decide⟩ k rfl (show k < 80 from hs.2.2.2.1) dX6_passes_6 ?_
  refine am_go hF sgX6_passes_7_c81f7 9 [(0, .ref 465), (1, .int (nI k))] [.ref 465, .ref 465] sgX6_passes_7_c81f7d rfl ?_
  refine sv_get hF 19 (by decide) rfl lf_RX6_53 (.ref 519) rfl dX6_passes_9 ?_
  refine am_go hF sgX6_passes_12_840bf 13 [(0, .ref 465), (1, .int (nI k))] [.int (nI k), .ref 519, .ref 465] sgX6_passes_12_840bfd rfl ?_
  refine sv_iald hF 19 (by decide) ⟨rfl, rfl, by decide⟩ k rfl (show k < 80 from hs.2.2.2.1) dX6_passes_13 ?_
  refine am_top (nI l) hs.2.2.2.2.1 ?_
  refine am_dV hF hO [.int (nI l)] [] (c_reachesOf (S := (st1 S 24 k 0)) hs.1 hs.2.1 hs.2.2.1) myX6_reachesOf vyX6_reachesOf lm_RX6_136 (hp_m _ _ _) rfl rfl 0 0 ⟨Nat.le_of_ble_eq_true rfl, Nat.le_of_ble_eq_true rfl⟩ ⟨Nat.le_of_ble_eq_true rfl, Nat.le_of_ble_eq_true rfl, Nat.le_of_ble_eq_true rfl, Nat.le_of_ble_eq_true rfl⟩ rfl (am_lv_ref (hp_m _ _ _) (am_lv_int am_lv_nil)) (Nat.le_of_ble_eq_true rfl) dX6_passes_14 [.int (rRe (st1 S 24 k 0) n l)] rfl ?_
  refine am_go hF sgX6_passes_17_7e279 20 [(3, .int 0), (2, .int (rRe (st1 S 24 k 0) n l)), (0, .ref 465), (1, .int (nI k))] [] sgX6_passes_17_7e279d rfl ?_
  refine am_drop [2, 3, 1, 0] [(0, .ref 465), (1, .int (nI k)), (2, .int (rRe (st1 S 24 k 0) n l)), (3, .int 0)] rfl ?_
  have lp20 : ∀ (zz j : Nat) (S1 : am_T), j + zz = 16 → S1 = itN (rps n l k (rRe (st1 S 24 k 0) n l)) (st1 S 24 k 0) j → am_W C (hp T S1 o) 0 0 20 [(0, .ref 465), (1, .int (nI k)), (2, .int (rRe (st1 S 24 k 0) n l)), (3, .int (nI j))] [] := by
    intro zz
    induction zz with
    | zero =>
      intro j S1 hj hS1
      have e9j : j = 16 := by omega
      obtain ⟨hs1, hm1⟩ := (by rw [hS1]; exact rps_it hs0 j (by omega) : rSafe S1 n k l d ∧ rMm S1 (st1 S 24 k 0))
      refine am_go hF sgX6_passes_20_b88ad 23 [(0, .ref 465), (1, .int (nI k)), (2, .int (rRe (st1 S 24 k 0) n l)), (3, .int (nI j))] [.int 16, .int (nI j)] sgX6_passes_20_b88add rfl ?_
      refine am_icmpge hF 92 dX6_passes_23 (by decide) (fun _ => ?_) (fun h9 => False.elim (absurd (nc_ge (show 16 ≤ j by omega) (by omega) (by omega) rfl rfl) h9))
      exact am_vret hF hO hret dX6_passes_92 ⟨by rw [hS1, e9j]; rfl, rfl⟩
    | succ zz ih20 =>
      intro j S1 hj hS1
      have l9j : j < 16 := by omega
      obtain ⟨hs1, hm1⟩ := (by rw [hS1]; exact rps_it hs0 j (by omega) : rSafe S1 n k l d ∧ rMm S1 (st1 S 24 k 0))
      refine am_go hF sgX6_passes_20_b88ad 23 [(0, .ref 465), (1, .int (nI k)), (2, .int (rRe (st1 S 24 k 0) n l)), (3, .int (nI j))] [.int 16, .int (nI j)] sgX6_passes_20_b88add rfl ?_
      refine am_icmpge hF 92 dX6_passes_23 (by decide) (fun h9 => False.elim (nc_lt_f (show j < 16 by omega) (by omega) (by omega) rfl rfl h9)) (fun _ => ?_)
      refine am_go hF sgX6_passes_26_a1b5b 28 [(0, .ref 465), (1, .int (nI k)), (2, .int (rRe (st1 S 24 k 0) n l)), (3, .int (nI j))] [.ref 465, .int (nI j)] sgX6_passes_26_a1b5bd rfl ?_
      refine sv_get hF 18 (by decide) rfl lf_RX6_50 (.ref 518) rfl dX6_passes_28 ?_
      refine am_go hF sgX6_passes_31_840bf 32 [(0, .ref 465), (1, .int (nI k)), (2, .int (rRe (st1 S 24 k 0) n l)), (3, .int (nI j))] [.int (nI k), .ref 518, .int (nI j)] sgX6_passes_31_840bfd rfl ?_
      refine sv_iald hF 18 (by decide) ⟨rfl, rfl, by decide⟩ k rfl (show k < 80 from hs.2.2.2.1) dX6_passes_32 ?_
      refine am_icmpeq hF 86 dX6_passes_33 (by decide) (fun c3 => ?_) (fun c3 => ?_)
      · skip
        refine am_go hF sgX6_passes_86_49337 20 [(3, .int ((nI j) + 1)), (0, .ref 465), (1, .int (nI k)), (2, .int (rRe (st1 S 24 k 0) n l))] [] sgX6_passes_86_49337d rfl ?_
        refine am_drop [1, 2, 3, 0] [(0, .ref 465), (1, .int (nI k)), (2, .int (rRe (st1 S 24 k 0) n l)), (3, .int ((nI j) + 1))] rfl ?_
        refine am_eqL [(0, .ref 465), (1, .int (nI k)), (2, .int (rRe (st1 S 24 k 0) n l)), (3, .int (nI (j + 1)))] (by rw [nI_1]) ?_
        exact ih20 (j + 1) S1 (by omega) (by show _ = rps n l k _ j (itN (rps n l k _) (st1 S 24 k 0) j); rw [← hS1]; simp only [rps, (eq_true c3), ↓reduceIte])
      · skip
        refine am_go hF sgX6_passes_36_5906e 42 [(0, .ref 465), (1, .int (nI k)), (2, .int (rRe (st1 S 24 k 0) n l)), (3, .int (nI j))] [.int 1, .int (((rRe (st1 S 24 k 0) n l) >>> ((nI j) &&& 31)) &&& 1)] sgX6_passes_36_5906ed rfl ?_
        refine am_icmpne hF 86 dX6_passes_42 (by decide) (fun c4 => ?_) (fun c4 => ?_)
        · skip
          refine am_go hF sgX6_passes_86_49337 20 [(3, .int ((nI j) + 1)), (0, .ref 465), (1, .int (nI k)), (2, .int (rRe (st1 S 24 k 0) n l))] [] sgX6_passes_86_49337d rfl ?_
          refine am_drop [1, 2, 3, 0] [(0, .ref 465), (1, .int (nI k)), (2, .int (rRe (st1 S 24 k 0) n l)), (3, .int ((nI j) + 1))] rfl ?_
          refine am_eqL [(0, .ref 465), (1, .int (nI k)), (2, .int (rRe (st1 S 24 k 0) n l)), (3, .int (nI (j + 1)))] (by rw [nI_1]) ?_
          exact ih20 (j + 1) S1 (by omega) (by show _ = rps n l k _ j (itN (rps n l k _) (st1 S 24 k 0) j); rw [← hS1]; simp only [rps, c3, c4, ↓reduceIte])
        · skip
          refine am_go hF sgX6_passes_45_c81f7 47 [(0, .ref 465), (1, .int (nI k)), (2, .int (rRe (st1 S 24 k 0) n l)), (3, .int (nI j))] [.ref 465, .ref 465] sgX6_passes_45_c81f7d rfl ?_
          refine sv_get hF 19 (by decide) rfl lf_RX6_53 (.ref 519) rfl dX6_passes_47 ?_
          refine am_go hF sgX6_passes_50_840bf 51 [(0, .ref 465), (1, .int (nI k)), (2, .int (rRe (st1 S 24 k 0) n l)), (3, .int (nI j))] [.int (nI k), .ref 519, .ref 465] sgX6_passes_50_840bfd rfl ?_
          refine sv_iald hF 19 (by decide) ⟨rfl, rfl, by decide⟩ k rfl (show k < 80 from hs.2.2.2.1) dX6_passes_51 ?_
          refine am_top (nI l) hs1.2.2.2.2.1 ?_
          refine am_go hF sgX6_passes_52_13b50 53 [(0, .ref 465), (1, .int (nI k)), (2, .int (rRe (st1 S 24 k 0) n l)), (3, .int (nI j))] [.int (nI j), .int (nI l), .ref 465] sgX6_passes_52_13b50d rfl ?_
          refine am_dV hF hO [.int (nI l), .int (nI j)] [] (c_modeFor (S := S1) hs1.1 hs.2.1 hs.2.2.1 (by omega)) myX6_modeFor vyX6_modeFor lm_RX6_139 (hp_m _ _ _) rfl rfl 0 0 ⟨Nat.le_of_ble_eq_true rfl, Nat.le_of_ble_eq_true rfl⟩ ⟨Nat.le_of_ble_eq_true rfl, Nat.le_of_ble_eq_true rfl, Nat.le_of_ble_eq_true rfl, Nat.le_of_ble_eq_true rfl⟩ rfl (am_lv_ref (hp_m _ _ _) (am_lv_int (am_lv_int (am_lv_int am_lv_nil)))) (Nat.le_of_ble_eq_true rfl) dX6_passes_53 [.int (rMode S1 n l j)] rfl ?_
          refine am_ifne hF 68 dX6_passes_56 (by decide) (fun c5 => ?_) (fun c5 => ?_)
          · skip
            refine am_go hF sgX6_passes_68_716ad 72 [(0, .ref 465), (1, .int (nI k)), (2, .int (rRe (st1 S 24 k 0) n l)), (3, .int (nI j))] [.ref 465, .ref 465, .int (nI k), .ref 465] sgX6_passes_68_716add rfl ?_
            refine sv_get hF 19 (by decide) rfl lf_RX6_53 (.ref 519) rfl dX6_passes_72 ?_
            refine am_go hF sgX6_passes_75_840bf 76 [(0, .ref 465), (1, .int (nI k)), (2, .int (rRe (st1 S 24 k 0) n l)), (3, .int (nI j))] [.int (nI k), .ref 519, .ref 465, .int (nI k), .ref 465] sgX6_passes_75_840bfd rfl ?_
            refine sv_iald hF 19 (by decide) ⟨rfl, rfl, by decide⟩ k rfl (show k < 80 from hs.2.2.2.1) dX6_passes_76 ?_
            refine am_top (nI l) hs1.2.2.2.2.1 ?_
            refine am_go hF sgX6_passes_77_8324a 79 [(0, .ref 465), (1, .int (nI k)), (2, .int (rRe (st1 S 24 k 0) n l)), (3, .int (nI j))] [.int (-1), .int (nI j), .int (nI l), .ref 465, .int (nI k), .ref 465] sgX6_passes_77_8324ad rfl ?_
            obtain ⟨q, hq, eq⟩ := rps_low (q := j) (by omega) hm1 c4
            have eq9 : (rMB S1 n l j (-1)).toNatClampNeg = q := by rw [eq]; exact nI_clamp (by omega)
            refine am_dV hF hO [.int (nI l), .int (nI j), .int (-1)] [.int (nI k), .ref 465] (c_memberBy (S := S1) hs1.1 hs.2.1 (by omega) (by omega)) myX6_memberBy vyX6_memberBy lm_RX6_132 (hp_m _ _ _) rfl rfl 0 0 ⟨Nat.le_of_ble_eq_true rfl, Nat.le_of_ble_eq_true rfl⟩ ⟨Nat.le_of_ble_eq_true rfl, Nat.le_of_ble_eq_true rfl, Nat.le_of_ble_eq_true rfl, Nat.le_of_ble_eq_true rfl⟩ rfl (am_lv_ref (hp_m _ _ _) (am_lv_int (am_lv_int (am_lv_int (am_lv_int (am_lv_ref (hp_m _ _ _) am_lv_nil)))))) (Nat.le_of_ble_eq_true rfl) dX6_passes_79 [.int (rMB S1 n l j (-1)), .int (nI k), .ref 465] rfl ?_
            refine am_eqS [.int (nI q), .int (nI k), .ref 465] (by rw [eq]) ?_
            refine am_go hF sgX6_passes_82_13b50 83 [(0, .ref 465), (1, .int (nI k)), (2, .int (rRe (st1 S 24 k 0) n l)), (3, .int (nI j))] [.int (nI j), .int (nI q), .int (nI k), .ref 465] sgX6_passes_82_13b50d rfl ?_
            have ed9 : (S1 20 k).toNatClampNeg = d := by rw [hs1.2.2.2.2.2.1]; exact nI_clamp (by have := hs.2.2.2.2.2.2.1; omega)
            refine am_dV hF hO [.int (nI k), .int (nI q), .int (nI j)] [] (c_comesToDigest (S := S1) hs.2.2.2.1 (by have := hs.2.1; omega) (by omega) hs1.2.2.2.2.2.1 hs.2.2.2.2.2.2.1) myX6_comesToDigest vyX6_comesToDigest lm_RX6_157 (hp_m _ _ _) rfl rfl 0 0 ⟨Nat.le_of_ble_eq_true rfl, Nat.le_of_ble_eq_true rfl⟩ ⟨Nat.le_of_ble_eq_true rfl, Nat.le_of_ble_eq_true rfl, Nat.le_of_ble_eq_true rfl, Nat.le_of_ble_eq_true rfl⟩ rfl (am_lv_ref (hp_m _ _ _) (am_lv_int (am_lv_int (am_lv_int am_lv_nil)))) (Nat.le_of_ble_eq_true rfl) dX6_passes_83 [] rfl ?_
            refine am_go hF sgX6_passes_86_49337 20 [(3, .int ((nI j) + 1)), (0, .ref 465), (1, .int (nI k)), (2, .int (rRe (st1 S 24 k 0) n l))] [] sgX6_passes_86_49337d rfl ?_
            refine am_drop [1, 2, 3, 0] [(0, .ref 465), (1, .int (nI k)), (2, .int (rRe (st1 S 24 k 0) n l)), (3, .int ((nI j) + 1))] rfl ?_
            refine am_eqL [(0, .ref 465), (1, .int (nI k)), (2, .int (rRe (st1 S 24 k 0) n l)), (3, .int (nI (j + 1)))] (by rw [nI_1]) ?_
            exact ih20 (j + 1) (rDig S1 k q j d) (by omega) (by show _ = rps n l k _ j (itN (rps n l k _) (st1 S 24 k 0) j); rw [← hS1]; simp only [rps, c3, (eq_true c4), c5, ed9, eq9, ↓reduceIte])
          · skip
            refine am_go hF sgX6_passes_59_5abed 62 [(0, .ref 465), (1, .int (nI k)), (2, .int (rRe (st1 S 24 k 0) n l)), (3, .int (nI j))] [.int (nI j), .int (nI k), .ref 465] sgX6_passes_59_5abedd rfl ?_
            obtain ⟨b, hb10, hb⟩ := hs1.2.2.2.2.2.2.2 j (by omega)
            have eb9 : (S1 7 j).toNatClampNeg = b := by rw [hb]; exact nI_clamp (by omega)
            refine am_dV hF hO [.int (nI k), .int (nI j)] [] (c_comesToBox (S := S1) hs1.1 hs.2.1 hs.2.2.2.1 (by omega) hb hb10) myX6_comesToBox vyX6_comesToBox lm_RX6_153 (hp_m _ _ _) rfl rfl 0 0 ⟨Nat.le_of_ble_eq_true rfl, Nat.le_of_ble_eq_true rfl⟩ ⟨Nat.le_of_ble_eq_true rfl, Nat.le_of_ble_eq_true rfl, Nat.le_of_ble_eq_true rfl, Nat.le_of_ble_eq_true rfl⟩ rfl (am_lv_ref (hp_m _ _ _) (am_lv_int (am_lv_int (am_lv_int am_lv_nil)))) (Nat.le_of_ble_eq_true rfl) dX6_passes_62 [] rfl ?_
            refine am_go hF sgX6_passes_65_96386 20 [(3, .int ((nI j) + 1)), (0, .ref 465), (1, .int (nI k)), (2, .int (rRe (st1 S 24 k 0) n l))] [] sgX6_passes_65_96386d rfl ?_
            refine am_drop [1, 2, 3, 0] [(0, .ref 465), (1, .int (nI k)), (2, .int (rRe (st1 S 24 k 0) n l)), (3, .int ((nI j) + 1))] rfl ?_
            refine am_eqL [(0, .ref 465), (1, .int (nI k)), (2, .int (rRe (st1 S 24 k 0) n l)), (3, .int (nI (j + 1)))] (by rw [nI_1]) ?_
            exact ih20 (j + 1) (rBox S1 n k j b) (by omega) (by show _ = rps n l k _ j (itN (rps n l k _) (st1 S 24 k 0) j); rw [← hS1]; simp only [rps, c3, (eq_true c4), (eq_true c5), eb9, ↓reduceIte])
  exact lp20 16 0 (st1 S 24 k 0) (by omega) rfl
end
section
def sgX6_clears_0_34db8 : List Instr := [.aload_n 0]
theorem sgX6_clears_0_34db8d : am_dec cX6_clears 0 sgX6_clears_0_34db8 = true := by decide +kernel
theorem dX6_clears_1 : decode cX6_clears 1 = .ok (.getfield 13, 3) := by decide +kernel
def sgX6_clears_4_34db8 : List Instr := [.aload_n 0]
theorem sgX6_clears_4_34db8d : am_dec cX6_clears 4 sgX6_clears_4_34db8 = true := by decide +kernel
theorem dX6_clears_5 : decode cX6_clears 5 = .ok (.getfield 50, 3) := by decide +kernel
def sgX6_clears_8_840bf : List Instr := [.iload_n 1]
theorem sgX6_clears_8_840bfd : am_dec cX6_clears 8 sgX6_clears_8_840bf = true := by decide +kernel
theorem dX6_clears_9 : decode cX6_clears 9 = .ok (.iaload, 1) := by decide +kernel
def sgX6_clears_10_af0f1 : List Instr := [.bipush (-10)]
theorem sgX6_clears_10_af0f1d : am_dec cX6_clears 10 sgX6_clears_10_af0f1 = true := by decide +kernel
theorem dX6_clears_12 : decode cX6_clears 12 = .ok (.iastore, 1) := by decide +kernel
def sgX6_clears_13_01fef : List Instr := [.iconst 0, .istore_n 2]
theorem sgX6_clears_13_01fefd : am_dec cX6_clears 13 sgX6_clears_13_01fef = true := by decide +kernel
def sgX6_clears_15_14491 : List Instr := [.iload_n 2, .aload_n 0]
theorem sgX6_clears_15_14491d : am_dec cX6_clears 15 sgX6_clears_15_14491 = true := by decide +kernel
theorem dX6_clears_17 : decode cX6_clears 17 = .ok (.getfield 115, 3) := by decide +kernel
theorem dX6_clears_20 : decode cX6_clears 20 = .ok (.if_icmp .ge 71, 3) := by decide +kernel
theorem dX6_clears_91 : decode cX6_clears 91 = .ok (.return_, 1) := by decide +kernel
def sgX6_clears_23_f3167 : List Instr := [.iload_n 2, .iload_n 1]
theorem sgX6_clears_23_f3167d : am_dec cX6_clears 23 sgX6_clears_23_f3167 = true := by decide +kernel
theorem dX6_clears_25 : decode cX6_clears 25 = .ok (.if_icmp .eq 38, 3) := by decide +kernel
def sgX6_clears_63_fddb3 : List Instr := [.iconst 1, .goto 4, .istore_n 3, .iload_n 3]
theorem sgX6_clears_63_fddb3d : am_dec cX6_clears 63 sgX6_clears_63_fddb3 = true := by decide +kernel
theorem dX6_clears_70 : decode cX6_clears 70 = .ok (.ifCond .eq 15, 3) := by decide +kernel
def sgX6_clears_73_34db8 : List Instr := [.aload_n 0]
theorem sgX6_clears_73_34db8d : am_dec cX6_clears 73 sgX6_clears_73_34db8 = true := by decide +kernel
theorem dX6_clears_74 : decode cX6_clears 74 = .ok (.getfield 77, 3) := by decide +kernel
def sgX6_clears_77_f1033 : List Instr := [.iload_n 2, .iconst 0]
theorem sgX6_clears_77_f1033d : am_dec cX6_clears 77 sgX6_clears_77_f1033 = true := by decide +kernel
theorem dX6_clears_79 : decode cX6_clears 79 = .ok (.bastore, 1) := by decide +kernel
def sgX6_clears_80_78e74 : List Instr := [.aload_n 0, .iload_n 2]
theorem sgX6_clears_80_78e74d : am_dec cX6_clears 80 sgX6_clears_80_78e74 = true := by decide +kernel
theorem dX6_clears_82 : decode cX6_clears 82 = .ok (.invokevirtual 171, 3) := by decide +kernel
def sgX6_clears_85_7f4eb : List Instr := [.iinc 2 1, .goto (-73)]
theorem sgX6_clears_85_7f4ebd : am_dec cX6_clears 85 sgX6_clears_85_7f4eb = true := by decide +kernel
def sgX6_clears_28_34db8 : List Instr := [.aload_n 0]
theorem sgX6_clears_28_34db8d : am_dec cX6_clears 28 sgX6_clears_28_34db8 = true := by decide +kernel
theorem dX6_clears_29 : decode cX6_clears 29 = .ok (.getfield 50, 3) := by decide +kernel
def sgX6_clears_32_f8a59 : List Instr := [.iload_n 2]
theorem sgX6_clears_32_f8a59d : am_dec cX6_clears 32 sgX6_clears_32_f8a59 = true := by decide +kernel
theorem dX6_clears_33 : decode cX6_clears 33 = .ok (.iaload, 1) := by decide +kernel
def sgX6_clears_34_34db8 : List Instr := [.aload_n 0]
theorem sgX6_clears_34_34db8d : am_dec cX6_clears 34 sgX6_clears_34_34db8 = true := by decide +kernel
theorem dX6_clears_35 : decode cX6_clears 35 = .ok (.getfield 50, 3) := by decide +kernel
def sgX6_clears_38_840bf : List Instr := [.iload_n 1]
theorem sgX6_clears_38_840bfd : am_dec cX6_clears 38 sgX6_clears_38_840bf = true := by decide +kernel
theorem dX6_clears_39 : decode cX6_clears 39 = .ok (.iaload, 1) := by decide +kernel
theorem dX6_clears_40 : decode cX6_clears 40 = .ok (.if_icmp .ne 27, 3) := by decide +kernel
def sgX6_clears_67_00398 : List Instr := [.iconst 0, .istore_n 3, .iload_n 3]
theorem sgX6_clears_67_00398d : am_dec cX6_clears 67 sgX6_clears_67_00398 = true := by decide +kernel
def sgX6_clears_43_34db8 : List Instr := [.aload_n 0]
theorem sgX6_clears_43_34db8d : am_dec cX6_clears 43 sgX6_clears_43_34db8 = true := by decide +kernel
theorem dX6_clears_44 : decode cX6_clears 44 = .ok (.getfield 68, 3) := by decide +kernel
def sgX6_clears_47_f8a59 : List Instr := [.iload_n 2]
theorem sgX6_clears_47_f8a59d : am_dec cX6_clears 47 sgX6_clears_47_f8a59 = true := by decide +kernel
theorem dX6_clears_48 : decode cX6_clears 48 = .ok (.iaload, 1) := by decide +kernel
def sgX6_clears_49_4de0a : List Instr := [.iconst 1]
theorem sgX6_clears_49_4de0ad : am_dec cX6_clears 49 sgX6_clears_49_4de0a = true := by decide +kernel
theorem dX6_clears_50 : decode cX6_clears 50 = .ok (.if_icmp .ne 17, 3) := by decide +kernel
def sgX6_clears_53_34db8 : List Instr := [.aload_n 0]
theorem sgX6_clears_53_34db8d : am_dec cX6_clears 53 sgX6_clears_53_34db8 = true := by decide +kernel
theorem dX6_clears_54 : decode cX6_clears 54 = .ok (.getfield 65, 3) := by decide +kernel
def sgX6_clears_57_f8a59 : List Instr := [.iload_n 2]
theorem sgX6_clears_57_f8a59d : am_dec cX6_clears 57 sgX6_clears_57_f8a59 = true := by decide +kernel
theorem dX6_clears_58 : decode cX6_clears 58 = .ok (.iaload, 1) := by decide +kernel
def sgX6_clears_59_d5620 : List Instr := [.iconst 2]
theorem sgX6_clears_59_d5620d : am_dec cX6_clears 59 sgX6_clears_59_d5620 = true := by decide +kernel
theorem dX6_clears_60 : decode cX6_clears 60 = .ok (.if_icmp .ne 7, 3) := by decide +kernel
def sgX6_nextDay_0_67c14 : List Instr := [.iconst 0, .istore_n 1]
theorem sgX6_nextDay_0_67c14d : am_dec cX6_nextDay 0 sgX6_nextDay_0_67c14 = true := by decide +kernel
def sgX6_nextDay_2_45dfc : List Instr := [.iload_n 1, .aload_n 0]
theorem sgX6_nextDay_2_45dfcd : am_dec cX6_nextDay 2 sgX6_nextDay_2_45dfc = true := by decide +kernel
theorem dX6_nextDay_4 : decode cX6_nextDay 4 = .ok (.getfield 112, 3) := by decide +kernel
theorem dX6_nextDay_7 : decode cX6_nextDay 7 = .ok (.if_icmp .ge 40, 3) := by decide +kernel
def sgX6_nextDay_47_da752 : List Instr := [.aload_n 0, .dup]
theorem sgX6_nextDay_47_da752d : am_dec cX6_nextDay 47 sgX6_nextDay_47_da752 = true := by decide +kernel
theorem dX6_nextDay_49 : decode cX6_nextDay 49 = .ok (.getfield 147, 3) := by decide +kernel
def sgX6_nextDay_52_c7176 : List Instr := [.iconst 1, .iadd]
theorem sgX6_nextDay_52_c7176d : am_dec cX6_nextDay 52 sgX6_nextDay_52_c7176 = true := by decide +kernel
theorem dX6_nextDay_54 : decode cX6_nextDay 54 = .ok (.putfield 147, 3) := by decide +kernel
def sgX6_nextDay_57_1ac35 : List Instr := [.iconst 0, .istore_n 1, .iconst 0, .istore_n 2]
theorem sgX6_nextDay_57_1ac35d : am_dec cX6_nextDay 57 sgX6_nextDay_57_1ac35 = true := by decide +kernel
def sgX6_nextDay_61_14491 : List Instr := [.iload_n 2, .aload_n 0]
theorem sgX6_nextDay_61_14491d : am_dec cX6_nextDay 61 sgX6_nextDay_61_14491 = true := by decide +kernel
theorem dX6_nextDay_63 : decode cX6_nextDay 63 = .ok (.getfield 115, 3) := by decide +kernel
theorem dX6_nextDay_66 : decode cX6_nextDay 66 = .ok (.if_icmp .ge 51, 3) := by decide +kernel
def sgX6_nextDay_117_840bf : List Instr := [.iload_n 1]
theorem sgX6_nextDay_117_840bfd : am_dec cX6_nextDay 117 sgX6_nextDay_117_840bf = true := by decide +kernel
theorem dX6_nextDay_118 : decode cX6_nextDay 118 = .ok (.ireturn, 1) := by decide +kernel
def sgX6_nextDay_69_34db8 : List Instr := [.aload_n 0]
theorem sgX6_nextDay_69_34db8d : am_dec cX6_nextDay 69 sgX6_nextDay_69_34db8 = true := by decide +kernel
theorem dX6_nextDay_70 : decode cX6_nextDay 70 = .ok (.getfield 68, 3) := by decide +kernel
def sgX6_nextDay_73_f8a59 : List Instr := [.iload_n 2]
theorem sgX6_nextDay_73_f8a59d : am_dec cX6_nextDay 73 sgX6_nextDay_73_f8a59 = true := by decide +kernel
theorem dX6_nextDay_74 : decode cX6_nextDay 74 = .ok (.iaload, 1) := by decide +kernel
def sgX6_nextDay_75_4de0a : List Instr := [.iconst 1]
theorem sgX6_nextDay_75_4de0ad : am_dec cX6_nextDay 75 sgX6_nextDay_75_4de0a = true := by decide +kernel
theorem dX6_nextDay_76 : decode cX6_nextDay 76 = .ok (.if_icmp .ne 35, 3) := by decide +kernel
def sgX6_nextDay_111_ee2ba : List Instr := [.iinc 2 1, .goto (-53)]
theorem sgX6_nextDay_111_ee2bad : am_dec cX6_nextDay 111 sgX6_nextDay_111_ee2ba = true := by decide +kernel
def sgX6_nextDay_79_34db8 : List Instr := [.aload_n 0]
theorem sgX6_nextDay_79_34db8d : am_dec cX6_nextDay 79 sgX6_nextDay_79_34db8 = true := by decide +kernel
theorem dX6_nextDay_80 : decode cX6_nextDay 80 = .ok (.getfield 59, 3) := by decide +kernel
def sgX6_nextDay_83_f8a59 : List Instr := [.iload_n 2]
theorem sgX6_nextDay_83_f8a59d : am_dec cX6_nextDay 83 sgX6_nextDay_83_f8a59 = true := by decide +kernel
theorem dX6_nextDay_84 : decode cX6_nextDay 84 = .ok (.iaload, 1) := by decide +kernel
def sgX6_nextDay_85_34db8 : List Instr := [.aload_n 0]
theorem sgX6_nextDay_85_34db8d : am_dec cX6_nextDay 85 sgX6_nextDay_85_34db8 = true := by decide +kernel
theorem dX6_nextDay_86 : decode cX6_nextDay 86 = .ok (.getfield 147, 3) := by decide +kernel
theorem dX6_nextDay_89 : decode cX6_nextDay 89 = .ok (.if_icmp .ne 22, 3) := by decide +kernel
def sgX6_nextDay_92_34db8 : List Instr := [.aload_n 0]
theorem sgX6_nextDay_92_34db8d : am_dec cX6_nextDay 92 sgX6_nextDay_92_34db8 = true := by decide +kernel
theorem dX6_nextDay_93 : decode cX6_nextDay 93 = .ok (.getfield 77, 3) := by decide +kernel
def sgX6_nextDay_96_f8a59 : List Instr := [.iload_n 2]
theorem sgX6_nextDay_96_f8a59d : am_dec cX6_nextDay 96 sgX6_nextDay_96_f8a59 = true := by decide +kernel
theorem dX6_nextDay_97 : decode cX6_nextDay 97 = .ok (.baload, 1) := by decide +kernel
theorem dX6_nextDay_98 : decode cX6_nextDay 98 = .ok (.ifCond .ne 13, 3) := by decide +kernel
def sgX6_nextDay_101_34db8 : List Instr := [.aload_n 0]
theorem sgX6_nextDay_101_34db8d : am_dec cX6_nextDay 101 sgX6_nextDay_101_34db8 = true := by decide +kernel
theorem dX6_nextDay_102 : decode cX6_nextDay 102 = .ok (.getfield 68, 3) := by decide +kernel
def sgX6_nextDay_105_a8367 : List Instr := [.iload_n 2, .iconst 2]
theorem sgX6_nextDay_105_a8367d : am_dec cX6_nextDay 105 sgX6_nextDay_105_a8367 = true := by decide +kernel
theorem dX6_nextDay_107 : decode cX6_nextDay 107 = .ok (.iastore, 1) := by decide +kernel
def sgX6_nextDay_108_77301 : List Instr := [.iinc 1 1, .iinc 2 1, .goto (-53)]
theorem sgX6_nextDay_108_77301d : am_dec cX6_nextDay 108 sgX6_nextDay_108_77301 = true := by decide +kernel
def sgX6_nextDay_10_7ab88 : List Instr := [.sipush 401, .iload_n 1, .imul, .aload_n 0]
theorem sgX6_nextDay_10_7ab88d : am_dec cX6_nextDay 10 sgX6_nextDay_10_7ab88 = true := by decide +kernel
theorem dX6_nextDay_16 : decode cX6_nextDay 16 = .ok (.getfield 147, 3) := by decide +kernel
def sgX6_nextDay_19_57247 : List Instr := [.iadd, .istore_n 2, .aload_n 0]
theorem sgX6_nextDay_19_57247d : am_dec cX6_nextDay 19 sgX6_nextDay_19_57247 = true := by decide +kernel
theorem dX6_nextDay_22 : decode cX6_nextDay 22 = .ok (.getfield 95, 3) := by decide +kernel
def sgX6_nextDay_25_14491 : List Instr := [.iload_n 2, .aload_n 0]
theorem sgX6_nextDay_25_14491d : am_dec cX6_nextDay 25 sgX6_nextDay_25_14491 = true := by decide +kernel
theorem dX6_nextDay_27 : decode cX6_nextDay 27 = .ok (.getfield 92, 3) := by decide +kernel
def sgX6_nextDay_30_f8a59 : List Instr := [.iload_n 2]
theorem sgX6_nextDay_30_f8a59d : am_dec cX6_nextDay 30 sgX6_nextDay_30_f8a59 = true := by decide +kernel
theorem dX6_nextDay_31 : decode cX6_nextDay 31 = .ok (.baload, 1) := by decide +kernel
theorem dX6_nextDay_32 : decode cX6_nextDay 32 = .ok (.ifCond .eq 7, 3) := by decide +kernel
def sgX6_nextDay_39_56c54 : List Instr := [.iconst 0]
theorem sgX6_nextDay_39_56c54d : am_dec cX6_nextDay 39 sgX6_nextDay_39_56c54 = true := by decide +kernel
theorem dX6_nextDay_40 : decode cX6_nextDay 40 = .ok (.iastore, 1) := by decide +kernel
def sgX6_nextDay_41_3abcf : List Instr := [.iinc 1 1, .goto (-42)]
theorem sgX6_nextDay_41_3abcfd : am_dec cX6_nextDay 41 sgX6_nextDay_41_3abcf = true := by decide +kernel
def sgX6_nextDay_35_1c64c : List Instr := [.iconst 1, .goto 4]
theorem sgX6_nextDay_35_1c64cd : am_dec cX6_nextDay 35 sgX6_nextDay_35_1c64c = true := by decide +kernel
set_option maxRecDepth 100000 in
set_option maxHeartbeats 4000000 in
theorem c_clears {G : am_S} {T S : am_T} {o : Nat → Int64} {n m c : Nat} (ha : rAll S n m) (hc : c < m) : am_D G yX6_clears (.code yX6_clears cX6_clears 4 none :: am_G) { frames := 4, cells := 0, slots := 0, locals := 98 } (hp T S o) [.ref 465, .int (nI c)] (hp T (rClear S n m c) o) none := by
  refine am_of (by decide +kernel) (Nat.le_of_ble_eq_true rfl) ?_
  intro C hse hret hname hF hO
  subst hse
  obtain ⟨sp, hsp9, hsp⟩ := (ha.2.2.2.2.2 c hc).1
  have hm80 := ha.2.2.2.1
  refine am_go hF sgX6_clears_0_34db8 1 [(0, .ref 465), (1, .int (nI c))] [.ref 465] sgX6_clears_0_34db8d rfl ?_
  refine sv_get hF 4 (by decide) rfl lf_RX6_13 (.ref 504) rfl dX6_clears_1 ?_
  refine am_go hF sgX6_clears_4_34db8 5 [(0, .ref 465), (1, .int (nI c))] [.ref 465, .ref 504] sgX6_clears_4_34db8d rfl ?_
  refine sv_get hF 18 (by decide) rfl lf_RX6_50 (.ref 518) rfl dX6_clears_5 ?_
  refine am_go hF sgX6_clears_8_840bf 9 [(0, .ref 465), (1, .int (nI c))] [.int (nI c), .ref 518, .ref 504] sgX6_clears_8_840bfd rfl ?_
  refine sv_iald hF 18 (by decide) ⟨rfl, rfl, by decide⟩ c rfl (show c < 80 by omega) dX6_clears_9 ?_
  refine am_top (nI sp) hsp ?_
  refine am_go hF sgX6_clears_10_af0f1 12 [(0, .ref 465), (1, .int (nI c))] [.int (-10), .int (nI sp), .ref 504] sgX6_clears_10_af0f1d rfl ?_
  refine sv_iast hF 4 (by decide) ⟨rfl, rfl, by decide⟩ sp rfl (show sp < 16 by omega) dX6_clears_12 ?_
  refine am_go hF sgX6_clears_13_01fef 15 [(2, .int 0), (0, .ref 465), (1, .int (nI c))] [] sgX6_clears_13_01fefd rfl ?_
  refine am_drop [1, 2, 0] [(0, .ref 465), (1, .int (nI c)), (2, .int 0)] rfl ?_
  have lp15 : ∀ (zz j : Nat) (S1 : am_T), j + zz = m → S1 = itN (rcl n c) (st1 S 4 sp (-10)) j → am_W C (hp T S1 o) 0 0 15 [(0, .ref 465), (1, .int (nI c)), (2, .int (nI j))] [] := by
    intro zz
    induction zz with
    | zero =>
      intro j S1 hj hS1
      have e9j : j = m := by omega
      have ha1 : rAll S1 n m := by rw [hS1]; exact rcl_all (rAll_st ha (by decide) _ _) j
      refine am_go hF sgX6_clears_15_14491 17 [(0, .ref 465), (1, .int (nI c)), (2, .int (nI j))] [.ref 465, .int (nI j)] sgX6_clears_15_14491d rfl ?_
      refine sv_get hF 17 (by decide) rfl lf_RX6_115 (.int (S1 17 0)) rfl dX6_clears_17 ?_
      refine am_top (nI m) ha1.2.2.1 ?_
      refine am_icmpge hF 91 dX6_clears_20 (by decide) (fun _ => ?_) (fun h9 => False.elim (absurd (nc_ge (show m ≤ j by omega) (by omega) (by omega) rfl rfl) h9))
      exact am_vret hF hO hret dX6_clears_91 ⟨by rw [hS1, e9j]; unfold rClear; rw [hsp, nI_clamp (by omega)], rfl⟩
    | succ zz ih15 =>
      intro j S1 hj hS1
      have l9j : j < m := by omega
      have ha1 : rAll S1 n m := by rw [hS1]; exact rcl_all (rAll_st ha (by decide) _ _) j
      refine am_go hF sgX6_clears_15_14491 17 [(0, .ref 465), (1, .int (nI c)), (2, .int (nI j))] [.ref 465, .int (nI j)] sgX6_clears_15_14491d rfl ?_
      refine sv_get hF 17 (by decide) rfl lf_RX6_115 (.int (S1 17 0)) rfl dX6_clears_17 ?_
      refine am_top (nI m) ha1.2.2.1 ?_
      refine am_icmpge hF 91 dX6_clears_20 (by decide) (fun h9 => False.elim (nc_lt_f (show j < m by omega) (by omega) (by omega) rfl rfl h9)) (fun _ => ?_)
      refine am_go hF sgX6_clears_23_f3167 25 [(0, .ref 465), (1, .int (nI c)), (2, .int (nI j))] [.int (nI c), .int (nI j)] sgX6_clears_23_f3167d rfl ?_
      refine am_icmpeq hF 63 dX6_clears_25 (by decide) (fun c3 => ?_) (fun c3 => ?_)
      · skip
        refine am_go hF sgX6_clears_63_fddb3 70 [(3, .int 1), (0, .ref 465), (1, .int (nI c)), (2, .int (nI j))] [.int 1] sgX6_clears_63_fddb3d rfl ?_
        refine am_ifeq hF 85 dX6_clears_70 (by decide) (fun h9 => False.elim ((by revert h9; decide))) (fun _ => ?_)
        refine am_go hF sgX6_clears_73_34db8 74 [(3, .int 1), (0, .ref 465), (1, .int (nI c)), (2, .int (nI j))] [.ref 465] sgX6_clears_73_34db8d rfl ?_
        refine sv_get hF 27 (by decide) rfl lf_RX6_77 (.ref 527) rfl dX6_clears_74 ?_
        refine am_go hF sgX6_clears_77_f1033 79 [(3, .int 1), (0, .ref 465), (1, .int (nI c)), (2, .int (nI j))] [.int 0, .int (nI j), .ref 527] sgX6_clears_77_f1033d rfl ?_
        refine sv_zast hF 27 (by decide) ⟨rfl, rfl, by decide⟩ j rfl (show j < 80 by omega) rfl dX6_clears_79 ?_
        refine am_go hF sgX6_clears_80_78e74 82 [(3, .int 1), (0, .ref 465), (1, .int (nI c)), (2, .int (nI j))] [.int (nI j), .ref 465] sgX6_clears_80_78e74d rfl ?_
        obtain ⟨lk, dk, hsf⟩ := rAll_safe (rAll_st ha1 (f := 27) (by decide) j 0) (show j < m by omega)
        have elk : (S1 19 j).toNatClampNeg = lk := (congrArg Int32.toNatClampNeg (show S1 19 j = nI lk from hsf.2.2.2.2.1)).trans (nI_clamp (by have := hsf.2.1; have := hsf.2.2.1; omega))
        refine am_dV hF hO [.int (nI j)] [] (c_passes (S := (st1 S1 27 j 0)) hsf) myX6_passes vyX6_passes lm_RX6_171 (hp_m _ _ _) rfl rfl 0 0 ⟨Nat.le_of_ble_eq_true rfl, Nat.le_of_ble_eq_true rfl⟩ ⟨Nat.le_of_ble_eq_true rfl, Nat.le_of_ble_eq_true rfl, Nat.le_of_ble_eq_true rfl, Nat.le_of_ble_eq_true rfl⟩ rfl (am_lv_int (am_lv_ref (hp_m _ _ _) (am_lv_int (am_lv_int am_lv_nil)))) (Nat.le_of_ble_eq_true rfl) dX6_clears_82 [] rfl ?_
        refine am_go hF sgX6_clears_85_7f4eb 15 [(2, .int ((nI j) + 1)), (3, .int 1), (0, .ref 465), (1, .int (nI c))] [] sgX6_clears_85_7f4ebd rfl ?_
        refine am_drop [2, 3, 0] [(0, .ref 465), (1, .int (nI c)), (2, .int ((nI j) + 1))] rfl ?_
        refine am_eqL [(0, .ref 465), (1, .int (nI c)), (2, .int (nI (j + 1)))] (by rw [nI_1]) ?_
        exact ih15 (j + 1) (rPass (st1 S1 27 j 0) n j lk) (by omega) (by show _ = rcl n c j (itN (rcl n c) (st1 S 4 sp (-10)) j); rw [← hS1]; simp only [rcl, (eq_true c3), not_false_eq_true, not_true_eq_false, and_self, and_true, true_and, and_false, false_and, true_or, or_true, or_false, false_or, or_self, elk, ↓reduceIte])
      · skip
        refine am_go hF sgX6_clears_28_34db8 29 [(0, .ref 465), (1, .int (nI c)), (2, .int (nI j))] [.ref 465] sgX6_clears_28_34db8d rfl ?_
        refine sv_get hF 18 (by decide) rfl lf_RX6_50 (.ref 518) rfl dX6_clears_29 ?_
        refine am_go hF sgX6_clears_32_f8a59 33 [(0, .ref 465), (1, .int (nI c)), (2, .int (nI j))] [.int (nI j), .ref 518] sgX6_clears_32_f8a59d rfl ?_
        refine sv_iald hF 18 (by decide) ⟨rfl, rfl, by decide⟩ j rfl (show j < 80 by omega) dX6_clears_33 ?_
        refine am_go hF sgX6_clears_34_34db8 35 [(0, .ref 465), (1, .int (nI c)), (2, .int (nI j))] [.ref 465, .int (S1 18 j)] sgX6_clears_34_34db8d rfl ?_
        refine sv_get hF 18 (by decide) rfl lf_RX6_50 (.ref 518) rfl dX6_clears_35 ?_
        refine am_go hF sgX6_clears_38_840bf 39 [(0, .ref 465), (1, .int (nI c)), (2, .int (nI j))] [.int (nI c), .ref 518, .int (S1 18 j)] sgX6_clears_38_840bfd rfl ?_
        refine sv_iald hF 18 (by decide) ⟨rfl, rfl, by decide⟩ c rfl (show c < 80 by omega) dX6_clears_39 ?_
        refine am_icmpne hF 67 dX6_clears_40 (by decide) (fun c5 => ?_) (fun c5 => ?_)
        · skip
          refine am_go hF sgX6_clears_67_00398 70 [(3, .int 0), (0, .ref 465), (1, .int (nI c)), (2, .int (nI j))] [.int 0] sgX6_clears_67_00398d rfl ?_
          refine am_ifeq hF 85 dX6_clears_70 (by decide) (fun _ => ?_) (fun h9 => False.elim ((by revert h9; decide)))
          refine am_go hF sgX6_clears_85_7f4eb 15 [(2, .int ((nI j) + 1)), (3, .int 0), (0, .ref 465), (1, .int (nI c))] [] sgX6_clears_85_7f4ebd rfl ?_
          refine am_drop [2, 3, 0] [(0, .ref 465), (1, .int (nI c)), (2, .int ((nI j) + 1))] rfl ?_
          refine am_eqL [(0, .ref 465), (1, .int (nI c)), (2, .int (nI (j + 1)))] (by rw [nI_1]) ?_
          exact ih15 (j + 1) S1 (by omega) (by show _ = rcl n c j (itN (rcl n c) (st1 S 4 sp (-10)) j); rw [← hS1]; simp only [rcl, c3, c5, not_false_eq_true, not_true_eq_false, and_self, and_true, true_and, and_false, false_and, true_or, or_true, or_false, false_or, or_self, ↓reduceIte])
        · skip
          refine am_go hF sgX6_clears_43_34db8 44 [(0, .ref 465), (1, .int (nI c)), (2, .int (nI j))] [.ref 465] sgX6_clears_43_34db8d rfl ?_
          refine sv_get hF 24 (by decide) rfl lf_RX6_68 (.ref 524) rfl dX6_clears_44 ?_
          refine am_go hF sgX6_clears_47_f8a59 48 [(0, .ref 465), (1, .int (nI c)), (2, .int (nI j))] [.int (nI j), .ref 524] sgX6_clears_47_f8a59d rfl ?_
          refine sv_iald hF 24 (by decide) ⟨rfl, rfl, by decide⟩ j rfl (show j < 80 by omega) dX6_clears_48 ?_
          refine am_go hF sgX6_clears_49_4de0a 50 [(0, .ref 465), (1, .int (nI c)), (2, .int (nI j))] [.int 1, .int (S1 24 j)] sgX6_clears_49_4de0ad rfl ?_
          refine am_icmpne hF 67 dX6_clears_50 (by decide) (fun c7 => ?_) (fun c7 => ?_)
          · skip
            refine am_go hF sgX6_clears_67_00398 70 [(3, .int 0), (0, .ref 465), (1, .int (nI c)), (2, .int (nI j))] [.int 0] sgX6_clears_67_00398d rfl ?_
            refine am_ifeq hF 85 dX6_clears_70 (by decide) (fun _ => ?_) (fun h9 => False.elim ((by revert h9; decide)))
            refine am_go hF sgX6_clears_85_7f4eb 15 [(2, .int ((nI j) + 1)), (3, .int 0), (0, .ref 465), (1, .int (nI c))] [] sgX6_clears_85_7f4ebd rfl ?_
            refine am_drop [2, 3, 0] [(0, .ref 465), (1, .int (nI c)), (2, .int ((nI j) + 1))] rfl ?_
            refine am_eqL [(0, .ref 465), (1, .int (nI c)), (2, .int (nI (j + 1)))] (by rw [nI_1]) ?_
            exact ih15 (j + 1) S1 (by omega) (by show _ = rcl n c j (itN (rcl n c) (st1 S 4 sp (-10)) j); rw [← hS1]; simp only [rcl, c3, (eq_true c5), c7, not_false_eq_true, not_true_eq_false, and_self, and_true, true_and, and_false, false_and, true_or, or_true, or_false, false_or, or_self, ↓reduceIte])
          · skip
            refine am_go hF sgX6_clears_53_34db8 54 [(0, .ref 465), (1, .int (nI c)), (2, .int (nI j))] [.ref 465] sgX6_clears_53_34db8d rfl ?_
            refine sv_get hF 23 (by decide) rfl lf_RX6_65 (.ref 523) rfl dX6_clears_54 ?_
            refine am_go hF sgX6_clears_57_f8a59 58 [(0, .ref 465), (1, .int (nI c)), (2, .int (nI j))] [.int (nI j), .ref 523] sgX6_clears_57_f8a59d rfl ?_
            refine sv_iald hF 23 (by decide) ⟨rfl, rfl, by decide⟩ j rfl (show j < 80 by omega) dX6_clears_58 ?_
            refine am_go hF sgX6_clears_59_d5620 60 [(0, .ref 465), (1, .int (nI c)), (2, .int (nI j))] [.int 2, .int (S1 23 j)] sgX6_clears_59_d5620d rfl ?_
            refine am_icmpne hF 67 dX6_clears_60 (by decide) (fun c9 => ?_) (fun c9 => ?_)
            · skip
              refine am_go hF sgX6_clears_67_00398 70 [(3, .int 0), (0, .ref 465), (1, .int (nI c)), (2, .int (nI j))] [.int 0] sgX6_clears_67_00398d rfl ?_
              refine am_ifeq hF 85 dX6_clears_70 (by decide) (fun _ => ?_) (fun h9 => False.elim ((by revert h9; decide)))
              refine am_go hF sgX6_clears_85_7f4eb 15 [(2, .int ((nI j) + 1)), (3, .int 0), (0, .ref 465), (1, .int (nI c))] [] sgX6_clears_85_7f4ebd rfl ?_
              refine am_drop [2, 3, 0] [(0, .ref 465), (1, .int (nI c)), (2, .int ((nI j) + 1))] rfl ?_
              refine am_eqL [(0, .ref 465), (1, .int (nI c)), (2, .int (nI (j + 1)))] (by rw [nI_1]) ?_
              exact ih15 (j + 1) S1 (by omega) (by show _ = rcl n c j (itN (rcl n c) (st1 S 4 sp (-10)) j); rw [← hS1]; simp only [rcl, c3, (eq_true c5), (eq_true c7), c9, not_false_eq_true, not_true_eq_false, and_self, and_true, true_and, and_false, false_and, true_or, or_true, or_false, false_or, or_self, ↓reduceIte])
            · skip
              refine am_go hF sgX6_clears_63_fddb3 70 [(3, .int 1), (0, .ref 465), (1, .int (nI c)), (2, .int (nI j))] [.int 1] sgX6_clears_63_fddb3d rfl ?_
              refine am_ifeq hF 85 dX6_clears_70 (by decide) (fun h9 => False.elim ((by revert h9; decide))) (fun _ => ?_)
              refine am_go hF sgX6_clears_73_34db8 74 [(3, .int 1), (0, .ref 465), (1, .int (nI c)), (2, .int (nI j))] [.ref 465] sgX6_clears_73_34db8d rfl ?_
              refine sv_get hF 27 (by decide) rfl lf_RX6_77 (.ref 527) rfl dX6_clears_74 ?_
              refine am_go hF sgX6_clears_77_f1033 79 [(3, .int 1), (0, .ref 465), (1, .int (nI c)), (2, .int (nI j))] [.int 0, .int (nI j), .ref 527] sgX6_clears_77_f1033d rfl ?_
              refine sv_zast hF 27 (by decide) ⟨rfl, rfl, by decide⟩ j rfl (show j < 80 by omega) rfl dX6_clears_79 ?_
              refine am_go hF sgX6_clears_80_78e74 82 [(3, .int 1), (0, .ref 465), (1, .int (nI c)), (2, .int (nI j))] [.int (nI j), .ref 465] sgX6_clears_80_78e74d rfl ?_
              obtain ⟨lk, dk, hsf⟩ := rAll_safe (rAll_st ha1 (f := 27) (by decide) j 0) (show j < m by omega)
              have elk : (S1 19 j).toNatClampNeg = lk := (congrArg Int32.toNatClampNeg (show S1 19 j = nI lk from hsf.2.2.2.2.1)).trans (nI_clamp (by have := hsf.2.1; have := hsf.2.2.1; omega))
              refine am_dV hF hO [.int (nI j)] [] (c_passes (S := (st1 S1 27 j 0)) hsf) myX6_passes vyX6_passes lm_RX6_171 (hp_m _ _ _) rfl rfl 0 0 ⟨Nat.le_of_ble_eq_true rfl, Nat.le_of_ble_eq_true rfl⟩ ⟨Nat.le_of_ble_eq_true rfl, Nat.le_of_ble_eq_true rfl, Nat.le_of_ble_eq_true rfl, Nat.le_of_ble_eq_true rfl⟩ rfl (am_lv_int (am_lv_ref (hp_m _ _ _) (am_lv_int (am_lv_int am_lv_nil)))) (Nat.le_of_ble_eq_true rfl) dX6_clears_82 [] rfl ?_
              refine am_go hF sgX6_clears_85_7f4eb 15 [(2, .int ((nI j) + 1)), (3, .int 1), (0, .ref 465), (1, .int (nI c))] [] sgX6_clears_85_7f4ebd rfl ?_
              refine am_drop [2, 3, 0] [(0, .ref 465), (1, .int (nI c)), (2, .int ((nI j) + 1))] rfl ?_
              refine am_eqL [(0, .ref 465), (1, .int (nI c)), (2, .int (nI (j + 1)))] (by rw [nI_1]) ?_
              exact ih15 (j + 1) (rPass (st1 S1 27 j 0) n j lk) (by omega) (by show _ = rcl n c j (itN (rcl n c) (st1 S 4 sp (-10)) j); rw [← hS1]; simp only [rcl, c3, (eq_true c5), (eq_true c7), (eq_true c9), not_false_eq_true, not_true_eq_false, and_self, and_true, true_and, and_false, false_and, true_or, or_true, or_false, false_or, or_self, elk, ↓reduceIte])
  exact lp15 m 0 (st1 S 4 sp (-10)) (by omega) rfl
set_option maxRecDepth 100000 in
set_option maxHeartbeats 4000000 in
theorem c_nextDay {G : am_S} {T S : am_T} {o : Nat → Int64} {n : Nat} (hn : S 9 0 = nI n) (hn10 : n ≤ 10) {m : Nat} (hm : S 17 0 = nI m) (hm80 : m ≤ 80) {t : Nat} (ht : S 1 0 = nI t) (ht4 : t < 400) : am_D G yX6_nextDay (.code yX6_nextDay cX6_nextDay 3 (some .int) :: am_G) { frames := 0, cells := 0, slots := 0, locals := 0 } (hp T S o) [.ref 465] (hp T (rNext S n m t).1 o) (some (.int (rNext S n m t).2)) := by
  refine am_of (by decide +kernel) (Nat.le_of_ble_eq_true rfl) ?_
  intro C hse hret hname hF hO
  subst hse
  refine am_go hF sgX6_nextDay_0_67c14 2 [(1, .int 0), (0, .ref 465)] [] sgX6_nextDay_0_67c14d rfl ?_
  refine am_drop [1, 0] [(0, .ref 465), (1, .int 0)] rfl ?_
  have lp2 : ∀ (zz j : Nat) (S1 : am_T), j + zz = n → S1 = itN (rn1 t) S j → am_W C (hp T S1 o) 0 0 2 [(0, .ref 465), (1, .int (nI j))] [] := by
    intro zz
    induction zz with
    | zero =>
      intro j S1 hj hS1
      have e9j : j = n := by omega
      have hn1 : S1 9 0 = nI n := by rw [hS1]; exact (congrFun (itN_f (F := rn1 t) 9 (fun k S => st1_f (show 9 ≠ 33 by decide)) _ j) 0).trans hn
      have ht1 : S1 1 0 = nI t := by rw [hS1]; exact (congrFun (itN_f (F := rn1 t) 1 (fun k S => st1_f (show 1 ≠ 33 by decide)) _ j) 0).trans ht
      have hm1 : S1 17 0 = nI m := by rw [hS1]; exact (congrFun (itN_f (F := rn1 t) 17 (fun k S => st1_f (show 17 ≠ 33 by decide)) _ j) 0).trans hm
      refine am_go hF sgX6_nextDay_2_45dfc 4 [(0, .ref 465), (1, .int (nI j))] [.ref 465, .int (nI j)] sgX6_nextDay_2_45dfcd rfl ?_
      refine sv_get hF 9 (by decide) rfl lf_RX6_112 (.int (S1 9 0)) rfl dX6_nextDay_4 ?_
      refine am_top (nI n) hn1 ?_
      refine am_icmpge hF 47 dX6_nextDay_7 (by decide) (fun _ => ?_) (fun h9 => False.elim (absurd (nc_ge (show n ≤ j by omega) (by omega) (by omega) rfl rfl) h9))
      refine am_go hF sgX6_nextDay_47_da752 49 [(0, .ref 465), (1, .int (nI j))] [.ref 465, .ref 465] sgX6_nextDay_47_da752d rfl ?_
      refine sv_get hF 1 (by decide) rfl lf_RX6_147 (.int (S1 1 0)) rfl dX6_nextDay_49 ?_
      refine am_top (nI t) ht1 ?_
      refine am_go hF sgX6_nextDay_52_c7176 54 [(0, .ref 465), (1, .int (nI j))] [.int ((nI t) + 1), .ref 465] sgX6_nextDay_52_c7176d rfl ?_
      refine sv_put hF 1 (by decide) rfl rfl rfl lf_RX6_147 dX6_nextDay_54 ?_
      refine am_go hF sgX6_nextDay_57_1ac35 61 [(2, .int 0), (1, .int 0), (0, .ref 465)] [] sgX6_nextDay_57_1ac35d rfl ?_
      refine am_drop [2, 1, 0] [(0, .ref 465), (1, .int 0), (2, .int 0)] rfl ?_
      have lp61 : ∀ (di i : Nat) (a : Int32) (S2 : am_T), i + di = m → a = (itN rn2 (rNext0 S n t, 0) i).2 → S2 = (itN rn2 (rNext0 S n t, 0) i).1 → am_W C (hp T S2 o) 0 0 61 [(0, .ref 465), (1, .int a), (2, .int (nI i))] [] := by
        intro di
        induction di with
        | zero =>
          intro i a S2 hi ha hS2
          have e9i : i = m := by omega
          have hm2 : S2 17 0 = nI m := by rw [hS2, rn2_f 17 (by decide)]; exact (congrFun (itN_f (F := rn1 t) 17 (fun k S => st1_f (show 17 ≠ 33 by decide)) _ n) 0).trans hm
          refine am_go hF sgX6_nextDay_61_14491 63 [(0, .ref 465), (1, .int a), (2, .int (nI i))] [.ref 465, .int (nI i)] sgX6_nextDay_61_14491d rfl ?_
          refine sv_get hF 17 (by decide) rfl lf_RX6_115 (.int (S2 17 0)) rfl dX6_nextDay_63 ?_
          refine am_top (nI m) hm2 ?_
          refine am_icmpge hF 117 dX6_nextDay_66 (by decide) (fun _ => ?_) (fun h9 => False.elim (absurd (nc_ge (show m ≤ i by omega) (by omega) (by omega) rfl rfl) h9))
          refine am_go hF sgX6_nextDay_117_840bf 118 [(0, .ref 465), (1, .int a), (2, .int (nI i))] [.int a] sgX6_nextDay_117_840bfd rfl ?_
          exact am_iret hF hO hret rfl dX6_nextDay_118 ⟨by rw [hS2, e9i]; rfl, by rw [ha, e9i]; rfl⟩
        | succ di ih61 =>
          intro i a S2 hi ha hS2
          have l9i : i < m := by omega
          have hm2 : S2 17 0 = nI m := by rw [hS2, rn2_f 17 (by decide)]; exact (congrFun (itN_f (F := rn1 t) 17 (fun k S => st1_f (show 17 ≠ 33 by decide)) _ n) 0).trans hm
          refine am_go hF sgX6_nextDay_61_14491 63 [(0, .ref 465), (1, .int a), (2, .int (nI i))] [.ref 465, .int (nI i)] sgX6_nextDay_61_14491d rfl ?_
          refine sv_get hF 17 (by decide) rfl lf_RX6_115 (.int (S2 17 0)) rfl dX6_nextDay_63 ?_
          refine am_top (nI m) hm2 ?_
          refine am_icmpge hF 117 dX6_nextDay_66 (by decide) (fun h9 => False.elim (nc_lt_f (show i < m by omega) (by omega) (by omega) rfl rfl h9)) (fun _ => ?_)
          refine am_go hF sgX6_nextDay_69_34db8 70 [(0, .ref 465), (1, .int a), (2, .int (nI i))] [.ref 465] sgX6_nextDay_69_34db8d rfl ?_
          refine sv_get hF 24 (by decide) rfl lf_RX6_68 (.ref 524) rfl dX6_nextDay_70 ?_
          refine am_go hF sgX6_nextDay_73_f8a59 74 [(0, .ref 465), (1, .int a), (2, .int (nI i))] [.int (nI i), .ref 524] sgX6_nextDay_73_f8a59d rfl ?_
          refine sv_iald hF 24 (by decide) ⟨rfl, rfl, by decide⟩ i rfl (show i < 80 by omega) dX6_nextDay_74 ?_
          refine am_go hF sgX6_nextDay_75_4de0a 76 [(0, .ref 465), (1, .int a), (2, .int (nI i))] [.int 1, .int (S2 24 i)] sgX6_nextDay_75_4de0ad rfl ?_
          refine am_icmpne hF 111 dX6_nextDay_76 (by decide) (fun c4 => ?_) (fun c4 => ?_)
          · skip
            refine am_go hF sgX6_nextDay_111_ee2ba 61 [(2, .int ((nI i) + 1)), (0, .ref 465), (1, .int a)] [] sgX6_nextDay_111_ee2bad rfl ?_
            have hz9 := rn2_0 hS2 ha (fun h => absurd h.1 c4)
            refine am_drop [1, 2, 0] [(0, .ref 465), (1, .int a), (2, .int ((nI i) + 1))] rfl ?_
            refine am_eqL [(0, .ref 465), (1, .int a), (2, .int (nI (i + 1)))] (by rw [nI_1]) ?_
            exact ih61 (i + 1) a S2 (by omega) hz9.2 hz9.1
          · skip
            refine am_go hF sgX6_nextDay_79_34db8 80 [(0, .ref 465), (1, .int a), (2, .int (nI i))] [.ref 465] sgX6_nextDay_79_34db8d rfl ?_
            refine sv_get hF 21 (by decide) rfl lf_RX6_59 (.ref 521) rfl dX6_nextDay_80 ?_
            refine am_go hF sgX6_nextDay_83_f8a59 84 [(0, .ref 465), (1, .int a), (2, .int (nI i))] [.int (nI i), .ref 521] sgX6_nextDay_83_f8a59d rfl ?_
            refine sv_iald hF 21 (by decide) ⟨rfl, rfl, by decide⟩ i rfl (show i < 80 by omega) dX6_nextDay_84 ?_
            refine am_go hF sgX6_nextDay_85_34db8 86 [(0, .ref 465), (1, .int a), (2, .int (nI i))] [.ref 465, .int (S2 21 i)] sgX6_nextDay_85_34db8d rfl ?_
            refine sv_get hF 1 (by decide) rfl lf_RX6_147 (.int (S2 1 0)) rfl dX6_nextDay_86 ?_
            refine am_icmpne hF 111 dX6_nextDay_89 (by decide) (fun c5 => ?_) (fun c5 => ?_)
            · skip
              refine am_go hF sgX6_nextDay_111_ee2ba 61 [(2, .int ((nI i) + 1)), (0, .ref 465), (1, .int a)] [] sgX6_nextDay_111_ee2bad rfl ?_
              have hz9 := rn2_0 hS2 ha (fun h => absurd h.2.1 c5)
              refine am_drop [1, 2, 0] [(0, .ref 465), (1, .int a), (2, .int ((nI i) + 1))] rfl ?_
              refine am_eqL [(0, .ref 465), (1, .int a), (2, .int (nI (i + 1)))] (by rw [nI_1]) ?_
              exact ih61 (i + 1) a S2 (by omega) hz9.2 hz9.1
            · skip
              refine am_go hF sgX6_nextDay_92_34db8 93 [(0, .ref 465), (1, .int a), (2, .int (nI i))] [.ref 465] sgX6_nextDay_92_34db8d rfl ?_
              refine sv_get hF 27 (by decide) rfl lf_RX6_77 (.ref 527) rfl dX6_nextDay_93 ?_
              refine am_go hF sgX6_nextDay_96_f8a59 97 [(0, .ref 465), (1, .int a), (2, .int (nI i))] [.int (nI i), .ref 527] sgX6_nextDay_96_f8a59d rfl ?_
              refine sv_zald hF 27 (by decide) ⟨rfl, rfl, by decide⟩ i rfl (show i < 80 by omega) dX6_nextDay_97 ?_
              refine am_ifne hF 111 dX6_nextDay_98 (by decide) (fun c6 => ?_) (fun c6 => ?_)
              · skip
                refine am_go hF sgX6_nextDay_111_ee2ba 61 [(2, .int ((nI i) + 1)), (0, .ref 465), (1, .int a)] [] sgX6_nextDay_111_ee2bad rfl ?_
                have hz9 := rn2_0 hS2 ha (fun h => absurd h.2.2 c6)
                refine am_drop [1, 2, 0] [(0, .ref 465), (1, .int a), (2, .int ((nI i) + 1))] rfl ?_
                refine am_eqL [(0, .ref 465), (1, .int a), (2, .int (nI (i + 1)))] (by rw [nI_1]) ?_
                exact ih61 (i + 1) a S2 (by omega) hz9.2 hz9.1
              · skip
                refine am_go hF sgX6_nextDay_101_34db8 102 [(0, .ref 465), (1, .int a), (2, .int (nI i))] [.ref 465] sgX6_nextDay_101_34db8d rfl ?_
                refine sv_get hF 24 (by decide) rfl lf_RX6_68 (.ref 524) rfl dX6_nextDay_102 ?_
                refine am_go hF sgX6_nextDay_105_a8367 107 [(0, .ref 465), (1, .int a), (2, .int (nI i))] [.int 2, .int (nI i), .ref 524] sgX6_nextDay_105_a8367d rfl ?_
                refine sv_iast hF 24 (by decide) ⟨rfl, rfl, by decide⟩ i rfl (show i < 80 by omega) dX6_nextDay_107 ?_
                refine am_go hF sgX6_nextDay_108_77301 61 [(2, .int ((nI i) + 1)), (1, .int (a + 1)), (0, .ref 465)] [] sgX6_nextDay_108_77301d rfl ?_
                have hz9 := rn2_1 hS2 ha ⟨c4, c5, c6⟩
                refine am_drop [2, 1, 0] [(0, .ref 465), (1, .int (a + 1)), (2, .int ((nI i) + 1))] rfl ?_
                refine am_eqL [(0, .ref 465), (1, .int (a + 1)), (2, .int (nI (i + 1)))] (by rw [nI_1]) ?_
                exact ih61 (i + 1) (a + 1) (st1 S2 24 i 2) (by omega) hz9.2 hz9.1
      exact lp61 m 0 0 (st1 S1 1 0 ((nI t) + 1)) (by omega) rfl (by rw [hS1, e9j]; rfl)
    | succ zz ih2 =>
      intro j S1 hj hS1
      have l9j : j < n := by omega
      have hn1 : S1 9 0 = nI n := by rw [hS1]; exact (congrFun (itN_f (F := rn1 t) 9 (fun k S => st1_f (show 9 ≠ 33 by decide)) _ j) 0).trans hn
      have ht1 : S1 1 0 = nI t := by rw [hS1]; exact (congrFun (itN_f (F := rn1 t) 1 (fun k S => st1_f (show 1 ≠ 33 by decide)) _ j) 0).trans ht
      have hm1 : S1 17 0 = nI m := by rw [hS1]; exact (congrFun (itN_f (F := rn1 t) 17 (fun k S => st1_f (show 17 ≠ 33 by decide)) _ j) 0).trans hm
      refine am_go hF sgX6_nextDay_2_45dfc 4 [(0, .ref 465), (1, .int (nI j))] [.ref 465, .int (nI j)] sgX6_nextDay_2_45dfcd rfl ?_
      refine sv_get hF 9 (by decide) rfl lf_RX6_112 (.int (S1 9 0)) rfl dX6_nextDay_4 ?_
      refine am_top (nI n) hn1 ?_
      refine am_icmpge hF 47 dX6_nextDay_7 (by decide) (fun h9 => False.elim (nc_lt_f (show j < n by omega) (by omega) (by omega) rfl rfl h9)) (fun _ => ?_)
      refine am_go hF sgX6_nextDay_10_7ab88 16 [(0, .ref 465), (1, .int (nI j))] [.ref 465, .int (401 * (nI j))] sgX6_nextDay_10_7ab88d rfl ?_
      refine sv_get hF 1 (by decide) rfl lf_RX6_147 (.int (S1 1 0)) rfl dX6_nextDay_16 ?_
      refine am_top (nI t) ht1 ?_
      refine am_go hF sgX6_nextDay_19_57247 22 [(2, .int ((401 * (nI j)) + (nI t))), (0, .ref 465), (1, .int (nI j))] [.ref 465] sgX6_nextDay_19_57247d rfl ?_
      refine sv_get hF 33 (by decide) rfl lf_RX6_95 (.ref 533) rfl dX6_nextDay_22 ?_
      refine am_go hF sgX6_nextDay_25_14491 27 [(2, .int ((401 * (nI j)) + (nI t))), (0, .ref 465), (1, .int (nI j))] [.ref 465, .int ((401 * (nI j)) + (nI t)), .ref 533] sgX6_nextDay_25_14491d rfl ?_
      refine sv_get hF 32 (by decide) rfl lf_RX6_92 (.ref 532) rfl dX6_nextDay_27 ?_
      refine am_go hF sgX6_nextDay_30_f8a59 31 [(2, .int ((401 * (nI j)) + (nI t))), (0, .ref 465), (1, .int (nI j))] [.int ((401 * (nI j)) + (nI t)), .ref 532, .int ((401 * (nI j)) + (nI t)), .ref 533] sgX6_nextDay_30_f8a59d rfl ?_
      refine sv_zald hF 32 (by decide) ⟨rfl, rfl, by decide⟩ ((401 * j) + t) (am_ad (am_mu rfl rfl) rfl) (show (401 * j) + t < 4010 by omega) dX6_nextDay_31 ?_
      refine am_ifeq hF 39 dX6_nextDay_32 (by decide) (fun c8 => ?_) (fun c8 => ?_)
      · skip
        refine am_go hF sgX6_nextDay_39_56c54 40 [(2, .int ((401 * (nI j)) + (nI t))), (0, .ref 465), (1, .int (nI j))] [.int 0, .int ((401 * (nI j)) + (nI t)), .ref 533] sgX6_nextDay_39_56c54d rfl ?_
        refine sv_iast hF 33 (by decide) ⟨rfl, rfl, by decide⟩ ((401 * j) + t) (am_ad (am_mu rfl rfl) rfl) (show (401 * j) + t < 4010 by omega) dX6_nextDay_40 ?_
        refine am_go hF sgX6_nextDay_41_3abcf 2 [(1, .int ((nI j) + 1)), (2, .int ((401 * (nI j)) + (nI t))), (0, .ref 465)] [] sgX6_nextDay_41_3abcfd rfl ?_
        refine am_drop [2, 0] [(0, .ref 465), (1, .int ((nI j) + 1))] rfl ?_
        refine am_eqL [(0, .ref 465), (1, .int (nI (j + 1)))] (by rw [nI_1]) ?_
        exact ih2 (j + 1) (st1 S1 33 ((401 * j) + t) 0) (by omega) (by show _ = rn1 t j (itN (rn1 t) S j); rw [← hS1]; simp only [rn1, (eq_true c8), ↓reduceIte])
      · skip
        refine am_go hF sgX6_nextDay_35_1c64c 40 [(2, .int ((401 * (nI j)) + (nI t))), (0, .ref 465), (1, .int (nI j))] [.int 1, .int ((401 * (nI j)) + (nI t)), .ref 533] sgX6_nextDay_35_1c64cd rfl ?_
        refine sv_iast hF 33 (by decide) ⟨rfl, rfl, by decide⟩ ((401 * j) + t) (am_ad (am_mu rfl rfl) rfl) (show (401 * j) + t < 4010 by omega) dX6_nextDay_40 ?_
        refine am_go hF sgX6_nextDay_41_3abcf 2 [(1, .int ((nI j) + 1)), (2, .int ((401 * (nI j)) + (nI t))), (0, .ref 465)] [] sgX6_nextDay_41_3abcfd rfl ?_
        refine am_drop [2, 0] [(0, .ref 465), (1, .int ((nI j) + 1))] rfl ?_
        refine am_eqL [(0, .ref 465), (1, .int (nI (j + 1)))] (by rw [nI_1]) ?_
        exact ih2 (j + 1) (st1 S1 33 ((401 * j) + t) 1) (by omega) (by show _ = rn1 t j (itN (rn1 t) S j); rw [← hS1]; simp only [rn1, c8, ↓reduceIte])
  exact lp2 n 0 S (by omega) rfl
end
section
def sgX6_held_0_8bcf7 : List Instr := [.aload_n 0, .iload_n 1]
theorem sgX6_held_0_8bcf7d : am_dec cX6_held 0 sgX6_held_0_8bcf7 = true := by decide +kernel
theorem dX6_held_2 : decode cX6_held 2 = .ok (.invokevirtual 161, 3) := by decide +kernel
theorem dX6_held_5 : decode cX6_held 5 = .ok (.ifCond .ne 5, 3) := by decide +kernel
def sgX6_held_8_4de0a : List Instr := [.iconst 1]
theorem sgX6_held_8_4de0ad : am_dec cX6_held 8 sgX6_held_8_4de0a = true := by decide +kernel
theorem dX6_held_9 : decode cX6_held 9 = .ok (.ireturn, 1) := by decide +kernel
def sgX6_held_10_34db8 : List Instr := [.aload_n 0]
theorem sgX6_held_10_34db8d : am_dec cX6_held 10 sgX6_held_10_34db8 = true := by decide +kernel
theorem dX6_held_11 : decode cX6_held 11 = .ok (.getfield 68, 3) := by decide +kernel
def sgX6_held_14_840bf : List Instr := [.iload_n 1]
theorem sgX6_held_14_840bfd : am_dec cX6_held 14 sgX6_held_14_840bf = true := by decide +kernel
theorem dX6_held_15 : decode cX6_held 15 = .ok (.iaload, 1) := by decide +kernel
def sgX6_held_16_4de0a : List Instr := [.iconst 1]
theorem sgX6_held_16_4de0ad : am_dec cX6_held 16 sgX6_held_16_4de0a = true := by decide +kernel
theorem dX6_held_17 : decode cX6_held 17 = .ok (.if_icmp .ne 12, 3) := by decide +kernel
def sgX6_held_29_abe91 : List Instr := [.iconst 2, .goto 4]
theorem sgX6_held_29_abe91d : am_dec cX6_held 29 sgX6_held_29_abe91 = true := by decide +kernel
theorem dX6_held_34 : decode cX6_held 34 = .ok (.ireturn, 1) := by decide +kernel
def sgX6_held_20_34db8 : List Instr := [.aload_n 0]
theorem sgX6_held_20_34db8d : am_dec cX6_held 20 sgX6_held_20_34db8 = true := by decide +kernel
theorem dX6_held_21 : decode cX6_held 21 = .ok (.getfield 77, 3) := by decide +kernel
def sgX6_held_24_840bf : List Instr := [.iload_n 1]
theorem sgX6_held_24_840bfd : am_dec cX6_held 24 sgX6_held_24_840bf = true := by decide +kernel
theorem dX6_held_25 : decode cX6_held 25 = .ok (.baload, 1) := by decide +kernel
theorem dX6_held_26 : decode cX6_held 26 = .ok (.ifCond .eq 7, 3) := by decide +kernel
def sgX6_held_33_56c54 : List Instr := [.iconst 0]
theorem sgX6_held_33_56c54d : am_dec cX6_held 33 sgX6_held_33_56c54 = true := by decide +kernel
def sgX6_asks_0_6b3ba : List Instr := [.aload_n 0, .aload_n 0, .iload_n 1]
theorem sgX6_asks_0_6b3bad : am_dec cX6_asks 0 sgX6_asks_0_6b3ba = true := by decide +kernel
theorem dX6_asks_3 : decode cX6_asks 3 = .ok (.invokevirtual 161, 3) := by decide +kernel
theorem dX6_asks_6 : decode cX6_asks 6 = .ok (.ifCond .eq 7, 3) := by decide +kernel
def sgX6_asks_13_4de0a : List Instr := [.iconst 1]
theorem sgX6_asks_13_4de0ad : am_dec cX6_asks 13 sgX6_asks_13_4de0a = true := by decide +kernel
theorem dX6_asks_14 : decode cX6_asks 14 = .ok (.putfield 104, 3) := by decide +kernel
def sgX6_asks_17_34db8 : List Instr := [.aload_n 0]
theorem sgX6_asks_17_34db8d : am_dec cX6_asks 17 sgX6_asks_17_34db8 = true := by decide +kernel
theorem dX6_asks_18 : decode cX6_asks 18 = .ok (.getfield 104, 3) := by decide +kernel
theorem dX6_asks_21 : decode cX6_asks 21 = .ok (.ifCond .ne 7, 3) := by decide +kernel
def sgX6_asks_28_56c54 : List Instr := [.iconst 0]
theorem sgX6_asks_28_56c54d : am_dec cX6_asks 28 sgX6_asks_28_56c54 = true := by decide +kernel
theorem dX6_asks_29 : decode cX6_asks 29 = .ok (.ireturn, 1) := by decide +kernel
def sgX6_asks_9_1cbe9 : List Instr := [.iconst 0, .goto 4]
theorem sgX6_asks_9_1cbe9d : am_dec cX6_asks 9 sgX6_asks_9_1cbe9 = true := by decide +kernel
def sgX6_asks_24_1c64c : List Instr := [.iconst 1, .goto 4]
theorem sgX6_asks_24_1c64cd : am_dec cX6_asks 24 sgX6_asks_24_1c64c = true := by decide +kernel
def sgX6_asksPerson_0_8bcf7 : List Instr := [.aload_n 0, .iload_n 1]
theorem sgX6_asksPerson_0_8bcf7d : am_dec cX6_asksPerson 0 sgX6_asksPerson_0_8bcf7 = true := by decide +kernel
theorem dX6_asksPerson_2 : decode cX6_asksPerson 2 = .ok (.invokestatic 118, 3) := by decide +kernel
theorem dX6_asksPerson_5 : decode cX6_asksPerson 5 = .ok (.ifCond .eq 7, 3) := by decide +kernel
def sgX6_asksPerson_12_4de0a : List Instr := [.iconst 1]
theorem sgX6_asksPerson_12_4de0ad : am_dec cX6_asksPerson 12 sgX6_asksPerson_12_4de0a = true := by decide +kernel
theorem dX6_asksPerson_13 : decode cX6_asksPerson 13 = .ok (.putfield 104, 3) := by decide +kernel
def sgX6_asksPerson_16_34db8 : List Instr := [.aload_n 0]
theorem sgX6_asksPerson_16_34db8d : am_dec cX6_asksPerson 16 sgX6_asksPerson_16_34db8 = true := by decide +kernel
theorem dX6_asksPerson_17 : decode cX6_asksPerson 17 = .ok (.getfield 104, 3) := by decide +kernel
theorem dX6_asksPerson_20 : decode cX6_asksPerson 20 = .ok (.ifCond .ne 7, 3) := by decide +kernel
def sgX6_asksPerson_27_56c54 : List Instr := [.iconst 0]
theorem sgX6_asksPerson_27_56c54d : am_dec cX6_asksPerson 27 sgX6_asksPerson_27_56c54 = true := by decide +kernel
theorem dX6_asksPerson_28 : decode cX6_asksPerson 28 = .ok (.ireturn, 1) := by decide +kernel
def sgX6_asksPerson_8_1cbe9 : List Instr := [.iconst 0, .goto 4]
theorem sgX6_asksPerson_8_1cbe9d : am_dec cX6_asksPerson 8 sgX6_asksPerson_8_1cbe9 = true := by decide +kernel
def sgX6_asksPerson_23_1c64c : List Instr := [.iconst 1, .goto 4]
theorem sgX6_asksPerson_23_1c64cd : am_dec cX6_asksPerson 23 sgX6_asksPerson_23_1c64c = true := by decide +kernel
def sgX6_state_0_8bcf7 : List Instr := [.aload_n 0, .iload_n 1]
theorem sgX6_state_0_8bcf7d : am_dec cX6_state 0 sgX6_state_0_8bcf7 = true := by decide +kernel
theorem dX6_state_2 : decode cX6_state 2 = .ok (.invokevirtual 184, 3) := by decide +kernel
theorem dX6_state_5 : decode cX6_state 5 = .ok (.ifCond .eq 12, 3) := by decide +kernel
def sgX6_state_17_56c54 : List Instr := [.iconst 0]
theorem sgX6_state_17_56c54d : am_dec cX6_state 17 sgX6_state_17_56c54 = true := by decide +kernel
theorem dX6_state_18 : decode cX6_state 18 = .ok (.ireturn, 1) := by decide +kernel
def sgX6_state_8_34db8 : List Instr := [.aload_n 0]
theorem sgX6_state_8_34db8d : am_dec cX6_state 8 sgX6_state_8_34db8 = true := by decide +kernel
theorem dX6_state_9 : decode cX6_state 9 = .ok (.getfield 68, 3) := by decide +kernel
def sgX6_state_12_840bf : List Instr := [.iload_n 1]
theorem sgX6_state_12_840bfd : am_dec cX6_state 12 sgX6_state_12_840bf = true := by decide +kernel
theorem dX6_state_13 : decode cX6_state 13 = .ok (.iaload, 1) := by decide +kernel
def sgX6_state_14_c4397 : List Instr := [.goto 4]
theorem sgX6_state_14_c4397d : am_dec cX6_state 14 sgX6_state_14_c4397 = true := by decide +kernel
def sgX6_cause_0_8bcf7 : List Instr := [.aload_n 0, .iload_n 1]
theorem sgX6_cause_0_8bcf7d : am_dec cX6_cause 0 sgX6_cause_0_8bcf7 = true := by decide +kernel
theorem dX6_cause_2 : decode cX6_cause 2 = .ok (.invokevirtual 184, 3) := by decide +kernel
theorem dX6_cause_5 : decode cX6_cause 5 = .ok (.ifCond .eq 12, 3) := by decide +kernel
def sgX6_cause_17_56c54 : List Instr := [.iconst 0]
theorem sgX6_cause_17_56c54d : am_dec cX6_cause 17 sgX6_cause_17_56c54 = true := by decide +kernel
theorem dX6_cause_18 : decode cX6_cause 18 = .ok (.ireturn, 1) := by decide +kernel
def sgX6_cause_8_34db8 : List Instr := [.aload_n 0]
theorem sgX6_cause_8_34db8d : am_dec cX6_cause 8 sgX6_cause_8_34db8 = true := by decide +kernel
theorem dX6_cause_9 : decode cX6_cause 9 = .ok (.getfield 65, 3) := by decide +kernel
def sgX6_cause_12_840bf : List Instr := [.iload_n 1]
theorem sgX6_cause_12_840bfd : am_dec cX6_cause 12 sgX6_cause_12_840bf = true := by decide +kernel
theorem dX6_cause_13 : decode cX6_cause 13 = .ok (.iaload, 1) := by decide +kernel
def sgX6_cause_14_c4397 : List Instr := [.goto 4]
theorem sgX6_cause_14_c4397d : am_dec cX6_cause 14 sgX6_cause_14_c4397 = true := by decide +kernel
def sgX6_score_0_8bcf7 : List Instr := [.aload_n 0, .iload_n 1]
theorem sgX6_score_0_8bcf7d : am_dec cX6_score 0 sgX6_score_0_8bcf7 = true := by decide +kernel
theorem dX6_score_2 : decode cX6_score 2 = .ok (.invokevirtual 184, 3) := by decide +kernel
theorem dX6_score_5 : decode cX6_score 5 = .ok (.ifCond .eq 12, 3) := by decide +kernel
def sgX6_score_17_56c54 : List Instr := [.iconst 0]
theorem sgX6_score_17_56c54d : am_dec cX6_score 17 sgX6_score_17_56c54 = true := by decide +kernel
theorem dX6_score_18 : decode cX6_score 18 = .ok (.ireturn, 1) := by decide +kernel
def sgX6_score_8_34db8 : List Instr := [.aload_n 0]
theorem sgX6_score_8_34db8d : am_dec cX6_score 8 sgX6_score_8_34db8 = true := by decide +kernel
theorem dX6_score_9 : decode cX6_score 9 = .ok (.getfield 62, 3) := by decide +kernel
def sgX6_score_12_840bf : List Instr := [.iload_n 1]
theorem sgX6_score_12_840bfd : am_dec cX6_score 12 sgX6_score_12_840bf = true := by decide +kernel
theorem dX6_score_13 : decode cX6_score 13 = .ok (.iaload, 1) := by decide +kernel
def sgX6_score_14_c4397 : List Instr := [.goto 4]
theorem sgX6_score_14_c4397d : am_dec cX6_score 14 sgX6_score_14_c4397 = true := by decide +kernel
def sgX6_reached_0_8bcf7 : List Instr := [.aload_n 0, .iload_n 1]
theorem sgX6_reached_0_8bcf7d : am_dec cX6_reached 0 sgX6_reached_0_8bcf7 = true := by decide +kernel
theorem dX6_reached_2 : decode cX6_reached 2 = .ok (.invokevirtual 184, 3) := by decide +kernel
theorem dX6_reached_5 : decode cX6_reached 5 = .ok (.ifCond .eq 12, 3) := by decide +kernel
def sgX6_reached_17_56c54 : List Instr := [.iconst 0]
theorem sgX6_reached_17_56c54d : am_dec cX6_reached 17 sgX6_reached_17_56c54 = true := by decide +kernel
theorem dX6_reached_18 : decode cX6_reached 18 = .ok (.ireturn, 1) := by decide +kernel
def sgX6_reached_8_34db8 : List Instr := [.aload_n 0]
theorem sgX6_reached_8_34db8d : am_dec cX6_reached 8 sgX6_reached_8_34db8 = true := by decide +kernel
theorem dX6_reached_9 : decode cX6_reached 9 = .ok (.getfield 71, 3) := by decide +kernel
def sgX6_reached_12_840bf : List Instr := [.iload_n 1]
theorem sgX6_reached_12_840bfd : am_dec cX6_reached 12 sgX6_reached_12_840bf = true := by decide +kernel
theorem dX6_reached_13 : decode cX6_reached 13 = .ok (.iaload, 1) := by decide +kernel
def sgX6_reached_14_c4397 : List Instr := [.goto 4]
theorem sgX6_reached_14_c4397d : am_dec cX6_reached 14 sgX6_reached_14_c4397 = true := by decide +kernel
def sgX6_lapses_0_8bcf7 : List Instr := [.aload_n 0, .iload_n 1]
theorem sgX6_lapses_0_8bcf7d : am_dec cX6_lapses 0 sgX6_lapses_0_8bcf7 = true := by decide +kernel
theorem dX6_lapses_2 : decode cX6_lapses 2 = .ok (.invokevirtual 184, 3) := by decide +kernel
theorem dX6_lapses_5 : decode cX6_lapses 5 = .ok (.ifCond .ne 5, 3) := by decide +kernel
def sgX6_lapses_8_56c54 : List Instr := [.iconst 0]
theorem sgX6_lapses_8_56c54d : am_dec cX6_lapses 8 sgX6_lapses_8_56c54 = true := by decide +kernel
theorem dX6_lapses_9 : decode cX6_lapses 9 = .ok (.ireturn, 1) := by decide +kernel
def sgX6_jurors_0_8bcf7 : List Instr := [.aload_n 0, .iload_n 1]
theorem sgX6_jurors_0_8bcf7d : am_dec cX6_jurors 0 sgX6_jurors_0_8bcf7 = true := by decide +kernel
theorem dX6_jurors_2 : decode cX6_jurors 2 = .ok (.invokevirtual 184, 3) := by decide +kernel
theorem dX6_jurors_5 : decode cX6_jurors 5 = .ok (.ifCond .eq 21, 3) := by decide +kernel
def sgX6_jurors_26_56c54 : List Instr := [.iconst 0]
theorem sgX6_jurors_26_56c54d : am_dec cX6_jurors 26 sgX6_jurors_26_56c54 = true := by decide +kernel
theorem dX6_jurors_27 : decode cX6_jurors 27 = .ok (.ireturn, 1) := by decide +kernel
def sgX6_lapses_10_34db8 : List Instr := [.aload_n 0]
theorem sgX6_lapses_10_34db8d : am_dec cX6_lapses 10 sgX6_lapses_10_34db8 = true := by decide +kernel
theorem dX6_lapses_11 : decode cX6_lapses 11 = .ok (.getfield 68, 3) := by decide +kernel
def sgX6_lapses_14_840bf : List Instr := [.iload_n 1]
theorem sgX6_lapses_14_840bfd : am_dec cX6_lapses 14 sgX6_lapses_14_840bf = true := by decide +kernel
theorem dX6_lapses_15 : decode cX6_lapses 15 = .ok (.iaload, 1) := by decide +kernel
def sgX6_lapses_16_4de0a : List Instr := [.iconst 1]
theorem sgX6_lapses_16_4de0ad : am_dec cX6_lapses 16 sgX6_lapses_16_4de0a = true := by decide +kernel
theorem dX6_lapses_17 : decode cX6_lapses 17 = .ok (.if_icmp .ne 21, 3) := by decide +kernel
def sgX6_lapses_38_5ff24 : List Instr := [.iconst (-1)]
theorem sgX6_lapses_38_5ff24d : am_dec cX6_lapses 38 sgX6_lapses_38_5ff24 = true := by decide +kernel
theorem dX6_lapses_39 : decode cX6_lapses 39 = .ok (.ireturn, 1) := by decide +kernel
def sgX6_lapses_20_34db8 : List Instr := [.aload_n 0]
theorem sgX6_lapses_20_34db8d : am_dec cX6_lapses 20 sgX6_lapses_20_34db8 = true := by decide +kernel
theorem dX6_lapses_21 : decode cX6_lapses 21 = .ok (.getfield 74, 3) := by decide +kernel
def sgX6_lapses_24_840bf : List Instr := [.iload_n 1]
theorem sgX6_lapses_24_840bfd : am_dec cX6_lapses 24 sgX6_lapses_24_840bf = true := by decide +kernel
theorem dX6_lapses_25 : decode cX6_lapses 25 = .ok (.baload, 1) := by decide +kernel
theorem dX6_lapses_26 : decode cX6_lapses 26 = .ok (.ifCond .ne 12, 3) := by decide +kernel
def sgX6_lapses_29_34db8 : List Instr := [.aload_n 0]
theorem sgX6_lapses_29_34db8d : am_dec cX6_lapses 29 sgX6_lapses_29_34db8 = true := by decide +kernel
theorem dX6_lapses_30 : decode cX6_lapses 30 = .ok (.getfield 59, 3) := by decide +kernel
def sgX6_lapses_33_840bf : List Instr := [.iload_n 1]
theorem sgX6_lapses_33_840bfd : am_dec cX6_lapses 33 sgX6_lapses_33_840bf = true := by decide +kernel
theorem dX6_lapses_34 : decode cX6_lapses 34 = .ok (.iaload, 1) := by decide +kernel
def sgX6_lapses_35_c4397 : List Instr := [.goto 4]
theorem sgX6_lapses_35_c4397d : am_dec cX6_lapses 35 sgX6_lapses_35_c4397 = true := by decide +kernel
def sgX6_jurors_8_34db8 : List Instr := [.aload_n 0]
theorem sgX6_jurors_8_34db8d : am_dec cX6_jurors 8 sgX6_jurors_8_34db8 = true := by decide +kernel
theorem dX6_jurors_9 : decode cX6_jurors 9 = .ok (.getfield 77, 3) := by decide +kernel
def sgX6_jurors_12_840bf : List Instr := [.iload_n 1]
theorem sgX6_jurors_12_840bfd : am_dec cX6_jurors 12 sgX6_jurors_12_840bf = true := by decide +kernel
theorem dX6_jurors_13 : decode cX6_jurors 13 = .ok (.baload, 1) := by decide +kernel
theorem dX6_jurors_14 : decode cX6_jurors 14 = .ok (.ifCond .eq 12, 3) := by decide +kernel
def sgX6_jurors_17_34db8 : List Instr := [.aload_n 0]
theorem sgX6_jurors_17_34db8d : am_dec cX6_jurors 17 sgX6_jurors_17_34db8 = true := by decide +kernel
theorem dX6_jurors_18 : decode cX6_jurors 18 = .ok (.getfield 80, 3) := by decide +kernel
def sgX6_jurors_21_840bf : List Instr := [.iload_n 1]
theorem sgX6_jurors_21_840bfd : am_dec cX6_jurors 21 sgX6_jurors_21_840bf = true := by decide +kernel
theorem dX6_jurors_22 : decode cX6_jurors 22 = .ok (.iaload, 1) := by decide +kernel
def sgX6_jurors_23_c4397 : List Instr := [.goto 4]
theorem sgX6_jurors_23_c4397d : am_dec cX6_jurors 23 sgX6_jurors_23_c4397 = true := by decide +kernel
def sgX6_weight_0_8bcf7 : List Instr := [.aload_n 0, .iload_n 1]
theorem sgX6_weight_0_8bcf7d : am_dec cX6_weight 0 sgX6_weight_0_8bcf7 = true := by decide +kernel
theorem dX6_weight_2 : decode cX6_weight 2 = .ok (.invokevirtual 187, 3) := by decide +kernel
theorem dX6_weight_5 : decode cX6_weight 5 = .ok (.ifCond .eq 12, 3) := by decide +kernel
def sgX6_weight_17_56c54 : List Instr := [.iconst 0]
theorem sgX6_weight_17_56c54d : am_dec cX6_weight 17 sgX6_weight_17_56c54 = true := by decide +kernel
theorem dX6_weight_18 : decode cX6_weight 18 = .ok (.ireturn, 1) := by decide +kernel
def sgX6_weight_8_34db8 : List Instr := [.aload_n 0]
theorem sgX6_weight_8_34db8d : am_dec cX6_weight 8 sgX6_weight_8_34db8 = true := by decide +kernel
theorem dX6_weight_9 : decode cX6_weight 9 = .ok (.getfield 13, 3) := by decide +kernel
def sgX6_weight_12_840bf : List Instr := [.iload_n 1]
theorem sgX6_weight_12_840bfd : am_dec cX6_weight 12 sgX6_weight_12_840bf = true := by decide +kernel
theorem dX6_weight_13 : decode cX6_weight 13 = .ok (.iaload, 1) := by decide +kernel
def sgX6_weight_14_c4397 : List Instr := [.goto 4]
theorem sgX6_weight_14_c4397d : am_dec cX6_weight 14 sgX6_weight_14_c4397 = true := by decide +kernel
def sgX6_judged_0_8bcf7 : List Instr := [.aload_n 0, .iload_n 1]
theorem sgX6_judged_0_8bcf7d : am_dec cX6_judged 0 sgX6_judged_0_8bcf7 = true := by decide +kernel
theorem dX6_judged_2 : decode cX6_judged 2 = .ok (.invokevirtual 187, 3) := by decide +kernel
theorem dX6_judged_5 : decode cX6_judged 5 = .ok (.ifCond .eq 12, 3) := by decide +kernel
def sgX6_judged_17_56c54 : List Instr := [.iconst 0]
theorem sgX6_judged_17_56c54d : am_dec cX6_judged 17 sgX6_judged_17_56c54 = true := by decide +kernel
theorem dX6_judged_18 : decode cX6_judged 18 = .ok (.ireturn, 1) := by decide +kernel
def sgX6_judged_8_34db8 : List Instr := [.aload_n 0]
theorem sgX6_judged_8_34db8d : am_dec cX6_judged 8 sgX6_judged_8_34db8 = true := by decide +kernel
theorem dX6_judged_9 : decode cX6_judged 9 = .ok (.getfield 16, 3) := by decide +kernel
def sgX6_judged_12_840bf : List Instr := [.iload_n 1]
theorem sgX6_judged_12_840bfd : am_dec cX6_judged 12 sgX6_judged_12_840bf = true := by decide +kernel
theorem dX6_judged_13 : decode cX6_judged 13 = .ok (.iaload, 1) := by decide +kernel
def sgX6_judged_14_c4397 : List Instr := [.goto 4]
theorem sgX6_judged_14_c4397d : am_dec cX6_judged 14 sgX6_judged_14_c4397 = true := by decide +kernel
def sgX6_bounces_0_8bcf7 : List Instr := [.aload_n 0, .iload_n 1]
theorem sgX6_bounces_0_8bcf7d : am_dec cX6_bounces 0 sgX6_bounces_0_8bcf7 = true := by decide +kernel
theorem dX6_bounces_2 : decode cX6_bounces 2 = .ok (.invokevirtual 187, 3) := by decide +kernel
theorem dX6_bounces_5 : decode cX6_bounces 5 = .ok (.ifCond .eq 12, 3) := by decide +kernel
def sgX6_bounces_17_56c54 : List Instr := [.iconst 0]
theorem sgX6_bounces_17_56c54d : am_dec cX6_bounces 17 sgX6_bounces_17_56c54 = true := by decide +kernel
theorem dX6_bounces_18 : decode cX6_bounces 18 = .ok (.ireturn, 1) := by decide +kernel
def sgX6_bounces_8_34db8 : List Instr := [.aload_n 0]
theorem sgX6_bounces_8_34db8d : am_dec cX6_bounces 8 sgX6_bounces_8_34db8 = true := by decide +kernel
theorem dX6_bounces_9 : decode cX6_bounces 9 = .ok (.getfield 19, 3) := by decide +kernel
def sgX6_bounces_12_840bf : List Instr := [.iload_n 1]
theorem sgX6_bounces_12_840bfd : am_dec cX6_bounces 12 sgX6_bounces_12_840bf = true := by decide +kernel
theorem dX6_bounces_13 : decode cX6_bounces 13 = .ok (.iaload, 1) := by decide +kernel
def sgX6_bounces_14_c4397 : List Instr := [.goto 4]
theorem sgX6_bounces_14_c4397d : am_dec cX6_bounces 14 sgX6_bounces_14_c4397 = true := by decide +kernel
def sgX6_box_0_8bcf7 : List Instr := [.aload_n 0, .iload_n 1]
theorem sgX6_box_0_8bcf7d : am_dec cX6_box 0 sgX6_box_0_8bcf7 = true := by decide +kernel
theorem dX6_box_2 : decode cX6_box 2 = .ok (.invokevirtual 187, 3) := by decide +kernel
theorem dX6_box_5 : decode cX6_box 5 = .ok (.ifCond .eq 12, 3) := by decide +kernel
def sgX6_box_17_56c54 : List Instr := [.iconst 0]
theorem sgX6_box_17_56c54d : am_dec cX6_box 17 sgX6_box_17_56c54 = true := by decide +kernel
theorem dX6_box_18 : decode cX6_box 18 = .ok (.ireturn, 1) := by decide +kernel
def sgX6_box_8_34db8 : List Instr := [.aload_n 0]
theorem sgX6_box_8_34db8d : am_dec cX6_box 8 sgX6_box_8_34db8 = true := by decide +kernel
theorem dX6_box_9 : decode cX6_box 9 = .ok (.getfield 22, 3) := by decide +kernel
def sgX6_box_12_840bf : List Instr := [.iload_n 1]
theorem sgX6_box_12_840bfd : am_dec cX6_box 12 sgX6_box_12_840bf = true := by decide +kernel
theorem dX6_box_13 : decode cX6_box 13 = .ok (.iaload, 1) := by decide +kernel
def sgX6_box_14_c4397 : List Instr := [.goto 4]
theorem sgX6_box_14_c4397d : am_dec cX6_box 14 sgX6_box_14_c4397 = true := by decide +kernel
def sgX6_thrown_0_34db8 : List Instr := [.aload_n 0]
theorem sgX6_thrown_0_34db8d : am_dec cX6_thrown 0 sgX6_thrown_0_34db8 = true := by decide +kernel
theorem dX6_thrown_1 : decode cX6_thrown 1 = .ok (.getfield 104, 3) := by decide +kernel
theorem dX6_thrown_4 : decode cX6_thrown 4 = .ok (.ireturn, 1) := by decide +kernel
def sgX6_mails_0_9cf18 : List Instr := [.aload_n 0, .iconst 0]
theorem sgX6_mails_0_9cf18d : am_dec cX6_mails 0 sgX6_mails_0_9cf18 = true := by decide +kernel
theorem dX6_mails_2 : decode cX6_mails 2 = .ok (.putfield 104, 3) := by decide +kernel
def sgX6_mails_5_34db8 : List Instr := [.aload_n 0]
theorem sgX6_mails_5_34db8d : am_dec cX6_mails 5 sgX6_mails_5_34db8 = true := by decide +kernel
theorem dX6_mails_6 : decode cX6_mails 6 = .ok (.getfield 115, 3) := by decide +kernel
theorem dX6_mails_9 : decode cX6_mails 9 = .ok (.ireturn, 1) := by decide +kernel
set_option maxRecDepth 100000 in
set_option maxHeartbeats 4000000 in
theorem c_held_1 {G : am_S} {T S : am_T} {o : Nat → Int64} {m : Nat} (hm : S 17 0 = nI m) (hm80 : m ≤ 80) {x : Int32} (hx : x < 0 ∨ nI m ≤ x) : am_D G yX6_held (.code yX6_held cX6_held 2 (some .int) :: am_G) { frames := 2, cells := 0, slots := 0, locals := 43 } (hp T S o) [.ref 465, .int x] (hp T S o) (some (.int 1)) := by
  refine am_of (by decide +kernel) (Nat.le_of_ble_eq_true rfl) ?_
  intro C hse hret hname hF hO
  subst hse
  refine am_go hF sgX6_held_0_8bcf7 2 [(0, .ref 465), (1, .int x)] [.int x, .ref 465] sgX6_held_0_8bcf7d rfl ?_
  refine am_dV hF hO [.int x] [] (c_isMail_f (S := S) hm hm80 hx) myX6_isMail vyX6_isMail lm_RX6_161 (hp_m _ _ _) rfl rfl 0 0 ⟨Nat.le_of_ble_eq_true rfl, Nat.le_of_ble_eq_true rfl⟩ ⟨Nat.le_of_ble_eq_true rfl, Nat.le_of_ble_eq_true rfl, Nat.le_of_ble_eq_true rfl, Nat.le_of_ble_eq_true rfl⟩ rfl (am_lv_ref (hp_m _ _ _) (am_lv_int am_lv_nil)) (Nat.le_of_ble_eq_true rfl) dX6_held_2 [.int 0] rfl ?_
  refine am_ifne hF 10 dX6_held_5 (by decide) (fun h9 => False.elim ((by revert h9; decide))) (fun _ => ?_)
  refine am_go hF sgX6_held_8_4de0a 9 [(0, .ref 465), (1, .int x)] [.int 1] sgX6_held_8_4de0ad rfl ?_
  exact am_iret hF hO hret rfl dX6_held_9 ⟨rfl, rfl⟩
set_option maxRecDepth 100000 in
set_option maxHeartbeats 4000000 in
theorem c_held_2 {G : am_S} {T S : am_T} {o : Nat → Int64} {m : Nat} (hm : S 17 0 = nI m) (hm80 : m ≤ 80) {k : Nat} (hk : k < m) : am_D G yX6_held (.code yX6_held cX6_held 2 (some .int) :: am_G) { frames := 2, cells := 0, slots := 0, locals := 43 } (hp T S o) [.ref 465, .int (nI k)] (hp T S o) (some (.int (if S 24 k = 1 ∧ S 27 k = 0 then 0 else 2))) := by
  refine am_of (by decide +kernel) (Nat.le_of_ble_eq_true rfl) ?_
  intro C hse hret hname hF hO
  subst hse
  refine am_go hF sgX6_held_0_8bcf7 2 [(0, .ref 465), (1, .int (nI k))] [.int (nI k), .ref 465] sgX6_held_0_8bcf7d rfl ?_
  refine am_dV hF hO [.int (nI k)] [] (c_isMail_t (S := S) hm hm80 (show k < m by omega) rfl) myX6_isMail vyX6_isMail lm_RX6_161 (hp_m _ _ _) rfl rfl 0 0 ⟨Nat.le_of_ble_eq_true rfl, Nat.le_of_ble_eq_true rfl⟩ ⟨Nat.le_of_ble_eq_true rfl, Nat.le_of_ble_eq_true rfl, Nat.le_of_ble_eq_true rfl, Nat.le_of_ble_eq_true rfl⟩ rfl (am_lv_ref (hp_m _ _ _) (am_lv_int am_lv_nil)) (Nat.le_of_ble_eq_true rfl) dX6_held_2 [.int 1] rfl ?_
  refine am_ifne hF 10 dX6_held_5 (by decide) (fun _ => ?_) (fun h9 => False.elim ((by revert h9; decide)))
  refine am_go hF sgX6_held_10_34db8 11 [(0, .ref 465), (1, .int (nI k))] [.ref 465] sgX6_held_10_34db8d rfl ?_
  refine sv_get hF 24 (by decide) rfl lf_RX6_68 (.ref 524) rfl dX6_held_11 ?_
  refine am_go hF sgX6_held_14_840bf 15 [(0, .ref 465), (1, .int (nI k))] [.int (nI k), .ref 524] sgX6_held_14_840bfd rfl ?_
  refine sv_iald hF 24 (by decide) ⟨rfl, rfl, by decide⟩ k rfl (show k < 80 by omega) dX6_held_15 ?_
  refine am_go hF sgX6_held_16_4de0a 17 [(0, .ref 465), (1, .int (nI k))] [.int 1, .int (S 24 k)] sgX6_held_16_4de0ad rfl ?_
  refine am_icmpne hF 29 dX6_held_17 (by decide) (fun c2 => ?_) (fun c2 => ?_)
  · skip
    refine am_go hF sgX6_held_29_abe91 34 [(0, .ref 465), (1, .int (nI k))] [.int 2] sgX6_held_29_abe91d rfl ?_
    exact am_iret hF hO hret rfl dX6_held_34 ⟨rfl, by simp only [c2, not_false_eq_true, not_true_eq_false, and_self, and_true, true_and, and_false, false_and, true_or, or_true, or_false, false_or, or_self, ↓reduceIte]⟩
  · skip
    refine am_go hF sgX6_held_20_34db8 21 [(0, .ref 465), (1, .int (nI k))] [.ref 465] sgX6_held_20_34db8d rfl ?_
    refine sv_get hF 27 (by decide) rfl lf_RX6_77 (.ref 527) rfl dX6_held_21 ?_
    refine am_go hF sgX6_held_24_840bf 25 [(0, .ref 465), (1, .int (nI k))] [.int (nI k), .ref 527] sgX6_held_24_840bfd rfl ?_
    refine sv_zald hF 27 (by decide) ⟨rfl, rfl, by decide⟩ k rfl (show k < 80 by omega) dX6_held_25 ?_
    refine am_ifeq hF 33 dX6_held_26 (by decide) (fun c3 => ?_) (fun c3 => ?_)
    · skip
      refine am_go hF sgX6_held_33_56c54 34 [(0, .ref 465), (1, .int (nI k))] [.int 0] sgX6_held_33_56c54d rfl ?_
      exact am_iret hF hO hret rfl dX6_held_34 ⟨rfl, by simp only [(eq_true c2), (eq_true c3), not_false_eq_true, not_true_eq_false, and_self, and_true, true_and, and_false, false_and, true_or, or_true, or_false, false_or, or_self, ↓reduceIte]⟩
    · skip
      refine am_go hF sgX6_held_29_abe91 34 [(0, .ref 465), (1, .int (nI k))] [.int 2] sgX6_held_29_abe91d rfl ?_
      exact am_iret hF hO hret rfl dX6_held_34 ⟨rfl, by simp only [(eq_true c2), c3, not_false_eq_true, not_true_eq_false, and_self, and_true, true_and, and_false, false_and, true_or, or_true, or_false, false_or, or_self, ↓reduceIte]⟩
set_option maxRecDepth 100000 in
set_option maxHeartbeats 4000000 in
theorem c_asks_f {G : am_S} {T S : am_T} {o : Nat → Int64} {m : Nat} (hm : S 17 0 = nI m) (hm80 : m ≤ 80) {x : Int32} (hx : x < 0 ∨ nI m ≤ x) : am_D G yX6_asks (.code yX6_asks cX6_asks 2 (some .boolean) :: am_G) { frames := 2, cells := 0, slots := 0, locals := 43 } (hp T S o) [.ref 465, .int x] (hp T (st1 S 0 0 1) o) (some (.int 0)) := by
  refine am_of (by decide +kernel) (Nat.le_of_ble_eq_true rfl) ?_
  intro C hse hret hname hF hO
  subst hse
  refine am_go hF sgX6_asks_0_6b3ba 3 [(0, .ref 465), (1, .int x)] [.int x, .ref 465, .ref 465] sgX6_asks_0_6b3bad rfl ?_
  refine am_dV hF hO [.int x] [.ref 465] (c_isMail_f (S := S) hm hm80 hx) myX6_isMail vyX6_isMail lm_RX6_161 (hp_m _ _ _) rfl rfl 0 0 ⟨Nat.le_of_ble_eq_true rfl, Nat.le_of_ble_eq_true rfl⟩ ⟨Nat.le_of_ble_eq_true rfl, Nat.le_of_ble_eq_true rfl, Nat.le_of_ble_eq_true rfl, Nat.le_of_ble_eq_true rfl⟩ rfl (am_lv_ref (hp_m _ _ _) (am_lv_int (am_lv_ref (hp_m _ _ _) am_lv_nil))) (Nat.le_of_ble_eq_true rfl) dX6_asks_3 [.int 0, .ref 465] rfl ?_
  refine am_ifeq hF 13 dX6_asks_6 (by decide) (fun _ => ?_) (fun h9 => False.elim ((by revert h9; decide)))
  refine am_go hF sgX6_asks_13_4de0a 14 [(0, .ref 465), (1, .int x)] [.int 1, .ref 465] sgX6_asks_13_4de0ad rfl ?_
  refine sv_put hF 0 (by decide) rfl rfl rfl lf_RX6_104 dX6_asks_14 ?_
  refine am_go hF sgX6_asks_17_34db8 18 [(0, .ref 465), (1, .int x)] [.ref 465] sgX6_asks_17_34db8d rfl ?_
  refine sv_get hF 0 (by decide) rfl lf_RX6_104 (.int 1) rfl dX6_asks_18 ?_
  refine am_ifne hF 28 dX6_asks_21 (by decide) (fun _ => ?_) (fun h9 => False.elim ((by revert h9; decide)))
  refine am_go hF sgX6_asks_28_56c54 29 [(0, .ref 465), (1, .int x)] [.int 0] sgX6_asks_28_56c54d rfl ?_
  exact am_iret hF hO hret rfl dX6_asks_29 ⟨rfl, rfl⟩
set_option maxRecDepth 100000 in
set_option maxHeartbeats 4000000 in
theorem c_asks_t {G : am_S} {T S : am_T} {o : Nat → Int64} {m : Nat} (hm : S 17 0 = nI m) (hm80 : m ≤ 80) {k : Nat} (hk : k < m) : am_D G yX6_asks (.code yX6_asks cX6_asks 2 (some .boolean) :: am_G) { frames := 2, cells := 0, slots := 0, locals := 43 } (hp T S o) [.ref 465, .int (nI k)] (hp T (st1 S 0 0 0) o) (some (.int 1)) := by
  refine am_of (by decide +kernel) (Nat.le_of_ble_eq_true rfl) ?_
  intro C hse hret hname hF hO
  subst hse
  refine am_go hF sgX6_asks_0_6b3ba 3 [(0, .ref 465), (1, .int (nI k))] [.int (nI k), .ref 465, .ref 465] sgX6_asks_0_6b3bad rfl ?_
  refine am_dV hF hO [.int (nI k)] [.ref 465] (c_isMail_t (S := S) hm hm80 (show k < m by omega) rfl) myX6_isMail vyX6_isMail lm_RX6_161 (hp_m _ _ _) rfl rfl 0 0 ⟨Nat.le_of_ble_eq_true rfl, Nat.le_of_ble_eq_true rfl⟩ ⟨Nat.le_of_ble_eq_true rfl, Nat.le_of_ble_eq_true rfl, Nat.le_of_ble_eq_true rfl, Nat.le_of_ble_eq_true rfl⟩ rfl (am_lv_ref (hp_m _ _ _) (am_lv_int (am_lv_ref (hp_m _ _ _) am_lv_nil))) (Nat.le_of_ble_eq_true rfl) dX6_asks_3 [.int 1, .ref 465] rfl ?_
  refine am_ifeq hF 13 dX6_asks_6 (by decide) (fun h9 => False.elim ((by revert h9; decide))) (fun _ => ?_)
  refine am_go hF sgX6_asks_9_1cbe9 14 [(0, .ref 465), (1, .int (nI k))] [.int 0, .ref 465] sgX6_asks_9_1cbe9d rfl ?_
  refine sv_put hF 0 (by decide) rfl rfl rfl lf_RX6_104 dX6_asks_14 ?_
  refine am_go hF sgX6_asks_17_34db8 18 [(0, .ref 465), (1, .int (nI k))] [.ref 465] sgX6_asks_17_34db8d rfl ?_
  refine sv_get hF 0 (by decide) rfl lf_RX6_104 (.int 0) rfl dX6_asks_18 ?_
  refine am_ifne hF 28 dX6_asks_21 (by decide) (fun h9 => False.elim ((by revert h9; decide))) (fun _ => ?_)
  refine am_go hF sgX6_asks_24_1c64c 29 [(0, .ref 465), (1, .int (nI k))] [.int 1] sgX6_asks_24_1c64cd rfl ?_
  exact am_iret hF hO hret rfl dX6_asks_29 ⟨rfl, rfl⟩
set_option maxRecDepth 100000 in
set_option maxHeartbeats 4000000 in
theorem c_asksPerson_f {G : am_S} {T S : am_T} {o : Nat → Int64} {x : Int32} (hx : x < 0 ∨ nI 16 ≤ x) : am_D G yX6_asksPerson (.code yX6_asksPerson cX6_asksPerson 2 (some .boolean) :: am_G) { frames := 2, cells := 0, slots := 0, locals := 42 } (hp T S o) [.ref 465, .int x] (hp T (st1 S 0 0 1) o) (some (.int 0)) := by
  refine am_of (by decide +kernel) (Nat.le_of_ble_eq_true rfl) ?_
  intro C hse hret hname hF hO
  subst hse
  refine am_go hF sgX6_asksPerson_0_8bcf7 2 [(0, .ref 465), (1, .int x)] [.int x, .ref 465] sgX6_asksPerson_0_8bcf7d rfl ?_
  refine am_dS hF hO [.int x] [.ref 465] (c_isPerson_f hx) myX6_isPerson syX6_isPerson lm_RX6_118 rfl 0 0 ⟨Nat.le_of_ble_eq_true rfl, Nat.le_of_ble_eq_true rfl⟩ ⟨Nat.le_of_ble_eq_true rfl, Nat.le_of_ble_eq_true rfl, Nat.le_of_ble_eq_true rfl, Nat.le_of_ble_eq_true rfl⟩ rfl (am_lv_ref (hp_m _ _ _) (am_lv_int (am_lv_ref (hp_m _ _ _) am_lv_nil))) (Nat.le_of_ble_eq_true rfl) dX6_asksPerson_2 [.int 0, .ref 465] rfl ?_
  refine am_ifeq hF 12 dX6_asksPerson_5 (by decide) (fun _ => ?_) (fun h9 => False.elim ((by revert h9; decide)))
  refine am_go hF sgX6_asksPerson_12_4de0a 13 [(0, .ref 465), (1, .int x)] [.int 1, .ref 465] sgX6_asksPerson_12_4de0ad rfl ?_
  refine sv_put hF 0 (by decide) rfl rfl rfl lf_RX6_104 dX6_asksPerson_13 ?_
  refine am_go hF sgX6_asksPerson_16_34db8 17 [(0, .ref 465), (1, .int x)] [.ref 465] sgX6_asksPerson_16_34db8d rfl ?_
  refine sv_get hF 0 (by decide) rfl lf_RX6_104 (.int 1) rfl dX6_asksPerson_17 ?_
  refine am_ifne hF 27 dX6_asksPerson_20 (by decide) (fun _ => ?_) (fun h9 => False.elim ((by revert h9; decide)))
  refine am_go hF sgX6_asksPerson_27_56c54 28 [(0, .ref 465), (1, .int x)] [.int 0] sgX6_asksPerson_27_56c54d rfl ?_
  exact am_iret hF hO hret rfl dX6_asksPerson_28 ⟨rfl, rfl⟩
set_option maxRecDepth 100000 in
set_option maxHeartbeats 4000000 in
theorem c_asksPerson_t {G : am_S} {T S : am_T} {o : Nat → Int64} {p : Nat} (hp9 : p < 16) : am_D G yX6_asksPerson (.code yX6_asksPerson cX6_asksPerson 2 (some .boolean) :: am_G) { frames := 2, cells := 0, slots := 0, locals := 42 } (hp T S o) [.ref 465, .int (nI p)] (hp T (st1 S 0 0 0) o) (some (.int 1)) := by
  refine am_of (by decide +kernel) (Nat.le_of_ble_eq_true rfl) ?_
  intro C hse hret hname hF hO
  subst hse
  refine am_go hF sgX6_asksPerson_0_8bcf7 2 [(0, .ref 465), (1, .int (nI p))] [.int (nI p), .ref 465] sgX6_asksPerson_0_8bcf7d rfl ?_
  refine am_dS hF hO [.int (nI p)] [.ref 465] (c_isPerson_t (show p < 16 by omega) rfl) myX6_isPerson syX6_isPerson lm_RX6_118 rfl 0 0 ⟨Nat.le_of_ble_eq_true rfl, Nat.le_of_ble_eq_true rfl⟩ ⟨Nat.le_of_ble_eq_true rfl, Nat.le_of_ble_eq_true rfl, Nat.le_of_ble_eq_true rfl, Nat.le_of_ble_eq_true rfl⟩ rfl (am_lv_ref (hp_m _ _ _) (am_lv_int (am_lv_ref (hp_m _ _ _) am_lv_nil))) (Nat.le_of_ble_eq_true rfl) dX6_asksPerson_2 [.int 1, .ref 465] rfl ?_
  refine am_ifeq hF 12 dX6_asksPerson_5 (by decide) (fun h9 => False.elim ((by revert h9; decide))) (fun _ => ?_)
  refine am_go hF sgX6_asksPerson_8_1cbe9 13 [(0, .ref 465), (1, .int (nI p))] [.int 0, .ref 465] sgX6_asksPerson_8_1cbe9d rfl ?_
  refine sv_put hF 0 (by decide) rfl rfl rfl lf_RX6_104 dX6_asksPerson_13 ?_
  refine am_go hF sgX6_asksPerson_16_34db8 17 [(0, .ref 465), (1, .int (nI p))] [.ref 465] sgX6_asksPerson_16_34db8d rfl ?_
  refine sv_get hF 0 (by decide) rfl lf_RX6_104 (.int 0) rfl dX6_asksPerson_17 ?_
  refine am_ifne hF 27 dX6_asksPerson_20 (by decide) (fun h9 => False.elim ((by revert h9; decide))) (fun _ => ?_)
  refine am_go hF sgX6_asksPerson_23_1c64c 28 [(0, .ref 465), (1, .int (nI p))] [.int 1] sgX6_asksPerson_23_1c64cd rfl ?_
  exact am_iret hF hO hret rfl dX6_asksPerson_28 ⟨rfl, rfl⟩
set_option maxRecDepth 100000 in
set_option maxHeartbeats 4000000 in
theorem c_r_state_f {G : am_S} {T S : am_T} {o : Nat → Int64} {m : Nat} (hm : S 17 0 = nI m) (hm80 : m ≤ 80) {x : Int32} (hx : x < 0 ∨ nI m ≤ x) : am_D G yX6_state (.code yX6_state cX6_state 2 (some .int) :: am_G) { frames := 3, cells := 0, slots := 0, locals := 64 } (hp T S o) [.ref 465, .int x] (hp T (st1 S 0 0 1) o) (some (.int 0)) := by
  refine am_of (by decide +kernel) (Nat.le_of_ble_eq_true rfl) ?_
  intro C hse hret hname hF hO
  subst hse
  refine am_go hF sgX6_state_0_8bcf7 2 [(0, .ref 465), (1, .int x)] [.int x, .ref 465] sgX6_state_0_8bcf7d rfl ?_
  refine am_dV hF hO [.int x] [] (c_asks_f (S := S) hm hm80 hx) myX6_asks vyX6_asks lm_RX6_184 (hp_m _ _ _) rfl rfl 0 0 ⟨Nat.le_of_ble_eq_true rfl, Nat.le_of_ble_eq_true rfl⟩ ⟨Nat.le_of_ble_eq_true rfl, Nat.le_of_ble_eq_true rfl, Nat.le_of_ble_eq_true rfl, Nat.le_of_ble_eq_true rfl⟩ rfl (am_lv_ref (hp_m _ _ _) (am_lv_int am_lv_nil)) (Nat.le_of_ble_eq_true rfl) dX6_state_2 [.int 0] rfl ?_
  refine am_ifeq hF 17 dX6_state_5 (by decide) (fun _ => ?_) (fun h9 => False.elim ((by revert h9; decide)))
  refine am_go hF sgX6_state_17_56c54 18 [(0, .ref 465), (1, .int x)] [.int 0] sgX6_state_17_56c54d rfl ?_
  exact am_iret hF hO hret rfl dX6_state_18 ⟨rfl, rfl⟩
set_option maxRecDepth 100000 in
set_option maxHeartbeats 4000000 in
theorem c_r_state_t {G : am_S} {T S : am_T} {o : Nat → Int64} {m : Nat} (hm : S 17 0 = nI m) (hm80 : m ≤ 80) {k : Nat} (hk : k < m) : am_D G yX6_state (.code yX6_state cX6_state 2 (some .int) :: am_G) { frames := 3, cells := 0, slots := 0, locals := 64 } (hp T S o) [.ref 465, .int (nI k)] (hp T (st1 S 0 0 0) o) (some (.int (S 24 k))) := by
  refine am_of (by decide +kernel) (Nat.le_of_ble_eq_true rfl) ?_
  intro C hse hret hname hF hO
  subst hse
  refine am_go hF sgX6_state_0_8bcf7 2 [(0, .ref 465), (1, .int (nI k))] [.int (nI k), .ref 465] sgX6_state_0_8bcf7d rfl ?_
  refine am_dV hF hO [.int (nI k)] [] (c_asks_t (S := S) hm hm80 (by omega)) myX6_asks vyX6_asks lm_RX6_184 (hp_m _ _ _) rfl rfl 0 0 ⟨Nat.le_of_ble_eq_true rfl, Nat.le_of_ble_eq_true rfl⟩ ⟨Nat.le_of_ble_eq_true rfl, Nat.le_of_ble_eq_true rfl, Nat.le_of_ble_eq_true rfl, Nat.le_of_ble_eq_true rfl⟩ rfl (am_lv_ref (hp_m _ _ _) (am_lv_int am_lv_nil)) (Nat.le_of_ble_eq_true rfl) dX6_state_2 [.int 1] rfl ?_
  refine am_ifeq hF 17 dX6_state_5 (by decide) (fun h9 => False.elim ((by revert h9; decide))) (fun _ => ?_)
  refine am_go hF sgX6_state_8_34db8 9 [(0, .ref 465), (1, .int (nI k))] [.ref 465] sgX6_state_8_34db8d rfl ?_
  refine sv_get hF 24 (by decide) rfl lf_RX6_68 (.ref 524) rfl dX6_state_9 ?_
  refine am_go hF sgX6_state_12_840bf 13 [(0, .ref 465), (1, .int (nI k))] [.int (nI k), .ref 524] sgX6_state_12_840bfd rfl ?_
  refine sv_iald hF 24 (by decide) ⟨rfl, rfl, by decide⟩ k rfl (show k < 80 by omega) dX6_state_13 ?_
  refine am_top (S 24 k) rfl ?_
  refine am_go hF sgX6_state_14_c4397 18 [(0, .ref 465), (1, .int (nI k))] [.int (S 24 k)] sgX6_state_14_c4397d rfl ?_
  exact am_iret hF hO hret rfl dX6_state_18 ⟨rfl, rfl⟩
set_option maxRecDepth 100000 in
set_option maxHeartbeats 4000000 in
theorem c_r_cause_f {G : am_S} {T S : am_T} {o : Nat → Int64} {m : Nat} (hm : S 17 0 = nI m) (hm80 : m ≤ 80) {x : Int32} (hx : x < 0 ∨ nI m ≤ x) : am_D G yX6_cause (.code yX6_cause cX6_cause 2 (some .int) :: am_G) { frames := 3, cells := 0, slots := 0, locals := 64 } (hp T S o) [.ref 465, .int x] (hp T (st1 S 0 0 1) o) (some (.int 0)) := by
  refine am_of (by decide +kernel) (Nat.le_of_ble_eq_true rfl) ?_
  intro C hse hret hname hF hO
  subst hse
  refine am_go hF sgX6_cause_0_8bcf7 2 [(0, .ref 465), (1, .int x)] [.int x, .ref 465] sgX6_cause_0_8bcf7d rfl ?_
  refine am_dV hF hO [.int x] [] (c_asks_f (S := S) hm hm80 hx) myX6_asks vyX6_asks lm_RX6_184 (hp_m _ _ _) rfl rfl 0 0 ⟨Nat.le_of_ble_eq_true rfl, Nat.le_of_ble_eq_true rfl⟩ ⟨Nat.le_of_ble_eq_true rfl, Nat.le_of_ble_eq_true rfl, Nat.le_of_ble_eq_true rfl, Nat.le_of_ble_eq_true rfl⟩ rfl (am_lv_ref (hp_m _ _ _) (am_lv_int am_lv_nil)) (Nat.le_of_ble_eq_true rfl) dX6_cause_2 [.int 0] rfl ?_
  refine am_ifeq hF 17 dX6_cause_5 (by decide) (fun _ => ?_) (fun h9 => False.elim ((by revert h9; decide)))
  refine am_go hF sgX6_cause_17_56c54 18 [(0, .ref 465), (1, .int x)] [.int 0] sgX6_cause_17_56c54d rfl ?_
  exact am_iret hF hO hret rfl dX6_cause_18 ⟨rfl, rfl⟩
set_option maxRecDepth 100000 in
set_option maxHeartbeats 4000000 in
theorem c_r_cause_t {G : am_S} {T S : am_T} {o : Nat → Int64} {m : Nat} (hm : S 17 0 = nI m) (hm80 : m ≤ 80) {k : Nat} (hk : k < m) : am_D G yX6_cause (.code yX6_cause cX6_cause 2 (some .int) :: am_G) { frames := 3, cells := 0, slots := 0, locals := 64 } (hp T S o) [.ref 465, .int (nI k)] (hp T (st1 S 0 0 0) o) (some (.int (S 23 k))) := by
  refine am_of (by decide +kernel) (Nat.le_of_ble_eq_true rfl) ?_
  intro C hse hret hname hF hO
  subst hse
  refine am_go hF sgX6_cause_0_8bcf7 2 [(0, .ref 465), (1, .int (nI k))] [.int (nI k), .ref 465] sgX6_cause_0_8bcf7d rfl ?_
  refine am_dV hF hO [.int (nI k)] [] (c_asks_t (S := S) hm hm80 (by omega)) myX6_asks vyX6_asks lm_RX6_184 (hp_m _ _ _) rfl rfl 0 0 ⟨Nat.le_of_ble_eq_true rfl, Nat.le_of_ble_eq_true rfl⟩ ⟨Nat.le_of_ble_eq_true rfl, Nat.le_of_ble_eq_true rfl, Nat.le_of_ble_eq_true rfl, Nat.le_of_ble_eq_true rfl⟩ rfl (am_lv_ref (hp_m _ _ _) (am_lv_int am_lv_nil)) (Nat.le_of_ble_eq_true rfl) dX6_cause_2 [.int 1] rfl ?_
  refine am_ifeq hF 17 dX6_cause_5 (by decide) (fun h9 => False.elim ((by revert h9; decide))) (fun _ => ?_)
  refine am_go hF sgX6_cause_8_34db8 9 [(0, .ref 465), (1, .int (nI k))] [.ref 465] sgX6_cause_8_34db8d rfl ?_
  refine sv_get hF 23 (by decide) rfl lf_RX6_65 (.ref 523) rfl dX6_cause_9 ?_
  refine am_go hF sgX6_cause_12_840bf 13 [(0, .ref 465), (1, .int (nI k))] [.int (nI k), .ref 523] sgX6_cause_12_840bfd rfl ?_
  refine sv_iald hF 23 (by decide) ⟨rfl, rfl, by decide⟩ k rfl (show k < 80 by omega) dX6_cause_13 ?_
  refine am_top (S 23 k) rfl ?_
  refine am_go hF sgX6_cause_14_c4397 18 [(0, .ref 465), (1, .int (nI k))] [.int (S 23 k)] sgX6_cause_14_c4397d rfl ?_
  exact am_iret hF hO hret rfl dX6_cause_18 ⟨rfl, rfl⟩
set_option maxRecDepth 100000 in
set_option maxHeartbeats 4000000 in
theorem c_r_score_f {G : am_S} {T S : am_T} {o : Nat → Int64} {m : Nat} (hm : S 17 0 = nI m) (hm80 : m ≤ 80) {x : Int32} (hx : x < 0 ∨ nI m ≤ x) : am_D G yX6_score (.code yX6_score cX6_score 2 (some .int) :: am_G) { frames := 3, cells := 0, slots := 0, locals := 64 } (hp T S o) [.ref 465, .int x] (hp T (st1 S 0 0 1) o) (some (.int 0)) := by
  refine am_of (by decide +kernel) (Nat.le_of_ble_eq_true rfl) ?_
  intro C hse hret hname hF hO
  subst hse
  refine am_go hF sgX6_score_0_8bcf7 2 [(0, .ref 465), (1, .int x)] [.int x, .ref 465] sgX6_score_0_8bcf7d rfl ?_
  refine am_dV hF hO [.int x] [] (c_asks_f (S := S) hm hm80 hx) myX6_asks vyX6_asks lm_RX6_184 (hp_m _ _ _) rfl rfl 0 0 ⟨Nat.le_of_ble_eq_true rfl, Nat.le_of_ble_eq_true rfl⟩ ⟨Nat.le_of_ble_eq_true rfl, Nat.le_of_ble_eq_true rfl, Nat.le_of_ble_eq_true rfl, Nat.le_of_ble_eq_true rfl⟩ rfl (am_lv_ref (hp_m _ _ _) (am_lv_int am_lv_nil)) (Nat.le_of_ble_eq_true rfl) dX6_score_2 [.int 0] rfl ?_
  refine am_ifeq hF 17 dX6_score_5 (by decide) (fun _ => ?_) (fun h9 => False.elim ((by revert h9; decide)))
  refine am_go hF sgX6_score_17_56c54 18 [(0, .ref 465), (1, .int x)] [.int 0] sgX6_score_17_56c54d rfl ?_
  exact am_iret hF hO hret rfl dX6_score_18 ⟨rfl, rfl⟩
set_option maxRecDepth 100000 in
set_option maxHeartbeats 4000000 in
theorem c_r_score_t {G : am_S} {T S : am_T} {o : Nat → Int64} {m : Nat} (hm : S 17 0 = nI m) (hm80 : m ≤ 80) {k : Nat} (hk : k < m) : am_D G yX6_score (.code yX6_score cX6_score 2 (some .int) :: am_G) { frames := 3, cells := 0, slots := 0, locals := 64 } (hp T S o) [.ref 465, .int (nI k)] (hp T (st1 S 0 0 0) o) (some (.int (S 22 k))) := by
  refine am_of (by decide +kernel) (Nat.le_of_ble_eq_true rfl) ?_
  intro C hse hret hname hF hO
  subst hse
  refine am_go hF sgX6_score_0_8bcf7 2 [(0, .ref 465), (1, .int (nI k))] [.int (nI k), .ref 465] sgX6_score_0_8bcf7d rfl ?_
  refine am_dV hF hO [.int (nI k)] [] (c_asks_t (S := S) hm hm80 (by omega)) myX6_asks vyX6_asks lm_RX6_184 (hp_m _ _ _) rfl rfl 0 0 ⟨Nat.le_of_ble_eq_true rfl, Nat.le_of_ble_eq_true rfl⟩ ⟨Nat.le_of_ble_eq_true rfl, Nat.le_of_ble_eq_true rfl, Nat.le_of_ble_eq_true rfl, Nat.le_of_ble_eq_true rfl⟩ rfl (am_lv_ref (hp_m _ _ _) (am_lv_int am_lv_nil)) (Nat.le_of_ble_eq_true rfl) dX6_score_2 [.int 1] rfl ?_
  refine am_ifeq hF 17 dX6_score_5 (by decide) (fun h9 => False.elim ((by revert h9; decide))) (fun _ => ?_)
  refine am_go hF sgX6_score_8_34db8 9 [(0, .ref 465), (1, .int (nI k))] [.ref 465] sgX6_score_8_34db8d rfl ?_
  refine sv_get hF 22 (by decide) rfl lf_RX6_62 (.ref 522) rfl dX6_score_9 ?_
  refine am_go hF sgX6_score_12_840bf 13 [(0, .ref 465), (1, .int (nI k))] [.int (nI k), .ref 522] sgX6_score_12_840bfd rfl ?_
  refine sv_iald hF 22 (by decide) ⟨rfl, rfl, by decide⟩ k rfl (show k < 80 by omega) dX6_score_13 ?_
  refine am_top (S 22 k) rfl ?_
  refine am_go hF sgX6_score_14_c4397 18 [(0, .ref 465), (1, .int (nI k))] [.int (S 22 k)] sgX6_score_14_c4397d rfl ?_
  exact am_iret hF hO hret rfl dX6_score_18 ⟨rfl, rfl⟩
set_option maxRecDepth 100000 in
set_option maxHeartbeats 4000000 in
theorem c_r_reached_f {G : am_S} {T S : am_T} {o : Nat → Int64} {m : Nat} (hm : S 17 0 = nI m) (hm80 : m ≤ 80) {x : Int32} (hx : x < 0 ∨ nI m ≤ x) : am_D G yX6_reached (.code yX6_reached cX6_reached 2 (some .int) :: am_G) { frames := 3, cells := 0, slots := 0, locals := 64 } (hp T S o) [.ref 465, .int x] (hp T (st1 S 0 0 1) o) (some (.int 0)) := by
  refine am_of (by decide +kernel) (Nat.le_of_ble_eq_true rfl) ?_
  intro C hse hret hname hF hO
  subst hse
  refine am_go hF sgX6_reached_0_8bcf7 2 [(0, .ref 465), (1, .int x)] [.int x, .ref 465] sgX6_reached_0_8bcf7d rfl ?_
  refine am_dV hF hO [.int x] [] (c_asks_f (S := S) hm hm80 hx) myX6_asks vyX6_asks lm_RX6_184 (hp_m _ _ _) rfl rfl 0 0 ⟨Nat.le_of_ble_eq_true rfl, Nat.le_of_ble_eq_true rfl⟩ ⟨Nat.le_of_ble_eq_true rfl, Nat.le_of_ble_eq_true rfl, Nat.le_of_ble_eq_true rfl, Nat.le_of_ble_eq_true rfl⟩ rfl (am_lv_ref (hp_m _ _ _) (am_lv_int am_lv_nil)) (Nat.le_of_ble_eq_true rfl) dX6_reached_2 [.int 0] rfl ?_
  refine am_ifeq hF 17 dX6_reached_5 (by decide) (fun _ => ?_) (fun h9 => False.elim ((by revert h9; decide)))
  refine am_go hF sgX6_reached_17_56c54 18 [(0, .ref 465), (1, .int x)] [.int 0] sgX6_reached_17_56c54d rfl ?_
  exact am_iret hF hO hret rfl dX6_reached_18 ⟨rfl, rfl⟩
set_option maxRecDepth 100000 in
set_option maxHeartbeats 4000000 in
theorem c_r_reached_t {G : am_S} {T S : am_T} {o : Nat → Int64} {m : Nat} (hm : S 17 0 = nI m) (hm80 : m ≤ 80) {k : Nat} (hk : k < m) : am_D G yX6_reached (.code yX6_reached cX6_reached 2 (some .int) :: am_G) { frames := 3, cells := 0, slots := 0, locals := 64 } (hp T S o) [.ref 465, .int (nI k)] (hp T (st1 S 0 0 0) o) (some (.int (S 25 k))) := by
  refine am_of (by decide +kernel) (Nat.le_of_ble_eq_true rfl) ?_
  intro C hse hret hname hF hO
  subst hse
  refine am_go hF sgX6_reached_0_8bcf7 2 [(0, .ref 465), (1, .int (nI k))] [.int (nI k), .ref 465] sgX6_reached_0_8bcf7d rfl ?_
  refine am_dV hF hO [.int (nI k)] [] (c_asks_t (S := S) hm hm80 (by omega)) myX6_asks vyX6_asks lm_RX6_184 (hp_m _ _ _) rfl rfl 0 0 ⟨Nat.le_of_ble_eq_true rfl, Nat.le_of_ble_eq_true rfl⟩ ⟨Nat.le_of_ble_eq_true rfl, Nat.le_of_ble_eq_true rfl, Nat.le_of_ble_eq_true rfl, Nat.le_of_ble_eq_true rfl⟩ rfl (am_lv_ref (hp_m _ _ _) (am_lv_int am_lv_nil)) (Nat.le_of_ble_eq_true rfl) dX6_reached_2 [.int 1] rfl ?_
  refine am_ifeq hF 17 dX6_reached_5 (by decide) (fun h9 => False.elim ((by revert h9; decide))) (fun _ => ?_)
  refine am_go hF sgX6_reached_8_34db8 9 [(0, .ref 465), (1, .int (nI k))] [.ref 465] sgX6_reached_8_34db8d rfl ?_
  refine sv_get hF 25 (by decide) rfl lf_RX6_71 (.ref 525) rfl dX6_reached_9 ?_
  refine am_go hF sgX6_reached_12_840bf 13 [(0, .ref 465), (1, .int (nI k))] [.int (nI k), .ref 525] sgX6_reached_12_840bfd rfl ?_
  refine sv_iald hF 25 (by decide) ⟨rfl, rfl, by decide⟩ k rfl (show k < 80 by omega) dX6_reached_13 ?_
  refine am_top (S 25 k) rfl ?_
  refine am_go hF sgX6_reached_14_c4397 18 [(0, .ref 465), (1, .int (nI k))] [.int (S 25 k)] sgX6_reached_14_c4397d rfl ?_
  exact am_iret hF hO hret rfl dX6_reached_18 ⟨rfl, rfl⟩
set_option maxRecDepth 100000 in
set_option maxHeartbeats 4000000 in
theorem c_r_lapses_f {G : am_S} {T S : am_T} {o : Nat → Int64} {m : Nat} (hm : S 17 0 = nI m) (hm80 : m ≤ 80) {x : Int32} (hx : x < 0 ∨ nI m ≤ x) : am_D G yX6_lapses (.code yX6_lapses cX6_lapses 2 (some .int) :: am_G) { frames := 3, cells := 0, slots := 0, locals := 64 } (hp T S o) [.ref 465, .int x] (hp T (st1 S 0 0 1) o) (some (.int 0)) := by
  refine am_of (by decide +kernel) (Nat.le_of_ble_eq_true rfl) ?_
  intro C hse hret hname hF hO
  subst hse
  refine am_go hF sgX6_lapses_0_8bcf7 2 [(0, .ref 465), (1, .int x)] [.int x, .ref 465] sgX6_lapses_0_8bcf7d rfl ?_
  refine am_dV hF hO [.int x] [] (c_asks_f (S := S) hm hm80 hx) myX6_asks vyX6_asks lm_RX6_184 (hp_m _ _ _) rfl rfl 0 0 ⟨Nat.le_of_ble_eq_true rfl, Nat.le_of_ble_eq_true rfl⟩ ⟨Nat.le_of_ble_eq_true rfl, Nat.le_of_ble_eq_true rfl, Nat.le_of_ble_eq_true rfl, Nat.le_of_ble_eq_true rfl⟩ rfl (am_lv_ref (hp_m _ _ _) (am_lv_int am_lv_nil)) (Nat.le_of_ble_eq_true rfl) dX6_lapses_2 [.int 0] rfl ?_
  refine am_ifne hF 10 dX6_lapses_5 (by decide) (fun h9 => False.elim ((by revert h9; decide))) (fun _ => ?_)
  refine am_go hF sgX6_lapses_8_56c54 9 [(0, .ref 465), (1, .int x)] [.int 0] sgX6_lapses_8_56c54d rfl ?_
  exact am_iret hF hO hret rfl dX6_lapses_9 ⟨rfl, rfl⟩
set_option maxRecDepth 100000 in
set_option maxHeartbeats 4000000 in
theorem c_r_jurors_f {G : am_S} {T S : am_T} {o : Nat → Int64} {m : Nat} (hm : S 17 0 = nI m) (hm80 : m ≤ 80) {x : Int32} (hx : x < 0 ∨ nI m ≤ x) : am_D G yX6_jurors (.code yX6_jurors cX6_jurors 2 (some .int) :: am_G) { frames := 3, cells := 0, slots := 0, locals := 64 } (hp T S o) [.ref 465, .int x] (hp T (st1 S 0 0 1) o) (some (.int 0)) := by
  refine am_of (by decide +kernel) (Nat.le_of_ble_eq_true rfl) ?_
  intro C hse hret hname hF hO
  subst hse
  refine am_go hF sgX6_jurors_0_8bcf7 2 [(0, .ref 465), (1, .int x)] [.int x, .ref 465] sgX6_jurors_0_8bcf7d rfl ?_
  refine am_dV hF hO [.int x] [] (c_asks_f (S := S) hm hm80 hx) myX6_asks vyX6_asks lm_RX6_184 (hp_m _ _ _) rfl rfl 0 0 ⟨Nat.le_of_ble_eq_true rfl, Nat.le_of_ble_eq_true rfl⟩ ⟨Nat.le_of_ble_eq_true rfl, Nat.le_of_ble_eq_true rfl, Nat.le_of_ble_eq_true rfl, Nat.le_of_ble_eq_true rfl⟩ rfl (am_lv_ref (hp_m _ _ _) (am_lv_int am_lv_nil)) (Nat.le_of_ble_eq_true rfl) dX6_jurors_2 [.int 0] rfl ?_
  refine am_ifeq hF 26 dX6_jurors_5 (by decide) (fun _ => ?_) (fun h9 => False.elim ((by revert h9; decide)))
  refine am_go hF sgX6_jurors_26_56c54 27 [(0, .ref 465), (1, .int x)] [.int 0] sgX6_jurors_26_56c54d rfl ?_
  exact am_iret hF hO hret rfl dX6_jurors_27 ⟨rfl, rfl⟩
set_option maxRecDepth 100000 in
set_option maxHeartbeats 4000000 in
theorem c_r_lapses_t {G : am_S} {T S : am_T} {o : Nat → Int64} {m : Nat} (hm : S 17 0 = nI m) (hm80 : m ≤ 80) {k : Nat} (hk : k < m) : am_D G yX6_lapses (.code yX6_lapses cX6_lapses 2 (some .int) :: am_G) { frames := 3, cells := 0, slots := 0, locals := 64 } (hp T S o) [.ref 465, .int (nI k)] (hp T (st1 S 0 0 0) o) (some (.int (if S 24 k = 1 ∧ S 26 k = 0 then S 21 k else -1))) := by
  refine am_of (by decide +kernel) (Nat.le_of_ble_eq_true rfl) ?_
  intro C hse hret hname hF hO
  subst hse
  refine am_go hF sgX6_lapses_0_8bcf7 2 [(0, .ref 465), (1, .int (nI k))] [.int (nI k), .ref 465] sgX6_lapses_0_8bcf7d rfl ?_
  refine am_dV hF hO [.int (nI k)] [] (c_asks_t (S := S) hm hm80 (by omega)) myX6_asks vyX6_asks lm_RX6_184 (hp_m _ _ _) rfl rfl 0 0 ⟨Nat.le_of_ble_eq_true rfl, Nat.le_of_ble_eq_true rfl⟩ ⟨Nat.le_of_ble_eq_true rfl, Nat.le_of_ble_eq_true rfl, Nat.le_of_ble_eq_true rfl, Nat.le_of_ble_eq_true rfl⟩ rfl (am_lv_ref (hp_m _ _ _) (am_lv_int am_lv_nil)) (Nat.le_of_ble_eq_true rfl) dX6_lapses_2 [.int 1] rfl ?_
  refine am_ifne hF 10 dX6_lapses_5 (by decide) (fun _ => ?_) (fun h9 => False.elim ((by revert h9; decide)))
  refine am_go hF sgX6_lapses_10_34db8 11 [(0, .ref 465), (1, .int (nI k))] [.ref 465] sgX6_lapses_10_34db8d rfl ?_
  refine sv_get hF 24 (by decide) rfl lf_RX6_68 (.ref 524) rfl dX6_lapses_11 ?_
  refine am_go hF sgX6_lapses_14_840bf 15 [(0, .ref 465), (1, .int (nI k))] [.int (nI k), .ref 524] sgX6_lapses_14_840bfd rfl ?_
  refine sv_iald hF 24 (by decide) ⟨rfl, rfl, by decide⟩ k rfl (show k < 80 by omega) dX6_lapses_15 ?_
  refine am_top (S 24 k) rfl ?_
  refine am_go hF sgX6_lapses_16_4de0a 17 [(0, .ref 465), (1, .int (nI k))] [.int 1, .int (S 24 k)] sgX6_lapses_16_4de0ad rfl ?_
  refine am_icmpne hF 38 dX6_lapses_17 (by decide) (fun c2 => ?_) (fun c2 => ?_)
  · skip
    refine am_go hF sgX6_lapses_38_5ff24 39 [(0, .ref 465), (1, .int (nI k))] [.int (-1)] sgX6_lapses_38_5ff24d rfl ?_
    exact am_iret hF hO hret rfl dX6_lapses_39 ⟨rfl, by simp only [c2, not_false_eq_true, not_true_eq_false, and_self, and_true, true_and, and_false, false_and, true_or, or_true, or_false, false_or, or_self, ↓reduceIte]⟩
  · skip
    refine am_go hF sgX6_lapses_20_34db8 21 [(0, .ref 465), (1, .int (nI k))] [.ref 465] sgX6_lapses_20_34db8d rfl ?_
    refine sv_get hF 26 (by decide) rfl lf_RX6_74 (.ref 526) rfl dX6_lapses_21 ?_
    refine am_go hF sgX6_lapses_24_840bf 25 [(0, .ref 465), (1, .int (nI k))] [.int (nI k), .ref 526] sgX6_lapses_24_840bfd rfl ?_
    refine sv_zald hF 26 (by decide) ⟨rfl, rfl, by decide⟩ k rfl (show k < 80 by omega) dX6_lapses_25 ?_
    refine am_top (S 26 k) rfl ?_
    refine am_ifne hF 38 dX6_lapses_26 (by decide) (fun c3 => ?_) (fun c3 => ?_)
    · skip
      refine am_go hF sgX6_lapses_38_5ff24 39 [(0, .ref 465), (1, .int (nI k))] [.int (-1)] sgX6_lapses_38_5ff24d rfl ?_
      exact am_iret hF hO hret rfl dX6_lapses_39 ⟨rfl, by simp only [(eq_true c2), c3, not_false_eq_true, not_true_eq_false, and_self, and_true, true_and, and_false, false_and, true_or, or_true, or_false, false_or, or_self, ↓reduceIte]⟩
    · skip
      refine am_go hF sgX6_lapses_29_34db8 30 [(0, .ref 465), (1, .int (nI k))] [.ref 465] sgX6_lapses_29_34db8d rfl ?_
      refine sv_get hF 21 (by decide) rfl lf_RX6_59 (.ref 521) rfl dX6_lapses_30 ?_
      refine am_go hF sgX6_lapses_33_840bf 34 [(0, .ref 465), (1, .int (nI k))] [.int (nI k), .ref 521] sgX6_lapses_33_840bfd rfl ?_
      refine sv_iald hF 21 (by decide) ⟨rfl, rfl, by decide⟩ k rfl (show k < 80 by omega) dX6_lapses_34 ?_
      refine am_top (S 21 k) rfl ?_
      refine am_go hF sgX6_lapses_35_c4397 39 [(0, .ref 465), (1, .int (nI k))] [.int (S 21 k)] sgX6_lapses_35_c4397d rfl ?_
      exact am_iret hF hO hret rfl dX6_lapses_39 ⟨rfl, by simp only [(eq_true c2), (eq_true c3), not_false_eq_true, not_true_eq_false, and_self, and_true, true_and, and_false, false_and, true_or, or_true, or_false, false_or, or_self, ↓reduceIte]⟩
set_option maxRecDepth 100000 in
set_option maxHeartbeats 4000000 in
theorem c_r_jurors_t {G : am_S} {T S : am_T} {o : Nat → Int64} {m : Nat} (hm : S 17 0 = nI m) (hm80 : m ≤ 80) {k : Nat} (hk : k < m) : am_D G yX6_jurors (.code yX6_jurors cX6_jurors 2 (some .int) :: am_G) { frames := 3, cells := 0, slots := 0, locals := 64 } (hp T S o) [.ref 465, .int (nI k)] (hp T (st1 S 0 0 0) o) (some (.int (if S 27 k = 0 then 0 else S 28 k))) := by
  refine am_of (by decide +kernel) (Nat.le_of_ble_eq_true rfl) ?_
  intro C hse hret hname hF hO
  subst hse
  refine am_go hF sgX6_jurors_0_8bcf7 2 [(0, .ref 465), (1, .int (nI k))] [.int (nI k), .ref 465] sgX6_jurors_0_8bcf7d rfl ?_
  refine am_dV hF hO [.int (nI k)] [] (c_asks_t (S := S) hm hm80 (by omega)) myX6_asks vyX6_asks lm_RX6_184 (hp_m _ _ _) rfl rfl 0 0 ⟨Nat.le_of_ble_eq_true rfl, Nat.le_of_ble_eq_true rfl⟩ ⟨Nat.le_of_ble_eq_true rfl, Nat.le_of_ble_eq_true rfl, Nat.le_of_ble_eq_true rfl, Nat.le_of_ble_eq_true rfl⟩ rfl (am_lv_ref (hp_m _ _ _) (am_lv_int am_lv_nil)) (Nat.le_of_ble_eq_true rfl) dX6_jurors_2 [.int 1] rfl ?_
  refine am_ifeq hF 26 dX6_jurors_5 (by decide) (fun h9 => False.elim ((by revert h9; decide))) (fun _ => ?_)
  refine am_go hF sgX6_jurors_8_34db8 9 [(0, .ref 465), (1, .int (nI k))] [.ref 465] sgX6_jurors_8_34db8d rfl ?_
  refine sv_get hF 27 (by decide) rfl lf_RX6_77 (.ref 527) rfl dX6_jurors_9 ?_
  refine am_go hF sgX6_jurors_12_840bf 13 [(0, .ref 465), (1, .int (nI k))] [.int (nI k), .ref 527] sgX6_jurors_12_840bfd rfl ?_
  refine sv_zald hF 27 (by decide) ⟨rfl, rfl, by decide⟩ k rfl (show k < 80 by omega) dX6_jurors_13 ?_
  refine am_top (S 27 k) rfl ?_
  refine am_ifeq hF 26 dX6_jurors_14 (by decide) (fun c2 => ?_) (fun c2 => ?_)
  · skip
    refine am_go hF sgX6_jurors_26_56c54 27 [(0, .ref 465), (1, .int (nI k))] [.int 0] sgX6_jurors_26_56c54d rfl ?_
    exact am_iret hF hO hret rfl dX6_jurors_27 ⟨rfl, by simp only [(eq_true c2), not_false_eq_true, not_true_eq_false, and_self, and_true, true_and, and_false, false_and, true_or, or_true, or_false, false_or, or_self, ↓reduceIte]⟩
  · skip
    refine am_go hF sgX6_jurors_17_34db8 18 [(0, .ref 465), (1, .int (nI k))] [.ref 465] sgX6_jurors_17_34db8d rfl ?_
    refine sv_get hF 28 (by decide) rfl lf_RX6_80 (.ref 528) rfl dX6_jurors_18 ?_
    refine am_go hF sgX6_jurors_21_840bf 22 [(0, .ref 465), (1, .int (nI k))] [.int (nI k), .ref 528] sgX6_jurors_21_840bfd rfl ?_
    refine sv_iald hF 28 (by decide) ⟨rfl, rfl, by decide⟩ k rfl (show k < 80 by omega) dX6_jurors_22 ?_
    refine am_top (S 28 k) rfl ?_
    refine am_go hF sgX6_jurors_23_c4397 27 [(0, .ref 465), (1, .int (nI k))] [.int (S 28 k)] sgX6_jurors_23_c4397d rfl ?_
    exact am_iret hF hO hret rfl dX6_jurors_27 ⟨rfl, by simp only [c2, not_false_eq_true, not_true_eq_false, and_self, and_true, true_and, and_false, false_and, true_or, or_true, or_false, false_or, or_self, ↓reduceIte]⟩
set_option maxRecDepth 100000 in
set_option maxHeartbeats 4000000 in
theorem c_r_weight_f {G : am_S} {T S : am_T} {o : Nat → Int64} {x : Int32} (hx : x < 0 ∨ nI 16 ≤ x) : am_D G yX6_weight (.code yX6_weight cX6_weight 2 (some .int) :: am_G) { frames := 3, cells := 0, slots := 0, locals := 63 } (hp T S o) [.ref 465, .int x] (hp T (st1 S 0 0 1) o) (some (.int 0)) := by
  refine am_of (by decide +kernel) (Nat.le_of_ble_eq_true rfl) ?_
  intro C hse hret hname hF hO
  subst hse
  refine am_go hF sgX6_weight_0_8bcf7 2 [(0, .ref 465), (1, .int x)] [.int x, .ref 465] sgX6_weight_0_8bcf7d rfl ?_
  refine am_dV hF hO [.int x] [] (c_asksPerson_f (S := S) hx) myX6_asksPerson vyX6_asksPerson lm_RX6_187 (hp_m _ _ _) rfl rfl 0 0 ⟨Nat.le_of_ble_eq_true rfl, Nat.le_of_ble_eq_true rfl⟩ ⟨Nat.le_of_ble_eq_true rfl, Nat.le_of_ble_eq_true rfl, Nat.le_of_ble_eq_true rfl, Nat.le_of_ble_eq_true rfl⟩ rfl (am_lv_ref (hp_m _ _ _) (am_lv_int am_lv_nil)) (Nat.le_of_ble_eq_true rfl) dX6_weight_2 [.int 0] rfl ?_
  refine am_ifeq hF 17 dX6_weight_5 (by decide) (fun _ => ?_) (fun h9 => False.elim ((by revert h9; decide)))
  refine am_go hF sgX6_weight_17_56c54 18 [(0, .ref 465), (1, .int x)] [.int 0] sgX6_weight_17_56c54d rfl ?_
  exact am_iret hF hO hret rfl dX6_weight_18 ⟨rfl, rfl⟩
set_option maxRecDepth 100000 in
set_option maxHeartbeats 4000000 in
theorem c_r_weight_t {G : am_S} {T S : am_T} {o : Nat → Int64} {p : Nat} (hp9 : p < 16) : am_D G yX6_weight (.code yX6_weight cX6_weight 2 (some .int) :: am_G) { frames := 3, cells := 0, slots := 0, locals := 63 } (hp T S o) [.ref 465, .int (nI p)] (hp T (st1 S 0 0 0) o) (some (.int (S 4 p))) := by
  refine am_of (by decide +kernel) (Nat.le_of_ble_eq_true rfl) ?_
  intro C hse hret hname hF hO
  subst hse
  refine am_go hF sgX6_weight_0_8bcf7 2 [(0, .ref 465), (1, .int (nI p))] [.int (nI p), .ref 465] sgX6_weight_0_8bcf7d rfl ?_
  refine am_dV hF hO [.int (nI p)] [] (c_asksPerson_t (S := S) (by omega)) myX6_asksPerson vyX6_asksPerson lm_RX6_187 (hp_m _ _ _) rfl rfl 0 0 ⟨Nat.le_of_ble_eq_true rfl, Nat.le_of_ble_eq_true rfl⟩ ⟨Nat.le_of_ble_eq_true rfl, Nat.le_of_ble_eq_true rfl, Nat.le_of_ble_eq_true rfl, Nat.le_of_ble_eq_true rfl⟩ rfl (am_lv_ref (hp_m _ _ _) (am_lv_int am_lv_nil)) (Nat.le_of_ble_eq_true rfl) dX6_weight_2 [.int 1] rfl ?_
  refine am_ifeq hF 17 dX6_weight_5 (by decide) (fun h9 => False.elim ((by revert h9; decide))) (fun _ => ?_)
  refine am_go hF sgX6_weight_8_34db8 9 [(0, .ref 465), (1, .int (nI p))] [.ref 465] sgX6_weight_8_34db8d rfl ?_
  refine sv_get hF 4 (by decide) rfl lf_RX6_13 (.ref 504) rfl dX6_weight_9 ?_
  refine am_go hF sgX6_weight_12_840bf 13 [(0, .ref 465), (1, .int (nI p))] [.int (nI p), .ref 504] sgX6_weight_12_840bfd rfl ?_
  refine sv_iald hF 4 (by decide) ⟨rfl, rfl, by decide⟩ p rfl (show p < 16 by omega) dX6_weight_13 ?_
  refine am_top (S 4 p) rfl ?_
  refine am_go hF sgX6_weight_14_c4397 18 [(0, .ref 465), (1, .int (nI p))] [.int (S 4 p)] sgX6_weight_14_c4397d rfl ?_
  exact am_iret hF hO hret rfl dX6_weight_18 ⟨rfl, rfl⟩
set_option maxRecDepth 100000 in
set_option maxHeartbeats 4000000 in
theorem c_r_judged_f {G : am_S} {T S : am_T} {o : Nat → Int64} {x : Int32} (hx : x < 0 ∨ nI 16 ≤ x) : am_D G yX6_judged (.code yX6_judged cX6_judged 2 (some .int) :: am_G) { frames := 3, cells := 0, slots := 0, locals := 63 } (hp T S o) [.ref 465, .int x] (hp T (st1 S 0 0 1) o) (some (.int 0)) := by
  refine am_of (by decide +kernel) (Nat.le_of_ble_eq_true rfl) ?_
  intro C hse hret hname hF hO
  subst hse
  refine am_go hF sgX6_judged_0_8bcf7 2 [(0, .ref 465), (1, .int x)] [.int x, .ref 465] sgX6_judged_0_8bcf7d rfl ?_
  refine am_dV hF hO [.int x] [] (c_asksPerson_f (S := S) hx) myX6_asksPerson vyX6_asksPerson lm_RX6_187 (hp_m _ _ _) rfl rfl 0 0 ⟨Nat.le_of_ble_eq_true rfl, Nat.le_of_ble_eq_true rfl⟩ ⟨Nat.le_of_ble_eq_true rfl, Nat.le_of_ble_eq_true rfl, Nat.le_of_ble_eq_true rfl, Nat.le_of_ble_eq_true rfl⟩ rfl (am_lv_ref (hp_m _ _ _) (am_lv_int am_lv_nil)) (Nat.le_of_ble_eq_true rfl) dX6_judged_2 [.int 0] rfl ?_
  refine am_ifeq hF 17 dX6_judged_5 (by decide) (fun _ => ?_) (fun h9 => False.elim ((by revert h9; decide)))
  refine am_go hF sgX6_judged_17_56c54 18 [(0, .ref 465), (1, .int x)] [.int 0] sgX6_judged_17_56c54d rfl ?_
  exact am_iret hF hO hret rfl dX6_judged_18 ⟨rfl, rfl⟩
set_option maxRecDepth 100000 in
set_option maxHeartbeats 4000000 in
theorem c_r_judged_t {G : am_S} {T S : am_T} {o : Nat → Int64} {p : Nat} (hp9 : p < 16) : am_D G yX6_judged (.code yX6_judged cX6_judged 2 (some .int) :: am_G) { frames := 3, cells := 0, slots := 0, locals := 63 } (hp T S o) [.ref 465, .int (nI p)] (hp T (st1 S 0 0 0) o) (some (.int (S 5 p))) := by
  refine am_of (by decide +kernel) (Nat.le_of_ble_eq_true rfl) ?_
  intro C hse hret hname hF hO
  subst hse
  refine am_go hF sgX6_judged_0_8bcf7 2 [(0, .ref 465), (1, .int (nI p))] [.int (nI p), .ref 465] sgX6_judged_0_8bcf7d rfl ?_
  refine am_dV hF hO [.int (nI p)] [] (c_asksPerson_t (S := S) (by omega)) myX6_asksPerson vyX6_asksPerson lm_RX6_187 (hp_m _ _ _) rfl rfl 0 0 ⟨Nat.le_of_ble_eq_true rfl, Nat.le_of_ble_eq_true rfl⟩ ⟨Nat.le_of_ble_eq_true rfl, Nat.le_of_ble_eq_true rfl, Nat.le_of_ble_eq_true rfl, Nat.le_of_ble_eq_true rfl⟩ rfl (am_lv_ref (hp_m _ _ _) (am_lv_int am_lv_nil)) (Nat.le_of_ble_eq_true rfl) dX6_judged_2 [.int 1] rfl ?_
  refine am_ifeq hF 17 dX6_judged_5 (by decide) (fun h9 => False.elim ((by revert h9; decide))) (fun _ => ?_)
  refine am_go hF sgX6_judged_8_34db8 9 [(0, .ref 465), (1, .int (nI p))] [.ref 465] sgX6_judged_8_34db8d rfl ?_
  refine sv_get hF 5 (by decide) rfl lf_RX6_16 (.ref 505) rfl dX6_judged_9 ?_
  refine am_go hF sgX6_judged_12_840bf 13 [(0, .ref 465), (1, .int (nI p))] [.int (nI p), .ref 505] sgX6_judged_12_840bfd rfl ?_
  refine sv_iald hF 5 (by decide) ⟨rfl, rfl, by decide⟩ p rfl (show p < 16 by omega) dX6_judged_13 ?_
  refine am_top (S 5 p) rfl ?_
  refine am_go hF sgX6_judged_14_c4397 18 [(0, .ref 465), (1, .int (nI p))] [.int (S 5 p)] sgX6_judged_14_c4397d rfl ?_
  exact am_iret hF hO hret rfl dX6_judged_18 ⟨rfl, rfl⟩
set_option maxRecDepth 100000 in
set_option maxHeartbeats 4000000 in
theorem c_r_bounces_f {G : am_S} {T S : am_T} {o : Nat → Int64} {x : Int32} (hx : x < 0 ∨ nI 16 ≤ x) : am_D G yX6_bounces (.code yX6_bounces cX6_bounces 2 (some .int) :: am_G) { frames := 3, cells := 0, slots := 0, locals := 63 } (hp T S o) [.ref 465, .int x] (hp T (st1 S 0 0 1) o) (some (.int 0)) := by
  refine am_of (by decide +kernel) (Nat.le_of_ble_eq_true rfl) ?_
  intro C hse hret hname hF hO
  subst hse
  refine am_go hF sgX6_bounces_0_8bcf7 2 [(0, .ref 465), (1, .int x)] [.int x, .ref 465] sgX6_bounces_0_8bcf7d rfl ?_
  refine am_dV hF hO [.int x] [] (c_asksPerson_f (S := S) hx) myX6_asksPerson vyX6_asksPerson lm_RX6_187 (hp_m _ _ _) rfl rfl 0 0 ⟨Nat.le_of_ble_eq_true rfl, Nat.le_of_ble_eq_true rfl⟩ ⟨Nat.le_of_ble_eq_true rfl, Nat.le_of_ble_eq_true rfl, Nat.le_of_ble_eq_true rfl, Nat.le_of_ble_eq_true rfl⟩ rfl (am_lv_ref (hp_m _ _ _) (am_lv_int am_lv_nil)) (Nat.le_of_ble_eq_true rfl) dX6_bounces_2 [.int 0] rfl ?_
  refine am_ifeq hF 17 dX6_bounces_5 (by decide) (fun _ => ?_) (fun h9 => False.elim ((by revert h9; decide)))
  refine am_go hF sgX6_bounces_17_56c54 18 [(0, .ref 465), (1, .int x)] [.int 0] sgX6_bounces_17_56c54d rfl ?_
  exact am_iret hF hO hret rfl dX6_bounces_18 ⟨rfl, rfl⟩
set_option maxRecDepth 100000 in
set_option maxHeartbeats 4000000 in
theorem c_r_bounces_t {G : am_S} {T S : am_T} {o : Nat → Int64} {p : Nat} (hp9 : p < 16) : am_D G yX6_bounces (.code yX6_bounces cX6_bounces 2 (some .int) :: am_G) { frames := 3, cells := 0, slots := 0, locals := 63 } (hp T S o) [.ref 465, .int (nI p)] (hp T (st1 S 0 0 0) o) (some (.int (S 6 p))) := by
  refine am_of (by decide +kernel) (Nat.le_of_ble_eq_true rfl) ?_
  intro C hse hret hname hF hO
  subst hse
  refine am_go hF sgX6_bounces_0_8bcf7 2 [(0, .ref 465), (1, .int (nI p))] [.int (nI p), .ref 465] sgX6_bounces_0_8bcf7d rfl ?_
  refine am_dV hF hO [.int (nI p)] [] (c_asksPerson_t (S := S) (by omega)) myX6_asksPerson vyX6_asksPerson lm_RX6_187 (hp_m _ _ _) rfl rfl 0 0 ⟨Nat.le_of_ble_eq_true rfl, Nat.le_of_ble_eq_true rfl⟩ ⟨Nat.le_of_ble_eq_true rfl, Nat.le_of_ble_eq_true rfl, Nat.le_of_ble_eq_true rfl, Nat.le_of_ble_eq_true rfl⟩ rfl (am_lv_ref (hp_m _ _ _) (am_lv_int am_lv_nil)) (Nat.le_of_ble_eq_true rfl) dX6_bounces_2 [.int 1] rfl ?_
  refine am_ifeq hF 17 dX6_bounces_5 (by decide) (fun h9 => False.elim ((by revert h9; decide))) (fun _ => ?_)
  refine am_go hF sgX6_bounces_8_34db8 9 [(0, .ref 465), (1, .int (nI p))] [.ref 465] sgX6_bounces_8_34db8d rfl ?_
  refine sv_get hF 6 (by decide) rfl lf_RX6_19 (.ref 506) rfl dX6_bounces_9 ?_
  refine am_go hF sgX6_bounces_12_840bf 13 [(0, .ref 465), (1, .int (nI p))] [.int (nI p), .ref 506] sgX6_bounces_12_840bfd rfl ?_
  refine sv_iald hF 6 (by decide) ⟨rfl, rfl, by decide⟩ p rfl (show p < 16 by omega) dX6_bounces_13 ?_
  refine am_top (S 6 p) rfl ?_
  refine am_go hF sgX6_bounces_14_c4397 18 [(0, .ref 465), (1, .int (nI p))] [.int (S 6 p)] sgX6_bounces_14_c4397d rfl ?_
  exact am_iret hF hO hret rfl dX6_bounces_18 ⟨rfl, rfl⟩
set_option maxRecDepth 100000 in
set_option maxHeartbeats 4000000 in
theorem c_r_box_f {G : am_S} {T S : am_T} {o : Nat → Int64} {x : Int32} (hx : x < 0 ∨ nI 16 ≤ x) : am_D G yX6_box (.code yX6_box cX6_box 2 (some .int) :: am_G) { frames := 3, cells := 0, slots := 0, locals := 63 } (hp T S o) [.ref 465, .int x] (hp T (st1 S 0 0 1) o) (some (.int 0)) := by
  refine am_of (by decide +kernel) (Nat.le_of_ble_eq_true rfl) ?_
  intro C hse hret hname hF hO
  subst hse
  refine am_go hF sgX6_box_0_8bcf7 2 [(0, .ref 465), (1, .int x)] [.int x, .ref 465] sgX6_box_0_8bcf7d rfl ?_
  refine am_dV hF hO [.int x] [] (c_asksPerson_f (S := S) hx) myX6_asksPerson vyX6_asksPerson lm_RX6_187 (hp_m _ _ _) rfl rfl 0 0 ⟨Nat.le_of_ble_eq_true rfl, Nat.le_of_ble_eq_true rfl⟩ ⟨Nat.le_of_ble_eq_true rfl, Nat.le_of_ble_eq_true rfl, Nat.le_of_ble_eq_true rfl, Nat.le_of_ble_eq_true rfl⟩ rfl (am_lv_ref (hp_m _ _ _) (am_lv_int am_lv_nil)) (Nat.le_of_ble_eq_true rfl) dX6_box_2 [.int 0] rfl ?_
  refine am_ifeq hF 17 dX6_box_5 (by decide) (fun _ => ?_) (fun h9 => False.elim ((by revert h9; decide)))
  refine am_go hF sgX6_box_17_56c54 18 [(0, .ref 465), (1, .int x)] [.int 0] sgX6_box_17_56c54d rfl ?_
  exact am_iret hF hO hret rfl dX6_box_18 ⟨rfl, rfl⟩
set_option maxRecDepth 100000 in
set_option maxHeartbeats 4000000 in
theorem c_r_box_t {G : am_S} {T S : am_T} {o : Nat → Int64} {p : Nat} (hp9 : p < 16) : am_D G yX6_box (.code yX6_box cX6_box 2 (some .int) :: am_G) { frames := 3, cells := 0, slots := 0, locals := 63 } (hp T S o) [.ref 465, .int (nI p)] (hp T (st1 S 0 0 0) o) (some (.int (S 7 p))) := by
  refine am_of (by decide +kernel) (Nat.le_of_ble_eq_true rfl) ?_
  intro C hse hret hname hF hO
  subst hse
  refine am_go hF sgX6_box_0_8bcf7 2 [(0, .ref 465), (1, .int (nI p))] [.int (nI p), .ref 465] sgX6_box_0_8bcf7d rfl ?_
  refine am_dV hF hO [.int (nI p)] [] (c_asksPerson_t (S := S) (by omega)) myX6_asksPerson vyX6_asksPerson lm_RX6_187 (hp_m _ _ _) rfl rfl 0 0 ⟨Nat.le_of_ble_eq_true rfl, Nat.le_of_ble_eq_true rfl⟩ ⟨Nat.le_of_ble_eq_true rfl, Nat.le_of_ble_eq_true rfl, Nat.le_of_ble_eq_true rfl, Nat.le_of_ble_eq_true rfl⟩ rfl (am_lv_ref (hp_m _ _ _) (am_lv_int am_lv_nil)) (Nat.le_of_ble_eq_true rfl) dX6_box_2 [.int 1] rfl ?_
  refine am_ifeq hF 17 dX6_box_5 (by decide) (fun h9 => False.elim ((by revert h9; decide))) (fun _ => ?_)
  refine am_go hF sgX6_box_8_34db8 9 [(0, .ref 465), (1, .int (nI p))] [.ref 465] sgX6_box_8_34db8d rfl ?_
  refine sv_get hF 7 (by decide) rfl lf_RX6_22 (.ref 507) rfl dX6_box_9 ?_
  refine am_go hF sgX6_box_12_840bf 13 [(0, .ref 465), (1, .int (nI p))] [.int (nI p), .ref 507] sgX6_box_12_840bfd rfl ?_
  refine sv_iald hF 7 (by decide) ⟨rfl, rfl, by decide⟩ p rfl (show p < 16 by omega) dX6_box_13 ?_
  refine am_top (S 7 p) rfl ?_
  refine am_go hF sgX6_box_14_c4397 18 [(0, .ref 465), (1, .int (nI p))] [.int (S 7 p)] sgX6_box_14_c4397d rfl ?_
  exact am_iret hF hO hret rfl dX6_box_18 ⟨rfl, rfl⟩
set_option maxRecDepth 100000 in
set_option maxHeartbeats 4000000 in
theorem c_r_thrown {G : am_S} {T S : am_T} {o : Nat → Int64}  : am_D G yX6_thrown (.code yX6_thrown cX6_thrown 1 (some .int) :: am_G) { frames := 0, cells := 0, slots := 0, locals := 0 } (hp T S o) [.ref 465] (hp T S o) (some (.int (S 0 0))) := by
  refine am_of (by decide +kernel) (Nat.le_of_ble_eq_true rfl) ?_
  intro C hse hret hname hF hO
  subst hse
  refine am_go hF sgX6_thrown_0_34db8 1 [(0, .ref 465)] [.ref 465] sgX6_thrown_0_34db8d rfl ?_
  refine sv_get hF 0 (by decide) rfl lf_RX6_104 (.int (S 0 0)) rfl dX6_thrown_1 ?_
  exact am_iret hF hO hret rfl dX6_thrown_4 ⟨rfl, rfl⟩
set_option maxRecDepth 100000 in
set_option maxHeartbeats 4000000 in
theorem c_r_mails {G : am_S} {T S : am_T} {o : Nat → Int64} {m : Nat} (hm : S 17 0 = nI m) (hm80 : m ≤ 80) : am_D G yX6_mails (.code yX6_mails cX6_mails 1 (some .int) :: am_G) { frames := 0, cells := 0, slots := 0, locals := 0 } (hp T S o) [.ref 465] (hp T (st1 S 0 0 0) o) (some (.int (nI m))) := by
  refine am_of (by decide +kernel) (Nat.le_of_ble_eq_true rfl) ?_
  intro C hse hret hname hF hO
  subst hse
  refine am_go hF sgX6_mails_0_9cf18 2 [(0, .ref 465)] [.int 0, .ref 465] sgX6_mails_0_9cf18d rfl ?_
  refine sv_put hF 0 (by decide) rfl rfl rfl lf_RX6_104 dX6_mails_2 ?_
  refine am_go hF sgX6_mails_5_34db8 6 [(0, .ref 465)] [.ref 465] sgX6_mails_5_34db8d rfl ?_
  refine sv_get hF 17 (by decide) rfl lf_RX6_115 (.int (S 17 0)) rfl dX6_mails_6 ?_
  refine am_top (nI m) hm ?_
  exact am_iret hF hO hret rfl dX6_mails_9 ⟨rfl, rfl⟩
end
section
theorem ii_0 {n : Nat} {x lo : Int32} (h : x = nI n) (hn : n < 2 ^ 31) (hl : lo = 0) : ¬ x < lo := by rw [h, hl]; exact nI_pos hn
theorem ii_1 {n m : Nat} {x hi : Int32} (h : x = nI n) (hn : n ≤ m) (hm : m < 2 ^ 31) (hh : hi = nI m) : ¬ hi < x := by rw [h, hh]; exact nI_nlt hn hm
theorem ii_f {x : Int32} {m : Nat} (h : x < 0 ∨ nI (m + 1) ≤ x) (hm : m + 1 < 2 ^ 31) {hi : Int32} (hh : hi = nI m) : x < 0 ∨ hi < x := by
  rcases h with h | h
  · exact Or.inl h
  · refine Or.inr (Int32.lt_of_lt_of_le ?_ h)
    rw [hh]
    exact nI_lt (by omega) hm
theorem b1_nar (b : Bool) : narrow .boolean (.int (if b = true then 1 else 0)) = .int (if b = true then 1 else 0) := by cases b <;> rfl
def sgX6_list_0_8bcf7 : List Instr := [.aload_n 0, .iload_n 1]
theorem sgX6_list_0_8bcf7d : am_dec cX6_list 0 sgX6_list_0_8bcf7 = true := by decide +kernel
theorem dX6_list_2 : decode cX6_list 2 = .ok (.invokestatic 118, 3) := by decide +kernel
theorem dX6_list_5 : decode cX6_list 5 = .ok (.ifCond .ne 7, 3) := by decide +kernel
def sgX6_list_8_102f3 : List Instr := [.iconst 1, .goto 17]
theorem sgX6_list_8_102f3d : am_dec cX6_list 8 sgX6_list_8_102f3 = true := by decide +kernel
theorem dX6_list_26 : decode cX6_list 26 = .ok (.putfield 104, 3) := by decide +kernel
def sgX6_list_29_34db8 : List Instr := [.aload_n 0]
theorem sgX6_list_29_34db8d : am_dec cX6_list 29 sgX6_list_29_34db8 = true := by decide +kernel
theorem dX6_list_30 : decode cX6_list 30 = .ok (.getfield 104, 3) := by decide +kernel
theorem dX6_list_33 : decode cX6_list 33 = .ok (.ifCond .le 5, 3) := by decide +kernel
def sgX6_list_36_56c54 : List Instr := [.iconst 0]
theorem sgX6_list_36_56c54d : am_dec cX6_list 36 sgX6_list_36_56c54 = true := by decide +kernel
theorem dX6_list_37 : decode cX6_list 37 = .ok (.ireturn, 1) := by decide +kernel
def sgX6_list_12_34db8 : List Instr := [.aload_n 0]
theorem sgX6_list_12_34db8d : am_dec cX6_list 12 sgX6_list_12_34db8 = true := by decide +kernel
theorem dX6_list_13 : decode cX6_list 13 = .ok (.getfield 112, 3) := by decide +kernel
def sgX6_list_16_ee951 : List Instr := [.bipush 10]
theorem sgX6_list_16_ee951d : am_dec cX6_list 16 sgX6_list_16_ee951 = true := by decide +kernel
theorem dX6_list_18 : decode cX6_list 18 = .ok (.if_icmp .ne 7, 3) := by decide +kernel
def sgX6_list_21_abe91 : List Instr := [.iconst 2, .goto 4]
theorem sgX6_list_21_abe91d : am_dec cX6_list 21 sgX6_list_21_abe91 = true := by decide +kernel
def sgX6_list_25_56c54 : List Instr := [.iconst 0]
theorem sgX6_list_25_56c54d : am_dec cX6_list 25 sgX6_list_25_56c54 = true := by decide +kernel
def sgX6_list_38_34db8 : List Instr := [.aload_n 0]
theorem sgX6_list_38_34db8d : am_dec cX6_list 38 sgX6_list_38_34db8 = true := by decide +kernel
theorem dX6_list_39 : decode cX6_list 39 = .ok (.getfield 28, 3) := by decide +kernel
def sgX6_list_42_34db8 : List Instr := [.aload_n 0]
theorem sgX6_list_42_34db8d : am_dec cX6_list 42 sgX6_list_42_34db8 = true := by decide +kernel
theorem dX6_list_43 : decode cX6_list 43 = .ok (.getfield 112, 3) := by decide +kernel
def sgX6_list_46_840bf : List Instr := [.iload_n 1]
theorem sgX6_list_46_840bfd : am_dec cX6_list 46 sgX6_list_46_840bf = true := by decide +kernel
theorem dX6_list_47 : decode cX6_list 47 = .ok (.iastore, 1) := by decide +kernel
def sgX6_list_48_34db8 : List Instr := [.aload_n 0]
theorem sgX6_list_48_34db8d : am_dec cX6_list 48 sgX6_list_48_34db8 = true := by decide +kernel
theorem dX6_list_49 : decode cX6_list 49 = .ok (.getfield 31, 3) := by decide +kernel
def sgX6_list_52_34db8 : List Instr := [.aload_n 0]
theorem sgX6_list_52_34db8d : am_dec cX6_list 52 sgX6_list_52_34db8 = true := by decide +kernel
theorem dX6_list_53 : decode cX6_list 53 = .ok (.getfield 112, 3) := by decide +kernel
def sgX6_list_56_ee951 : List Instr := [.bipush 10]
theorem sgX6_list_56_ee951d : am_dec cX6_list 56 sgX6_list_56_ee951 = true := by decide +kernel
theorem dX6_list_58 : decode cX6_list 58 = .ok (.iastore, 1) := by decide +kernel
def sgX6_list_59_34db8 : List Instr := [.aload_n 0]
theorem sgX6_list_59_34db8d : am_dec cX6_list 59 sgX6_list_59_34db8 = true := by decide +kernel
theorem dX6_list_60 : decode cX6_list 60 = .ok (.getfield 34, 3) := by decide +kernel
def sgX6_list_63_34db8 : List Instr := [.aload_n 0]
theorem sgX6_list_63_34db8d : am_dec cX6_list 63 sgX6_list_63_34db8 = true := by decide +kernel
theorem dX6_list_64 : decode cX6_list 64 = .ok (.getfield 112, 3) := by decide +kernel
def sgX6_list_67_3252e : List Instr := [.bipush 7]
theorem sgX6_list_67_3252ed : am_dec cX6_list 67 sgX6_list_67_3252e = true := by decide +kernel
theorem dX6_list_69 : decode cX6_list 69 = .ok (.iastore, 1) := by decide +kernel
def sgX6_list_70_01fef : List Instr := [.iconst 0, .istore_n 2]
theorem sgX6_list_70_01fefd : am_dec cX6_list 70 sgX6_list_70_01fef = true := by decide +kernel
def sgX6_list_72_32dd9 : List Instr := [.iload_n 2, .bipush 16]
theorem sgX6_list_72_32dd9d : am_dec cX6_list 72 sgX6_list_72_32dd9 = true := by decide +kernel
theorem dX6_list_75 : decode cX6_list 75 = .ok (.if_icmp .ge 24, 3) := by decide +kernel
def sgX6_list_99_da752 : List Instr := [.aload_n 0, .dup]
theorem sgX6_list_99_da752d : am_dec cX6_list 99 sgX6_list_99_da752 = true := by decide +kernel
theorem dX6_list_101 : decode cX6_list 101 = .ok (.getfield 112, 3) := by decide +kernel
def sgX6_list_104_c7176 : List Instr := [.iconst 1, .iadd]
theorem sgX6_list_104_c7176d : am_dec cX6_list 104 sgX6_list_104_c7176 = true := by decide +kernel
theorem dX6_list_106 : decode cX6_list 106 = .ok (.putfield 112, 3) := by decide +kernel
def sgX6_list_109_34db8 : List Instr := [.aload_n 0]
theorem sgX6_list_109_34db8d : am_dec cX6_list 109 sgX6_list_109_34db8 = true := by decide +kernel
theorem dX6_list_110 : decode cX6_list 110 = .ok (.getfield 112, 3) := by decide +kernel
def sgX6_list_113_d80e0 : List Instr := [.iconst 1, .isub]
theorem sgX6_list_113_d80e0d : am_dec cX6_list 113 sgX6_list_113_d80e0 = true := by decide +kernel
theorem dX6_list_115 : decode cX6_list 115 = .ok (.ireturn, 1) := by decide +kernel
def sgX6_list_78_34db8 : List Instr := [.aload_n 0]
theorem sgX6_list_78_34db8d : am_dec cX6_list 78 sgX6_list_78_34db8 = true := by decide +kernel
theorem dX6_list_79 : decode cX6_list 79 = .ok (.getfield 47, 3) := by decide +kernel
def sgX6_list_82_55b4e : List Instr := [.bipush 16, .aload_n 0]
theorem sgX6_list_82_55b4ed : am_dec cX6_list 82 sgX6_list_82_55b4e = true := by decide +kernel
theorem dX6_list_85 : decode cX6_list 85 = .ok (.getfield 112, 3) := by decide +kernel
def sgX6_list_88_c1fe6 : List Instr := [.imul, .iload_n 2, .iadd, .iconst (-1)]
theorem sgX6_list_88_c1fe6d : am_dec cX6_list 88 sgX6_list_88_c1fe6 = true := by decide +kernel
theorem dX6_list_92 : decode cX6_list 92 = .ok (.iastore, 1) := by decide +kernel
def sgX6_list_93_5d3eb : List Instr := [.iinc 2 1, .goto (-24)]
theorem sgX6_list_93_5d3ebd : am_dec cX6_list 93 sgX6_list_93_5d3eb = true := by decide +kernel
def sgX6_join_0_6b3ba : List Instr := [.aload_n 0, .aload_n 0, .iload_n 1]
theorem sgX6_join_0_6b3bad : am_dec cX6_join 0 sgX6_join_0_6b3ba = true := by decide +kernel
theorem dX6_join_3 : decode cX6_join 3 = .ok (.invokevirtual 122, 3) := by decide +kernel
theorem dX6_join_6 : decode cX6_join 6 = .ok (.ifCond .eq 10, 3) := by decide +kernel
def sgX6_join_16_102f3 : List Instr := [.iconst 1, .goto 17]
theorem sgX6_join_16_102f3d : am_dec cX6_join 16 sgX6_join_16_102f3 = true := by decide +kernel
theorem dX6_join_34 : decode cX6_join 34 = .ok (.putfield 104, 3) := by decide +kernel
def sgX6_join_37_34db8 : List Instr := [.aload_n 0]
theorem sgX6_join_37_34db8d : am_dec cX6_join 37 sgX6_join_37_34db8 = true := by decide +kernel
theorem dX6_join_38 : decode cX6_join 38 = .ok (.getfield 104, 3) := by decide +kernel
theorem dX6_join_41 : decode cX6_join 41 = .ok (.ifCond .le 5, 3) := by decide +kernel
def sgX6_join_44_56c54 : List Instr := [.iconst 0]
theorem sgX6_join_44_56c54d : am_dec cX6_join 44 sgX6_join_44_56c54 = true := by decide +kernel
theorem dX6_join_45 : decode cX6_join 45 = .ok (.ireturn, 1) := by decide +kernel
def sgX6_join_9_f8a59 : List Instr := [.iload_n 2]
theorem sgX6_join_9_f8a59d : am_dec cX6_join 9 sgX6_join_9_f8a59 = true := by decide +kernel
theorem dX6_join_10 : decode cX6_join 10 = .ok (.invokestatic 118, 3) := by decide +kernel
theorem dX6_join_13 : decode cX6_join 13 = .ok (.ifCond .ne 7, 3) := by decide +kernel
def sgX6_join_20_1d545 : List Instr := [.iload_n 3, .iconst 0, .iconst 1]
theorem sgX6_join_20_1d545d : am_dec cX6_join 20 sgX6_join_20_1d545 = true := by decide +kernel
theorem dX6_join_23 : decode cX6_join 23 = .ok (.invokestatic 108, 3) := by decide +kernel
theorem dX6_join_26 : decode cX6_join 26 = .ok (.ifCond .eq 7, 3) := by decide +kernel
def sgX6_join_33_d5620 : List Instr := [.iconst 2]
theorem sgX6_join_33_d5620d : am_dec cX6_join 33 sgX6_join_33_d5620 = true := by decide +kernel
def sgX6_join_29_1cbe9 : List Instr := [.iconst 0, .goto 4]
theorem sgX6_join_29_1cbe9d : am_dec cX6_join 29 sgX6_join_29_1cbe9 = true := by decide +kernel
def sgX6_join_46_c81f7 : List Instr := [.aload_n 0, .aload_n 0]
theorem sgX6_join_46_c81f7d : am_dec cX6_join 46 sgX6_join_46_c81f7 = true := by decide +kernel
theorem dX6_join_48 : decode cX6_join 48 = .ok (.getfield 47, 3) := by decide +kernel
def sgX6_join_51_b6bf4 : List Instr := [.bipush 16, .iload_n 1, .imul, .iload_n 2, .iadd]
theorem sgX6_join_51_b6bf4d : am_dec cX6_join 51 sgX6_join_51_b6bf4 = true := by decide +kernel
theorem dX6_join_57 : decode cX6_join 57 = .ok (.iaload, 1) := by decide +kernel
def sgX6_join_58_5ff24 : List Instr := [.iconst (-1)]
theorem sgX6_join_58_5ff24d : am_dec cX6_join 58 sgX6_join_58_5ff24 = true := by decide +kernel
theorem dX6_join_59 : decode cX6_join 59 = .ok (.if_icmp .ne 7, 3) := by decide +kernel
def sgX6_join_66_800cc : List Instr := [.iconst 3]
theorem sgX6_join_66_800ccd : am_dec cX6_join 66 sgX6_join_66_800cc = true := by decide +kernel
theorem dX6_join_67 : decode cX6_join 67 = .ok (.putfield 104, 3) := by decide +kernel
def sgX6_join_70_34db8 : List Instr := [.aload_n 0]
theorem sgX6_join_70_34db8d : am_dec cX6_join 70 sgX6_join_70_34db8 = true := by decide +kernel
theorem dX6_join_71 : decode cX6_join 71 = .ok (.getfield 104, 3) := by decide +kernel
theorem dX6_join_74 : decode cX6_join 74 = .ok (.ifCond .le 5, 3) := by decide +kernel
def sgX6_join_77_56c54 : List Instr := [.iconst 0]
theorem sgX6_join_77_56c54d : am_dec cX6_join 77 sgX6_join_77_56c54 = true := by decide +kernel
theorem dX6_join_78 : decode cX6_join 78 = .ok (.ireturn, 1) := by decide +kernel
def sgX6_join_62_1cbe9 : List Instr := [.iconst 0, .goto 4]
theorem sgX6_join_62_1cbe9d : am_dec cX6_join 62 sgX6_join_62_1cbe9 = true := by decide +kernel
def sgX6_join_79_34db8 : List Instr := [.aload_n 0]
theorem sgX6_join_79_34db8d : am_dec cX6_join 79 sgX6_join_79_34db8 = true := by decide +kernel
theorem dX6_join_80 : decode cX6_join 80 = .ok (.getfield 47, 3) := by decide +kernel
def sgX6_join_83_e725d : List Instr := [.bipush 16, .iload_n 1, .imul, .iload_n 2, .iadd, .iload_n 3]
theorem sgX6_join_83_e725dd : am_dec cX6_join 83 sgX6_join_83_e725d = true := by decide +kernel
theorem dX6_join_90 : decode cX6_join 90 = .ok (.iastore, 1) := by decide +kernel
def sgX6_join_91_8bcf7 : List Instr := [.aload_n 0, .iload_n 1]
theorem sgX6_join_91_8bcf7d : am_dec cX6_join 91 sgX6_join_91_8bcf7 = true := by decide +kernel
theorem dX6_join_93 : decode cX6_join 93 = .ok (.invokevirtual 125, 3) := by decide +kernel
theorem dX6_join_96 : decode cX6_join 96 = .ok (.ireturn, 1) := by decide +kernel
def sgX6_mode_0_6b3ba : List Instr := [.aload_n 0, .aload_n 0, .iload_n 1]
theorem sgX6_mode_0_6b3bad : am_dec cX6_mode 0 sgX6_mode_0_6b3ba = true := by decide +kernel
theorem dX6_mode_3 : decode cX6_mode 3 = .ok (.invokevirtual 122, 3) := by decide +kernel
theorem dX6_mode_6 : decode cX6_mode 6 = .ok (.ifCond .eq 10, 3) := by decide +kernel
def sgX6_mode_16_102f3 : List Instr := [.iconst 1, .goto 17]
theorem sgX6_mode_16_102f3d : am_dec cX6_mode 16 sgX6_mode_16_102f3 = true := by decide +kernel
theorem dX6_mode_34 : decode cX6_mode 34 = .ok (.putfield 104, 3) := by decide +kernel
def sgX6_mode_37_34db8 : List Instr := [.aload_n 0]
theorem sgX6_mode_37_34db8d : am_dec cX6_mode 37 sgX6_mode_37_34db8 = true := by decide +kernel
theorem dX6_mode_38 : decode cX6_mode 38 = .ok (.getfield 104, 3) := by decide +kernel
theorem dX6_mode_41 : decode cX6_mode 41 = .ok (.ifCond .le 5, 3) := by decide +kernel
def sgX6_mode_44_56c54 : List Instr := [.iconst 0]
theorem sgX6_mode_44_56c54d : am_dec cX6_mode 44 sgX6_mode_44_56c54 = true := by decide +kernel
theorem dX6_mode_45 : decode cX6_mode 45 = .ok (.ireturn, 1) := by decide +kernel
def sgX6_mode_9_f8a59 : List Instr := [.iload_n 2]
theorem sgX6_mode_9_f8a59d : am_dec cX6_mode 9 sgX6_mode_9_f8a59 = true := by decide +kernel
theorem dX6_mode_10 : decode cX6_mode 10 = .ok (.invokestatic 118, 3) := by decide +kernel
theorem dX6_mode_13 : decode cX6_mode 13 = .ok (.ifCond .ne 7, 3) := by decide +kernel
def sgX6_mode_20_1d545 : List Instr := [.iload_n 3, .iconst 0, .iconst 1]
theorem sgX6_mode_20_1d545d : am_dec cX6_mode 20 sgX6_mode_20_1d545 = true := by decide +kernel
theorem dX6_mode_23 : decode cX6_mode 23 = .ok (.invokestatic 108, 3) := by decide +kernel
theorem dX6_mode_26 : decode cX6_mode 26 = .ok (.ifCond .eq 7, 3) := by decide +kernel
def sgX6_mode_33_d5620 : List Instr := [.iconst 2]
theorem sgX6_mode_33_d5620d : am_dec cX6_mode 33 sgX6_mode_33_d5620 = true := by decide +kernel
def sgX6_mode_29_1cbe9 : List Instr := [.iconst 0, .goto 4]
theorem sgX6_mode_29_1cbe9d : am_dec cX6_mode 29 sgX6_mode_29_1cbe9 = true := by decide +kernel
def sgX6_mode_46_34db8 : List Instr := [.aload_n 0]
theorem sgX6_mode_46_34db8d : am_dec cX6_mode 46 sgX6_mode_46_34db8 = true := by decide +kernel
theorem dX6_mode_47 : decode cX6_mode 47 = .ok (.getfield 47, 3) := by decide +kernel
def sgX6_mode_50_b6bf4 : List Instr := [.bipush 16, .iload_n 1, .imul, .iload_n 2, .iadd]
theorem sgX6_mode_50_b6bf4d : am_dec cX6_mode 50 sgX6_mode_50_b6bf4 = true := by decide +kernel
theorem dX6_mode_56 : decode cX6_mode 56 = .ok (.iaload, 1) := by decide +kernel
def sgX6_mode_57_71957 : List Instr := [.istore 4, .aload_n 0, .iload 4, .iconst (-1)]
theorem sgX6_mode_57_71957d : am_dec cX6_mode 57 sgX6_mode_57_71957 = true := by decide +kernel
theorem dX6_mode_63 : decode cX6_mode 63 = .ok (.if_icmp .ne 7, 3) := by decide +kernel
def sgX6_mode_66_5c8a0 : List Instr := [.iconst 3, .goto 4]
theorem sgX6_mode_66_5c8a0d : am_dec cX6_mode 66 sgX6_mode_66_5c8a0 = true := by decide +kernel
theorem dX6_mode_71 : decode cX6_mode 71 = .ok (.putfield 104, 3) := by decide +kernel
def sgX6_mode_74_34db8 : List Instr := [.aload_n 0]
theorem sgX6_mode_74_34db8d : am_dec cX6_mode 74 sgX6_mode_74_34db8 = true := by decide +kernel
theorem dX6_mode_75 : decode cX6_mode 75 = .ok (.getfield 104, 3) := by decide +kernel
theorem dX6_mode_78 : decode cX6_mode 78 = .ok (.ifCond .le 5, 3) := by decide +kernel
def sgX6_mode_81_56c54 : List Instr := [.iconst 0]
theorem sgX6_mode_81_56c54d : am_dec cX6_mode 81 sgX6_mode_81_56c54 = true := by decide +kernel
theorem dX6_mode_82 : decode cX6_mode 82 = .ok (.ireturn, 1) := by decide +kernel
def sgX6_mode_70_56c54 : List Instr := [.iconst 0]
theorem sgX6_mode_70_56c54d : am_dec cX6_mode 70 sgX6_mode_70_56c54 = true := by decide +kernel
def sgX6_mode_83_34db8 : List Instr := [.aload_n 0]
theorem sgX6_mode_83_34db8d : am_dec cX6_mode 83 sgX6_mode_83_34db8 = true := by decide +kernel
theorem dX6_mode_84 : decode cX6_mode 84 = .ok (.getfield 47, 3) := by decide +kernel
def sgX6_mode_87_e725d : List Instr := [.bipush 16, .iload_n 1, .imul, .iload_n 2, .iadd, .iload_n 3]
theorem sgX6_mode_87_e725dd : am_dec cX6_mode 87 sgX6_mode_87_e725d = true := by decide +kernel
theorem dX6_mode_94 : decode cX6_mode 94 = .ok (.iastore, 1) := by decide +kernel
def sgX6_mode_95_c6742 : List Instr := [.iload 4]
theorem sgX6_mode_95_c6742d : am_dec cX6_mode 95 sgX6_mode_95_c6742 = true := by decide +kernel
theorem dX6_mode_97 : decode cX6_mode 97 = .ok (.ireturn, 1) := by decide +kernel
def sgX6_leave_0_6b3ba : List Instr := [.aload_n 0, .aload_n 0, .iload_n 1]
theorem sgX6_leave_0_6b3bad : am_dec cX6_leave 0 sgX6_leave_0_6b3ba = true := by decide +kernel
theorem dX6_leave_3 : decode cX6_leave 3 = .ok (.invokevirtual 122, 3) := by decide +kernel
theorem dX6_leave_6 : decode cX6_leave 6 = .ok (.ifCond .eq 14, 3) := by decide +kernel
def sgX6_leave_20_4de0a : List Instr := [.iconst 1]
theorem sgX6_leave_20_4de0ad : am_dec cX6_leave 20 sgX6_leave_20_4de0a = true := by decide +kernel
theorem dX6_leave_21 : decode cX6_leave 21 = .ok (.putfield 104, 3) := by decide +kernel
def sgX6_leave_24_34db8 : List Instr := [.aload_n 0]
theorem sgX6_leave_24_34db8d : am_dec cX6_leave 24 sgX6_leave_24_34db8 = true := by decide +kernel
theorem dX6_leave_25 : decode cX6_leave 25 = .ok (.getfield 104, 3) := by decide +kernel
theorem dX6_leave_28 : decode cX6_leave 28 = .ok (.ifCond .le 5, 3) := by decide +kernel
def sgX6_leave_31_56c54 : List Instr := [.iconst 0]
theorem sgX6_leave_31_56c54d : am_dec cX6_leave 31 sgX6_leave_31_56c54 = true := by decide +kernel
theorem dX6_leave_32 : decode cX6_leave 32 = .ok (.ireturn, 1) := by decide +kernel
def sgX6_leave_9_f8a59 : List Instr := [.iload_n 2]
theorem sgX6_leave_9_f8a59d : am_dec cX6_leave 9 sgX6_leave_9_f8a59 = true := by decide +kernel
theorem dX6_leave_10 : decode cX6_leave 10 = .ok (.invokestatic 118, 3) := by decide +kernel
theorem dX6_leave_13 : decode cX6_leave 13 = .ok (.ifCond .eq 7, 3) := by decide +kernel
def sgX6_leave_16_1cbe9 : List Instr := [.iconst 0, .goto 4]
theorem sgX6_leave_16_1cbe9d : am_dec cX6_leave 16 sgX6_leave_16_1cbe9 = true := by decide +kernel
def sgX6_leave_33_34db8 : List Instr := [.aload_n 0]
theorem sgX6_leave_33_34db8d : am_dec cX6_leave 33 sgX6_leave_33_34db8 = true := by decide +kernel
theorem dX6_leave_34 : decode cX6_leave 34 = .ok (.getfield 47, 3) := by decide +kernel
def sgX6_leave_37_b6bf4 : List Instr := [.bipush 16, .iload_n 1, .imul, .iload_n 2, .iadd]
theorem sgX6_leave_37_b6bf4d : am_dec cX6_leave 37 sgX6_leave_37_b6bf4 = true := by decide +kernel
theorem dX6_leave_43 : decode cX6_leave 43 = .ok (.iaload, 1) := by decide +kernel
def sgX6_leave_44_8d6bf : List Instr := [.istore_n 3, .aload_n 0, .iload_n 3, .iconst (-1)]
theorem sgX6_leave_44_8d6bfd : am_dec cX6_leave 44 sgX6_leave_44_8d6bf = true := by decide +kernel
theorem dX6_leave_48 : decode cX6_leave 48 = .ok (.if_icmp .ne 7, 3) := by decide +kernel
def sgX6_leave_51_abe91 : List Instr := [.iconst 2, .goto 4]
theorem sgX6_leave_51_abe91d : am_dec cX6_leave 51 sgX6_leave_51_abe91 = true := by decide +kernel
theorem dX6_leave_56 : decode cX6_leave 56 = .ok (.putfield 104, 3) := by decide +kernel
def sgX6_leave_59_34db8 : List Instr := [.aload_n 0]
theorem sgX6_leave_59_34db8d : am_dec cX6_leave 59 sgX6_leave_59_34db8 = true := by decide +kernel
theorem dX6_leave_60 : decode cX6_leave 60 = .ok (.getfield 47, 3) := by decide +kernel
def sgX6_leave_63_8a281 : List Instr := [.bipush 16, .iload_n 1, .imul, .iload_n 2, .iadd, .iconst (-1)]
theorem sgX6_leave_63_8a281d : am_dec cX6_leave 63 sgX6_leave_63_8a281 = true := by decide +kernel
theorem dX6_leave_70 : decode cX6_leave 70 = .ok (.iastore, 1) := by decide +kernel
def sgX6_leave_71_34db8 : List Instr := [.aload_n 0]
theorem sgX6_leave_71_34db8d : am_dec cX6_leave 71 sgX6_leave_71_34db8 = true := by decide +kernel
theorem dX6_leave_72 : decode cX6_leave 72 = .ok (.getfield 104, 3) := by decide +kernel
theorem dX6_leave_75 : decode cX6_leave 75 = .ok (.ifCond .le 7, 3) := by decide +kernel
def sgX6_leave_78_1cbe9 : List Instr := [.iconst 0, .goto 4]
theorem sgX6_leave_78_1cbe9d : am_dec cX6_leave 78 sgX6_leave_78_1cbe9 = true := by decide +kernel
theorem dX6_leave_83 : decode cX6_leave 83 = .ok (.ireturn, 1) := by decide +kernel
def sgX6_leave_55_56c54 : List Instr := [.iconst 0]
theorem sgX6_leave_55_56c54d : am_dec cX6_leave 55 sgX6_leave_55_56c54 = true := by decide +kernel
def sgX6_leave_82_13b50 : List Instr := [.iload_n 3]
theorem sgX6_leave_82_13b50d : am_dec cX6_leave 82 sgX6_leave_82_13b50 = true := by decide +kernel
def sgX6_nest_0_6b3ba : List Instr := [.aload_n 0, .aload_n 0, .iload_n 1]
theorem sgX6_nest_0_6b3bad : am_dec cX6_nest 0 sgX6_nest_0_6b3ba = true := by decide +kernel
theorem dX6_nest_3 : decode cX6_nest 3 = .ok (.invokevirtual 122, 3) := by decide +kernel
theorem dX6_nest_6 : decode cX6_nest 6 = .ok (.ifCond .eq 15, 3) := by decide +kernel
def sgX6_nest_21_4de0a : List Instr := [.iconst 1]
theorem sgX6_nest_21_4de0ad : am_dec cX6_nest 21 sgX6_nest_21_4de0a = true := by decide +kernel
theorem dX6_nest_22 : decode cX6_nest 22 = .ok (.putfield 104, 3) := by decide +kernel
def sgX6_nest_25_34db8 : List Instr := [.aload_n 0]
theorem sgX6_nest_25_34db8d : am_dec cX6_nest 25 sgX6_nest_25_34db8 = true := by decide +kernel
theorem dX6_nest_26 : decode cX6_nest 26 = .ok (.getfield 104, 3) := by decide +kernel
theorem dX6_nest_29 : decode cX6_nest 29 = .ok (.ifCond .le 5, 3) := by decide +kernel
def sgX6_nest_32_56c54 : List Instr := [.iconst 0]
theorem sgX6_nest_32_56c54d : am_dec cX6_nest 32 sgX6_nest_32_56c54 = true := by decide +kernel
theorem dX6_nest_33 : decode cX6_nest 33 = .ok (.ireturn, 1) := by decide +kernel
def sgX6_nest_9_78e74 : List Instr := [.aload_n 0, .iload_n 2]
theorem sgX6_nest_9_78e74d : am_dec cX6_nest 9 sgX6_nest_9_78e74 = true := by decide +kernel
theorem dX6_nest_11 : decode cX6_nest 11 = .ok (.invokevirtual 122, 3) := by decide +kernel
theorem dX6_nest_14 : decode cX6_nest 14 = .ok (.ifCond .eq 7, 3) := by decide +kernel
def sgX6_nest_17_1cbe9 : List Instr := [.iconst 0, .goto 4]
theorem sgX6_nest_17_1cbe9d : am_dec cX6_nest 17 sgX6_nest_17_1cbe9 = true := by decide +kernel
def sgX6_nest_34_34db8 : List Instr := [.aload_n 0]
theorem sgX6_nest_34_34db8d : am_dec cX6_nest 34 sgX6_nest_34_34db8 = true := by decide +kernel
theorem dX6_nest_35 : decode cX6_nest 35 = .ok (.getfield 44, 3) := by decide +kernel
def sgX6_nest_38_840bf : List Instr := [.iload_n 1]
theorem sgX6_nest_38_840bfd : am_dec cX6_nest 38 sgX6_nest_38_840bf = true := by decide +kernel
theorem dX6_nest_39 : decode cX6_nest 39 = .ok (.iaload, 1) := by decide +kernel
def sgX6_nest_40_89201 : List Instr := [.iload_n 2, .ishr, .iconst 1, .iand, .iconst 1]
theorem sgX6_nest_40_89201d : am_dec cX6_nest 40 sgX6_nest_40_89201 = true := by decide +kernel
theorem dX6_nest_45 : decode cX6_nest 45 = .ok (.if_icmp .ne 7, 3) := by decide +kernel
def sgX6_nest_52_05adf : List Instr := [.iconst 0, .istore_n 3, .aload_n 0, .iload_n 3]
theorem sgX6_nest_52_05adfd : am_dec cX6_nest 52 sgX6_nest_52_05adf = true := by decide +kernel
theorem dX6_nest_56 : decode cX6_nest 56 = .ok (.ifCond .ne 20, 3) := by decide +kernel
def sgX6_nest_59_78e74 : List Instr := [.aload_n 0, .iload_n 2]
theorem sgX6_nest_59_78e74d : am_dec cX6_nest 59 sgX6_nest_59_78e74 = true := by decide +kernel
theorem dX6_nest_61 : decode cX6_nest 61 = .ok (.invokevirtual 129, 3) := by decide +kernel
def sgX6_nest_64_43adf : List Instr := [.iload_n 1, .ishr, .iconst 1, .iand, .iconst 1]
theorem sgX6_nest_64_43adfd : am_dec cX6_nest 64 sgX6_nest_64_43adf = true := by decide +kernel
theorem dX6_nest_69 : decode cX6_nest 69 = .ok (.if_icmp .ne 7, 3) := by decide +kernel
def sgX6_nest_72_abe91 : List Instr := [.iconst 2, .goto 4]
theorem sgX6_nest_72_abe91d : am_dec cX6_nest 72 sgX6_nest_72_abe91 = true := by decide +kernel
theorem dX6_nest_77 : decode cX6_nest 77 = .ok (.putfield 104, 3) := by decide +kernel
def sgX6_nest_80_34db8 : List Instr := [.aload_n 0]
theorem sgX6_nest_80_34db8d : am_dec cX6_nest 80 sgX6_nest_80_34db8 = true := by decide +kernel
theorem dX6_nest_81 : decode cX6_nest 81 = .ok (.getfield 104, 3) := by decide +kernel
theorem dX6_nest_84 : decode cX6_nest 84 = .ok (.ifCond .le 5, 3) := by decide +kernel
def sgX6_nest_87_56c54 : List Instr := [.iconst 0]
theorem sgX6_nest_87_56c54d : am_dec cX6_nest 87 sgX6_nest_87_56c54 = true := by decide +kernel
theorem dX6_nest_88 : decode cX6_nest 88 = .ok (.ireturn, 1) := by decide +kernel
def sgX6_nest_76_56c54 : List Instr := [.iconst 0]
theorem sgX6_nest_76_56c54d : am_dec cX6_nest 76 sgX6_nest_76_56c54 = true := by decide +kernel
def sgX6_nest_89_34db8 : List Instr := [.aload_n 0]
theorem sgX6_nest_89_34db8d : am_dec cX6_nest 89 sgX6_nest_89_34db8 = true := by decide +kernel
theorem dX6_nest_90 : decode cX6_nest 90 = .ok (.getfield 44, 3) := by decide +kernel
def sgX6_nest_93_563cd : List Instr := [.iload_n 1, .dup2]
theorem sgX6_nest_93_563cdd : am_dec cX6_nest 93 sgX6_nest_93_563cd = true := by decide +kernel
theorem dX6_nest_95 : decode cX6_nest 95 = .ok (.iaload, 1) := by decide +kernel
def sgX6_nest_96_0d86e : List Instr := [.iconst 1, .iload_n 2, .ishl, .ixor]
theorem sgX6_nest_96_0d86ed : am_dec cX6_nest 96 sgX6_nest_96_0d86e = true := by decide +kernel
theorem dX6_nest_100 : decode cX6_nest 100 = .ok (.iastore, 1) := by decide +kernel
def sgX6_nest_101_13b50 : List Instr := [.iload_n 3]
theorem sgX6_nest_101_13b50d : am_dec cX6_nest 101 sgX6_nest_101_13b50 = true := by decide +kernel
theorem dX6_nest_102 : decode cX6_nest 102 = .ok (.ifCond .ne 7, 3) := by decide +kernel
def sgX6_nest_105_1c64c : List Instr := [.iconst 1, .goto 4]
theorem sgX6_nest_105_1c64cd : am_dec cX6_nest 105 sgX6_nest_105_1c64c = true := by decide +kernel
theorem dX6_nest_110 : decode cX6_nest 110 = .ok (.ireturn, 1) := by decide +kernel
def sgX6_nest_48_63fa2 : List Instr := [.iconst 1, .goto 4, .istore_n 3, .aload_n 0, .iload_n 3]
theorem sgX6_nest_48_63fa2d : am_dec cX6_nest 48 sgX6_nest_48_63fa2 = true := by decide +kernel
def sgX6_nest_109_56c54 : List Instr := [.iconst 0]
theorem sgX6_nest_109_56c54d : am_dec cX6_nest 109 sgX6_nest_109_56c54 = true := by decide +kernel
def sgX6_rules_0_6b3ba : List Instr := [.aload_n 0, .aload_n 0, .iload_n 1]
theorem sgX6_rules_0_6b3bad : am_dec cX6_rules 0 sgX6_rules_0_6b3ba = true := by decide +kernel
theorem dX6_rules_3 : decode cX6_rules 3 = .ok (.invokevirtual 122, 3) := by decide +kernel
theorem dX6_rules_6 : decode cX6_rules 6 = .ok (.ifCond .ne 7, 3) := by decide +kernel
def sgX6_rules_9_b69fd : List Instr := [.iconst 1, .goto 29]
theorem sgX6_rules_9_b69fdd : am_dec cX6_rules 9 sgX6_rules_9_b69fd = true := by decide +kernel
theorem dX6_rules_39 : decode cX6_rules 39 = .ok (.putfield 104, 3) := by decide +kernel
def sgX6_rules_42_34db8 : List Instr := [.aload_n 0]
theorem sgX6_rules_42_34db8d : am_dec cX6_rules 42 sgX6_rules_42_34db8 = true := by decide +kernel
theorem dX6_rules_43 : decode cX6_rules 43 = .ok (.getfield 104, 3) := by decide +kernel
theorem dX6_rules_46 : decode cX6_rules 46 = .ok (.ifCond .le 5, 3) := by decide +kernel
def sgX6_rules_49_56c54 : List Instr := [.iconst 0]
theorem sgX6_rules_49_56c54d : am_dec cX6_rules 49 sgX6_rules_49_56c54 = true := by decide +kernel
theorem dX6_rules_50 : decode cX6_rules 50 = .ok (.ireturn, 1) := by decide +kernel
def sgX6_rules_13_bd672 : List Instr := [.iload_n 2, .iconst 1, .sipush 200]
theorem sgX6_rules_13_bd672d : am_dec cX6_rules 13 sgX6_rules_13_bd672 = true := by decide +kernel
theorem dX6_rules_18 : decode cX6_rules 18 = .ok (.invokestatic 108, 3) := by decide +kernel
theorem dX6_rules_21 : decode cX6_rules 21 = .ok (.ifCond .eq 17, 3) := by decide +kernel
def sgX6_rules_38_d5620 : List Instr := [.iconst 2]
theorem sgX6_rules_38_d5620d : am_dec cX6_rules 38 sgX6_rules_38_d5620 = true := by decide +kernel
def sgX6_rules_24_13ba5 : List Instr := [.iload_n 3, .iconst 1, .bipush 30]
theorem sgX6_rules_24_13ba5d : am_dec cX6_rules 24 sgX6_rules_24_13ba5 = true := by decide +kernel
theorem dX6_rules_28 : decode cX6_rules 28 = .ok (.invokestatic 108, 3) := by decide +kernel
theorem dX6_rules_31 : decode cX6_rules 31 = .ok (.ifCond .eq 7, 3) := by decide +kernel
def sgX6_rules_34_1cbe9 : List Instr := [.iconst 0, .goto 4]
theorem sgX6_rules_34_1cbe9d : am_dec cX6_rules 34 sgX6_rules_34_1cbe9 = true := by decide +kernel
def sgX6_rules_51_34db8 : List Instr := [.aload_n 0]
theorem sgX6_rules_51_34db8d : am_dec cX6_rules 51 sgX6_rules_51_34db8 = true := by decide +kernel
theorem dX6_rules_52 : decode cX6_rules 52 = .ok (.getfield 31, 3) := by decide +kernel
def sgX6_rules_55_840bf : List Instr := [.iload_n 1]
theorem sgX6_rules_55_840bfd : am_dec cX6_rules 55 sgX6_rules_55_840bf = true := by decide +kernel
theorem dX6_rules_56 : decode cX6_rules 56 = .ok (.iaload, 1) := by decide +kernel
def sgX6_rules_57_edbce : List Instr := [.istore 5, .aload_n 0]
theorem sgX6_rules_57_edbced : am_dec cX6_rules 57 sgX6_rules_57_edbce = true := by decide +kernel
theorem dX6_rules_60 : decode cX6_rules 60 = .ok (.getfield 31, 3) := by decide +kernel
def sgX6_rules_63_5601b : List Instr := [.iload_n 1, .iload_n 2]
theorem sgX6_rules_63_5601bd : am_dec cX6_rules 63 sgX6_rules_63_5601b = true := by decide +kernel
theorem dX6_rules_65 : decode cX6_rules 65 = .ok (.iastore, 1) := by decide +kernel
def sgX6_rules_66_34db8 : List Instr := [.aload_n 0]
theorem sgX6_rules_66_34db8d : am_dec cX6_rules 66 sgX6_rules_66_34db8 = true := by decide +kernel
theorem dX6_rules_67 : decode cX6_rules 67 = .ok (.getfield 34, 3) := by decide +kernel
def sgX6_rules_70_20da6 : List Instr := [.iload_n 1, .iload_n 3]
theorem sgX6_rules_70_20da6d : am_dec cX6_rules 70 sgX6_rules_70_20da6 = true := by decide +kernel
theorem dX6_rules_72 : decode cX6_rules 72 = .ok (.iastore, 1) := by decide +kernel
def sgX6_rules_73_34db8 : List Instr := [.aload_n 0]
theorem sgX6_rules_73_34db8d : am_dec cX6_rules 73 sgX6_rules_73_34db8 = true := by decide +kernel
theorem dX6_rules_74 : decode cX6_rules 74 = .ok (.getfield 37, 3) := by decide +kernel
def sgX6_rules_77_f40ee : List Instr := [.iload_n 1, .iload 4]
theorem sgX6_rules_77_f40eed : am_dec cX6_rules 77 sgX6_rules_77_f40ee = true := by decide +kernel
theorem dX6_rules_80 : decode cX6_rules 80 = .ok (.bastore, 1) := by decide +kernel
def sgX6_rules_81_9df92 : List Instr := [.iload 5]
theorem sgX6_rules_81_9df92d : am_dec cX6_rules 81 sgX6_rules_81_9df92 = true := by decide +kernel
theorem dX6_rules_83 : decode cX6_rules 83 = .ok (.ireturn, 1) := by decide +kernel
def sgX6_bar_0_6b3ba : List Instr := [.aload_n 0, .aload_n 0, .iload_n 1]
theorem sgX6_bar_0_6b3bad : am_dec cX6_bar 0 sgX6_bar_0_6b3ba = true := by decide +kernel
theorem dX6_bar_3 : decode cX6_bar 3 = .ok (.invokevirtual 122, 3) := by decide +kernel
theorem dX6_bar_6 : decode cX6_bar 6 = .ok (.ifCond .eq 14, 3) := by decide +kernel
def sgX6_bar_20_4de0a : List Instr := [.iconst 1]
theorem sgX6_bar_20_4de0ad : am_dec cX6_bar 20 sgX6_bar_20_4de0a = true := by decide +kernel
theorem dX6_bar_21 : decode cX6_bar 21 = .ok (.putfield 104, 3) := by decide +kernel
def sgX6_bar_24_34db8 : List Instr := [.aload_n 0]
theorem sgX6_bar_24_34db8d : am_dec cX6_bar 24 sgX6_bar_24_34db8 = true := by decide +kernel
theorem dX6_bar_25 : decode cX6_bar 25 = .ok (.getfield 104, 3) := by decide +kernel
theorem dX6_bar_28 : decode cX6_bar 28 = .ok (.ifCond .le 5, 3) := by decide +kernel
def sgX6_bar_31_56c54 : List Instr := [.iconst 0]
theorem sgX6_bar_31_56c54d : am_dec cX6_bar 31 sgX6_bar_31_56c54 = true := by decide +kernel
theorem dX6_bar_32 : decode cX6_bar 32 = .ok (.ireturn, 1) := by decide +kernel
def sgX6_bar_9_f8a59 : List Instr := [.iload_n 2]
theorem sgX6_bar_9_f8a59d : am_dec cX6_bar 9 sgX6_bar_9_f8a59 = true := by decide +kernel
theorem dX6_bar_10 : decode cX6_bar 10 = .ok (.invokestatic 118, 3) := by decide +kernel
theorem dX6_bar_13 : decode cX6_bar 13 = .ok (.ifCond .eq 7, 3) := by decide +kernel
def sgX6_bar_16_1cbe9 : List Instr := [.iconst 0, .goto 4]
theorem sgX6_bar_16_1cbe9d : am_dec cX6_bar 16 sgX6_bar_16_1cbe9 = true := by decide +kernel
def sgX6_bar_33_34db8 : List Instr := [.aload_n 0]
theorem sgX6_bar_33_34db8d : am_dec cX6_bar 33 sgX6_bar_33_34db8 = true := by decide +kernel
theorem dX6_bar_34 : decode cX6_bar 34 = .ok (.getfield 41, 3) := by decide +kernel
def sgX6_bar_37_563cd : List Instr := [.iload_n 1, .dup2]
theorem sgX6_bar_37_563cdd : am_dec cX6_bar 37 sgX6_bar_37_563cd = true := by decide +kernel
theorem dX6_bar_39 : decode cX6_bar 39 = .ok (.iaload, 1) := by decide +kernel
def sgX6_bar_40_0d86e : List Instr := [.iconst 1, .iload_n 2, .ishl, .ixor]
theorem sgX6_bar_40_0d86ed : am_dec cX6_bar 40 sgX6_bar_40_0d86e = true := by decide +kernel
theorem dX6_bar_44 : decode cX6_bar 44 = .ok (.iastore, 1) := by decide +kernel
def sgX6_bar_45_34db8 : List Instr := [.aload_n 0]
theorem sgX6_bar_45_34db8d : am_dec cX6_bar 45 sgX6_bar_45_34db8 = true := by decide +kernel
theorem dX6_bar_46 : decode cX6_bar 46 = .ok (.getfield 41, 3) := by decide +kernel
def sgX6_bar_49_840bf : List Instr := [.iload_n 1]
theorem sgX6_bar_49_840bfd : am_dec cX6_bar 49 sgX6_bar_49_840bf = true := by decide +kernel
theorem dX6_bar_50 : decode cX6_bar 50 = .ok (.iaload, 1) := by decide +kernel
def sgX6_bar_51_89201 : List Instr := [.iload_n 2, .ishr, .iconst 1, .iand, .iconst 1]
theorem sgX6_bar_51_89201d : am_dec cX6_bar 51 sgX6_bar_51_89201 = true := by decide +kernel
theorem dX6_bar_56 : decode cX6_bar 56 = .ok (.if_icmp .ne 7, 3) := by decide +kernel
def sgX6_bar_59_1c64c : List Instr := [.iconst 1, .goto 4]
theorem sgX6_bar_59_1c64cd : am_dec cX6_bar 59 sgX6_bar_59_1c64c = true := by decide +kernel
theorem dX6_bar_64 : decode cX6_bar 64 = .ok (.ireturn, 1) := by decide +kernel
def sgX6_bar_63_56c54 : List Instr := [.iconst 0]
theorem sgX6_bar_63_56c54d : am_dec cX6_bar 63 sgX6_bar_63_56c54 = true := by decide +kernel
def sgX6_word_0_6e259 : List Instr := [.aload_n 0, .iload_n 1, .iconst 0, .bipush 19]
theorem sgX6_word_0_6e259d : am_dec cX6_word 0 sgX6_word_0_6e259 = true := by decide +kernel
theorem dX6_word_5 : decode cX6_word 5 = .ok (.invokestatic 108, 3) := by decide +kernel
theorem dX6_word_8 : decode cX6_word 8 = .ok (.ifCond .ne 7, 3) := by decide +kernel
def sgX6_word_11_0ea85 : List Instr := [.iconst 1, .goto 19]
theorem sgX6_word_11_0ea85d : am_dec cX6_word 11 sgX6_word_11_0ea85 = true := by decide +kernel
theorem dX6_word_31 : decode cX6_word 31 = .ok (.putfield 104, 3) := by decide +kernel
def sgX6_word_34_34db8 : List Instr := [.aload_n 0]
theorem sgX6_word_34_34db8d : am_dec cX6_word 34 sgX6_word_34_34db8 = true := by decide +kernel
theorem dX6_word_35 : decode cX6_word 35 = .ok (.getfield 104, 3) := by decide +kernel
theorem dX6_word_38 : decode cX6_word 38 = .ok (.ifCond .le 5, 3) := by decide +kernel
def sgX6_word_41_56c54 : List Instr := [.iconst 0]
theorem sgX6_word_41_56c54d : am_dec cX6_word 41 sgX6_word_41_56c54 = true := by decide +kernel
theorem dX6_word_42 : decode cX6_word 42 = .ok (.ireturn, 1) := by decide +kernel
def sgX6_word_15_f8e78 : List Instr := [.iload_n 2, .bipush (-20), .bipush 50]
theorem sgX6_word_15_f8e78d : am_dec cX6_word 15 sgX6_word_15_f8e78 = true := by decide +kernel
theorem dX6_word_20 : decode cX6_word 20 = .ok (.invokestatic 108, 3) := by decide +kernel
theorem dX6_word_23 : decode cX6_word 23 = .ok (.ifCond .eq 7, 3) := by decide +kernel
def sgX6_word_30_d5620 : List Instr := [.iconst 2]
theorem sgX6_word_30_d5620d : am_dec cX6_word 30 sgX6_word_30_d5620 = true := by decide +kernel
def sgX6_word_26_1cbe9 : List Instr := [.iconst 0, .goto 4]
theorem sgX6_word_26_1cbe9d : am_dec cX6_word 26 sgX6_word_26_1cbe9 = true := by decide +kernel
def sgX6_word_43_34db8 : List Instr := [.aload_n 0]
theorem sgX6_word_43_34db8d : am_dec cX6_word 43 sgX6_word_43_34db8 = true := by decide +kernel
theorem dX6_word_44 : decode cX6_word 44 = .ok (.getfield 7, 3) := by decide +kernel
def sgX6_word_47_840bf : List Instr := [.iload_n 1]
theorem sgX6_word_47_840bfd : am_dec cX6_word 47 sgX6_word_47_840bf = true := by decide +kernel
theorem dX6_word_48 : decode cX6_word 48 = .ok (.iaload, 1) := by decide +kernel
def sgX6_word_49_a034f : List Instr := [.istore_n 3, .aload_n 0]
theorem sgX6_word_49_a034fd : am_dec cX6_word 49 sgX6_word_49_a034f = true := by decide +kernel
theorem dX6_word_51 : decode cX6_word 51 = .ok (.getfield 7, 3) := by decide +kernel
def sgX6_word_54_5601b : List Instr := [.iload_n 1, .iload_n 2]
theorem sgX6_word_54_5601bd : am_dec cX6_word 54 sgX6_word_54_5601b = true := by decide +kernel
theorem dX6_word_56 : decode cX6_word 56 = .ok (.iastore, 1) := by decide +kernel
def sgX6_word_57_13b50 : List Instr := [.iload_n 3]
theorem sgX6_word_57_13b50d : am_dec cX6_word 57 sgX6_word_57_13b50 = true := by decide +kernel
theorem dX6_word_58 : decode cX6_word 58 = .ok (.ireturn, 1) := by decide +kernel
def sgX6_reaches_0_6b3ba : List Instr := [.aload_n 0, .aload_n 0, .iload_n 1]
theorem sgX6_reaches_0_6b3bad : am_dec cX6_reaches 0 sgX6_reaches_0_6b3ba = true := by decide +kernel
theorem dX6_reaches_3 : decode cX6_reaches 3 = .ok (.invokevirtual 122, 3) := by decide +kernel
theorem dX6_reaches_6 : decode cX6_reaches 6 = .ok (.ifCond .eq 7, 3) := by decide +kernel
def sgX6_reaches_13_4de0a : List Instr := [.iconst 1]
theorem sgX6_reaches_13_4de0ad : am_dec cX6_reaches 13 sgX6_reaches_13_4de0a = true := by decide +kernel
theorem dX6_reaches_14 : decode cX6_reaches 14 = .ok (.putfield 104, 3) := by decide +kernel
def sgX6_reaches_17_34db8 : List Instr := [.aload_n 0]
theorem sgX6_reaches_17_34db8d : am_dec cX6_reaches 17 sgX6_reaches_17_34db8 = true := by decide +kernel
theorem dX6_reaches_18 : decode cX6_reaches 18 = .ok (.getfield 104, 3) := by decide +kernel
theorem dX6_reaches_21 : decode cX6_reaches 21 = .ok (.ifCond .le 7, 3) := by decide +kernel
def sgX6_reaches_24_0d2e2 : List Instr := [.iconst 0, .goto 8]
theorem sgX6_reaches_24_0d2e2d : am_dec cX6_reaches 24 sgX6_reaches_24_0d2e2 = true := by decide +kernel
theorem dX6_reaches_33 : decode cX6_reaches 33 = .ok (.ireturn, 1) := by decide +kernel
def sgX6_reaches_9_1cbe9 : List Instr := [.iconst 0, .goto 4]
theorem sgX6_reaches_9_1cbe9d : am_dec cX6_reaches 9 sgX6_reaches_9_1cbe9 = true := by decide +kernel
def sgX6_reaches_28_8bcf7 : List Instr := [.aload_n 0, .iload_n 1]
theorem sgX6_reaches_28_8bcf7d : am_dec cX6_reaches 28 sgX6_reaches_28_8bcf7 = true := by decide +kernel
theorem dX6_reaches_30 : decode cX6_reaches 30 = .ok (.invokevirtual 136, 3) := by decide +kernel
def sgX6_reachesByMembers_0_6b3ba : List Instr := [.aload_n 0, .aload_n 0, .iload_n 1]
theorem sgX6_reachesByMembers_0_6b3bad : am_dec cX6_reachesByMembers 0 sgX6_reachesByMembers_0_6b3ba = true := by decide +kernel
theorem dX6_reachesByMembers_3 : decode cX6_reachesByMembers 3 = .ok (.invokevirtual 122, 3) := by decide +kernel
theorem dX6_reachesByMembers_6 : decode cX6_reachesByMembers 6 = .ok (.ifCond .eq 7, 3) := by decide +kernel
def sgX6_reachesByMembers_13_4de0a : List Instr := [.iconst 1]
theorem sgX6_reachesByMembers_13_4de0ad : am_dec cX6_reachesByMembers 13 sgX6_reachesByMembers_13_4de0a = true := by decide +kernel
theorem dX6_reachesByMembers_14 : decode cX6_reachesByMembers 14 = .ok (.putfield 104, 3) := by decide +kernel
def sgX6_reachesByMembers_17_34db8 : List Instr := [.aload_n 0]
theorem sgX6_reachesByMembers_17_34db8d : am_dec cX6_reachesByMembers 17 sgX6_reachesByMembers_17_34db8 = true := by decide +kernel
theorem dX6_reachesByMembers_18 : decode cX6_reachesByMembers 18 = .ok (.getfield 104, 3) := by decide +kernel
theorem dX6_reachesByMembers_21 : decode cX6_reachesByMembers 21 = .ok (.ifCond .le 7, 3) := by decide +kernel
def sgX6_reachesByMembers_24_0d2e2 : List Instr := [.iconst 0, .goto 8]
theorem sgX6_reachesByMembers_24_0d2e2d : am_dec cX6_reachesByMembers 24 sgX6_reachesByMembers_24_0d2e2 = true := by decide +kernel
theorem dX6_reachesByMembers_33 : decode cX6_reachesByMembers 33 = .ok (.ireturn, 1) := by decide +kernel
def sgX6_reachesByMembers_9_1cbe9 : List Instr := [.iconst 0, .goto 4]
theorem sgX6_reachesByMembers_9_1cbe9d : am_dec cX6_reachesByMembers 9 sgX6_reachesByMembers_9_1cbe9 = true := by decide +kernel
def sgX6_reachesByMembers_28_8bcf7 : List Instr := [.aload_n 0, .iload_n 1]
theorem sgX6_reachesByMembers_28_8bcf7d : am_dec cX6_reachesByMembers 28 sgX6_reachesByMembers_28_8bcf7 = true := by decide +kernel
theorem dX6_reachesByMembers_30 : decode cX6_reachesByMembers 30 = .ok (.invokevirtual 136, 3) := by decide +kernel
def sgX6_modeOf_0_6b3ba : List Instr := [.aload_n 0, .aload_n 0, .iload_n 1]
theorem sgX6_modeOf_0_6b3bad : am_dec cX6_modeOf 0 sgX6_modeOf_0_6b3ba = true := by decide +kernel
theorem dX6_modeOf_3 : decode cX6_modeOf 3 = .ok (.invokevirtual 122, 3) := by decide +kernel
theorem dX6_modeOf_6 : decode cX6_modeOf 6 = .ok (.ifCond .eq 14, 3) := by decide +kernel
def sgX6_modeOf_20_4de0a : List Instr := [.iconst 1]
theorem sgX6_modeOf_20_4de0ad : am_dec cX6_modeOf 20 sgX6_modeOf_20_4de0a = true := by decide +kernel
theorem dX6_modeOf_21 : decode cX6_modeOf 21 = .ok (.putfield 104, 3) := by decide +kernel
def sgX6_modeOf_24_34db8 : List Instr := [.aload_n 0]
theorem sgX6_modeOf_24_34db8d : am_dec cX6_modeOf 24 sgX6_modeOf_24_34db8 = true := by decide +kernel
theorem dX6_modeOf_25 : decode cX6_modeOf 25 = .ok (.getfield 104, 3) := by decide +kernel
theorem dX6_modeOf_28 : decode cX6_modeOf 28 = .ok (.ifCond .le 7, 3) := by decide +kernel
def sgX6_modeOf_31_077ad : List Instr := [.iconst 0, .goto 9]
theorem sgX6_modeOf_31_077add : am_dec cX6_modeOf 31 sgX6_modeOf_31_077ad = true := by decide +kernel
theorem dX6_modeOf_41 : decode cX6_modeOf 41 = .ok (.ireturn, 1) := by decide +kernel
def sgX6_modeOf_9_f8a59 : List Instr := [.iload_n 2]
theorem sgX6_modeOf_9_f8a59d : am_dec cX6_modeOf 9 sgX6_modeOf_9_f8a59 = true := by decide +kernel
theorem dX6_modeOf_10 : decode cX6_modeOf 10 = .ok (.invokestatic 118, 3) := by decide +kernel
theorem dX6_modeOf_13 : decode cX6_modeOf 13 = .ok (.ifCond .eq 7, 3) := by decide +kernel
def sgX6_modeOf_16_1cbe9 : List Instr := [.iconst 0, .goto 4]
theorem sgX6_modeOf_16_1cbe9d : am_dec cX6_modeOf 16 sgX6_modeOf_16_1cbe9 = true := by decide +kernel
def sgX6_modeOf_35_8dee2 : List Instr := [.aload_n 0, .iload_n 1, .iload_n 2]
theorem sgX6_modeOf_35_8dee2d : am_dec cX6_modeOf 35 sgX6_modeOf_35_8dee2 = true := by decide +kernel
theorem dX6_modeOf_38 : decode cX6_modeOf 38 = .ok (.invokevirtual 139, 3) := by decide +kernel
set_option maxRecDepth 100000 in
set_option maxHeartbeats 4000000 in
theorem c_r_list_1 {G : am_S} {T S : am_T} {o : Nat → Int64} {x : Int32} (hx : x < 0 ∨ nI 16 ≤ x) : am_D G yX6_list (.code yX6_list cX6_list 3 (some .int) :: am_G) { frames := 2, cells := 0, slots := 0, locals := 42 } (hp T S o) [.ref 465, .int x] (hp T (st1 S 0 0 1) o) (some (.int 0)) := by
  refine am_of (by decide +kernel) (Nat.le_of_ble_eq_true rfl) ?_
  intro C hse hret hname hF hO
  subst hse
  refine am_go hF sgX6_list_0_8bcf7 2 [(0, .ref 465), (1, .int x)] [.int x, .ref 465] sgX6_list_0_8bcf7d rfl ?_
  refine am_dS hF hO [.int x] [.ref 465] (c_isPerson_f hx) myX6_isPerson syX6_isPerson lm_RX6_118 rfl 0 0 ⟨Nat.le_of_ble_eq_true rfl, Nat.le_of_ble_eq_true rfl⟩ ⟨Nat.le_of_ble_eq_true rfl, Nat.le_of_ble_eq_true rfl, Nat.le_of_ble_eq_true rfl, Nat.le_of_ble_eq_true rfl⟩ rfl (am_lv_ref (hp_m _ _ _) (am_lv_int (am_lv_ref (hp_m _ _ _) am_lv_nil))) (Nat.le_of_ble_eq_true rfl) dX6_list_2 [.int 0, .ref 465] rfl ?_
  refine am_ifne hF 12 dX6_list_5 (by decide) (fun h9 => False.elim ((by revert h9; decide))) (fun _ => ?_)
  refine am_go hF sgX6_list_8_102f3 26 [(0, .ref 465), (1, .int x)] [.int 1, .ref 465] sgX6_list_8_102f3d rfl ?_
  refine sv_put hF 0 (by decide) rfl rfl rfl lf_RX6_104 dX6_list_26 ?_
  refine am_go hF sgX6_list_29_34db8 30 [(0, .ref 465), (1, .int x)] [.ref 465] sgX6_list_29_34db8d rfl ?_
  refine sv_get hF 0 (by decide) rfl lf_RX6_104 (.int 1) rfl dX6_list_30 ?_
  refine am_ifle hF 38 dX6_list_33 (by decide) (fun h9 => False.elim ((by revert h9; decide))) (fun _ => ?_)
  refine am_go hF sgX6_list_36_56c54 37 [(0, .ref 465), (1, .int x)] [.int 0] sgX6_list_36_56c54d rfl ?_
  exact am_iret hF hO hret rfl dX6_list_37 ⟨rfl, rfl⟩
set_option maxRecDepth 100000 in
set_option maxHeartbeats 4000000 in
theorem c_r_list_2 {G : am_S} {T S : am_T} {o : Nat → Int64} {n : Nat} (hn : S 9 0 = nI n) (hn10 : n ≤ 10) {p : Nat} (hp9 : p < 16) (h10 : n = 10) : am_D G yX6_list (.code yX6_list cX6_list 3 (some .int) :: am_G) { frames := 2, cells := 0, slots := 0, locals := 42 } (hp T S o) [.ref 465, .int (nI p)] (hp T (st1 S 0 0 2) o) (some (.int 0)) := by
  refine am_of (by decide +kernel) (Nat.le_of_ble_eq_true rfl) ?_
  intro C hse hret hname hF hO
  subst hse
  refine am_go hF sgX6_list_0_8bcf7 2 [(0, .ref 465), (1, .int (nI p))] [.int (nI p), .ref 465] sgX6_list_0_8bcf7d rfl ?_
  refine am_dS hF hO [.int (nI p)] [.ref 465] (c_isPerson_t (show p < 16 by omega) rfl) myX6_isPerson syX6_isPerson lm_RX6_118 rfl 0 0 ⟨Nat.le_of_ble_eq_true rfl, Nat.le_of_ble_eq_true rfl⟩ ⟨Nat.le_of_ble_eq_true rfl, Nat.le_of_ble_eq_true rfl, Nat.le_of_ble_eq_true rfl, Nat.le_of_ble_eq_true rfl⟩ rfl (am_lv_ref (hp_m _ _ _) (am_lv_int (am_lv_ref (hp_m _ _ _) am_lv_nil))) (Nat.le_of_ble_eq_true rfl) dX6_list_2 [.int 1, .ref 465] rfl ?_
  refine am_ifne hF 12 dX6_list_5 (by decide) (fun _ => ?_) (fun h9 => False.elim ((by revert h9; decide)))
  refine am_go hF sgX6_list_12_34db8 13 [(0, .ref 465), (1, .int (nI p))] [.ref 465, .ref 465] sgX6_list_12_34db8d rfl ?_
  refine sv_get hF 9 (by decide) rfl lf_RX6_112 (.int (S 9 0)) rfl dX6_list_13 ?_
  refine am_top (nI n) hn ?_
  refine am_go hF sgX6_list_16_ee951 18 [(0, .ref 465), (1, .int (nI p))] [.int 10, .int (nI n), .ref 465] sgX6_list_16_ee951d rfl ?_
  refine am_icmpne hF 25 dX6_list_18 (by decide) (fun h9 => False.elim (nc_eq_f (show n = 10 by omega) (by omega) (by omega) rfl rfl h9)) (fun _ => ?_)
  refine am_go hF sgX6_list_21_abe91 26 [(0, .ref 465), (1, .int (nI p))] [.int 2, .ref 465] sgX6_list_21_abe91d rfl ?_
  refine sv_put hF 0 (by decide) rfl rfl rfl lf_RX6_104 dX6_list_26 ?_
  refine am_go hF sgX6_list_29_34db8 30 [(0, .ref 465), (1, .int (nI p))] [.ref 465] sgX6_list_29_34db8d rfl ?_
  refine sv_get hF 0 (by decide) rfl lf_RX6_104 (.int 2) rfl dX6_list_30 ?_
  refine am_ifle hF 38 dX6_list_33 (by decide) (fun h9 => False.elim ((by revert h9; decide))) (fun _ => ?_)
  refine am_go hF sgX6_list_36_56c54 37 [(0, .ref 465), (1, .int (nI p))] [.int 0] sgX6_list_36_56c54d rfl ?_
  exact am_iret hF hO hret rfl dX6_list_37 ⟨rfl, rfl⟩
set_option maxRecDepth 100000 in
set_option maxHeartbeats 4000000 in
theorem c_r_list_3 {G : am_S} {T S : am_T} {o : Nat → Int64} {n : Nat} (hn : S 9 0 = nI n) (hn10 : n ≤ 10) {p : Nat} (hp9 : p < 16) (h10 : n < 10) : am_D G yX6_list (.code yX6_list cX6_list 3 (some .int) :: am_G) { frames := 2, cells := 0, slots := 0, locals := 42 } (hp T S o) [.ref 465, .int (nI p)] (hp T (st1 (itN (fun k S1 => st1 S1 16 (16 * n + k) (-1)) (st1 (st1 (st1 (st1 S 0 0 0) 10 n (nI p)) 11 n 10) 12 n 7) 16) 9 0 (nI n + 1)) o) (some (.int (nI n))) := by
  refine am_of (by decide +kernel) (Nat.le_of_ble_eq_true rfl) ?_
  intro C hse hret hname hF hO
  subst hse
  refine am_go hF sgX6_list_0_8bcf7 2 [(0, .ref 465), (1, .int (nI p))] [.int (nI p), .ref 465] sgX6_list_0_8bcf7d rfl ?_
  refine am_dS hF hO [.int (nI p)] [.ref 465] (c_isPerson_t (show p < 16 by omega) rfl) myX6_isPerson syX6_isPerson lm_RX6_118 rfl 0 0 ⟨Nat.le_of_ble_eq_true rfl, Nat.le_of_ble_eq_true rfl⟩ ⟨Nat.le_of_ble_eq_true rfl, Nat.le_of_ble_eq_true rfl, Nat.le_of_ble_eq_true rfl, Nat.le_of_ble_eq_true rfl⟩ rfl (am_lv_ref (hp_m _ _ _) (am_lv_int (am_lv_ref (hp_m _ _ _) am_lv_nil))) (Nat.le_of_ble_eq_true rfl) dX6_list_2 [.int 1, .ref 465] rfl ?_
  refine am_ifne hF 12 dX6_list_5 (by decide) (fun _ => ?_) (fun h9 => False.elim ((by revert h9; decide)))
  refine am_go hF sgX6_list_12_34db8 13 [(0, .ref 465), (1, .int (nI p))] [.ref 465, .ref 465] sgX6_list_12_34db8d rfl ?_
  refine sv_get hF 9 (by decide) rfl lf_RX6_112 (.int (S 9 0)) rfl dX6_list_13 ?_
  refine am_top (nI n) hn ?_
  refine am_go hF sgX6_list_16_ee951 18 [(0, .ref 465), (1, .int (nI p))] [.int 10, .int (nI n), .ref 465] sgX6_list_16_ee951d rfl ?_
  refine am_icmpne hF 25 dX6_list_18 (by decide) (fun _ => ?_) (fun h9 => False.elim (absurd h9 (nc_ne (show n ≠ 10 by omega) (by omega) (by omega) rfl rfl)))
  refine am_go hF sgX6_list_25_56c54 26 [(0, .ref 465), (1, .int (nI p))] [.int 0, .ref 465] sgX6_list_25_56c54d rfl ?_
  refine sv_put hF 0 (by decide) rfl rfl rfl lf_RX6_104 dX6_list_26 ?_
  refine am_go hF sgX6_list_29_34db8 30 [(0, .ref 465), (1, .int (nI p))] [.ref 465] sgX6_list_29_34db8d rfl ?_
  refine sv_get hF 0 (by decide) rfl lf_RX6_104 (.int 0) rfl dX6_list_30 ?_
  refine am_ifle hF 38 dX6_list_33 (by decide) (fun _ => ?_) (fun h9 => False.elim ((by revert h9; decide)))
  refine am_go hF sgX6_list_38_34db8 39 [(0, .ref 465), (1, .int (nI p))] [.ref 465] sgX6_list_38_34db8d rfl ?_
  refine sv_get hF 10 (by decide) rfl lf_RX6_28 (.ref 510) rfl dX6_list_39 ?_
  refine am_go hF sgX6_list_42_34db8 43 [(0, .ref 465), (1, .int (nI p))] [.ref 465, .ref 510] sgX6_list_42_34db8d rfl ?_
  refine sv_get hF 9 (by decide) rfl lf_RX6_112 (.int (S 9 0)) rfl dX6_list_43 ?_
  refine am_top (nI n) hn ?_
  refine am_go hF sgX6_list_46_840bf 47 [(0, .ref 465), (1, .int (nI p))] [.int (nI p), .int (nI n), .ref 510] sgX6_list_46_840bfd rfl ?_
  refine sv_iast hF 10 (by decide) ⟨rfl, rfl, by decide⟩ n rfl (show n < 10 by omega) dX6_list_47 ?_
  refine am_go hF sgX6_list_48_34db8 49 [(0, .ref 465), (1, .int (nI p))] [.ref 465] sgX6_list_48_34db8d rfl ?_
  refine sv_get hF 11 (by decide) rfl lf_RX6_31 (.ref 511) rfl dX6_list_49 ?_
  refine am_go hF sgX6_list_52_34db8 53 [(0, .ref 465), (1, .int (nI p))] [.ref 465, .ref 511] sgX6_list_52_34db8d rfl ?_
  refine sv_get hF 9 (by decide) rfl lf_RX6_112 (.int (S 9 0)) rfl dX6_list_53 ?_
  refine am_top (nI n) hn ?_
  refine am_go hF sgX6_list_56_ee951 58 [(0, .ref 465), (1, .int (nI p))] [.int 10, .int (nI n), .ref 511] sgX6_list_56_ee951d rfl ?_
  refine sv_iast hF 11 (by decide) ⟨rfl, rfl, by decide⟩ n rfl (show n < 10 by omega) dX6_list_58 ?_
  refine am_go hF sgX6_list_59_34db8 60 [(0, .ref 465), (1, .int (nI p))] [.ref 465] sgX6_list_59_34db8d rfl ?_
  refine sv_get hF 12 (by decide) rfl lf_RX6_34 (.ref 512) rfl dX6_list_60 ?_
  refine am_go hF sgX6_list_63_34db8 64 [(0, .ref 465), (1, .int (nI p))] [.ref 465, .ref 512] sgX6_list_63_34db8d rfl ?_
  refine sv_get hF 9 (by decide) rfl lf_RX6_112 (.int (S 9 0)) rfl dX6_list_64 ?_
  refine am_top (nI n) hn ?_
  refine am_go hF sgX6_list_67_3252e 69 [(0, .ref 465), (1, .int (nI p))] [.int 7, .int (nI n), .ref 512] sgX6_list_67_3252ed rfl ?_
  refine sv_iast hF 12 (by decide) ⟨rfl, rfl, by decide⟩ n rfl (show n < 10 by omega) dX6_list_69 ?_
  refine am_go hF sgX6_list_70_01fef 72 [(2, .int 0), (0, .ref 465), (1, .int (nI p))] [] sgX6_list_70_01fefd rfl ?_
  refine am_drop [1, 2, 0] [(0, .ref 465), (1, .int (nI p)), (2, .int 0)] rfl ?_
  have lp72 : ∀ (zz j : Nat) (S1 : am_T), j + zz = 16 → S1 = itN (fun k S1 => st1 S1 16 (16 * n + k) (-1)) (st1 (st1 (st1 (st1 S 0 0 0) 10 n (nI p)) 11 n 10) 12 n 7) j → am_W C (hp T S1 o) 0 0 72 [(0, .ref 465), (1, .int (nI p)), (2, .int (nI j))] [] := by
    intro zz
    induction zz with
    | zero =>
      intro j S1 hj hS1
      have e9j : j = 16 := by omega
      have hn1 : S1 9 0 = nI n := by rw [hS1]; exact (congrFun (itN_f (F := fun k S1 => st1 S1 16 (16 * n + k) (-1)) 9 (fun k S => st1_f (show 9 ≠ 16 by decide)) _ j) 0).trans hn
      refine am_go hF sgX6_list_72_32dd9 75 [(0, .ref 465), (1, .int (nI p)), (2, .int (nI j))] [.int 16, .int (nI j)] sgX6_list_72_32dd9d rfl ?_
      refine am_icmpge hF 99 dX6_list_75 (by decide) (fun _ => ?_) (fun h9 => False.elim (absurd (nc_ge (show 16 ≤ j by omega) (by omega) (by omega) rfl rfl) h9))
      refine am_go hF sgX6_list_99_da752 101 [(0, .ref 465), (1, .int (nI p)), (2, .int (nI j))] [.ref 465, .ref 465] sgX6_list_99_da752d rfl ?_
      refine sv_get hF 9 (by decide) rfl lf_RX6_112 (.int (S1 9 0)) rfl dX6_list_101 ?_
      refine am_top (nI n) hn1 ?_
      refine am_go hF sgX6_list_104_c7176 106 [(0, .ref 465), (1, .int (nI p)), (2, .int (nI j))] [.int ((nI n) + 1), .ref 465] sgX6_list_104_c7176d rfl ?_
      refine sv_put hF 9 (by decide) rfl rfl rfl lf_RX6_112 dX6_list_106 ?_
      refine am_go hF sgX6_list_109_34db8 110 [(0, .ref 465), (1, .int (nI p)), (2, .int (nI j))] [.ref 465] sgX6_list_109_34db8d rfl ?_
      refine sv_get hF 9 (by decide) rfl lf_RX6_112 (.int ((nI n) + 1)) rfl dX6_list_110 ?_
      refine am_go hF sgX6_list_113_d80e0 115 [(0, .ref 465), (1, .int (nI p)), (2, .int (nI j))] [.int (((nI n) + 1) - 1)] sgX6_list_113_d80e0d rfl ?_
      refine am_top (nI n) (by rw [nI_1, nI_pred]) ?_
      exact am_iret hF hO hret rfl dX6_list_115 ⟨by rw [hS1, e9j], rfl⟩
    | succ zz ih72 =>
      intro j S1 hj hS1
      have l9j : j < 16 := by omega
      have hn1 : S1 9 0 = nI n := by rw [hS1]; exact (congrFun (itN_f (F := fun k S1 => st1 S1 16 (16 * n + k) (-1)) 9 (fun k S => st1_f (show 9 ≠ 16 by decide)) _ j) 0).trans hn
      refine am_go hF sgX6_list_72_32dd9 75 [(0, .ref 465), (1, .int (nI p)), (2, .int (nI j))] [.int 16, .int (nI j)] sgX6_list_72_32dd9d rfl ?_
      refine am_icmpge hF 99 dX6_list_75 (by decide) (fun h9 => False.elim (nc_lt_f (show j < 16 by omega) (by omega) (by omega) rfl rfl h9)) (fun _ => ?_)
      refine am_go hF sgX6_list_78_34db8 79 [(0, .ref 465), (1, .int (nI p)), (2, .int (nI j))] [.ref 465] sgX6_list_78_34db8d rfl ?_
      refine sv_get hF 16 (by decide) rfl lf_RX6_47 (.ref 516) rfl dX6_list_79 ?_
      refine am_go hF sgX6_list_82_55b4e 85 [(0, .ref 465), (1, .int (nI p)), (2, .int (nI j))] [.ref 465, .int 16, .ref 516] sgX6_list_82_55b4ed rfl ?_
      refine sv_get hF 9 (by decide) rfl lf_RX6_112 (.int (S1 9 0)) rfl dX6_list_85 ?_
      refine am_top (nI n) hn1 ?_
      refine am_go hF sgX6_list_88_c1fe6 92 [(0, .ref 465), (1, .int (nI p)), (2, .int (nI j))] [.int (-1), .int ((16 * (nI n)) + (nI j)), .ref 516] sgX6_list_88_c1fe6d rfl ?_
      refine sv_iast hF 16 (by decide) ⟨rfl, rfl, by decide⟩ ((16 * n) + j) (am_ad (am_mu rfl rfl) rfl) (show (16 * n) + j < 160 by omega) dX6_list_92 ?_
      refine am_go hF sgX6_list_93_5d3eb 72 [(2, .int ((nI j) + 1)), (0, .ref 465), (1, .int (nI p))] [] sgX6_list_93_5d3ebd rfl ?_
      refine am_drop [1, 2, 0] [(0, .ref 465), (1, .int (nI p)), (2, .int ((nI j) + 1))] rfl ?_
      refine am_eqL [(0, .ref 465), (1, .int (nI p)), (2, .int (nI (j + 1)))] (by rw [nI_1]) ?_
      exact ih72 (j + 1) (st1 S1 16 ((16 * n) + j) (-1)) (by omega) (by show _ = st1 (itN (fun k S1 => st1 S1 16 (16 * n + k) (-1)) (st1 (st1 (st1 (st1 S 0 0 0) 10 n (nI p)) 11 n 10) 12 n 7) j) 16 (16 * n + j) (-1); rw [← hS1])
  exact lp72 16 0 (st1 (st1 (st1 (st1 S 0 0 0) 10 n (nI p)) 11 n 10) 12 n 7) (by omega) rfl
set_option maxRecDepth 100000 in
set_option maxHeartbeats 4000000 in
theorem c_r_join_1 {G : am_S} {T S : am_T} {o : Nat → Int64} {n : Nat} (hn : S 9 0 = nI n) (hn10 : n ≤ 10) {x : Int32} (hx : x < 0 ∨ nI n ≤ x) {y z : Int32} : am_D G yX6_join (.code yX6_join cX6_join 4 (some .int) :: am_G) { frames := 2, cells := 0, slots := 0, locals := 43 } (hp T S o) [.ref 465, .int x, .int y, .int z] (hp T (st1 S 0 0 1) o) (some (.int 0)) := by
  refine am_of (by decide +kernel) (Nat.le_of_ble_eq_true rfl) ?_
  intro C hse hret hname hF hO
  subst hse
  refine am_go hF sgX6_join_0_6b3ba 3 [(0, .ref 465), (1, .int x), (2, .int y), (3, .int z)] [.int x, .ref 465, .ref 465] sgX6_join_0_6b3bad rfl ?_
  refine am_dV hF hO [.int x] [.ref 465] (c_isList_f (S := S) hn hn10 hx) myX6_isList vyX6_isList lm_RX6_122 (hp_m _ _ _) rfl rfl 0 0 ⟨Nat.le_of_ble_eq_true rfl, Nat.le_of_ble_eq_true rfl⟩ ⟨Nat.le_of_ble_eq_true rfl, Nat.le_of_ble_eq_true rfl, Nat.le_of_ble_eq_true rfl, Nat.le_of_ble_eq_true rfl⟩ rfl (am_lv_ref (hp_m _ _ _) (am_lv_int (am_lv_int (am_lv_int (am_lv_ref (hp_m _ _ _) am_lv_nil))))) (Nat.le_of_ble_eq_true rfl) dX6_join_3 [.int 0, .ref 465] rfl ?_
  refine am_ifeq hF 16 dX6_join_6 (by decide) (fun _ => ?_) (fun h9 => False.elim ((by revert h9; decide)))
  refine am_go hF sgX6_join_16_102f3 34 [(0, .ref 465), (1, .int x), (2, .int y), (3, .int z)] [.int 1, .ref 465] sgX6_join_16_102f3d rfl ?_
  refine sv_put hF 0 (by decide) rfl rfl rfl lf_RX6_104 dX6_join_34 ?_
  refine am_go hF sgX6_join_37_34db8 38 [(0, .ref 465), (1, .int x), (2, .int y), (3, .int z)] [.ref 465] sgX6_join_37_34db8d rfl ?_
  refine sv_get hF 0 (by decide) rfl lf_RX6_104 (.int 1) rfl dX6_join_38 ?_
  refine am_ifle hF 46 dX6_join_41 (by decide) (fun h9 => False.elim ((by revert h9; decide))) (fun _ => ?_)
  refine am_go hF sgX6_join_44_56c54 45 [(0, .ref 465), (1, .int x), (2, .int y), (3, .int z)] [.int 0] sgX6_join_44_56c54d rfl ?_
  exact am_iret hF hO hret rfl dX6_join_45 ⟨rfl, rfl⟩
set_option maxRecDepth 100000 in
set_option maxHeartbeats 4000000 in
theorem c_r_join_2 {G : am_S} {T S : am_T} {o : Nat → Int64} {n : Nat} (hn : S 9 0 = nI n) (hn10 : n ≤ 10) {l : Nat} (hl : l < n) {y : Int32} (hy : y < 0 ∨ nI 16 ≤ y) {z : Int32} : am_D G yX6_join (.code yX6_join cX6_join 4 (some .int) :: am_G) { frames := 2, cells := 0, slots := 0, locals := 43 } (hp T S o) [.ref 465, .int (nI l), .int y, .int z] (hp T (st1 S 0 0 1) o) (some (.int 0)) := by
  refine am_of (by decide +kernel) (Nat.le_of_ble_eq_true rfl) ?_
  intro C hse hret hname hF hO
  subst hse
  refine am_go hF sgX6_join_0_6b3ba 3 [(0, .ref 465), (1, .int (nI l)), (2, .int y), (3, .int z)] [.int (nI l), .ref 465, .ref 465] sgX6_join_0_6b3bad rfl ?_
  refine am_dV hF hO [.int (nI l)] [.ref 465] (c_isList_t (S := S) hn hn10 (show l < n by omega) rfl) myX6_isList vyX6_isList lm_RX6_122 (hp_m _ _ _) rfl rfl 0 0 ⟨Nat.le_of_ble_eq_true rfl, Nat.le_of_ble_eq_true rfl⟩ ⟨Nat.le_of_ble_eq_true rfl, Nat.le_of_ble_eq_true rfl, Nat.le_of_ble_eq_true rfl, Nat.le_of_ble_eq_true rfl⟩ rfl (am_lv_ref (hp_m _ _ _) (am_lv_int (am_lv_int (am_lv_int (am_lv_ref (hp_m _ _ _) am_lv_nil))))) (Nat.le_of_ble_eq_true rfl) dX6_join_3 [.int 1, .ref 465] rfl ?_
  refine am_ifeq hF 16 dX6_join_6 (by decide) (fun h9 => False.elim ((by revert h9; decide))) (fun _ => ?_)
  refine am_go hF sgX6_join_9_f8a59 10 [(0, .ref 465), (1, .int (nI l)), (2, .int y), (3, .int z)] [.int y, .ref 465] sgX6_join_9_f8a59d rfl ?_
  refine am_dS hF hO [.int y] [.ref 465] (c_isPerson_f hy) myX6_isPerson syX6_isPerson lm_RX6_118 rfl 0 0 ⟨Nat.le_of_ble_eq_true rfl, Nat.le_of_ble_eq_true rfl⟩ ⟨Nat.le_of_ble_eq_true rfl, Nat.le_of_ble_eq_true rfl, Nat.le_of_ble_eq_true rfl, Nat.le_of_ble_eq_true rfl⟩ rfl (am_lv_ref (hp_m _ _ _) (am_lv_int (am_lv_int (am_lv_int (am_lv_ref (hp_m _ _ _) am_lv_nil))))) (Nat.le_of_ble_eq_true rfl) dX6_join_10 [.int 0, .ref 465] rfl ?_
  refine am_ifne hF 20 dX6_join_13 (by decide) (fun h9 => False.elim ((by revert h9; decide))) (fun _ => ?_)
  refine am_go hF sgX6_join_16_102f3 34 [(0, .ref 465), (1, .int (nI l)), (2, .int y), (3, .int z)] [.int 1, .ref 465] sgX6_join_16_102f3d rfl ?_
  refine sv_put hF 0 (by decide) rfl rfl rfl lf_RX6_104 dX6_join_34 ?_
  refine am_go hF sgX6_join_37_34db8 38 [(0, .ref 465), (1, .int (nI l)), (2, .int y), (3, .int z)] [.ref 465] sgX6_join_37_34db8d rfl ?_
  refine sv_get hF 0 (by decide) rfl lf_RX6_104 (.int 1) rfl dX6_join_38 ?_
  refine am_ifle hF 46 dX6_join_41 (by decide) (fun h9 => False.elim ((by revert h9; decide))) (fun _ => ?_)
  refine am_go hF sgX6_join_44_56c54 45 [(0, .ref 465), (1, .int (nI l)), (2, .int y), (3, .int z)] [.int 0] sgX6_join_44_56c54d rfl ?_
  exact am_iret hF hO hret rfl dX6_join_45 ⟨rfl, rfl⟩
set_option maxRecDepth 100000 in
set_option maxHeartbeats 4000000 in
theorem c_r_join_3 {G : am_S} {T S : am_T} {o : Nat → Int64} {n : Nat} (hn : S 9 0 = nI n) (hn10 : n ≤ 10) {l : Nat} (hl : l < n) {p : Nat} (hp9 : p < 16) {z : Int32} (hz : z < 0 ∨ nI 2 ≤ z) : am_D G yX6_join (.code yX6_join cX6_join 4 (some .int) :: am_G) { frames := 2, cells := 0, slots := 0, locals := 43 } (hp T S o) [.ref 465, .int (nI l), .int (nI p), .int z] (hp T (st1 S 0 0 2) o) (some (.int 0)) := by
  refine am_of (by decide +kernel) (Nat.le_of_ble_eq_true rfl) ?_
  intro C hse hret hname hF hO
  subst hse
  refine am_go hF sgX6_join_0_6b3ba 3 [(0, .ref 465), (1, .int (nI l)), (2, .int (nI p)), (3, .int z)] [.int (nI l), .ref 465, .ref 465] sgX6_join_0_6b3bad rfl ?_
  refine am_dV hF hO [.int (nI l)] [.ref 465] (c_isList_t (S := S) hn hn10 (show l < n by omega) rfl) myX6_isList vyX6_isList lm_RX6_122 (hp_m _ _ _) rfl rfl 0 0 ⟨Nat.le_of_ble_eq_true rfl, Nat.le_of_ble_eq_true rfl⟩ ⟨Nat.le_of_ble_eq_true rfl, Nat.le_of_ble_eq_true rfl, Nat.le_of_ble_eq_true rfl, Nat.le_of_ble_eq_true rfl⟩ rfl (am_lv_ref (hp_m _ _ _) (am_lv_int (am_lv_int (am_lv_int (am_lv_ref (hp_m _ _ _) am_lv_nil))))) (Nat.le_of_ble_eq_true rfl) dX6_join_3 [.int 1, .ref 465] rfl ?_
  refine am_ifeq hF 16 dX6_join_6 (by decide) (fun h9 => False.elim ((by revert h9; decide))) (fun _ => ?_)
  refine am_go hF sgX6_join_9_f8a59 10 [(0, .ref 465), (1, .int (nI l)), (2, .int (nI p)), (3, .int z)] [.int (nI p), .ref 465] sgX6_join_9_f8a59d rfl ?_
  refine am_dS hF hO [.int (nI p)] [.ref 465] (c_isPerson_t (show p < 16 by omega) rfl) myX6_isPerson syX6_isPerson lm_RX6_118 rfl 0 0 ⟨Nat.le_of_ble_eq_true rfl, Nat.le_of_ble_eq_true rfl⟩ ⟨Nat.le_of_ble_eq_true rfl, Nat.le_of_ble_eq_true rfl, Nat.le_of_ble_eq_true rfl, Nat.le_of_ble_eq_true rfl⟩ rfl (am_lv_ref (hp_m _ _ _) (am_lv_int (am_lv_int (am_lv_int (am_lv_ref (hp_m _ _ _) am_lv_nil))))) (Nat.le_of_ble_eq_true rfl) dX6_join_10 [.int 1, .ref 465] rfl ?_
  refine am_ifne hF 20 dX6_join_13 (by decide) (fun _ => ?_) (fun h9 => False.elim ((by revert h9; decide)))
  refine am_go hF sgX6_join_20_1d545 23 [(0, .ref 465), (1, .int (nI l)), (2, .int (nI p)), (3, .int z)] [.int 1, .int 0, .int z, .ref 465] sgX6_join_20_1d545d rfl ?_
  refine am_dS hF hO [.int z, .int 0, .int 1] [.ref 465] (c_isIn_f (ii_f (m := 1) hz (by decide) rfl)) myX6_isIn syX6_isIn lm_RX6_108 rfl 0 0 ⟨Nat.le_of_ble_eq_true rfl, Nat.le_of_ble_eq_true rfl⟩ ⟨Nat.le_of_ble_eq_true rfl, Nat.le_of_ble_eq_true rfl, Nat.le_of_ble_eq_true rfl, Nat.le_of_ble_eq_true rfl⟩ rfl (am_lv_ref (hp_m _ _ _) (am_lv_int (am_lv_int (am_lv_int (am_lv_ref (hp_m _ _ _) am_lv_nil))))) (Nat.le_of_ble_eq_true rfl) dX6_join_23 [.int 0, .ref 465] rfl ?_
  refine am_ifeq hF 33 dX6_join_26 (by decide) (fun _ => ?_) (fun h9 => False.elim ((by revert h9; decide)))
  refine am_go hF sgX6_join_33_d5620 34 [(0, .ref 465), (1, .int (nI l)), (2, .int (nI p)), (3, .int z)] [.int 2, .ref 465] sgX6_join_33_d5620d rfl ?_
  refine sv_put hF 0 (by decide) rfl rfl rfl lf_RX6_104 dX6_join_34 ?_
  refine am_go hF sgX6_join_37_34db8 38 [(0, .ref 465), (1, .int (nI l)), (2, .int (nI p)), (3, .int z)] [.ref 465] sgX6_join_37_34db8d rfl ?_
  refine sv_get hF 0 (by decide) rfl lf_RX6_104 (.int 2) rfl dX6_join_38 ?_
  refine am_ifle hF 46 dX6_join_41 (by decide) (fun h9 => False.elim ((by revert h9; decide))) (fun _ => ?_)
  refine am_go hF sgX6_join_44_56c54 45 [(0, .ref 465), (1, .int (nI l)), (2, .int (nI p)), (3, .int z)] [.int 0] sgX6_join_44_56c54d rfl ?_
  exact am_iret hF hO hret rfl dX6_join_45 ⟨rfl, rfl⟩
set_option maxRecDepth 100000 in
set_option maxHeartbeats 4000000 in
theorem c_r_join_4 {G : am_S} {T S : am_T} {o : Nat → Int64} {n : Nat} (hn : S 9 0 = nI n) (hn10 : n ≤ 10) {l : Nat} (hl : l < n) {p : Nat} (hp9 : p < 16) {h : Nat} (hh : h < 2) (hmem : ¬ S 16 (16 * l + p) = -1) : am_D G yX6_join (.code yX6_join cX6_join 4 (some .int) :: am_G) { frames := 2, cells := 0, slots := 0, locals := 43 } (hp T S o) [.ref 465, .int (nI l), .int (nI p), .int (nI h)] (hp T (st1 (st1 S 0 0 0) 0 0 3) o) (some (.int 0)) := by
  refine am_of (by decide +kernel) (Nat.le_of_ble_eq_true rfl) ?_
  intro C hse hret hname hF hO
  subst hse
  refine am_go hF sgX6_join_0_6b3ba 3 [(0, .ref 465), (1, .int (nI l)), (2, .int (nI p)), (3, .int (nI h))] [.int (nI l), .ref 465, .ref 465] sgX6_join_0_6b3bad rfl ?_
  refine am_dV hF hO [.int (nI l)] [.ref 465] (c_isList_t (S := S) hn hn10 (show l < n by omega) rfl) myX6_isList vyX6_isList lm_RX6_122 (hp_m _ _ _) rfl rfl 0 0 ⟨Nat.le_of_ble_eq_true rfl, Nat.le_of_ble_eq_true rfl⟩ ⟨Nat.le_of_ble_eq_true rfl, Nat.le_of_ble_eq_true rfl, Nat.le_of_ble_eq_true rfl, Nat.le_of_ble_eq_true rfl⟩ rfl (am_lv_ref (hp_m _ _ _) (am_lv_int (am_lv_int (am_lv_int (am_lv_ref (hp_m _ _ _) am_lv_nil))))) (Nat.le_of_ble_eq_true rfl) dX6_join_3 [.int 1, .ref 465] rfl ?_
  refine am_ifeq hF 16 dX6_join_6 (by decide) (fun h9 => False.elim ((by revert h9; decide))) (fun _ => ?_)
  refine am_go hF sgX6_join_9_f8a59 10 [(0, .ref 465), (1, .int (nI l)), (2, .int (nI p)), (3, .int (nI h))] [.int (nI p), .ref 465] sgX6_join_9_f8a59d rfl ?_
  refine am_dS hF hO [.int (nI p)] [.ref 465] (c_isPerson_t (show p < 16 by omega) rfl) myX6_isPerson syX6_isPerson lm_RX6_118 rfl 0 0 ⟨Nat.le_of_ble_eq_true rfl, Nat.le_of_ble_eq_true rfl⟩ ⟨Nat.le_of_ble_eq_true rfl, Nat.le_of_ble_eq_true rfl, Nat.le_of_ble_eq_true rfl, Nat.le_of_ble_eq_true rfl⟩ rfl (am_lv_ref (hp_m _ _ _) (am_lv_int (am_lv_int (am_lv_int (am_lv_ref (hp_m _ _ _) am_lv_nil))))) (Nat.le_of_ble_eq_true rfl) dX6_join_10 [.int 1, .ref 465] rfl ?_
  refine am_ifne hF 20 dX6_join_13 (by decide) (fun _ => ?_) (fun h9 => False.elim ((by revert h9; decide)))
  refine am_go hF sgX6_join_20_1d545 23 [(0, .ref 465), (1, .int (nI l)), (2, .int (nI p)), (3, .int (nI h))] [.int 1, .int 0, .int (nI h), .ref 465] sgX6_join_20_1d545d rfl ?_
  refine am_dS hF hO [.int (nI h), .int 0, .int 1] [.ref 465] (c_isIn_t (ii_0 rfl (by omega) rfl) (ii_1 (m := 1) rfl (by omega) (by decide) rfl)) myX6_isIn syX6_isIn lm_RX6_108 rfl 0 0 ⟨Nat.le_of_ble_eq_true rfl, Nat.le_of_ble_eq_true rfl⟩ ⟨Nat.le_of_ble_eq_true rfl, Nat.le_of_ble_eq_true rfl, Nat.le_of_ble_eq_true rfl, Nat.le_of_ble_eq_true rfl⟩ rfl (am_lv_ref (hp_m _ _ _) (am_lv_int (am_lv_int (am_lv_int (am_lv_ref (hp_m _ _ _) am_lv_nil))))) (Nat.le_of_ble_eq_true rfl) dX6_join_23 [.int 1, .ref 465] rfl ?_
  refine am_ifeq hF 33 dX6_join_26 (by decide) (fun h9 => False.elim ((by revert h9; decide))) (fun _ => ?_)
  refine am_go hF sgX6_join_29_1cbe9 34 [(0, .ref 465), (1, .int (nI l)), (2, .int (nI p)), (3, .int (nI h))] [.int 0, .ref 465] sgX6_join_29_1cbe9d rfl ?_
  refine sv_put hF 0 (by decide) rfl rfl rfl lf_RX6_104 dX6_join_34 ?_
  refine am_go hF sgX6_join_37_34db8 38 [(0, .ref 465), (1, .int (nI l)), (2, .int (nI p)), (3, .int (nI h))] [.ref 465] sgX6_join_37_34db8d rfl ?_
  refine sv_get hF 0 (by decide) rfl lf_RX6_104 (.int 0) rfl dX6_join_38 ?_
  refine am_ifle hF 46 dX6_join_41 (by decide) (fun _ => ?_) (fun h9 => False.elim ((by revert h9; decide)))
  refine am_go hF sgX6_join_46_c81f7 48 [(0, .ref 465), (1, .int (nI l)), (2, .int (nI p)), (3, .int (nI h))] [.ref 465, .ref 465] sgX6_join_46_c81f7d rfl ?_
  refine sv_get hF 16 (by decide) rfl lf_RX6_47 (.ref 516) rfl dX6_join_48 ?_
  refine am_go hF sgX6_join_51_b6bf4 57 [(0, .ref 465), (1, .int (nI l)), (2, .int (nI p)), (3, .int (nI h))] [.int ((16 * (nI l)) + (nI p)), .ref 516, .ref 465] sgX6_join_51_b6bf4d rfl ?_
  refine sv_iald hF 16 (by decide) ⟨rfl, rfl, by decide⟩ ((16 * l) + p) (am_ad (am_mu rfl rfl) rfl) (show (16 * l) + p < 160 by omega) dX6_join_57 ?_
  refine am_top (S 16 ((16 * l) + p)) rfl ?_
  refine am_go hF sgX6_join_58_5ff24 59 [(0, .ref 465), (1, .int (nI l)), (2, .int (nI p)), (3, .int (nI h))] [.int (-1), .int (S 16 ((16 * l) + p)), .ref 465] sgX6_join_58_5ff24d rfl ?_
  refine am_icmpne hF 66 dX6_join_59 (by decide) (fun _ => ?_) (fun h9 => False.elim (absurd h9 hmem))
  refine am_go hF sgX6_join_66_800cc 67 [(0, .ref 465), (1, .int (nI l)), (2, .int (nI p)), (3, .int (nI h))] [.int 3, .ref 465] sgX6_join_66_800ccd rfl ?_
  refine sv_put hF 0 (by decide) rfl rfl rfl lf_RX6_104 dX6_join_67 ?_
  refine am_go hF sgX6_join_70_34db8 71 [(0, .ref 465), (1, .int (nI l)), (2, .int (nI p)), (3, .int (nI h))] [.ref 465] sgX6_join_70_34db8d rfl ?_
  refine sv_get hF 0 (by decide) rfl lf_RX6_104 (.int 3) rfl dX6_join_71 ?_
  refine am_ifle hF 79 dX6_join_74 (by decide) (fun h9 => False.elim ((by revert h9; decide))) (fun _ => ?_)
  refine am_go hF sgX6_join_77_56c54 78 [(0, .ref 465), (1, .int (nI l)), (2, .int (nI p)), (3, .int (nI h))] [.int 0] sgX6_join_77_56c54d rfl ?_
  exact am_iret hF hO hret rfl dX6_join_78 ⟨rfl, rfl⟩
set_option maxRecDepth 100000 in
set_option maxHeartbeats 4000000 in
theorem c_r_join_5 {G : am_S} {T S : am_T} {o : Nat → Int64} {n : Nat} (hn : S 9 0 = nI n) (hn10 : n ≤ 10) {l : Nat} (hl : l < n) {p : Nat} (hp9 : p < 16) {h : Nat} (hh : h < 2) (hmem : S 16 (16 * l + p) = -1) : am_D G yX6_join (.code yX6_join cX6_join 4 (some .int) :: am_G) { frames := 2, cells := 0, slots := 0, locals := 43 } (hp T S o) [.ref 465, .int (nI l), .int (nI p), .int (nI h)] (hp T (st1 (st1 (st1 S 0 0 0) 0 0 0) 16 ((16 * l) + p) (nI h)) o) (some (.int (rCnt (st1 (st1 (st1 S 0 0 0) 0 0 0) 16 ((16 * l) + p) (nI h)) l))) := by
  refine am_of (by decide +kernel) (Nat.le_of_ble_eq_true rfl) ?_
  intro C hse hret hname hF hO
  subst hse
  refine am_go hF sgX6_join_0_6b3ba 3 [(0, .ref 465), (1, .int (nI l)), (2, .int (nI p)), (3, .int (nI h))] [.int (nI l), .ref 465, .ref 465] sgX6_join_0_6b3bad rfl ?_
  refine am_dV hF hO [.int (nI l)] [.ref 465] (c_isList_t (S := S) hn hn10 (show l < n by omega) rfl) myX6_isList vyX6_isList lm_RX6_122 (hp_m _ _ _) rfl rfl 0 0 ⟨Nat.le_of_ble_eq_true rfl, Nat.le_of_ble_eq_true rfl⟩ ⟨Nat.le_of_ble_eq_true rfl, Nat.le_of_ble_eq_true rfl, Nat.le_of_ble_eq_true rfl, Nat.le_of_ble_eq_true rfl⟩ rfl (am_lv_ref (hp_m _ _ _) (am_lv_int (am_lv_int (am_lv_int (am_lv_ref (hp_m _ _ _) am_lv_nil))))) (Nat.le_of_ble_eq_true rfl) dX6_join_3 [.int 1, .ref 465] rfl ?_
  refine am_ifeq hF 16 dX6_join_6 (by decide) (fun h9 => False.elim ((by revert h9; decide))) (fun _ => ?_)
  refine am_go hF sgX6_join_9_f8a59 10 [(0, .ref 465), (1, .int (nI l)), (2, .int (nI p)), (3, .int (nI h))] [.int (nI p), .ref 465] sgX6_join_9_f8a59d rfl ?_
  refine am_dS hF hO [.int (nI p)] [.ref 465] (c_isPerson_t (show p < 16 by omega) rfl) myX6_isPerson syX6_isPerson lm_RX6_118 rfl 0 0 ⟨Nat.le_of_ble_eq_true rfl, Nat.le_of_ble_eq_true rfl⟩ ⟨Nat.le_of_ble_eq_true rfl, Nat.le_of_ble_eq_true rfl, Nat.le_of_ble_eq_true rfl, Nat.le_of_ble_eq_true rfl⟩ rfl (am_lv_ref (hp_m _ _ _) (am_lv_int (am_lv_int (am_lv_int (am_lv_ref (hp_m _ _ _) am_lv_nil))))) (Nat.le_of_ble_eq_true rfl) dX6_join_10 [.int 1, .ref 465] rfl ?_
  refine am_ifne hF 20 dX6_join_13 (by decide) (fun _ => ?_) (fun h9 => False.elim ((by revert h9; decide)))
  refine am_go hF sgX6_join_20_1d545 23 [(0, .ref 465), (1, .int (nI l)), (2, .int (nI p)), (3, .int (nI h))] [.int 1, .int 0, .int (nI h), .ref 465] sgX6_join_20_1d545d rfl ?_
  refine am_dS hF hO [.int (nI h), .int 0, .int 1] [.ref 465] (c_isIn_t (ii_0 rfl (by omega) rfl) (ii_1 (m := 1) rfl (by omega) (by decide) rfl)) myX6_isIn syX6_isIn lm_RX6_108 rfl 0 0 ⟨Nat.le_of_ble_eq_true rfl, Nat.le_of_ble_eq_true rfl⟩ ⟨Nat.le_of_ble_eq_true rfl, Nat.le_of_ble_eq_true rfl, Nat.le_of_ble_eq_true rfl, Nat.le_of_ble_eq_true rfl⟩ rfl (am_lv_ref (hp_m _ _ _) (am_lv_int (am_lv_int (am_lv_int (am_lv_ref (hp_m _ _ _) am_lv_nil))))) (Nat.le_of_ble_eq_true rfl) dX6_join_23 [.int 1, .ref 465] rfl ?_
  refine am_ifeq hF 33 dX6_join_26 (by decide) (fun h9 => False.elim ((by revert h9; decide))) (fun _ => ?_)
  refine am_go hF sgX6_join_29_1cbe9 34 [(0, .ref 465), (1, .int (nI l)), (2, .int (nI p)), (3, .int (nI h))] [.int 0, .ref 465] sgX6_join_29_1cbe9d rfl ?_
  refine sv_put hF 0 (by decide) rfl rfl rfl lf_RX6_104 dX6_join_34 ?_
  refine am_go hF sgX6_join_37_34db8 38 [(0, .ref 465), (1, .int (nI l)), (2, .int (nI p)), (3, .int (nI h))] [.ref 465] sgX6_join_37_34db8d rfl ?_
  refine sv_get hF 0 (by decide) rfl lf_RX6_104 (.int 0) rfl dX6_join_38 ?_
  refine am_ifle hF 46 dX6_join_41 (by decide) (fun _ => ?_) (fun h9 => False.elim ((by revert h9; decide)))
  refine am_go hF sgX6_join_46_c81f7 48 [(0, .ref 465), (1, .int (nI l)), (2, .int (nI p)), (3, .int (nI h))] [.ref 465, .ref 465] sgX6_join_46_c81f7d rfl ?_
  refine sv_get hF 16 (by decide) rfl lf_RX6_47 (.ref 516) rfl dX6_join_48 ?_
  refine am_go hF sgX6_join_51_b6bf4 57 [(0, .ref 465), (1, .int (nI l)), (2, .int (nI p)), (3, .int (nI h))] [.int ((16 * (nI l)) + (nI p)), .ref 516, .ref 465] sgX6_join_51_b6bf4d rfl ?_
  refine sv_iald hF 16 (by decide) ⟨rfl, rfl, by decide⟩ ((16 * l) + p) (am_ad (am_mu rfl rfl) rfl) (show (16 * l) + p < 160 by omega) dX6_join_57 ?_
  refine am_top (S 16 ((16 * l) + p)) rfl ?_
  refine am_go hF sgX6_join_58_5ff24 59 [(0, .ref 465), (1, .int (nI l)), (2, .int (nI p)), (3, .int (nI h))] [.int (-1), .int (S 16 ((16 * l) + p)), .ref 465] sgX6_join_58_5ff24d rfl ?_
  refine am_icmpne hF 66 dX6_join_59 (by decide) (fun h9 => False.elim (absurd hmem h9)) (fun _ => ?_)
  refine am_go hF sgX6_join_62_1cbe9 67 [(0, .ref 465), (1, .int (nI l)), (2, .int (nI p)), (3, .int (nI h))] [.int 0, .ref 465] sgX6_join_62_1cbe9d rfl ?_
  refine sv_put hF 0 (by decide) rfl rfl rfl lf_RX6_104 dX6_join_67 ?_
  refine am_go hF sgX6_join_70_34db8 71 [(0, .ref 465), (1, .int (nI l)), (2, .int (nI p)), (3, .int (nI h))] [.ref 465] sgX6_join_70_34db8d rfl ?_
  refine sv_get hF 0 (by decide) rfl lf_RX6_104 (.int 0) rfl dX6_join_71 ?_
  refine am_ifle hF 79 dX6_join_74 (by decide) (fun _ => ?_) (fun h9 => False.elim ((by revert h9; decide)))
  refine am_go hF sgX6_join_79_34db8 80 [(0, .ref 465), (1, .int (nI l)), (2, .int (nI p)), (3, .int (nI h))] [.ref 465] sgX6_join_79_34db8d rfl ?_
  refine sv_get hF 16 (by decide) rfl lf_RX6_47 (.ref 516) rfl dX6_join_80 ?_
  refine am_go hF sgX6_join_83_e725d 90 [(0, .ref 465), (1, .int (nI l)), (2, .int (nI p)), (3, .int (nI h))] [.int (nI h), .int ((16 * (nI l)) + (nI p)), .ref 516] sgX6_join_83_e725dd rfl ?_
  refine sv_iast hF 16 (by decide) ⟨rfl, rfl, by decide⟩ ((16 * l) + p) (am_ad (am_mu rfl rfl) rfl) (show (16 * l) + p < 160 by omega) dX6_join_90 ?_
  refine am_go hF sgX6_join_91_8bcf7 93 [(0, .ref 465), (1, .int (nI l)), (2, .int (nI p)), (3, .int (nI h))] [.int (nI l), .ref 465] sgX6_join_91_8bcf7d rfl ?_
  refine am_dV hF hO [.int (nI l)] [] (c_membersOf (S := (st1 (st1 (st1 S 0 0 0) 0 0 0) 16 ((16 * l) + p) (nI h))) (show l < 10 by omega)) myX6_membersOf vyX6_membersOf lm_RX6_125 (hp_m _ _ _) rfl rfl 0 0 ⟨Nat.le_of_ble_eq_true rfl, Nat.le_of_ble_eq_true rfl⟩ ⟨Nat.le_of_ble_eq_true rfl, Nat.le_of_ble_eq_true rfl, Nat.le_of_ble_eq_true rfl, Nat.le_of_ble_eq_true rfl⟩ rfl (am_lv_ref (hp_m _ _ _) (am_lv_int (am_lv_int (am_lv_int am_lv_nil)))) (Nat.le_of_ble_eq_true rfl) dX6_join_93 [.int (rCnt (st1 (st1 (st1 S 0 0 0) 0 0 0) 16 ((16 * l) + p) (nI h)) l)] rfl ?_
  exact am_iret hF hO hret rfl dX6_join_96 ⟨rfl, rfl⟩
set_option maxRecDepth 100000 in
set_option maxHeartbeats 4000000 in
theorem c_r_mode_1 {G : am_S} {T S : am_T} {o : Nat → Int64} {n : Nat} (hn : S 9 0 = nI n) (hn10 : n ≤ 10) {x : Int32} (hx : x < 0 ∨ nI n ≤ x) {y z : Int32} : am_D G yX6_mode (.code yX6_mode cX6_mode 5 (some .int) :: am_G) { frames := 2, cells := 0, slots := 0, locals := 43 } (hp T S o) [.ref 465, .int x, .int y, .int z] (hp T (st1 S 0 0 1) o) (some (.int 0)) := by
  refine am_of (by decide +kernel) (Nat.le_of_ble_eq_true rfl) ?_
  intro C hse hret hname hF hO
  subst hse
  refine am_go hF sgX6_mode_0_6b3ba 3 [(0, .ref 465), (1, .int x), (2, .int y), (3, .int z)] [.int x, .ref 465, .ref 465] sgX6_mode_0_6b3bad rfl ?_
  refine am_dV hF hO [.int x] [.ref 465] (c_isList_f (S := S) hn hn10 hx) myX6_isList vyX6_isList lm_RX6_122 (hp_m _ _ _) rfl rfl 0 0 ⟨Nat.le_of_ble_eq_true rfl, Nat.le_of_ble_eq_true rfl⟩ ⟨Nat.le_of_ble_eq_true rfl, Nat.le_of_ble_eq_true rfl, Nat.le_of_ble_eq_true rfl, Nat.le_of_ble_eq_true rfl⟩ rfl (am_lv_ref (hp_m _ _ _) (am_lv_int (am_lv_int (am_lv_int (am_lv_ref (hp_m _ _ _) am_lv_nil))))) (Nat.le_of_ble_eq_true rfl) dX6_mode_3 [.int 0, .ref 465] rfl ?_
  refine am_ifeq hF 16 dX6_mode_6 (by decide) (fun _ => ?_) (fun h9 => False.elim ((by revert h9; decide)))
  refine am_go hF sgX6_mode_16_102f3 34 [(0, .ref 465), (1, .int x), (2, .int y), (3, .int z)] [.int 1, .ref 465] sgX6_mode_16_102f3d rfl ?_
  refine sv_put hF 0 (by decide) rfl rfl rfl lf_RX6_104 dX6_mode_34 ?_
  refine am_go hF sgX6_mode_37_34db8 38 [(0, .ref 465), (1, .int x), (2, .int y), (3, .int z)] [.ref 465] sgX6_mode_37_34db8d rfl ?_
  refine sv_get hF 0 (by decide) rfl lf_RX6_104 (.int 1) rfl dX6_mode_38 ?_
  refine am_ifle hF 46 dX6_mode_41 (by decide) (fun h9 => False.elim ((by revert h9; decide))) (fun _ => ?_)
  refine am_go hF sgX6_mode_44_56c54 45 [(0, .ref 465), (1, .int x), (2, .int y), (3, .int z)] [.int 0] sgX6_mode_44_56c54d rfl ?_
  exact am_iret hF hO hret rfl dX6_mode_45 ⟨rfl, rfl⟩
set_option maxRecDepth 100000 in
set_option maxHeartbeats 4000000 in
theorem c_r_mode_2 {G : am_S} {T S : am_T} {o : Nat → Int64} {n : Nat} (hn : S 9 0 = nI n) (hn10 : n ≤ 10) {l : Nat} (hl : l < n) {y : Int32} (hy : y < 0 ∨ nI 16 ≤ y) {z : Int32} : am_D G yX6_mode (.code yX6_mode cX6_mode 5 (some .int) :: am_G) { frames := 2, cells := 0, slots := 0, locals := 43 } (hp T S o) [.ref 465, .int (nI l), .int y, .int z] (hp T (st1 S 0 0 1) o) (some (.int 0)) := by
  refine am_of (by decide +kernel) (Nat.le_of_ble_eq_true rfl) ?_
  intro C hse hret hname hF hO
  subst hse
  refine am_go hF sgX6_mode_0_6b3ba 3 [(0, .ref 465), (1, .int (nI l)), (2, .int y), (3, .int z)] [.int (nI l), .ref 465, .ref 465] sgX6_mode_0_6b3bad rfl ?_
  refine am_dV hF hO [.int (nI l)] [.ref 465] (c_isList_t (S := S) hn hn10 (show l < n by omega) rfl) myX6_isList vyX6_isList lm_RX6_122 (hp_m _ _ _) rfl rfl 0 0 ⟨Nat.le_of_ble_eq_true rfl, Nat.le_of_ble_eq_true rfl⟩ ⟨Nat.le_of_ble_eq_true rfl, Nat.le_of_ble_eq_true rfl, Nat.le_of_ble_eq_true rfl, Nat.le_of_ble_eq_true rfl⟩ rfl (am_lv_ref (hp_m _ _ _) (am_lv_int (am_lv_int (am_lv_int (am_lv_ref (hp_m _ _ _) am_lv_nil))))) (Nat.le_of_ble_eq_true rfl) dX6_mode_3 [.int 1, .ref 465] rfl ?_
  refine am_ifeq hF 16 dX6_mode_6 (by decide) (fun h9 => False.elim ((by revert h9; decide))) (fun _ => ?_)
  refine am_go hF sgX6_mode_9_f8a59 10 [(0, .ref 465), (1, .int (nI l)), (2, .int y), (3, .int z)] [.int y, .ref 465] sgX6_mode_9_f8a59d rfl ?_
  refine am_dS hF hO [.int y] [.ref 465] (c_isPerson_f hy) myX6_isPerson syX6_isPerson lm_RX6_118 rfl 0 0 ⟨Nat.le_of_ble_eq_true rfl, Nat.le_of_ble_eq_true rfl⟩ ⟨Nat.le_of_ble_eq_true rfl, Nat.le_of_ble_eq_true rfl, Nat.le_of_ble_eq_true rfl, Nat.le_of_ble_eq_true rfl⟩ rfl (am_lv_ref (hp_m _ _ _) (am_lv_int (am_lv_int (am_lv_int (am_lv_ref (hp_m _ _ _) am_lv_nil))))) (Nat.le_of_ble_eq_true rfl) dX6_mode_10 [.int 0, .ref 465] rfl ?_
  refine am_ifne hF 20 dX6_mode_13 (by decide) (fun h9 => False.elim ((by revert h9; decide))) (fun _ => ?_)
  refine am_go hF sgX6_mode_16_102f3 34 [(0, .ref 465), (1, .int (nI l)), (2, .int y), (3, .int z)] [.int 1, .ref 465] sgX6_mode_16_102f3d rfl ?_
  refine sv_put hF 0 (by decide) rfl rfl rfl lf_RX6_104 dX6_mode_34 ?_
  refine am_go hF sgX6_mode_37_34db8 38 [(0, .ref 465), (1, .int (nI l)), (2, .int y), (3, .int z)] [.ref 465] sgX6_mode_37_34db8d rfl ?_
  refine sv_get hF 0 (by decide) rfl lf_RX6_104 (.int 1) rfl dX6_mode_38 ?_
  refine am_ifle hF 46 dX6_mode_41 (by decide) (fun h9 => False.elim ((by revert h9; decide))) (fun _ => ?_)
  refine am_go hF sgX6_mode_44_56c54 45 [(0, .ref 465), (1, .int (nI l)), (2, .int y), (3, .int z)] [.int 0] sgX6_mode_44_56c54d rfl ?_
  exact am_iret hF hO hret rfl dX6_mode_45 ⟨rfl, rfl⟩
set_option maxRecDepth 100000 in
set_option maxHeartbeats 4000000 in
theorem c_r_mode_3 {G : am_S} {T S : am_T} {o : Nat → Int64} {n : Nat} (hn : S 9 0 = nI n) (hn10 : n ≤ 10) {l : Nat} (hl : l < n) {p : Nat} (hp9 : p < 16) {z : Int32} (hz : z < 0 ∨ nI 2 ≤ z) : am_D G yX6_mode (.code yX6_mode cX6_mode 5 (some .int) :: am_G) { frames := 2, cells := 0, slots := 0, locals := 43 } (hp T S o) [.ref 465, .int (nI l), .int (nI p), .int z] (hp T (st1 S 0 0 2) o) (some (.int 0)) := by
  refine am_of (by decide +kernel) (Nat.le_of_ble_eq_true rfl) ?_
  intro C hse hret hname hF hO
  subst hse
  refine am_go hF sgX6_mode_0_6b3ba 3 [(0, .ref 465), (1, .int (nI l)), (2, .int (nI p)), (3, .int z)] [.int (nI l), .ref 465, .ref 465] sgX6_mode_0_6b3bad rfl ?_
  refine am_dV hF hO [.int (nI l)] [.ref 465] (c_isList_t (S := S) hn hn10 (show l < n by omega) rfl) myX6_isList vyX6_isList lm_RX6_122 (hp_m _ _ _) rfl rfl 0 0 ⟨Nat.le_of_ble_eq_true rfl, Nat.le_of_ble_eq_true rfl⟩ ⟨Nat.le_of_ble_eq_true rfl, Nat.le_of_ble_eq_true rfl, Nat.le_of_ble_eq_true rfl, Nat.le_of_ble_eq_true rfl⟩ rfl (am_lv_ref (hp_m _ _ _) (am_lv_int (am_lv_int (am_lv_int (am_lv_ref (hp_m _ _ _) am_lv_nil))))) (Nat.le_of_ble_eq_true rfl) dX6_mode_3 [.int 1, .ref 465] rfl ?_
  refine am_ifeq hF 16 dX6_mode_6 (by decide) (fun h9 => False.elim ((by revert h9; decide))) (fun _ => ?_)
  refine am_go hF sgX6_mode_9_f8a59 10 [(0, .ref 465), (1, .int (nI l)), (2, .int (nI p)), (3, .int z)] [.int (nI p), .ref 465] sgX6_mode_9_f8a59d rfl ?_
  refine am_dS hF hO [.int (nI p)] [.ref 465] (c_isPerson_t (show p < 16 by omega) rfl) myX6_isPerson syX6_isPerson lm_RX6_118 rfl 0 0 ⟨Nat.le_of_ble_eq_true rfl, Nat.le_of_ble_eq_true rfl⟩ ⟨Nat.le_of_ble_eq_true rfl, Nat.le_of_ble_eq_true rfl, Nat.le_of_ble_eq_true rfl, Nat.le_of_ble_eq_true rfl⟩ rfl (am_lv_ref (hp_m _ _ _) (am_lv_int (am_lv_int (am_lv_int (am_lv_ref (hp_m _ _ _) am_lv_nil))))) (Nat.le_of_ble_eq_true rfl) dX6_mode_10 [.int 1, .ref 465] rfl ?_
  refine am_ifne hF 20 dX6_mode_13 (by decide) (fun _ => ?_) (fun h9 => False.elim ((by revert h9; decide)))
  refine am_go hF sgX6_mode_20_1d545 23 [(0, .ref 465), (1, .int (nI l)), (2, .int (nI p)), (3, .int z)] [.int 1, .int 0, .int z, .ref 465] sgX6_mode_20_1d545d rfl ?_
  refine am_dS hF hO [.int z, .int 0, .int 1] [.ref 465] (c_isIn_f (ii_f (m := 1) hz (by decide) rfl)) myX6_isIn syX6_isIn lm_RX6_108 rfl 0 0 ⟨Nat.le_of_ble_eq_true rfl, Nat.le_of_ble_eq_true rfl⟩ ⟨Nat.le_of_ble_eq_true rfl, Nat.le_of_ble_eq_true rfl, Nat.le_of_ble_eq_true rfl, Nat.le_of_ble_eq_true rfl⟩ rfl (am_lv_ref (hp_m _ _ _) (am_lv_int (am_lv_int (am_lv_int (am_lv_ref (hp_m _ _ _) am_lv_nil))))) (Nat.le_of_ble_eq_true rfl) dX6_mode_23 [.int 0, .ref 465] rfl ?_
  refine am_ifeq hF 33 dX6_mode_26 (by decide) (fun _ => ?_) (fun h9 => False.elim ((by revert h9; decide)))
  refine am_go hF sgX6_mode_33_d5620 34 [(0, .ref 465), (1, .int (nI l)), (2, .int (nI p)), (3, .int z)] [.int 2, .ref 465] sgX6_mode_33_d5620d rfl ?_
  refine sv_put hF 0 (by decide) rfl rfl rfl lf_RX6_104 dX6_mode_34 ?_
  refine am_go hF sgX6_mode_37_34db8 38 [(0, .ref 465), (1, .int (nI l)), (2, .int (nI p)), (3, .int z)] [.ref 465] sgX6_mode_37_34db8d rfl ?_
  refine sv_get hF 0 (by decide) rfl lf_RX6_104 (.int 2) rfl dX6_mode_38 ?_
  refine am_ifle hF 46 dX6_mode_41 (by decide) (fun h9 => False.elim ((by revert h9; decide))) (fun _ => ?_)
  refine am_go hF sgX6_mode_44_56c54 45 [(0, .ref 465), (1, .int (nI l)), (2, .int (nI p)), (3, .int z)] [.int 0] sgX6_mode_44_56c54d rfl ?_
  exact am_iret hF hO hret rfl dX6_mode_45 ⟨rfl, rfl⟩
set_option maxRecDepth 100000 in
set_option maxHeartbeats 4000000 in
theorem c_r_mode_4 {G : am_S} {T S : am_T} {o : Nat → Int64} {n : Nat} (hn : S 9 0 = nI n) (hn10 : n ≤ 10) {l : Nat} (hl : l < n) {p : Nat} (hp9 : p < 16) {h : Nat} (hh : h < 2) (hmem : S 16 (16 * l + p) = -1) : am_D G yX6_mode (.code yX6_mode cX6_mode 5 (some .int) :: am_G) { frames := 2, cells := 0, slots := 0, locals := 43 } (hp T S o) [.ref 465, .int (nI l), .int (nI p), .int (nI h)] (hp T (st1 (st1 S 0 0 0) 0 0 3) o) (some (.int 0)) := by
  refine am_of (by decide +kernel) (Nat.le_of_ble_eq_true rfl) ?_
  intro C hse hret hname hF hO
  subst hse
  refine am_go hF sgX6_mode_0_6b3ba 3 [(0, .ref 465), (1, .int (nI l)), (2, .int (nI p)), (3, .int (nI h))] [.int (nI l), .ref 465, .ref 465] sgX6_mode_0_6b3bad rfl ?_
  refine am_dV hF hO [.int (nI l)] [.ref 465] (c_isList_t (S := S) hn hn10 (show l < n by omega) rfl) myX6_isList vyX6_isList lm_RX6_122 (hp_m _ _ _) rfl rfl 0 0 ⟨Nat.le_of_ble_eq_true rfl, Nat.le_of_ble_eq_true rfl⟩ ⟨Nat.le_of_ble_eq_true rfl, Nat.le_of_ble_eq_true rfl, Nat.le_of_ble_eq_true rfl, Nat.le_of_ble_eq_true rfl⟩ rfl (am_lv_ref (hp_m _ _ _) (am_lv_int (am_lv_int (am_lv_int (am_lv_ref (hp_m _ _ _) am_lv_nil))))) (Nat.le_of_ble_eq_true rfl) dX6_mode_3 [.int 1, .ref 465] rfl ?_
  refine am_ifeq hF 16 dX6_mode_6 (by decide) (fun h9 => False.elim ((by revert h9; decide))) (fun _ => ?_)
  refine am_go hF sgX6_mode_9_f8a59 10 [(0, .ref 465), (1, .int (nI l)), (2, .int (nI p)), (3, .int (nI h))] [.int (nI p), .ref 465] sgX6_mode_9_f8a59d rfl ?_
  refine am_dS hF hO [.int (nI p)] [.ref 465] (c_isPerson_t (show p < 16 by omega) rfl) myX6_isPerson syX6_isPerson lm_RX6_118 rfl 0 0 ⟨Nat.le_of_ble_eq_true rfl, Nat.le_of_ble_eq_true rfl⟩ ⟨Nat.le_of_ble_eq_true rfl, Nat.le_of_ble_eq_true rfl, Nat.le_of_ble_eq_true rfl, Nat.le_of_ble_eq_true rfl⟩ rfl (am_lv_ref (hp_m _ _ _) (am_lv_int (am_lv_int (am_lv_int (am_lv_ref (hp_m _ _ _) am_lv_nil))))) (Nat.le_of_ble_eq_true rfl) dX6_mode_10 [.int 1, .ref 465] rfl ?_
  refine am_ifne hF 20 dX6_mode_13 (by decide) (fun _ => ?_) (fun h9 => False.elim ((by revert h9; decide)))
  refine am_go hF sgX6_mode_20_1d545 23 [(0, .ref 465), (1, .int (nI l)), (2, .int (nI p)), (3, .int (nI h))] [.int 1, .int 0, .int (nI h), .ref 465] sgX6_mode_20_1d545d rfl ?_
  refine am_dS hF hO [.int (nI h), .int 0, .int 1] [.ref 465] (c_isIn_t (ii_0 rfl (by omega) rfl) (ii_1 (m := 1) rfl (by omega) (by decide) rfl)) myX6_isIn syX6_isIn lm_RX6_108 rfl 0 0 ⟨Nat.le_of_ble_eq_true rfl, Nat.le_of_ble_eq_true rfl⟩ ⟨Nat.le_of_ble_eq_true rfl, Nat.le_of_ble_eq_true rfl, Nat.le_of_ble_eq_true rfl, Nat.le_of_ble_eq_true rfl⟩ rfl (am_lv_ref (hp_m _ _ _) (am_lv_int (am_lv_int (am_lv_int (am_lv_ref (hp_m _ _ _) am_lv_nil))))) (Nat.le_of_ble_eq_true rfl) dX6_mode_23 [.int 1, .ref 465] rfl ?_
  refine am_ifeq hF 33 dX6_mode_26 (by decide) (fun h9 => False.elim ((by revert h9; decide))) (fun _ => ?_)
  refine am_go hF sgX6_mode_29_1cbe9 34 [(0, .ref 465), (1, .int (nI l)), (2, .int (nI p)), (3, .int (nI h))] [.int 0, .ref 465] sgX6_mode_29_1cbe9d rfl ?_
  refine sv_put hF 0 (by decide) rfl rfl rfl lf_RX6_104 dX6_mode_34 ?_
  refine am_go hF sgX6_mode_37_34db8 38 [(0, .ref 465), (1, .int (nI l)), (2, .int (nI p)), (3, .int (nI h))] [.ref 465] sgX6_mode_37_34db8d rfl ?_
  refine sv_get hF 0 (by decide) rfl lf_RX6_104 (.int 0) rfl dX6_mode_38 ?_
  refine am_ifle hF 46 dX6_mode_41 (by decide) (fun _ => ?_) (fun h9 => False.elim ((by revert h9; decide)))
  refine am_go hF sgX6_mode_46_34db8 47 [(0, .ref 465), (1, .int (nI l)), (2, .int (nI p)), (3, .int (nI h))] [.ref 465] sgX6_mode_46_34db8d rfl ?_
  refine sv_get hF 16 (by decide) rfl lf_RX6_47 (.ref 516) rfl dX6_mode_47 ?_
  refine am_go hF sgX6_mode_50_b6bf4 56 [(0, .ref 465), (1, .int (nI l)), (2, .int (nI p)), (3, .int (nI h))] [.int ((16 * (nI l)) + (nI p)), .ref 516] sgX6_mode_50_b6bf4d rfl ?_
  refine sv_iald hF 16 (by decide) ⟨rfl, rfl, by decide⟩ ((16 * l) + p) (am_ad (am_mu rfl rfl) rfl) (show (16 * l) + p < 160 by omega) dX6_mode_56 ?_
  refine am_top (S 16 ((16 * l) + p)) rfl ?_
  refine am_go hF sgX6_mode_57_71957 63 [(4, .int (S 16 ((16 * l) + p))), (0, .ref 465), (1, .int (nI l)), (2, .int (nI p)), (3, .int (nI h))] [.int (-1), .int (S 16 ((16 * l) + p)), .ref 465] sgX6_mode_57_71957d rfl ?_
  refine am_icmpne hF 70 dX6_mode_63 (by decide) (fun h9 => False.elim (absurd hmem h9)) (fun _ => ?_)
  refine am_go hF sgX6_mode_66_5c8a0 71 [(4, .int (S 16 ((16 * l) + p))), (0, .ref 465), (1, .int (nI l)), (2, .int (nI p)), (3, .int (nI h))] [.int 3, .ref 465] sgX6_mode_66_5c8a0d rfl ?_
  refine sv_put hF 0 (by decide) rfl rfl rfl lf_RX6_104 dX6_mode_71 ?_
  refine am_go hF sgX6_mode_74_34db8 75 [(4, .int (S 16 ((16 * l) + p))), (0, .ref 465), (1, .int (nI l)), (2, .int (nI p)), (3, .int (nI h))] [.ref 465] sgX6_mode_74_34db8d rfl ?_
  refine sv_get hF 0 (by decide) rfl lf_RX6_104 (.int 3) rfl dX6_mode_75 ?_
  refine am_ifle hF 83 dX6_mode_78 (by decide) (fun h9 => False.elim ((by revert h9; decide))) (fun _ => ?_)
  refine am_go hF sgX6_mode_81_56c54 82 [(4, .int (S 16 ((16 * l) + p))), (0, .ref 465), (1, .int (nI l)), (2, .int (nI p)), (3, .int (nI h))] [.int 0] sgX6_mode_81_56c54d rfl ?_
  exact am_iret hF hO hret rfl dX6_mode_82 ⟨rfl, rfl⟩
set_option maxRecDepth 100000 in
set_option maxHeartbeats 4000000 in
theorem c_r_mode_5 {G : am_S} {T S : am_T} {o : Nat → Int64} {n : Nat} (hn : S 9 0 = nI n) (hn10 : n ≤ 10) {l : Nat} (hl : l < n) {p : Nat} (hp9 : p < 16) {h : Nat} (hh : h < 2) (hmem : ¬ S 16 (16 * l + p) = -1) : am_D G yX6_mode (.code yX6_mode cX6_mode 5 (some .int) :: am_G) { frames := 2, cells := 0, slots := 0, locals := 43 } (hp T S o) [.ref 465, .int (nI l), .int (nI p), .int (nI h)] (hp T (st1 (st1 (st1 S 0 0 0) 0 0 0) 16 ((16 * l) + p) (nI h)) o) (some (.int (S 16 ((16 * l) + p)))) := by
  refine am_of (by decide +kernel) (Nat.le_of_ble_eq_true rfl) ?_
  intro C hse hret hname hF hO
  subst hse
  refine am_go hF sgX6_mode_0_6b3ba 3 [(0, .ref 465), (1, .int (nI l)), (2, .int (nI p)), (3, .int (nI h))] [.int (nI l), .ref 465, .ref 465] sgX6_mode_0_6b3bad rfl ?_
  refine am_dV hF hO [.int (nI l)] [.ref 465] (c_isList_t (S := S) hn hn10 (show l < n by omega) rfl) myX6_isList vyX6_isList lm_RX6_122 (hp_m _ _ _) rfl rfl 0 0 ⟨Nat.le_of_ble_eq_true rfl, Nat.le_of_ble_eq_true rfl⟩ ⟨Nat.le_of_ble_eq_true rfl, Nat.le_of_ble_eq_true rfl, Nat.le_of_ble_eq_true rfl, Nat.le_of_ble_eq_true rfl⟩ rfl (am_lv_ref (hp_m _ _ _) (am_lv_int (am_lv_int (am_lv_int (am_lv_ref (hp_m _ _ _) am_lv_nil))))) (Nat.le_of_ble_eq_true rfl) dX6_mode_3 [.int 1, .ref 465] rfl ?_
  refine am_ifeq hF 16 dX6_mode_6 (by decide) (fun h9 => False.elim ((by revert h9; decide))) (fun _ => ?_)
  refine am_go hF sgX6_mode_9_f8a59 10 [(0, .ref 465), (1, .int (nI l)), (2, .int (nI p)), (3, .int (nI h))] [.int (nI p), .ref 465] sgX6_mode_9_f8a59d rfl ?_
  refine am_dS hF hO [.int (nI p)] [.ref 465] (c_isPerson_t (show p < 16 by omega) rfl) myX6_isPerson syX6_isPerson lm_RX6_118 rfl 0 0 ⟨Nat.le_of_ble_eq_true rfl, Nat.le_of_ble_eq_true rfl⟩ ⟨Nat.le_of_ble_eq_true rfl, Nat.le_of_ble_eq_true rfl, Nat.le_of_ble_eq_true rfl, Nat.le_of_ble_eq_true rfl⟩ rfl (am_lv_ref (hp_m _ _ _) (am_lv_int (am_lv_int (am_lv_int (am_lv_ref (hp_m _ _ _) am_lv_nil))))) (Nat.le_of_ble_eq_true rfl) dX6_mode_10 [.int 1, .ref 465] rfl ?_
  refine am_ifne hF 20 dX6_mode_13 (by decide) (fun _ => ?_) (fun h9 => False.elim ((by revert h9; decide)))
  refine am_go hF sgX6_mode_20_1d545 23 [(0, .ref 465), (1, .int (nI l)), (2, .int (nI p)), (3, .int (nI h))] [.int 1, .int 0, .int (nI h), .ref 465] sgX6_mode_20_1d545d rfl ?_
  refine am_dS hF hO [.int (nI h), .int 0, .int 1] [.ref 465] (c_isIn_t (ii_0 rfl (by omega) rfl) (ii_1 (m := 1) rfl (by omega) (by decide) rfl)) myX6_isIn syX6_isIn lm_RX6_108 rfl 0 0 ⟨Nat.le_of_ble_eq_true rfl, Nat.le_of_ble_eq_true rfl⟩ ⟨Nat.le_of_ble_eq_true rfl, Nat.le_of_ble_eq_true rfl, Nat.le_of_ble_eq_true rfl, Nat.le_of_ble_eq_true rfl⟩ rfl (am_lv_ref (hp_m _ _ _) (am_lv_int (am_lv_int (am_lv_int (am_lv_ref (hp_m _ _ _) am_lv_nil))))) (Nat.le_of_ble_eq_true rfl) dX6_mode_23 [.int 1, .ref 465] rfl ?_
  refine am_ifeq hF 33 dX6_mode_26 (by decide) (fun h9 => False.elim ((by revert h9; decide))) (fun _ => ?_)
  refine am_go hF sgX6_mode_29_1cbe9 34 [(0, .ref 465), (1, .int (nI l)), (2, .int (nI p)), (3, .int (nI h))] [.int 0, .ref 465] sgX6_mode_29_1cbe9d rfl ?_
  refine sv_put hF 0 (by decide) rfl rfl rfl lf_RX6_104 dX6_mode_34 ?_
  refine am_go hF sgX6_mode_37_34db8 38 [(0, .ref 465), (1, .int (nI l)), (2, .int (nI p)), (3, .int (nI h))] [.ref 465] sgX6_mode_37_34db8d rfl ?_
  refine sv_get hF 0 (by decide) rfl lf_RX6_104 (.int 0) rfl dX6_mode_38 ?_
  refine am_ifle hF 46 dX6_mode_41 (by decide) (fun _ => ?_) (fun h9 => False.elim ((by revert h9; decide)))
  refine am_go hF sgX6_mode_46_34db8 47 [(0, .ref 465), (1, .int (nI l)), (2, .int (nI p)), (3, .int (nI h))] [.ref 465] sgX6_mode_46_34db8d rfl ?_
  refine sv_get hF 16 (by decide) rfl lf_RX6_47 (.ref 516) rfl dX6_mode_47 ?_
  refine am_go hF sgX6_mode_50_b6bf4 56 [(0, .ref 465), (1, .int (nI l)), (2, .int (nI p)), (3, .int (nI h))] [.int ((16 * (nI l)) + (nI p)), .ref 516] sgX6_mode_50_b6bf4d rfl ?_
  refine sv_iald hF 16 (by decide) ⟨rfl, rfl, by decide⟩ ((16 * l) + p) (am_ad (am_mu rfl rfl) rfl) (show (16 * l) + p < 160 by omega) dX6_mode_56 ?_
  refine am_top (S 16 ((16 * l) + p)) rfl ?_
  refine am_go hF sgX6_mode_57_71957 63 [(4, .int (S 16 ((16 * l) + p))), (0, .ref 465), (1, .int (nI l)), (2, .int (nI p)), (3, .int (nI h))] [.int (-1), .int (S 16 ((16 * l) + p)), .ref 465] sgX6_mode_57_71957d rfl ?_
  refine am_icmpne hF 70 dX6_mode_63 (by decide) (fun _ => ?_) (fun h9 => False.elim (absurd h9 hmem))
  refine am_go hF sgX6_mode_70_56c54 71 [(4, .int (S 16 ((16 * l) + p))), (0, .ref 465), (1, .int (nI l)), (2, .int (nI p)), (3, .int (nI h))] [.int 0, .ref 465] sgX6_mode_70_56c54d rfl ?_
  refine sv_put hF 0 (by decide) rfl rfl rfl lf_RX6_104 dX6_mode_71 ?_
  refine am_go hF sgX6_mode_74_34db8 75 [(4, .int (S 16 ((16 * l) + p))), (0, .ref 465), (1, .int (nI l)), (2, .int (nI p)), (3, .int (nI h))] [.ref 465] sgX6_mode_74_34db8d rfl ?_
  refine sv_get hF 0 (by decide) rfl lf_RX6_104 (.int 0) rfl dX6_mode_75 ?_
  refine am_ifle hF 83 dX6_mode_78 (by decide) (fun _ => ?_) (fun h9 => False.elim ((by revert h9; decide)))
  refine am_go hF sgX6_mode_83_34db8 84 [(4, .int (S 16 ((16 * l) + p))), (0, .ref 465), (1, .int (nI l)), (2, .int (nI p)), (3, .int (nI h))] [.ref 465] sgX6_mode_83_34db8d rfl ?_
  refine sv_get hF 16 (by decide) rfl lf_RX6_47 (.ref 516) rfl dX6_mode_84 ?_
  refine am_go hF sgX6_mode_87_e725d 94 [(4, .int (S 16 ((16 * l) + p))), (0, .ref 465), (1, .int (nI l)), (2, .int (nI p)), (3, .int (nI h))] [.int (nI h), .int ((16 * (nI l)) + (nI p)), .ref 516] sgX6_mode_87_e725dd rfl ?_
  refine sv_iast hF 16 (by decide) ⟨rfl, rfl, by decide⟩ ((16 * l) + p) (am_ad (am_mu rfl rfl) rfl) (show (16 * l) + p < 160 by omega) dX6_mode_94 ?_
  refine am_go hF sgX6_mode_95_c6742 97 [(4, .int (S 16 ((16 * l) + p))), (0, .ref 465), (1, .int (nI l)), (2, .int (nI p)), (3, .int (nI h))] [.int (S 16 ((16 * l) + p))] sgX6_mode_95_c6742d rfl ?_
  exact am_iret hF hO hret rfl dX6_mode_97 ⟨rfl, rfl⟩
set_option maxRecDepth 100000 in
set_option maxHeartbeats 4000000 in
theorem c_r_leave_1 {G : am_S} {T S : am_T} {o : Nat → Int64} {n : Nat} (hn : S 9 0 = nI n) (hn10 : n ≤ 10) {x : Int32} (hx : x < 0 ∨ nI n ≤ x) {y : Int32} : am_D G yX6_leave (.code yX6_leave cX6_leave 4 (some .int) :: am_G) { frames := 2, cells := 0, slots := 0, locals := 43 } (hp T S o) [.ref 465, .int x, .int y] (hp T (st1 S 0 0 1) o) (some (.int 0)) := by
  refine am_of (by decide +kernel) (Nat.le_of_ble_eq_true rfl) ?_
  intro C hse hret hname hF hO
  subst hse
  refine am_go hF sgX6_leave_0_6b3ba 3 [(0, .ref 465), (1, .int x), (2, .int y)] [.int x, .ref 465, .ref 465] sgX6_leave_0_6b3bad rfl ?_
  refine am_dV hF hO [.int x] [.ref 465] (c_isList_f (S := S) hn hn10 hx) myX6_isList vyX6_isList lm_RX6_122 (hp_m _ _ _) rfl rfl 0 0 ⟨Nat.le_of_ble_eq_true rfl, Nat.le_of_ble_eq_true rfl⟩ ⟨Nat.le_of_ble_eq_true rfl, Nat.le_of_ble_eq_true rfl, Nat.le_of_ble_eq_true rfl, Nat.le_of_ble_eq_true rfl⟩ rfl (am_lv_ref (hp_m _ _ _) (am_lv_int (am_lv_int (am_lv_ref (hp_m _ _ _) am_lv_nil)))) (Nat.le_of_ble_eq_true rfl) dX6_leave_3 [.int 0, .ref 465] rfl ?_
  refine am_ifeq hF 20 dX6_leave_6 (by decide) (fun _ => ?_) (fun h9 => False.elim ((by revert h9; decide)))
  refine am_go hF sgX6_leave_20_4de0a 21 [(0, .ref 465), (1, .int x), (2, .int y)] [.int 1, .ref 465] sgX6_leave_20_4de0ad rfl ?_
  refine sv_put hF 0 (by decide) rfl rfl rfl lf_RX6_104 dX6_leave_21 ?_
  refine am_go hF sgX6_leave_24_34db8 25 [(0, .ref 465), (1, .int x), (2, .int y)] [.ref 465] sgX6_leave_24_34db8d rfl ?_
  refine sv_get hF 0 (by decide) rfl lf_RX6_104 (.int 1) rfl dX6_leave_25 ?_
  refine am_ifle hF 33 dX6_leave_28 (by decide) (fun h9 => False.elim ((by revert h9; decide))) (fun _ => ?_)
  refine am_go hF sgX6_leave_31_56c54 32 [(0, .ref 465), (1, .int x), (2, .int y)] [.int 0] sgX6_leave_31_56c54d rfl ?_
  exact am_iret hF hO hret rfl dX6_leave_32 ⟨rfl, rfl⟩
set_option maxRecDepth 100000 in
set_option maxHeartbeats 4000000 in
theorem c_r_leave_2 {G : am_S} {T S : am_T} {o : Nat → Int64} {n : Nat} (hn : S 9 0 = nI n) (hn10 : n ≤ 10) {l : Nat} (hl : l < n) {y : Int32} (hy : y < 0 ∨ nI 16 ≤ y) : am_D G yX6_leave (.code yX6_leave cX6_leave 4 (some .int) :: am_G) { frames := 2, cells := 0, slots := 0, locals := 43 } (hp T S o) [.ref 465, .int (nI l), .int y] (hp T (st1 S 0 0 1) o) (some (.int 0)) := by
  refine am_of (by decide +kernel) (Nat.le_of_ble_eq_true rfl) ?_
  intro C hse hret hname hF hO
  subst hse
  refine am_go hF sgX6_leave_0_6b3ba 3 [(0, .ref 465), (1, .int (nI l)), (2, .int y)] [.int (nI l), .ref 465, .ref 465] sgX6_leave_0_6b3bad rfl ?_
  refine am_dV hF hO [.int (nI l)] [.ref 465] (c_isList_t (S := S) hn hn10 (show l < n by omega) rfl) myX6_isList vyX6_isList lm_RX6_122 (hp_m _ _ _) rfl rfl 0 0 ⟨Nat.le_of_ble_eq_true rfl, Nat.le_of_ble_eq_true rfl⟩ ⟨Nat.le_of_ble_eq_true rfl, Nat.le_of_ble_eq_true rfl, Nat.le_of_ble_eq_true rfl, Nat.le_of_ble_eq_true rfl⟩ rfl (am_lv_ref (hp_m _ _ _) (am_lv_int (am_lv_int (am_lv_ref (hp_m _ _ _) am_lv_nil)))) (Nat.le_of_ble_eq_true rfl) dX6_leave_3 [.int 1, .ref 465] rfl ?_
  refine am_ifeq hF 20 dX6_leave_6 (by decide) (fun h9 => False.elim ((by revert h9; decide))) (fun _ => ?_)
  refine am_go hF sgX6_leave_9_f8a59 10 [(0, .ref 465), (1, .int (nI l)), (2, .int y)] [.int y, .ref 465] sgX6_leave_9_f8a59d rfl ?_
  refine am_dS hF hO [.int y] [.ref 465] (c_isPerson_f hy) myX6_isPerson syX6_isPerson lm_RX6_118 rfl 0 0 ⟨Nat.le_of_ble_eq_true rfl, Nat.le_of_ble_eq_true rfl⟩ ⟨Nat.le_of_ble_eq_true rfl, Nat.le_of_ble_eq_true rfl, Nat.le_of_ble_eq_true rfl, Nat.le_of_ble_eq_true rfl⟩ rfl (am_lv_ref (hp_m _ _ _) (am_lv_int (am_lv_int (am_lv_ref (hp_m _ _ _) am_lv_nil)))) (Nat.le_of_ble_eq_true rfl) dX6_leave_10 [.int 0, .ref 465] rfl ?_
  refine am_ifeq hF 20 dX6_leave_13 (by decide) (fun _ => ?_) (fun h9 => False.elim ((by revert h9; decide)))
  refine am_go hF sgX6_leave_20_4de0a 21 [(0, .ref 465), (1, .int (nI l)), (2, .int y)] [.int 1, .ref 465] sgX6_leave_20_4de0ad rfl ?_
  refine sv_put hF 0 (by decide) rfl rfl rfl lf_RX6_104 dX6_leave_21 ?_
  refine am_go hF sgX6_leave_24_34db8 25 [(0, .ref 465), (1, .int (nI l)), (2, .int y)] [.ref 465] sgX6_leave_24_34db8d rfl ?_
  refine sv_get hF 0 (by decide) rfl lf_RX6_104 (.int 1) rfl dX6_leave_25 ?_
  refine am_ifle hF 33 dX6_leave_28 (by decide) (fun h9 => False.elim ((by revert h9; decide))) (fun _ => ?_)
  refine am_go hF sgX6_leave_31_56c54 32 [(0, .ref 465), (1, .int (nI l)), (2, .int y)] [.int 0] sgX6_leave_31_56c54d rfl ?_
  exact am_iret hF hO hret rfl dX6_leave_32 ⟨rfl, rfl⟩
set_option maxRecDepth 100000 in
set_option maxHeartbeats 4000000 in
theorem c_r_leave_3 {G : am_S} {T S : am_T} {o : Nat → Int64} {n : Nat} (hn : S 9 0 = nI n) (hn10 : n ≤ 10) {l : Nat} (hl : l < n) {p : Nat} (hp9 : p < 16) (hmem : S 16 (16 * l + p) = -1) : am_D G yX6_leave (.code yX6_leave cX6_leave 4 (some .int) :: am_G) { frames := 2, cells := 0, slots := 0, locals := 43 } (hp T S o) [.ref 465, .int (nI l), .int (nI p)] (hp T (st1 (st1 (st1 S 0 0 0) 0 0 2) 16 ((16 * l) + p) (-1)) o) (some (.int 0)) := by
  refine am_of (by decide +kernel) (Nat.le_of_ble_eq_true rfl) ?_
  intro C hse hret hname hF hO
  subst hse
  refine am_go hF sgX6_leave_0_6b3ba 3 [(0, .ref 465), (1, .int (nI l)), (2, .int (nI p))] [.int (nI l), .ref 465, .ref 465] sgX6_leave_0_6b3bad rfl ?_
  refine am_dV hF hO [.int (nI l)] [.ref 465] (c_isList_t (S := S) hn hn10 (show l < n by omega) rfl) myX6_isList vyX6_isList lm_RX6_122 (hp_m _ _ _) rfl rfl 0 0 ⟨Nat.le_of_ble_eq_true rfl, Nat.le_of_ble_eq_true rfl⟩ ⟨Nat.le_of_ble_eq_true rfl, Nat.le_of_ble_eq_true rfl, Nat.le_of_ble_eq_true rfl, Nat.le_of_ble_eq_true rfl⟩ rfl (am_lv_ref (hp_m _ _ _) (am_lv_int (am_lv_int (am_lv_ref (hp_m _ _ _) am_lv_nil)))) (Nat.le_of_ble_eq_true rfl) dX6_leave_3 [.int 1, .ref 465] rfl ?_
  refine am_ifeq hF 20 dX6_leave_6 (by decide) (fun h9 => False.elim ((by revert h9; decide))) (fun _ => ?_)
  refine am_go hF sgX6_leave_9_f8a59 10 [(0, .ref 465), (1, .int (nI l)), (2, .int (nI p))] [.int (nI p), .ref 465] sgX6_leave_9_f8a59d rfl ?_
  refine am_dS hF hO [.int (nI p)] [.ref 465] (c_isPerson_t (show p < 16 by omega) rfl) myX6_isPerson syX6_isPerson lm_RX6_118 rfl 0 0 ⟨Nat.le_of_ble_eq_true rfl, Nat.le_of_ble_eq_true rfl⟩ ⟨Nat.le_of_ble_eq_true rfl, Nat.le_of_ble_eq_true rfl, Nat.le_of_ble_eq_true rfl, Nat.le_of_ble_eq_true rfl⟩ rfl (am_lv_ref (hp_m _ _ _) (am_lv_int (am_lv_int (am_lv_ref (hp_m _ _ _) am_lv_nil)))) (Nat.le_of_ble_eq_true rfl) dX6_leave_10 [.int 1, .ref 465] rfl ?_
  refine am_ifeq hF 20 dX6_leave_13 (by decide) (fun h9 => False.elim ((by revert h9; decide))) (fun _ => ?_)
  refine am_go hF sgX6_leave_16_1cbe9 21 [(0, .ref 465), (1, .int (nI l)), (2, .int (nI p))] [.int 0, .ref 465] sgX6_leave_16_1cbe9d rfl ?_
  refine sv_put hF 0 (by decide) rfl rfl rfl lf_RX6_104 dX6_leave_21 ?_
  refine am_go hF sgX6_leave_24_34db8 25 [(0, .ref 465), (1, .int (nI l)), (2, .int (nI p))] [.ref 465] sgX6_leave_24_34db8d rfl ?_
  refine sv_get hF 0 (by decide) rfl lf_RX6_104 (.int 0) rfl dX6_leave_25 ?_
  refine am_ifle hF 33 dX6_leave_28 (by decide) (fun _ => ?_) (fun h9 => False.elim ((by revert h9; decide)))
  refine am_go hF sgX6_leave_33_34db8 34 [(0, .ref 465), (1, .int (nI l)), (2, .int (nI p))] [.ref 465] sgX6_leave_33_34db8d rfl ?_
  refine sv_get hF 16 (by decide) rfl lf_RX6_47 (.ref 516) rfl dX6_leave_34 ?_
  refine am_go hF sgX6_leave_37_b6bf4 43 [(0, .ref 465), (1, .int (nI l)), (2, .int (nI p))] [.int ((16 * (nI l)) + (nI p)), .ref 516] sgX6_leave_37_b6bf4d rfl ?_
  refine sv_iald hF 16 (by decide) ⟨rfl, rfl, by decide⟩ ((16 * l) + p) (am_ad (am_mu rfl rfl) rfl) (show (16 * l) + p < 160 by omega) dX6_leave_43 ?_
  refine am_top (S 16 ((16 * l) + p)) rfl ?_
  refine am_go hF sgX6_leave_44_8d6bf 48 [(3, .int (S 16 ((16 * l) + p))), (0, .ref 465), (1, .int (nI l)), (2, .int (nI p))] [.int (-1), .int (S 16 ((16 * l) + p)), .ref 465] sgX6_leave_44_8d6bfd rfl ?_
  refine am_icmpne hF 55 dX6_leave_48 (by decide) (fun h9 => False.elim (absurd hmem h9)) (fun _ => ?_)
  refine am_go hF sgX6_leave_51_abe91 56 [(3, .int (S 16 ((16 * l) + p))), (0, .ref 465), (1, .int (nI l)), (2, .int (nI p))] [.int 2, .ref 465] sgX6_leave_51_abe91d rfl ?_
  refine sv_put hF 0 (by decide) rfl rfl rfl lf_RX6_104 dX6_leave_56 ?_
  refine am_go hF sgX6_leave_59_34db8 60 [(3, .int (S 16 ((16 * l) + p))), (0, .ref 465), (1, .int (nI l)), (2, .int (nI p))] [.ref 465] sgX6_leave_59_34db8d rfl ?_
  refine sv_get hF 16 (by decide) rfl lf_RX6_47 (.ref 516) rfl dX6_leave_60 ?_
  refine am_go hF sgX6_leave_63_8a281 70 [(3, .int (S 16 ((16 * l) + p))), (0, .ref 465), (1, .int (nI l)), (2, .int (nI p))] [.int (-1), .int ((16 * (nI l)) + (nI p)), .ref 516] sgX6_leave_63_8a281d rfl ?_
  refine sv_iast hF 16 (by decide) ⟨rfl, rfl, by decide⟩ ((16 * l) + p) (am_ad (am_mu rfl rfl) rfl) (show (16 * l) + p < 160 by omega) dX6_leave_70 ?_
  refine am_go hF sgX6_leave_71_34db8 72 [(3, .int (S 16 ((16 * l) + p))), (0, .ref 465), (1, .int (nI l)), (2, .int (nI p))] [.ref 465] sgX6_leave_71_34db8d rfl ?_
  refine sv_get hF 0 (by decide) rfl lf_RX6_104 (.int 2) rfl dX6_leave_72 ?_
  refine am_ifle hF 82 dX6_leave_75 (by decide) (fun h9 => False.elim ((by revert h9; decide))) (fun _ => ?_)
  refine am_go hF sgX6_leave_78_1cbe9 83 [(3, .int (S 16 ((16 * l) + p))), (0, .ref 465), (1, .int (nI l)), (2, .int (nI p))] [.int 0] sgX6_leave_78_1cbe9d rfl ?_
  exact am_iret hF hO hret rfl dX6_leave_83 ⟨rfl, rfl⟩
set_option maxRecDepth 100000 in
set_option maxHeartbeats 4000000 in
theorem c_r_leave_4 {G : am_S} {T S : am_T} {o : Nat → Int64} {n : Nat} (hn : S 9 0 = nI n) (hn10 : n ≤ 10) {l : Nat} (hl : l < n) {p : Nat} (hp9 : p < 16) (hmem : ¬ S 16 (16 * l + p) = -1) : am_D G yX6_leave (.code yX6_leave cX6_leave 4 (some .int) :: am_G) { frames := 2, cells := 0, slots := 0, locals := 43 } (hp T S o) [.ref 465, .int (nI l), .int (nI p)] (hp T (st1 (st1 (st1 S 0 0 0) 0 0 0) 16 ((16 * l) + p) (-1)) o) (some (.int (S 16 ((16 * l) + p)))) := by
  refine am_of (by decide +kernel) (Nat.le_of_ble_eq_true rfl) ?_
  intro C hse hret hname hF hO
  subst hse
  refine am_go hF sgX6_leave_0_6b3ba 3 [(0, .ref 465), (1, .int (nI l)), (2, .int (nI p))] [.int (nI l), .ref 465, .ref 465] sgX6_leave_0_6b3bad rfl ?_
  refine am_dV hF hO [.int (nI l)] [.ref 465] (c_isList_t (S := S) hn hn10 (show l < n by omega) rfl) myX6_isList vyX6_isList lm_RX6_122 (hp_m _ _ _) rfl rfl 0 0 ⟨Nat.le_of_ble_eq_true rfl, Nat.le_of_ble_eq_true rfl⟩ ⟨Nat.le_of_ble_eq_true rfl, Nat.le_of_ble_eq_true rfl, Nat.le_of_ble_eq_true rfl, Nat.le_of_ble_eq_true rfl⟩ rfl (am_lv_ref (hp_m _ _ _) (am_lv_int (am_lv_int (am_lv_ref (hp_m _ _ _) am_lv_nil)))) (Nat.le_of_ble_eq_true rfl) dX6_leave_3 [.int 1, .ref 465] rfl ?_
  refine am_ifeq hF 20 dX6_leave_6 (by decide) (fun h9 => False.elim ((by revert h9; decide))) (fun _ => ?_)
  refine am_go hF sgX6_leave_9_f8a59 10 [(0, .ref 465), (1, .int (nI l)), (2, .int (nI p))] [.int (nI p), .ref 465] sgX6_leave_9_f8a59d rfl ?_
  refine am_dS hF hO [.int (nI p)] [.ref 465] (c_isPerson_t (show p < 16 by omega) rfl) myX6_isPerson syX6_isPerson lm_RX6_118 rfl 0 0 ⟨Nat.le_of_ble_eq_true rfl, Nat.le_of_ble_eq_true rfl⟩ ⟨Nat.le_of_ble_eq_true rfl, Nat.le_of_ble_eq_true rfl, Nat.le_of_ble_eq_true rfl, Nat.le_of_ble_eq_true rfl⟩ rfl (am_lv_ref (hp_m _ _ _) (am_lv_int (am_lv_int (am_lv_ref (hp_m _ _ _) am_lv_nil)))) (Nat.le_of_ble_eq_true rfl) dX6_leave_10 [.int 1, .ref 465] rfl ?_
  refine am_ifeq hF 20 dX6_leave_13 (by decide) (fun h9 => False.elim ((by revert h9; decide))) (fun _ => ?_)
  refine am_go hF sgX6_leave_16_1cbe9 21 [(0, .ref 465), (1, .int (nI l)), (2, .int (nI p))] [.int 0, .ref 465] sgX6_leave_16_1cbe9d rfl ?_
  refine sv_put hF 0 (by decide) rfl rfl rfl lf_RX6_104 dX6_leave_21 ?_
  refine am_go hF sgX6_leave_24_34db8 25 [(0, .ref 465), (1, .int (nI l)), (2, .int (nI p))] [.ref 465] sgX6_leave_24_34db8d rfl ?_
  refine sv_get hF 0 (by decide) rfl lf_RX6_104 (.int 0) rfl dX6_leave_25 ?_
  refine am_ifle hF 33 dX6_leave_28 (by decide) (fun _ => ?_) (fun h9 => False.elim ((by revert h9; decide)))
  refine am_go hF sgX6_leave_33_34db8 34 [(0, .ref 465), (1, .int (nI l)), (2, .int (nI p))] [.ref 465] sgX6_leave_33_34db8d rfl ?_
  refine sv_get hF 16 (by decide) rfl lf_RX6_47 (.ref 516) rfl dX6_leave_34 ?_
  refine am_go hF sgX6_leave_37_b6bf4 43 [(0, .ref 465), (1, .int (nI l)), (2, .int (nI p))] [.int ((16 * (nI l)) + (nI p)), .ref 516] sgX6_leave_37_b6bf4d rfl ?_
  refine sv_iald hF 16 (by decide) ⟨rfl, rfl, by decide⟩ ((16 * l) + p) (am_ad (am_mu rfl rfl) rfl) (show (16 * l) + p < 160 by omega) dX6_leave_43 ?_
  refine am_top (S 16 ((16 * l) + p)) rfl ?_
  refine am_go hF sgX6_leave_44_8d6bf 48 [(3, .int (S 16 ((16 * l) + p))), (0, .ref 465), (1, .int (nI l)), (2, .int (nI p))] [.int (-1), .int (S 16 ((16 * l) + p)), .ref 465] sgX6_leave_44_8d6bfd rfl ?_
  refine am_icmpne hF 55 dX6_leave_48 (by decide) (fun _ => ?_) (fun h9 => False.elim (absurd h9 hmem))
  refine am_go hF sgX6_leave_55_56c54 56 [(3, .int (S 16 ((16 * l) + p))), (0, .ref 465), (1, .int (nI l)), (2, .int (nI p))] [.int 0, .ref 465] sgX6_leave_55_56c54d rfl ?_
  refine sv_put hF 0 (by decide) rfl rfl rfl lf_RX6_104 dX6_leave_56 ?_
  refine am_go hF sgX6_leave_59_34db8 60 [(3, .int (S 16 ((16 * l) + p))), (0, .ref 465), (1, .int (nI l)), (2, .int (nI p))] [.ref 465] sgX6_leave_59_34db8d rfl ?_
  refine sv_get hF 16 (by decide) rfl lf_RX6_47 (.ref 516) rfl dX6_leave_60 ?_
  refine am_go hF sgX6_leave_63_8a281 70 [(3, .int (S 16 ((16 * l) + p))), (0, .ref 465), (1, .int (nI l)), (2, .int (nI p))] [.int (-1), .int ((16 * (nI l)) + (nI p)), .ref 516] sgX6_leave_63_8a281d rfl ?_
  refine sv_iast hF 16 (by decide) ⟨rfl, rfl, by decide⟩ ((16 * l) + p) (am_ad (am_mu rfl rfl) rfl) (show (16 * l) + p < 160 by omega) dX6_leave_70 ?_
  refine am_go hF sgX6_leave_71_34db8 72 [(3, .int (S 16 ((16 * l) + p))), (0, .ref 465), (1, .int (nI l)), (2, .int (nI p))] [.ref 465] sgX6_leave_71_34db8d rfl ?_
  refine sv_get hF 0 (by decide) rfl lf_RX6_104 (.int 0) rfl dX6_leave_72 ?_
  refine am_ifle hF 82 dX6_leave_75 (by decide) (fun _ => ?_) (fun h9 => False.elim ((by revert h9; decide)))
  refine am_go hF sgX6_leave_82_13b50 83 [(3, .int (S 16 ((16 * l) + p))), (0, .ref 465), (1, .int (nI l)), (2, .int (nI p))] [.int (S 16 ((16 * l) + p))] sgX6_leave_82_13b50d rfl ?_
  exact am_iret hF hO hret rfl dX6_leave_83 ⟨rfl, rfl⟩
set_option maxRecDepth 100000 in
set_option maxHeartbeats 4000000 in
theorem c_r_nest_1 {G : am_S} {T S : am_T} {o : Nat → Int64} {n : Nat} (hn : S 9 0 = nI n) (hn10 : n ≤ 10) {x : Int32} (hx : x < 0 ∨ nI n ≤ x) {y : Int32} : am_D G yX6_nest (.code yX6_nest cX6_nest 4 (some .boolean) :: am_G) { frames := 2, cells := 0, slots := 0, locals := 43 } (hp T S o) [.ref 465, .int x, .int y] (hp T (st1 S 0 0 1) o) (some (.int 0)) := by
  refine am_of (by decide +kernel) (Nat.le_of_ble_eq_true rfl) ?_
  intro C hse hret hname hF hO
  subst hse
  refine am_go hF sgX6_nest_0_6b3ba 3 [(0, .ref 465), (1, .int x), (2, .int y)] [.int x, .ref 465, .ref 465] sgX6_nest_0_6b3bad rfl ?_
  refine am_dV hF hO [.int x] [.ref 465] (c_isList_f (S := S) hn hn10 hx) myX6_isList vyX6_isList lm_RX6_122 (hp_m _ _ _) rfl rfl 0 0 ⟨Nat.le_of_ble_eq_true rfl, Nat.le_of_ble_eq_true rfl⟩ ⟨Nat.le_of_ble_eq_true rfl, Nat.le_of_ble_eq_true rfl, Nat.le_of_ble_eq_true rfl, Nat.le_of_ble_eq_true rfl⟩ rfl (am_lv_ref (hp_m _ _ _) (am_lv_int (am_lv_int (am_lv_ref (hp_m _ _ _) am_lv_nil)))) (Nat.le_of_ble_eq_true rfl) dX6_nest_3 [.int 0, .ref 465] rfl ?_
  refine am_ifeq hF 21 dX6_nest_6 (by decide) (fun _ => ?_) (fun h9 => False.elim ((by revert h9; decide)))
  refine am_go hF sgX6_nest_21_4de0a 22 [(0, .ref 465), (1, .int x), (2, .int y)] [.int 1, .ref 465] sgX6_nest_21_4de0ad rfl ?_
  refine sv_put hF 0 (by decide) rfl rfl rfl lf_RX6_104 dX6_nest_22 ?_
  refine am_go hF sgX6_nest_25_34db8 26 [(0, .ref 465), (1, .int x), (2, .int y)] [.ref 465] sgX6_nest_25_34db8d rfl ?_
  refine sv_get hF 0 (by decide) rfl lf_RX6_104 (.int 1) rfl dX6_nest_26 ?_
  refine am_ifle hF 34 dX6_nest_29 (by decide) (fun h9 => False.elim ((by revert h9; decide))) (fun _ => ?_)
  refine am_go hF sgX6_nest_32_56c54 33 [(0, .ref 465), (1, .int x), (2, .int y)] [.int 0] sgX6_nest_32_56c54d rfl ?_
  exact am_iret hF hO hret rfl dX6_nest_33 ⟨rfl, rfl⟩
set_option maxRecDepth 100000 in
set_option maxHeartbeats 4000000 in
theorem c_r_nest_2 {G : am_S} {T S : am_T} {o : Nat → Int64} {n : Nat} (hn : S 9 0 = nI n) (hn10 : n ≤ 10) {l : Nat} (hl : l < n) {y : Int32} (hy : y < 0 ∨ nI n ≤ y) : am_D G yX6_nest (.code yX6_nest cX6_nest 4 (some .boolean) :: am_G) { frames := 2, cells := 0, slots := 0, locals := 43 } (hp T S o) [.ref 465, .int (nI l), .int y] (hp T (st1 S 0 0 1) o) (some (.int 0)) := by
  refine am_of (by decide +kernel) (Nat.le_of_ble_eq_true rfl) ?_
  intro C hse hret hname hF hO
  subst hse
  refine am_go hF sgX6_nest_0_6b3ba 3 [(0, .ref 465), (1, .int (nI l)), (2, .int y)] [.int (nI l), .ref 465, .ref 465] sgX6_nest_0_6b3bad rfl ?_
  refine am_dV hF hO [.int (nI l)] [.ref 465] (c_isList_t (S := S) hn hn10 (show l < n by omega) rfl) myX6_isList vyX6_isList lm_RX6_122 (hp_m _ _ _) rfl rfl 0 0 ⟨Nat.le_of_ble_eq_true rfl, Nat.le_of_ble_eq_true rfl⟩ ⟨Nat.le_of_ble_eq_true rfl, Nat.le_of_ble_eq_true rfl, Nat.le_of_ble_eq_true rfl, Nat.le_of_ble_eq_true rfl⟩ rfl (am_lv_ref (hp_m _ _ _) (am_lv_int (am_lv_int (am_lv_ref (hp_m _ _ _) am_lv_nil)))) (Nat.le_of_ble_eq_true rfl) dX6_nest_3 [.int 1, .ref 465] rfl ?_
  refine am_ifeq hF 21 dX6_nest_6 (by decide) (fun h9 => False.elim ((by revert h9; decide))) (fun _ => ?_)
  refine am_go hF sgX6_nest_9_78e74 11 [(0, .ref 465), (1, .int (nI l)), (2, .int y)] [.int y, .ref 465, .ref 465] sgX6_nest_9_78e74d rfl ?_
  refine am_dV hF hO [.int y] [.ref 465] (c_isList_f (S := S) hn hn10 hy) myX6_isList vyX6_isList lm_RX6_122 (hp_m _ _ _) rfl rfl 0 0 ⟨Nat.le_of_ble_eq_true rfl, Nat.le_of_ble_eq_true rfl⟩ ⟨Nat.le_of_ble_eq_true rfl, Nat.le_of_ble_eq_true rfl, Nat.le_of_ble_eq_true rfl, Nat.le_of_ble_eq_true rfl⟩ rfl (am_lv_ref (hp_m _ _ _) (am_lv_int (am_lv_int (am_lv_ref (hp_m _ _ _) am_lv_nil)))) (Nat.le_of_ble_eq_true rfl) dX6_nest_11 [.int 0, .ref 465] rfl ?_
  refine am_ifeq hF 21 dX6_nest_14 (by decide) (fun _ => ?_) (fun h9 => False.elim ((by revert h9; decide)))
  refine am_go hF sgX6_nest_21_4de0a 22 [(0, .ref 465), (1, .int (nI l)), (2, .int y)] [.int 1, .ref 465] sgX6_nest_21_4de0ad rfl ?_
  refine sv_put hF 0 (by decide) rfl rfl rfl lf_RX6_104 dX6_nest_22 ?_
  refine am_go hF sgX6_nest_25_34db8 26 [(0, .ref 465), (1, .int (nI l)), (2, .int y)] [.ref 465] sgX6_nest_25_34db8d rfl ?_
  refine sv_get hF 0 (by decide) rfl lf_RX6_104 (.int 1) rfl dX6_nest_26 ?_
  refine am_ifle hF 34 dX6_nest_29 (by decide) (fun h9 => False.elim ((by revert h9; decide))) (fun _ => ?_)
  refine am_go hF sgX6_nest_32_56c54 33 [(0, .ref 465), (1, .int (nI l)), (2, .int y)] [.int 0] sgX6_nest_32_56c54d rfl ?_
  exact am_iret hF hO hret rfl dX6_nest_33 ⟨rfl, rfl⟩
set_option maxRecDepth 100000 in
set_option maxHeartbeats 4000000 in
theorem c_r_nest_3 {G : am_S} {T S : am_T} {o : Nat → Int64} {n : Nat} (hn : S 9 0 = nI n) (hn10 : n ≤ 10) {l : Nat} (hl : l < n) {q : Nat} (hq : q < n) (hi : ¬ S 15 l >>> (nI q &&& 31) &&& 1 = 1) (hw : rWin (st1 S 0 0 0) n q >>> (nI l &&& 31) &&& 1 = 1) : am_D G yX6_nest (.code yX6_nest cX6_nest 4 (some .boolean) :: am_G) { frames := 2, cells := 0, slots := 0, locals := 43 } (hp T S o) [.ref 465, .int (nI l), .int (nI q)] (hp T (st1 (st1 S 0 0 0) 0 0 2) o) (some (.int 0)) := by
  refine am_of (by decide +kernel) (Nat.le_of_ble_eq_true rfl) ?_
  intro C hse hret hname hF hO
  subst hse
  refine am_go hF sgX6_nest_0_6b3ba 3 [(0, .ref 465), (1, .int (nI l)), (2, .int (nI q))] [.int (nI l), .ref 465, .ref 465] sgX6_nest_0_6b3bad rfl ?_
  refine am_dV hF hO [.int (nI l)] [.ref 465] (c_isList_t (S := S) hn hn10 (show l < n by omega) rfl) myX6_isList vyX6_isList lm_RX6_122 (hp_m _ _ _) rfl rfl 0 0 ⟨Nat.le_of_ble_eq_true rfl, Nat.le_of_ble_eq_true rfl⟩ ⟨Nat.le_of_ble_eq_true rfl, Nat.le_of_ble_eq_true rfl, Nat.le_of_ble_eq_true rfl, Nat.le_of_ble_eq_true rfl⟩ rfl (am_lv_ref (hp_m _ _ _) (am_lv_int (am_lv_int (am_lv_ref (hp_m _ _ _) am_lv_nil)))) (Nat.le_of_ble_eq_true rfl) dX6_nest_3 [.int 1, .ref 465] rfl ?_
  refine am_ifeq hF 21 dX6_nest_6 (by decide) (fun h9 => False.elim ((by revert h9; decide))) (fun _ => ?_)
  refine am_go hF sgX6_nest_9_78e74 11 [(0, .ref 465), (1, .int (nI l)), (2, .int (nI q))] [.int (nI q), .ref 465, .ref 465] sgX6_nest_9_78e74d rfl ?_
  refine am_dV hF hO [.int (nI q)] [.ref 465] (c_isList_t (S := S) hn hn10 (show q < n by omega) rfl) myX6_isList vyX6_isList lm_RX6_122 (hp_m _ _ _) rfl rfl 0 0 ⟨Nat.le_of_ble_eq_true rfl, Nat.le_of_ble_eq_true rfl⟩ ⟨Nat.le_of_ble_eq_true rfl, Nat.le_of_ble_eq_true rfl, Nat.le_of_ble_eq_true rfl, Nat.le_of_ble_eq_true rfl⟩ rfl (am_lv_ref (hp_m _ _ _) (am_lv_int (am_lv_int (am_lv_ref (hp_m _ _ _) am_lv_nil)))) (Nat.le_of_ble_eq_true rfl) dX6_nest_11 [.int 1, .ref 465] rfl ?_
  refine am_ifeq hF 21 dX6_nest_14 (by decide) (fun h9 => False.elim ((by revert h9; decide))) (fun _ => ?_)
  refine am_go hF sgX6_nest_17_1cbe9 22 [(0, .ref 465), (1, .int (nI l)), (2, .int (nI q))] [.int 0, .ref 465] sgX6_nest_17_1cbe9d rfl ?_
  refine sv_put hF 0 (by decide) rfl rfl rfl lf_RX6_104 dX6_nest_22 ?_
  refine am_go hF sgX6_nest_25_34db8 26 [(0, .ref 465), (1, .int (nI l)), (2, .int (nI q))] [.ref 465] sgX6_nest_25_34db8d rfl ?_
  refine sv_get hF 0 (by decide) rfl lf_RX6_104 (.int 0) rfl dX6_nest_26 ?_
  refine am_ifle hF 34 dX6_nest_29 (by decide) (fun _ => ?_) (fun h9 => False.elim ((by revert h9; decide)))
  refine am_go hF sgX6_nest_34_34db8 35 [(0, .ref 465), (1, .int (nI l)), (2, .int (nI q))] [.ref 465] sgX6_nest_34_34db8d rfl ?_
  refine sv_get hF 15 (by decide) rfl lf_RX6_44 (.ref 515) rfl dX6_nest_35 ?_
  refine am_go hF sgX6_nest_38_840bf 39 [(0, .ref 465), (1, .int (nI l)), (2, .int (nI q))] [.int (nI l), .ref 515] sgX6_nest_38_840bfd rfl ?_
  refine sv_iald hF 15 (by decide) ⟨rfl, rfl, by decide⟩ l rfl (show l < 10 by omega) dX6_nest_39 ?_
  refine am_top (S 15 l) rfl ?_
  refine am_go hF sgX6_nest_40_89201 45 [(0, .ref 465), (1, .int (nI l)), (2, .int (nI q))] [.int 1, .int (((S 15 l) >>> ((nI q) &&& 31)) &&& 1)] sgX6_nest_40_89201d rfl ?_
  refine am_icmpne hF 52 dX6_nest_45 (by decide) (fun _ => ?_) (fun h9 => False.elim (absurd h9 hi))
  refine am_go hF sgX6_nest_52_05adf 56 [(3, .int 0), (0, .ref 465), (1, .int (nI l)), (2, .int (nI q))] [.int 0, .ref 465] sgX6_nest_52_05adfd rfl ?_
  refine am_ifne hF 76 dX6_nest_56 (by decide) (fun h9 => False.elim ((by revert h9; decide))) (fun _ => ?_)
  refine am_go hF sgX6_nest_59_78e74 61 [(3, .int 0), (0, .ref 465), (1, .int (nI l)), (2, .int (nI q))] [.int (nI q), .ref 465, .ref 465] sgX6_nest_59_78e74d rfl ?_
  refine am_dV hF hO [.int (nI q)] [.ref 465] (c_within (S := (st1 S 0 0 0)) (n := n) hn hn10 (by omega)) myX6_within vyX6_within lm_RX6_129 (hp_m _ _ _) rfl rfl 0 0 ⟨Nat.le_of_ble_eq_true rfl, Nat.le_of_ble_eq_true rfl⟩ ⟨Nat.le_of_ble_eq_true rfl, Nat.le_of_ble_eq_true rfl, Nat.le_of_ble_eq_true rfl, Nat.le_of_ble_eq_true rfl⟩ rfl (am_lv_int (am_lv_ref (hp_m _ _ _) (am_lv_int (am_lv_int (am_lv_ref (hp_m _ _ _) am_lv_nil))))) (Nat.le_of_ble_eq_true rfl) dX6_nest_61 [.int (rWin (st1 S 0 0 0) n q), .ref 465] rfl ?_
  refine am_go hF sgX6_nest_64_43adf 69 [(3, .int 0), (0, .ref 465), (1, .int (nI l)), (2, .int (nI q))] [.int 1, .int (((rWin (st1 S 0 0 0) n q) >>> ((nI l) &&& 31)) &&& 1), .ref 465] sgX6_nest_64_43adfd rfl ?_
  refine am_icmpne hF 76 dX6_nest_69 (by decide) (fun h9 => False.elim (absurd hw h9)) (fun _ => ?_)
  refine am_go hF sgX6_nest_72_abe91 77 [(3, .int 0), (0, .ref 465), (1, .int (nI l)), (2, .int (nI q))] [.int 2, .ref 465] sgX6_nest_72_abe91d rfl ?_
  refine sv_put hF 0 (by decide) rfl rfl rfl lf_RX6_104 dX6_nest_77 ?_
  refine am_go hF sgX6_nest_80_34db8 81 [(3, .int 0), (0, .ref 465), (1, .int (nI l)), (2, .int (nI q))] [.ref 465] sgX6_nest_80_34db8d rfl ?_
  refine sv_get hF 0 (by decide) rfl lf_RX6_104 (.int 2) rfl dX6_nest_81 ?_
  refine am_ifle hF 89 dX6_nest_84 (by decide) (fun h9 => False.elim ((by revert h9; decide))) (fun _ => ?_)
  refine am_go hF sgX6_nest_87_56c54 88 [(3, .int 0), (0, .ref 465), (1, .int (nI l)), (2, .int (nI q))] [.int 0] sgX6_nest_87_56c54d rfl ?_
  exact am_iret hF hO hret rfl dX6_nest_88 ⟨rfl, rfl⟩
set_option maxRecDepth 100000 in
set_option maxHeartbeats 4000000 in
theorem c_r_nest_4 {G : am_S} {T S : am_T} {o : Nat → Int64} {n : Nat} (hn : S 9 0 = nI n) (hn10 : n ≤ 10) {l : Nat} (hl : l < n) {q : Nat} (hq : q < n) (hi : ¬ S 15 l >>> (nI q &&& 31) &&& 1 = 1) (hw : ¬ rWin (st1 S 0 0 0) n q >>> (nI l &&& 31) &&& 1 = 1) : am_D G yX6_nest (.code yX6_nest cX6_nest 4 (some .boolean) :: am_G) { frames := 2, cells := 0, slots := 0, locals := 43 } (hp T S o) [.ref 465, .int (nI l), .int (nI q)] (hp T (st1 (st1 (st1 S 0 0 0) 0 0 0) 15 l ((S 15 l) ^^^ (1 <<< ((nI q) &&& 31)))) o) (some (.int 1)) := by
  refine am_of (by decide +kernel) (Nat.le_of_ble_eq_true rfl) ?_
  intro C hse hret hname hF hO
  subst hse
  refine am_go hF sgX6_nest_0_6b3ba 3 [(0, .ref 465), (1, .int (nI l)), (2, .int (nI q))] [.int (nI l), .ref 465, .ref 465] sgX6_nest_0_6b3bad rfl ?_
  refine am_dV hF hO [.int (nI l)] [.ref 465] (c_isList_t (S := S) hn hn10 (show l < n by omega) rfl) myX6_isList vyX6_isList lm_RX6_122 (hp_m _ _ _) rfl rfl 0 0 ⟨Nat.le_of_ble_eq_true rfl, Nat.le_of_ble_eq_true rfl⟩ ⟨Nat.le_of_ble_eq_true rfl, Nat.le_of_ble_eq_true rfl, Nat.le_of_ble_eq_true rfl, Nat.le_of_ble_eq_true rfl⟩ rfl (am_lv_ref (hp_m _ _ _) (am_lv_int (am_lv_int (am_lv_ref (hp_m _ _ _) am_lv_nil)))) (Nat.le_of_ble_eq_true rfl) dX6_nest_3 [.int 1, .ref 465] rfl ?_
  refine am_ifeq hF 21 dX6_nest_6 (by decide) (fun h9 => False.elim ((by revert h9; decide))) (fun _ => ?_)
  refine am_go hF sgX6_nest_9_78e74 11 [(0, .ref 465), (1, .int (nI l)), (2, .int (nI q))] [.int (nI q), .ref 465, .ref 465] sgX6_nest_9_78e74d rfl ?_
  refine am_dV hF hO [.int (nI q)] [.ref 465] (c_isList_t (S := S) hn hn10 (show q < n by omega) rfl) myX6_isList vyX6_isList lm_RX6_122 (hp_m _ _ _) rfl rfl 0 0 ⟨Nat.le_of_ble_eq_true rfl, Nat.le_of_ble_eq_true rfl⟩ ⟨Nat.le_of_ble_eq_true rfl, Nat.le_of_ble_eq_true rfl, Nat.le_of_ble_eq_true rfl, Nat.le_of_ble_eq_true rfl⟩ rfl (am_lv_ref (hp_m _ _ _) (am_lv_int (am_lv_int (am_lv_ref (hp_m _ _ _) am_lv_nil)))) (Nat.le_of_ble_eq_true rfl) dX6_nest_11 [.int 1, .ref 465] rfl ?_
  refine am_ifeq hF 21 dX6_nest_14 (by decide) (fun h9 => False.elim ((by revert h9; decide))) (fun _ => ?_)
  refine am_go hF sgX6_nest_17_1cbe9 22 [(0, .ref 465), (1, .int (nI l)), (2, .int (nI q))] [.int 0, .ref 465] sgX6_nest_17_1cbe9d rfl ?_
  refine sv_put hF 0 (by decide) rfl rfl rfl lf_RX6_104 dX6_nest_22 ?_
  refine am_go hF sgX6_nest_25_34db8 26 [(0, .ref 465), (1, .int (nI l)), (2, .int (nI q))] [.ref 465] sgX6_nest_25_34db8d rfl ?_
  refine sv_get hF 0 (by decide) rfl lf_RX6_104 (.int 0) rfl dX6_nest_26 ?_
  refine am_ifle hF 34 dX6_nest_29 (by decide) (fun _ => ?_) (fun h9 => False.elim ((by revert h9; decide)))
  refine am_go hF sgX6_nest_34_34db8 35 [(0, .ref 465), (1, .int (nI l)), (2, .int (nI q))] [.ref 465] sgX6_nest_34_34db8d rfl ?_
  refine sv_get hF 15 (by decide) rfl lf_RX6_44 (.ref 515) rfl dX6_nest_35 ?_
  refine am_go hF sgX6_nest_38_840bf 39 [(0, .ref 465), (1, .int (nI l)), (2, .int (nI q))] [.int (nI l), .ref 515] sgX6_nest_38_840bfd rfl ?_
  refine sv_iald hF 15 (by decide) ⟨rfl, rfl, by decide⟩ l rfl (show l < 10 by omega) dX6_nest_39 ?_
  refine am_top (S 15 l) rfl ?_
  refine am_go hF sgX6_nest_40_89201 45 [(0, .ref 465), (1, .int (nI l)), (2, .int (nI q))] [.int 1, .int (((S 15 l) >>> ((nI q) &&& 31)) &&& 1)] sgX6_nest_40_89201d rfl ?_
  refine am_icmpne hF 52 dX6_nest_45 (by decide) (fun _ => ?_) (fun h9 => False.elim (absurd h9 hi))
  refine am_go hF sgX6_nest_52_05adf 56 [(3, .int 0), (0, .ref 465), (1, .int (nI l)), (2, .int (nI q))] [.int 0, .ref 465] sgX6_nest_52_05adfd rfl ?_
  refine am_ifne hF 76 dX6_nest_56 (by decide) (fun h9 => False.elim ((by revert h9; decide))) (fun _ => ?_)
  refine am_go hF sgX6_nest_59_78e74 61 [(3, .int 0), (0, .ref 465), (1, .int (nI l)), (2, .int (nI q))] [.int (nI q), .ref 465, .ref 465] sgX6_nest_59_78e74d rfl ?_
  refine am_dV hF hO [.int (nI q)] [.ref 465] (c_within (S := (st1 S 0 0 0)) (n := n) hn hn10 (by omega)) myX6_within vyX6_within lm_RX6_129 (hp_m _ _ _) rfl rfl 0 0 ⟨Nat.le_of_ble_eq_true rfl, Nat.le_of_ble_eq_true rfl⟩ ⟨Nat.le_of_ble_eq_true rfl, Nat.le_of_ble_eq_true rfl, Nat.le_of_ble_eq_true rfl, Nat.le_of_ble_eq_true rfl⟩ rfl (am_lv_int (am_lv_ref (hp_m _ _ _) (am_lv_int (am_lv_int (am_lv_ref (hp_m _ _ _) am_lv_nil))))) (Nat.le_of_ble_eq_true rfl) dX6_nest_61 [.int (rWin (st1 S 0 0 0) n q), .ref 465] rfl ?_
  refine am_go hF sgX6_nest_64_43adf 69 [(3, .int 0), (0, .ref 465), (1, .int (nI l)), (2, .int (nI q))] [.int 1, .int (((rWin (st1 S 0 0 0) n q) >>> ((nI l) &&& 31)) &&& 1), .ref 465] sgX6_nest_64_43adfd rfl ?_
  refine am_icmpne hF 76 dX6_nest_69 (by decide) (fun _ => ?_) (fun h9 => False.elim (absurd h9 hw))
  refine am_go hF sgX6_nest_76_56c54 77 [(3, .int 0), (0, .ref 465), (1, .int (nI l)), (2, .int (nI q))] [.int 0, .ref 465] sgX6_nest_76_56c54d rfl ?_
  refine sv_put hF 0 (by decide) rfl rfl rfl lf_RX6_104 dX6_nest_77 ?_
  refine am_go hF sgX6_nest_80_34db8 81 [(3, .int 0), (0, .ref 465), (1, .int (nI l)), (2, .int (nI q))] [.ref 465] sgX6_nest_80_34db8d rfl ?_
  refine sv_get hF 0 (by decide) rfl lf_RX6_104 (.int 0) rfl dX6_nest_81 ?_
  refine am_ifle hF 89 dX6_nest_84 (by decide) (fun _ => ?_) (fun h9 => False.elim ((by revert h9; decide)))
  refine am_go hF sgX6_nest_89_34db8 90 [(3, .int 0), (0, .ref 465), (1, .int (nI l)), (2, .int (nI q))] [.ref 465] sgX6_nest_89_34db8d rfl ?_
  refine sv_get hF 15 (by decide) rfl lf_RX6_44 (.ref 515) rfl dX6_nest_90 ?_
  refine am_go hF sgX6_nest_93_563cd 95 [(3, .int 0), (0, .ref 465), (1, .int (nI l)), (2, .int (nI q))] [.int (nI l), .ref 515, .int (nI l), .ref 515] sgX6_nest_93_563cdd rfl ?_
  refine sv_iald hF 15 (by decide) ⟨rfl, rfl, by decide⟩ l rfl (show l < 10 by omega) dX6_nest_95 ?_
  refine am_top (S 15 l) rfl ?_
  refine am_go hF sgX6_nest_96_0d86e 100 [(3, .int 0), (0, .ref 465), (1, .int (nI l)), (2, .int (nI q))] [.int ((S 15 l) ^^^ (1 <<< ((nI q) &&& 31))), .int (nI l), .ref 515] sgX6_nest_96_0d86ed rfl ?_
  refine sv_iast hF 15 (by decide) ⟨rfl, rfl, by decide⟩ l rfl (show l < 10 by omega) dX6_nest_100 ?_
  refine am_go hF sgX6_nest_101_13b50 102 [(3, .int 0), (0, .ref 465), (1, .int (nI l)), (2, .int (nI q))] [.int 0] sgX6_nest_101_13b50d rfl ?_
  refine am_ifne hF 109 dX6_nest_102 (by decide) (fun h9 => False.elim ((by revert h9; decide))) (fun _ => ?_)
  refine am_go hF sgX6_nest_105_1c64c 110 [(3, .int 0), (0, .ref 465), (1, .int (nI l)), (2, .int (nI q))] [.int 1] sgX6_nest_105_1c64cd rfl ?_
  exact am_iret hF hO hret rfl dX6_nest_110 ⟨rfl, rfl⟩
set_option maxRecDepth 100000 in
set_option maxHeartbeats 4000000 in
theorem c_r_nest_5 {G : am_S} {T S : am_T} {o : Nat → Int64} {n : Nat} (hn : S 9 0 = nI n) (hn10 : n ≤ 10) {l : Nat} (hl : l < n) {q : Nat} (hq : q < n) (hi : S 15 l >>> (nI q &&& 31) &&& 1 = 1) : am_D G yX6_nest (.code yX6_nest cX6_nest 4 (some .boolean) :: am_G) { frames := 2, cells := 0, slots := 0, locals := 43 } (hp T S o) [.ref 465, .int (nI l), .int (nI q)] (hp T (st1 (st1 (st1 S 0 0 0) 0 0 0) 15 l ((S 15 l) ^^^ (1 <<< ((nI q) &&& 31)))) o) (some (.int 0)) := by
  refine am_of (by decide +kernel) (Nat.le_of_ble_eq_true rfl) ?_
  intro C hse hret hname hF hO
  subst hse
  refine am_go hF sgX6_nest_0_6b3ba 3 [(0, .ref 465), (1, .int (nI l)), (2, .int (nI q))] [.int (nI l), .ref 465, .ref 465] sgX6_nest_0_6b3bad rfl ?_
  refine am_dV hF hO [.int (nI l)] [.ref 465] (c_isList_t (S := S) hn hn10 (show l < n by omega) rfl) myX6_isList vyX6_isList lm_RX6_122 (hp_m _ _ _) rfl rfl 0 0 ⟨Nat.le_of_ble_eq_true rfl, Nat.le_of_ble_eq_true rfl⟩ ⟨Nat.le_of_ble_eq_true rfl, Nat.le_of_ble_eq_true rfl, Nat.le_of_ble_eq_true rfl, Nat.le_of_ble_eq_true rfl⟩ rfl (am_lv_ref (hp_m _ _ _) (am_lv_int (am_lv_int (am_lv_ref (hp_m _ _ _) am_lv_nil)))) (Nat.le_of_ble_eq_true rfl) dX6_nest_3 [.int 1, .ref 465] rfl ?_
  refine am_ifeq hF 21 dX6_nest_6 (by decide) (fun h9 => False.elim ((by revert h9; decide))) (fun _ => ?_)
  refine am_go hF sgX6_nest_9_78e74 11 [(0, .ref 465), (1, .int (nI l)), (2, .int (nI q))] [.int (nI q), .ref 465, .ref 465] sgX6_nest_9_78e74d rfl ?_
  refine am_dV hF hO [.int (nI q)] [.ref 465] (c_isList_t (S := S) hn hn10 (show q < n by omega) rfl) myX6_isList vyX6_isList lm_RX6_122 (hp_m _ _ _) rfl rfl 0 0 ⟨Nat.le_of_ble_eq_true rfl, Nat.le_of_ble_eq_true rfl⟩ ⟨Nat.le_of_ble_eq_true rfl, Nat.le_of_ble_eq_true rfl, Nat.le_of_ble_eq_true rfl, Nat.le_of_ble_eq_true rfl⟩ rfl (am_lv_ref (hp_m _ _ _) (am_lv_int (am_lv_int (am_lv_ref (hp_m _ _ _) am_lv_nil)))) (Nat.le_of_ble_eq_true rfl) dX6_nest_11 [.int 1, .ref 465] rfl ?_
  refine am_ifeq hF 21 dX6_nest_14 (by decide) (fun h9 => False.elim ((by revert h9; decide))) (fun _ => ?_)
  refine am_go hF sgX6_nest_17_1cbe9 22 [(0, .ref 465), (1, .int (nI l)), (2, .int (nI q))] [.int 0, .ref 465] sgX6_nest_17_1cbe9d rfl ?_
  refine sv_put hF 0 (by decide) rfl rfl rfl lf_RX6_104 dX6_nest_22 ?_
  refine am_go hF sgX6_nest_25_34db8 26 [(0, .ref 465), (1, .int (nI l)), (2, .int (nI q))] [.ref 465] sgX6_nest_25_34db8d rfl ?_
  refine sv_get hF 0 (by decide) rfl lf_RX6_104 (.int 0) rfl dX6_nest_26 ?_
  refine am_ifle hF 34 dX6_nest_29 (by decide) (fun _ => ?_) (fun h9 => False.elim ((by revert h9; decide)))
  refine am_go hF sgX6_nest_34_34db8 35 [(0, .ref 465), (1, .int (nI l)), (2, .int (nI q))] [.ref 465] sgX6_nest_34_34db8d rfl ?_
  refine sv_get hF 15 (by decide) rfl lf_RX6_44 (.ref 515) rfl dX6_nest_35 ?_
  refine am_go hF sgX6_nest_38_840bf 39 [(0, .ref 465), (1, .int (nI l)), (2, .int (nI q))] [.int (nI l), .ref 515] sgX6_nest_38_840bfd rfl ?_
  refine sv_iald hF 15 (by decide) ⟨rfl, rfl, by decide⟩ l rfl (show l < 10 by omega) dX6_nest_39 ?_
  refine am_top (S 15 l) rfl ?_
  refine am_go hF sgX6_nest_40_89201 45 [(0, .ref 465), (1, .int (nI l)), (2, .int (nI q))] [.int 1, .int (((S 15 l) >>> ((nI q) &&& 31)) &&& 1)] sgX6_nest_40_89201d rfl ?_
  refine am_icmpne hF 52 dX6_nest_45 (by decide) (fun h9 => False.elim (absurd hi h9)) (fun _ => ?_)
  refine am_go hF sgX6_nest_48_63fa2 56 [(3, .int 1), (0, .ref 465), (1, .int (nI l)), (2, .int (nI q))] [.int 1, .ref 465] sgX6_nest_48_63fa2d rfl ?_
  refine am_ifne hF 76 dX6_nest_56 (by decide) (fun _ => ?_) (fun h9 => False.elim ((by revert h9; decide)))
  refine am_go hF sgX6_nest_76_56c54 77 [(3, .int 1), (0, .ref 465), (1, .int (nI l)), (2, .int (nI q))] [.int 0, .ref 465] sgX6_nest_76_56c54d rfl ?_
  refine sv_put hF 0 (by decide) rfl rfl rfl lf_RX6_104 dX6_nest_77 ?_
  refine am_go hF sgX6_nest_80_34db8 81 [(3, .int 1), (0, .ref 465), (1, .int (nI l)), (2, .int (nI q))] [.ref 465] sgX6_nest_80_34db8d rfl ?_
  refine sv_get hF 0 (by decide) rfl lf_RX6_104 (.int 0) rfl dX6_nest_81 ?_
  refine am_ifle hF 89 dX6_nest_84 (by decide) (fun _ => ?_) (fun h9 => False.elim ((by revert h9; decide)))
  refine am_go hF sgX6_nest_89_34db8 90 [(3, .int 1), (0, .ref 465), (1, .int (nI l)), (2, .int (nI q))] [.ref 465] sgX6_nest_89_34db8d rfl ?_
  refine sv_get hF 15 (by decide) rfl lf_RX6_44 (.ref 515) rfl dX6_nest_90 ?_
  refine am_go hF sgX6_nest_93_563cd 95 [(3, .int 1), (0, .ref 465), (1, .int (nI l)), (2, .int (nI q))] [.int (nI l), .ref 515, .int (nI l), .ref 515] sgX6_nest_93_563cdd rfl ?_
  refine sv_iald hF 15 (by decide) ⟨rfl, rfl, by decide⟩ l rfl (show l < 10 by omega) dX6_nest_95 ?_
  refine am_top (S 15 l) rfl ?_
  refine am_go hF sgX6_nest_96_0d86e 100 [(3, .int 1), (0, .ref 465), (1, .int (nI l)), (2, .int (nI q))] [.int ((S 15 l) ^^^ (1 <<< ((nI q) &&& 31))), .int (nI l), .ref 515] sgX6_nest_96_0d86ed rfl ?_
  refine sv_iast hF 15 (by decide) ⟨rfl, rfl, by decide⟩ l rfl (show l < 10 by omega) dX6_nest_100 ?_
  refine am_go hF sgX6_nest_101_13b50 102 [(3, .int 1), (0, .ref 465), (1, .int (nI l)), (2, .int (nI q))] [.int 1] sgX6_nest_101_13b50d rfl ?_
  refine am_ifne hF 109 dX6_nest_102 (by decide) (fun _ => ?_) (fun h9 => False.elim ((by revert h9; decide)))
  refine am_go hF sgX6_nest_109_56c54 110 [(3, .int 1), (0, .ref 465), (1, .int (nI l)), (2, .int (nI q))] [.int 0] sgX6_nest_109_56c54d rfl ?_
  exact am_iret hF hO hret rfl dX6_nest_110 ⟨rfl, rfl⟩
set_option maxRecDepth 100000 in
set_option maxHeartbeats 4000000 in
theorem c_r_rules_1 {G : am_S} {T S : am_T} {o : Nat → Int64} {n : Nat} (hn : S 9 0 = nI n) (hn10 : n ≤ 10) {x : Int32} (hx : x < 0 ∨ nI n ≤ x) {y z : Int32} {b : Bool} : am_D G yX6_rules (.code yX6_rules cX6_rules 6 (some .int) :: am_G) { frames := 2, cells := 0, slots := 0, locals := 43 } (hp T S o) [.ref 465, .int x, .int y, .int z, .int (if b = true then 1 else 0)] (hp T (st1 S 0 0 1) o) (some (.int 0)) := by
  refine am_of (by decide +kernel) (Nat.le_of_ble_eq_true rfl) ?_
  intro C hse hret hname hF hO
  subst hse
  refine am_go hF sgX6_rules_0_6b3ba 3 [(0, .ref 465), (1, .int x), (2, .int y), (3, .int z), (4, .int (if b = true then 1 else 0))] [.int x, .ref 465, .ref 465] sgX6_rules_0_6b3bad rfl ?_
  refine am_dV hF hO [.int x] [.ref 465] (c_isList_f (S := S) hn hn10 hx) myX6_isList vyX6_isList lm_RX6_122 (hp_m _ _ _) rfl rfl 0 0 ⟨Nat.le_of_ble_eq_true rfl, Nat.le_of_ble_eq_true rfl⟩ ⟨Nat.le_of_ble_eq_true rfl, Nat.le_of_ble_eq_true rfl, Nat.le_of_ble_eq_true rfl, Nat.le_of_ble_eq_true rfl⟩ rfl (am_lv_ref (hp_m _ _ _) (am_lv_int (am_lv_int (am_lv_int (am_lv_int (am_lv_ref (hp_m _ _ _) am_lv_nil)))))) (Nat.le_of_ble_eq_true rfl) dX6_rules_3 [.int 0, .ref 465] rfl ?_
  refine am_ifne hF 13 dX6_rules_6 (by decide) (fun h9 => False.elim ((by revert h9; decide))) (fun _ => ?_)
  refine am_go hF sgX6_rules_9_b69fd 39 [(0, .ref 465), (1, .int x), (2, .int y), (3, .int z), (4, .int (if b = true then 1 else 0))] [.int 1, .ref 465] sgX6_rules_9_b69fdd rfl ?_
  refine sv_put hF 0 (by decide) rfl rfl rfl lf_RX6_104 dX6_rules_39 ?_
  refine am_go hF sgX6_rules_42_34db8 43 [(0, .ref 465), (1, .int x), (2, .int y), (3, .int z), (4, .int (if b = true then 1 else 0))] [.ref 465] sgX6_rules_42_34db8d rfl ?_
  refine sv_get hF 0 (by decide) rfl lf_RX6_104 (.int 1) rfl dX6_rules_43 ?_
  refine am_ifle hF 51 dX6_rules_46 (by decide) (fun h9 => False.elim ((by revert h9; decide))) (fun _ => ?_)
  refine am_go hF sgX6_rules_49_56c54 50 [(0, .ref 465), (1, .int x), (2, .int y), (3, .int z), (4, .int (if b = true then 1 else 0))] [.int 0] sgX6_rules_49_56c54d rfl ?_
  exact am_iret hF hO hret rfl dX6_rules_50 ⟨rfl, rfl⟩
set_option maxRecDepth 100000 in
set_option maxHeartbeats 4000000 in
theorem c_r_rules_2 {G : am_S} {T S : am_T} {o : Nat → Int64} {n : Nat} (hn : S 9 0 = nI n) (hn10 : n ≤ 10) {l : Nat} (hl : l < n) {y z : Int32} {b : Bool} (hy : y < 1 ∨ 200 < y) : am_D G yX6_rules (.code yX6_rules cX6_rules 6 (some .int) :: am_G) { frames := 2, cells := 0, slots := 0, locals := 43 } (hp T S o) [.ref 465, .int (nI l), .int y, .int z, .int (if b = true then 1 else 0)] (hp T (st1 S 0 0 2) o) (some (.int 0)) := by
  refine am_of (by decide +kernel) (Nat.le_of_ble_eq_true rfl) ?_
  intro C hse hret hname hF hO
  subst hse
  refine am_go hF sgX6_rules_0_6b3ba 3 [(0, .ref 465), (1, .int (nI l)), (2, .int y), (3, .int z), (4, .int (if b = true then 1 else 0))] [.int (nI l), .ref 465, .ref 465] sgX6_rules_0_6b3bad rfl ?_
  refine am_dV hF hO [.int (nI l)] [.ref 465] (c_isList_t (S := S) hn hn10 (show l < n by omega) rfl) myX6_isList vyX6_isList lm_RX6_122 (hp_m _ _ _) rfl rfl 0 0 ⟨Nat.le_of_ble_eq_true rfl, Nat.le_of_ble_eq_true rfl⟩ ⟨Nat.le_of_ble_eq_true rfl, Nat.le_of_ble_eq_true rfl, Nat.le_of_ble_eq_true rfl, Nat.le_of_ble_eq_true rfl⟩ rfl (am_lv_ref (hp_m _ _ _) (am_lv_int (am_lv_int (am_lv_int (am_lv_int (am_lv_ref (hp_m _ _ _) am_lv_nil)))))) (Nat.le_of_ble_eq_true rfl) dX6_rules_3 [.int 1, .ref 465] rfl ?_
  refine am_ifne hF 13 dX6_rules_6 (by decide) (fun _ => ?_) (fun h9 => False.elim ((by revert h9; decide)))
  refine am_go hF sgX6_rules_13_bd672 18 [(0, .ref 465), (1, .int (nI l)), (2, .int y), (3, .int z), (4, .int (if b = true then 1 else 0))] [.int 200, .int 1, .int y, .ref 465] sgX6_rules_13_bd672d rfl ?_
  refine am_dS hF hO [.int y, .int 1, .int 200] [.ref 465] (c_isIn_f hy) myX6_isIn syX6_isIn lm_RX6_108 rfl 0 0 ⟨Nat.le_of_ble_eq_true rfl, Nat.le_of_ble_eq_true rfl⟩ ⟨Nat.le_of_ble_eq_true rfl, Nat.le_of_ble_eq_true rfl, Nat.le_of_ble_eq_true rfl, Nat.le_of_ble_eq_true rfl⟩ rfl (am_lv_ref (hp_m _ _ _) (am_lv_int (am_lv_int (am_lv_int (am_lv_int (am_lv_ref (hp_m _ _ _) am_lv_nil)))))) (Nat.le_of_ble_eq_true rfl) dX6_rules_18 [.int 0, .ref 465] rfl ?_
  refine am_ifeq hF 38 dX6_rules_21 (by decide) (fun _ => ?_) (fun h9 => False.elim ((by revert h9; decide)))
  refine am_go hF sgX6_rules_38_d5620 39 [(0, .ref 465), (1, .int (nI l)), (2, .int y), (3, .int z), (4, .int (if b = true then 1 else 0))] [.int 2, .ref 465] sgX6_rules_38_d5620d rfl ?_
  refine sv_put hF 0 (by decide) rfl rfl rfl lf_RX6_104 dX6_rules_39 ?_
  refine am_go hF sgX6_rules_42_34db8 43 [(0, .ref 465), (1, .int (nI l)), (2, .int y), (3, .int z), (4, .int (if b = true then 1 else 0))] [.ref 465] sgX6_rules_42_34db8d rfl ?_
  refine sv_get hF 0 (by decide) rfl lf_RX6_104 (.int 2) rfl dX6_rules_43 ?_
  refine am_ifle hF 51 dX6_rules_46 (by decide) (fun h9 => False.elim ((by revert h9; decide))) (fun _ => ?_)
  refine am_go hF sgX6_rules_49_56c54 50 [(0, .ref 465), (1, .int (nI l)), (2, .int y), (3, .int z), (4, .int (if b = true then 1 else 0))] [.int 0] sgX6_rules_49_56c54d rfl ?_
  exact am_iret hF hO hret rfl dX6_rules_50 ⟨rfl, rfl⟩
set_option maxRecDepth 100000 in
set_option maxHeartbeats 4000000 in
theorem c_r_rules_3 {G : am_S} {T S : am_T} {o : Nat → Int64} {n : Nat} (hn : S 9 0 = nI n) (hn10 : n ≤ 10) {l : Nat} (hl : l < n) {y z : Int32} {b : Bool} (hy1 : ¬ y < 1) (hy2 : ¬ 200 < y) (hz : z < 1 ∨ 30 < z) : am_D G yX6_rules (.code yX6_rules cX6_rules 6 (some .int) :: am_G) { frames := 2, cells := 0, slots := 0, locals := 43 } (hp T S o) [.ref 465, .int (nI l), .int y, .int z, .int (if b = true then 1 else 0)] (hp T (st1 S 0 0 2) o) (some (.int 0)) := by
  refine am_of (by decide +kernel) (Nat.le_of_ble_eq_true rfl) ?_
  intro C hse hret hname hF hO
  subst hse
  refine am_go hF sgX6_rules_0_6b3ba 3 [(0, .ref 465), (1, .int (nI l)), (2, .int y), (3, .int z), (4, .int (if b = true then 1 else 0))] [.int (nI l), .ref 465, .ref 465] sgX6_rules_0_6b3bad rfl ?_
  refine am_dV hF hO [.int (nI l)] [.ref 465] (c_isList_t (S := S) hn hn10 (show l < n by omega) rfl) myX6_isList vyX6_isList lm_RX6_122 (hp_m _ _ _) rfl rfl 0 0 ⟨Nat.le_of_ble_eq_true rfl, Nat.le_of_ble_eq_true rfl⟩ ⟨Nat.le_of_ble_eq_true rfl, Nat.le_of_ble_eq_true rfl, Nat.le_of_ble_eq_true rfl, Nat.le_of_ble_eq_true rfl⟩ rfl (am_lv_ref (hp_m _ _ _) (am_lv_int (am_lv_int (am_lv_int (am_lv_int (am_lv_ref (hp_m _ _ _) am_lv_nil)))))) (Nat.le_of_ble_eq_true rfl) dX6_rules_3 [.int 1, .ref 465] rfl ?_
  refine am_ifne hF 13 dX6_rules_6 (by decide) (fun _ => ?_) (fun h9 => False.elim ((by revert h9; decide)))
  refine am_go hF sgX6_rules_13_bd672 18 [(0, .ref 465), (1, .int (nI l)), (2, .int y), (3, .int z), (4, .int (if b = true then 1 else 0))] [.int 200, .int 1, .int y, .ref 465] sgX6_rules_13_bd672d rfl ?_
  refine am_dS hF hO [.int y, .int 1, .int 200] [.ref 465] (c_isIn_t hy1 hy2) myX6_isIn syX6_isIn lm_RX6_108 rfl 0 0 ⟨Nat.le_of_ble_eq_true rfl, Nat.le_of_ble_eq_true rfl⟩ ⟨Nat.le_of_ble_eq_true rfl, Nat.le_of_ble_eq_true rfl, Nat.le_of_ble_eq_true rfl, Nat.le_of_ble_eq_true rfl⟩ rfl (am_lv_ref (hp_m _ _ _) (am_lv_int (am_lv_int (am_lv_int (am_lv_int (am_lv_ref (hp_m _ _ _) am_lv_nil)))))) (Nat.le_of_ble_eq_true rfl) dX6_rules_18 [.int 1, .ref 465] rfl ?_
  refine am_ifeq hF 38 dX6_rules_21 (by decide) (fun h9 => False.elim ((by revert h9; decide))) (fun _ => ?_)
  refine am_go hF sgX6_rules_24_13ba5 28 [(0, .ref 465), (1, .int (nI l)), (2, .int y), (3, .int z), (4, .int (if b = true then 1 else 0))] [.int 30, .int 1, .int z, .ref 465] sgX6_rules_24_13ba5d rfl ?_
  refine am_dS hF hO [.int z, .int 1, .int 30] [.ref 465] (c_isIn_f hz) myX6_isIn syX6_isIn lm_RX6_108 rfl 0 0 ⟨Nat.le_of_ble_eq_true rfl, Nat.le_of_ble_eq_true rfl⟩ ⟨Nat.le_of_ble_eq_true rfl, Nat.le_of_ble_eq_true rfl, Nat.le_of_ble_eq_true rfl, Nat.le_of_ble_eq_true rfl⟩ rfl (am_lv_ref (hp_m _ _ _) (am_lv_int (am_lv_int (am_lv_int (am_lv_int (am_lv_ref (hp_m _ _ _) am_lv_nil)))))) (Nat.le_of_ble_eq_true rfl) dX6_rules_28 [.int 0, .ref 465] rfl ?_
  refine am_ifeq hF 38 dX6_rules_31 (by decide) (fun _ => ?_) (fun h9 => False.elim ((by revert h9; decide)))
  refine am_go hF sgX6_rules_38_d5620 39 [(0, .ref 465), (1, .int (nI l)), (2, .int y), (3, .int z), (4, .int (if b = true then 1 else 0))] [.int 2, .ref 465] sgX6_rules_38_d5620d rfl ?_
  refine sv_put hF 0 (by decide) rfl rfl rfl lf_RX6_104 dX6_rules_39 ?_
  refine am_go hF sgX6_rules_42_34db8 43 [(0, .ref 465), (1, .int (nI l)), (2, .int y), (3, .int z), (4, .int (if b = true then 1 else 0))] [.ref 465] sgX6_rules_42_34db8d rfl ?_
  refine sv_get hF 0 (by decide) rfl lf_RX6_104 (.int 2) rfl dX6_rules_43 ?_
  refine am_ifle hF 51 dX6_rules_46 (by decide) (fun h9 => False.elim ((by revert h9; decide))) (fun _ => ?_)
  refine am_go hF sgX6_rules_49_56c54 50 [(0, .ref 465), (1, .int (nI l)), (2, .int y), (3, .int z), (4, .int (if b = true then 1 else 0))] [.int 0] sgX6_rules_49_56c54d rfl ?_
  exact am_iret hF hO hret rfl dX6_rules_50 ⟨rfl, rfl⟩
set_option maxRecDepth 100000 in
set_option maxHeartbeats 4000000 in
theorem c_r_rules_4 {G : am_S} {T S : am_T} {o : Nat → Int64} {n : Nat} (hn : S 9 0 = nI n) (hn10 : n ≤ 10) {l : Nat} (hl : l < n) {y z : Int32} {b : Bool} (hy1 : ¬ y < 1) (hy2 : ¬ 200 < y) (hz1 : ¬ z < 1) (hz2 : ¬ 30 < z) : am_D G yX6_rules (.code yX6_rules cX6_rules 6 (some .int) :: am_G) { frames := 2, cells := 0, slots := 0, locals := 43 } (hp T S o) [.ref 465, .int (nI l), .int y, .int z, .int (if b = true then 1 else 0)] (hp T (st1 (st1 (st1 (st1 S 0 0 0) 11 l y) 12 l z) 13 l (if b = true then 1 else 0)) o) (some (.int (S 11 l))) := by
  refine am_of (by decide +kernel) (Nat.le_of_ble_eq_true rfl) ?_
  intro C hse hret hname hF hO
  subst hse
  refine am_go hF sgX6_rules_0_6b3ba 3 [(0, .ref 465), (1, .int (nI l)), (2, .int y), (3, .int z), (4, .int (if b = true then 1 else 0))] [.int (nI l), .ref 465, .ref 465] sgX6_rules_0_6b3bad rfl ?_
  refine am_dV hF hO [.int (nI l)] [.ref 465] (c_isList_t (S := S) hn hn10 (show l < n by omega) rfl) myX6_isList vyX6_isList lm_RX6_122 (hp_m _ _ _) rfl rfl 0 0 ⟨Nat.le_of_ble_eq_true rfl, Nat.le_of_ble_eq_true rfl⟩ ⟨Nat.le_of_ble_eq_true rfl, Nat.le_of_ble_eq_true rfl, Nat.le_of_ble_eq_true rfl, Nat.le_of_ble_eq_true rfl⟩ rfl (am_lv_ref (hp_m _ _ _) (am_lv_int (am_lv_int (am_lv_int (am_lv_int (am_lv_ref (hp_m _ _ _) am_lv_nil)))))) (Nat.le_of_ble_eq_true rfl) dX6_rules_3 [.int 1, .ref 465] rfl ?_
  refine am_ifne hF 13 dX6_rules_6 (by decide) (fun _ => ?_) (fun h9 => False.elim ((by revert h9; decide)))
  refine am_go hF sgX6_rules_13_bd672 18 [(0, .ref 465), (1, .int (nI l)), (2, .int y), (3, .int z), (4, .int (if b = true then 1 else 0))] [.int 200, .int 1, .int y, .ref 465] sgX6_rules_13_bd672d rfl ?_
  refine am_dS hF hO [.int y, .int 1, .int 200] [.ref 465] (c_isIn_t hy1 hy2) myX6_isIn syX6_isIn lm_RX6_108 rfl 0 0 ⟨Nat.le_of_ble_eq_true rfl, Nat.le_of_ble_eq_true rfl⟩ ⟨Nat.le_of_ble_eq_true rfl, Nat.le_of_ble_eq_true rfl, Nat.le_of_ble_eq_true rfl, Nat.le_of_ble_eq_true rfl⟩ rfl (am_lv_ref (hp_m _ _ _) (am_lv_int (am_lv_int (am_lv_int (am_lv_int (am_lv_ref (hp_m _ _ _) am_lv_nil)))))) (Nat.le_of_ble_eq_true rfl) dX6_rules_18 [.int 1, .ref 465] rfl ?_
  refine am_ifeq hF 38 dX6_rules_21 (by decide) (fun h9 => False.elim ((by revert h9; decide))) (fun _ => ?_)
  refine am_go hF sgX6_rules_24_13ba5 28 [(0, .ref 465), (1, .int (nI l)), (2, .int y), (3, .int z), (4, .int (if b = true then 1 else 0))] [.int 30, .int 1, .int z, .ref 465] sgX6_rules_24_13ba5d rfl ?_
  refine am_dS hF hO [.int z, .int 1, .int 30] [.ref 465] (c_isIn_t hz1 hz2) myX6_isIn syX6_isIn lm_RX6_108 rfl 0 0 ⟨Nat.le_of_ble_eq_true rfl, Nat.le_of_ble_eq_true rfl⟩ ⟨Nat.le_of_ble_eq_true rfl, Nat.le_of_ble_eq_true rfl, Nat.le_of_ble_eq_true rfl, Nat.le_of_ble_eq_true rfl⟩ rfl (am_lv_ref (hp_m _ _ _) (am_lv_int (am_lv_int (am_lv_int (am_lv_int (am_lv_ref (hp_m _ _ _) am_lv_nil)))))) (Nat.le_of_ble_eq_true rfl) dX6_rules_28 [.int 1, .ref 465] rfl ?_
  refine am_ifeq hF 38 dX6_rules_31 (by decide) (fun h9 => False.elim ((by revert h9; decide))) (fun _ => ?_)
  refine am_go hF sgX6_rules_34_1cbe9 39 [(0, .ref 465), (1, .int (nI l)), (2, .int y), (3, .int z), (4, .int (if b = true then 1 else 0))] [.int 0, .ref 465] sgX6_rules_34_1cbe9d rfl ?_
  refine sv_put hF 0 (by decide) rfl rfl rfl lf_RX6_104 dX6_rules_39 ?_
  refine am_go hF sgX6_rules_42_34db8 43 [(0, .ref 465), (1, .int (nI l)), (2, .int y), (3, .int z), (4, .int (if b = true then 1 else 0))] [.ref 465] sgX6_rules_42_34db8d rfl ?_
  refine sv_get hF 0 (by decide) rfl lf_RX6_104 (.int 0) rfl dX6_rules_43 ?_
  refine am_ifle hF 51 dX6_rules_46 (by decide) (fun _ => ?_) (fun h9 => False.elim ((by revert h9; decide)))
  refine am_go hF sgX6_rules_51_34db8 52 [(0, .ref 465), (1, .int (nI l)), (2, .int y), (3, .int z), (4, .int (if b = true then 1 else 0))] [.ref 465] sgX6_rules_51_34db8d rfl ?_
  refine sv_get hF 11 (by decide) rfl lf_RX6_31 (.ref 511) rfl dX6_rules_52 ?_
  refine am_go hF sgX6_rules_55_840bf 56 [(0, .ref 465), (1, .int (nI l)), (2, .int y), (3, .int z), (4, .int (if b = true then 1 else 0))] [.int (nI l), .ref 511] sgX6_rules_55_840bfd rfl ?_
  refine sv_iald hF 11 (by decide) ⟨rfl, rfl, by decide⟩ l rfl (show l < 10 by omega) dX6_rules_56 ?_
  refine am_top (S 11 l) rfl ?_
  refine am_go hF sgX6_rules_57_edbce 60 [(5, .int (S 11 l)), (0, .ref 465), (1, .int (nI l)), (2, .int y), (3, .int z), (4, .int (if b = true then 1 else 0))] [.ref 465] sgX6_rules_57_edbced rfl ?_
  refine sv_get hF 11 (by decide) rfl lf_RX6_31 (.ref 511) rfl dX6_rules_60 ?_
  refine am_go hF sgX6_rules_63_5601b 65 [(5, .int (S 11 l)), (0, .ref 465), (1, .int (nI l)), (2, .int y), (3, .int z), (4, .int (if b = true then 1 else 0))] [.int y, .int (nI l), .ref 511] sgX6_rules_63_5601bd rfl ?_
  refine sv_iast hF 11 (by decide) ⟨rfl, rfl, by decide⟩ l rfl (show l < 10 by omega) dX6_rules_65 ?_
  refine am_go hF sgX6_rules_66_34db8 67 [(5, .int (S 11 l)), (0, .ref 465), (1, .int (nI l)), (2, .int y), (3, .int z), (4, .int (if b = true then 1 else 0))] [.ref 465] sgX6_rules_66_34db8d rfl ?_
  refine sv_get hF 12 (by decide) rfl lf_RX6_34 (.ref 512) rfl dX6_rules_67 ?_
  refine am_go hF sgX6_rules_70_20da6 72 [(5, .int (S 11 l)), (0, .ref 465), (1, .int (nI l)), (2, .int y), (3, .int z), (4, .int (if b = true then 1 else 0))] [.int z, .int (nI l), .ref 512] sgX6_rules_70_20da6d rfl ?_
  refine sv_iast hF 12 (by decide) ⟨rfl, rfl, by decide⟩ l rfl (show l < 10 by omega) dX6_rules_72 ?_
  refine am_go hF sgX6_rules_73_34db8 74 [(5, .int (S 11 l)), (0, .ref 465), (1, .int (nI l)), (2, .int y), (3, .int z), (4, .int (if b = true then 1 else 0))] [.ref 465] sgX6_rules_73_34db8d rfl ?_
  refine sv_get hF 13 (by decide) rfl lf_RX6_37 (.ref 513) rfl dX6_rules_74 ?_
  refine am_go hF sgX6_rules_77_f40ee 80 [(5, .int (S 11 l)), (0, .ref 465), (1, .int (nI l)), (2, .int y), (3, .int z), (4, .int (if b = true then 1 else 0))] [.int (if b = true then 1 else 0), .int (nI l), .ref 513] sgX6_rules_77_f40eed rfl ?_
  refine sv_zast hF 13 (by decide) ⟨rfl, rfl, by decide⟩ l rfl (show l < 10 by omega) (b1_nar b) dX6_rules_80 ?_
  refine am_go hF sgX6_rules_81_9df92 83 [(5, .int (S 11 l)), (0, .ref 465), (1, .int (nI l)), (2, .int y), (3, .int z), (4, .int (if b = true then 1 else 0))] [.int (S 11 l)] sgX6_rules_81_9df92d rfl ?_
  exact am_iret hF hO hret rfl dX6_rules_83 ⟨rfl, rfl⟩
set_option maxRecDepth 100000 in
set_option maxHeartbeats 4000000 in
theorem c_r_bar_1 {G : am_S} {T S : am_T} {o : Nat → Int64} {n : Nat} (hn : S 9 0 = nI n) (hn10 : n ≤ 10) {x : Int32} (hx : x < 0 ∨ nI n ≤ x) {y : Int32} : am_D G yX6_bar (.code yX6_bar cX6_bar 3 (some .boolean) :: am_G) { frames := 2, cells := 0, slots := 0, locals := 43 } (hp T S o) [.ref 465, .int x, .int y] (hp T (st1 S 0 0 1) o) (some (.int 0)) := by
  refine am_of (by decide +kernel) (Nat.le_of_ble_eq_true rfl) ?_
  intro C hse hret hname hF hO
  subst hse
  refine am_go hF sgX6_bar_0_6b3ba 3 [(0, .ref 465), (1, .int x), (2, .int y)] [.int x, .ref 465, .ref 465] sgX6_bar_0_6b3bad rfl ?_
  refine am_dV hF hO [.int x] [.ref 465] (c_isList_f (S := S) hn hn10 hx) myX6_isList vyX6_isList lm_RX6_122 (hp_m _ _ _) rfl rfl 0 0 ⟨Nat.le_of_ble_eq_true rfl, Nat.le_of_ble_eq_true rfl⟩ ⟨Nat.le_of_ble_eq_true rfl, Nat.le_of_ble_eq_true rfl, Nat.le_of_ble_eq_true rfl, Nat.le_of_ble_eq_true rfl⟩ rfl (am_lv_ref (hp_m _ _ _) (am_lv_int (am_lv_int (am_lv_ref (hp_m _ _ _) am_lv_nil)))) (Nat.le_of_ble_eq_true rfl) dX6_bar_3 [.int 0, .ref 465] rfl ?_
  refine am_ifeq hF 20 dX6_bar_6 (by decide) (fun _ => ?_) (fun h9 => False.elim ((by revert h9; decide)))
  refine am_go hF sgX6_bar_20_4de0a 21 [(0, .ref 465), (1, .int x), (2, .int y)] [.int 1, .ref 465] sgX6_bar_20_4de0ad rfl ?_
  refine sv_put hF 0 (by decide) rfl rfl rfl lf_RX6_104 dX6_bar_21 ?_
  refine am_go hF sgX6_bar_24_34db8 25 [(0, .ref 465), (1, .int x), (2, .int y)] [.ref 465] sgX6_bar_24_34db8d rfl ?_
  refine sv_get hF 0 (by decide) rfl lf_RX6_104 (.int 1) rfl dX6_bar_25 ?_
  refine am_ifle hF 33 dX6_bar_28 (by decide) (fun h9 => False.elim ((by revert h9; decide))) (fun _ => ?_)
  refine am_go hF sgX6_bar_31_56c54 32 [(0, .ref 465), (1, .int x), (2, .int y)] [.int 0] sgX6_bar_31_56c54d rfl ?_
  exact am_iret hF hO hret rfl dX6_bar_32 ⟨rfl, rfl⟩
set_option maxRecDepth 100000 in
set_option maxHeartbeats 4000000 in
theorem c_r_bar_2 {G : am_S} {T S : am_T} {o : Nat → Int64} {n : Nat} (hn : S 9 0 = nI n) (hn10 : n ≤ 10) {l : Nat} (hl : l < n) {y : Int32} (hy : y < 0 ∨ nI 16 ≤ y) : am_D G yX6_bar (.code yX6_bar cX6_bar 3 (some .boolean) :: am_G) { frames := 2, cells := 0, slots := 0, locals := 43 } (hp T S o) [.ref 465, .int (nI l), .int y] (hp T (st1 S 0 0 1) o) (some (.int 0)) := by
  refine am_of (by decide +kernel) (Nat.le_of_ble_eq_true rfl) ?_
  intro C hse hret hname hF hO
  subst hse
  refine am_go hF sgX6_bar_0_6b3ba 3 [(0, .ref 465), (1, .int (nI l)), (2, .int y)] [.int (nI l), .ref 465, .ref 465] sgX6_bar_0_6b3bad rfl ?_
  refine am_dV hF hO [.int (nI l)] [.ref 465] (c_isList_t (S := S) hn hn10 (show l < n by omega) rfl) myX6_isList vyX6_isList lm_RX6_122 (hp_m _ _ _) rfl rfl 0 0 ⟨Nat.le_of_ble_eq_true rfl, Nat.le_of_ble_eq_true rfl⟩ ⟨Nat.le_of_ble_eq_true rfl, Nat.le_of_ble_eq_true rfl, Nat.le_of_ble_eq_true rfl, Nat.le_of_ble_eq_true rfl⟩ rfl (am_lv_ref (hp_m _ _ _) (am_lv_int (am_lv_int (am_lv_ref (hp_m _ _ _) am_lv_nil)))) (Nat.le_of_ble_eq_true rfl) dX6_bar_3 [.int 1, .ref 465] rfl ?_
  refine am_ifeq hF 20 dX6_bar_6 (by decide) (fun h9 => False.elim ((by revert h9; decide))) (fun _ => ?_)
  refine am_go hF sgX6_bar_9_f8a59 10 [(0, .ref 465), (1, .int (nI l)), (2, .int y)] [.int y, .ref 465] sgX6_bar_9_f8a59d rfl ?_
  refine am_dS hF hO [.int y] [.ref 465] (c_isPerson_f hy) myX6_isPerson syX6_isPerson lm_RX6_118 rfl 0 0 ⟨Nat.le_of_ble_eq_true rfl, Nat.le_of_ble_eq_true rfl⟩ ⟨Nat.le_of_ble_eq_true rfl, Nat.le_of_ble_eq_true rfl, Nat.le_of_ble_eq_true rfl, Nat.le_of_ble_eq_true rfl⟩ rfl (am_lv_ref (hp_m _ _ _) (am_lv_int (am_lv_int (am_lv_ref (hp_m _ _ _) am_lv_nil)))) (Nat.le_of_ble_eq_true rfl) dX6_bar_10 [.int 0, .ref 465] rfl ?_
  refine am_ifeq hF 20 dX6_bar_13 (by decide) (fun _ => ?_) (fun h9 => False.elim ((by revert h9; decide)))
  refine am_go hF sgX6_bar_20_4de0a 21 [(0, .ref 465), (1, .int (nI l)), (2, .int y)] [.int 1, .ref 465] sgX6_bar_20_4de0ad rfl ?_
  refine sv_put hF 0 (by decide) rfl rfl rfl lf_RX6_104 dX6_bar_21 ?_
  refine am_go hF sgX6_bar_24_34db8 25 [(0, .ref 465), (1, .int (nI l)), (2, .int y)] [.ref 465] sgX6_bar_24_34db8d rfl ?_
  refine sv_get hF 0 (by decide) rfl lf_RX6_104 (.int 1) rfl dX6_bar_25 ?_
  refine am_ifle hF 33 dX6_bar_28 (by decide) (fun h9 => False.elim ((by revert h9; decide))) (fun _ => ?_)
  refine am_go hF sgX6_bar_31_56c54 32 [(0, .ref 465), (1, .int (nI l)), (2, .int y)] [.int 0] sgX6_bar_31_56c54d rfl ?_
  exact am_iret hF hO hret rfl dX6_bar_32 ⟨rfl, rfl⟩
set_option maxRecDepth 100000 in
set_option maxHeartbeats 4000000 in
theorem c_r_bar_3 {G : am_S} {T S : am_T} {o : Nat → Int64} {n : Nat} (hn : S 9 0 = nI n) (hn10 : n ≤ 10) {l : Nat} (hl : l < n) {p : Nat} (hp9 : p < 16) (hb : (S 14 l ^^^ (1 : Int32) <<< (nI p &&& 31)) >>> (nI p &&& 31) &&& 1 = 1) : am_D G yX6_bar (.code yX6_bar cX6_bar 3 (some .boolean) :: am_G) { frames := 2, cells := 0, slots := 0, locals := 43 } (hp T S o) [.ref 465, .int (nI l), .int (nI p)] (hp T (st1 (st1 S 0 0 0) 14 l ((S 14 l) ^^^ (1 <<< ((nI p) &&& 31)))) o) (some (.int 1)) := by
  refine am_of (by decide +kernel) (Nat.le_of_ble_eq_true rfl) ?_
  intro C hse hret hname hF hO
  subst hse
  refine am_go hF sgX6_bar_0_6b3ba 3 [(0, .ref 465), (1, .int (nI l)), (2, .int (nI p))] [.int (nI l), .ref 465, .ref 465] sgX6_bar_0_6b3bad rfl ?_
  refine am_dV hF hO [.int (nI l)] [.ref 465] (c_isList_t (S := S) hn hn10 (show l < n by omega) rfl) myX6_isList vyX6_isList lm_RX6_122 (hp_m _ _ _) rfl rfl 0 0 ⟨Nat.le_of_ble_eq_true rfl, Nat.le_of_ble_eq_true rfl⟩ ⟨Nat.le_of_ble_eq_true rfl, Nat.le_of_ble_eq_true rfl, Nat.le_of_ble_eq_true rfl, Nat.le_of_ble_eq_true rfl⟩ rfl (am_lv_ref (hp_m _ _ _) (am_lv_int (am_lv_int (am_lv_ref (hp_m _ _ _) am_lv_nil)))) (Nat.le_of_ble_eq_true rfl) dX6_bar_3 [.int 1, .ref 465] rfl ?_
  refine am_ifeq hF 20 dX6_bar_6 (by decide) (fun h9 => False.elim ((by revert h9; decide))) (fun _ => ?_)
  refine am_go hF sgX6_bar_9_f8a59 10 [(0, .ref 465), (1, .int (nI l)), (2, .int (nI p))] [.int (nI p), .ref 465] sgX6_bar_9_f8a59d rfl ?_
  refine am_dS hF hO [.int (nI p)] [.ref 465] (c_isPerson_t (show p < 16 by omega) rfl) myX6_isPerson syX6_isPerson lm_RX6_118 rfl 0 0 ⟨Nat.le_of_ble_eq_true rfl, Nat.le_of_ble_eq_true rfl⟩ ⟨Nat.le_of_ble_eq_true rfl, Nat.le_of_ble_eq_true rfl, Nat.le_of_ble_eq_true rfl, Nat.le_of_ble_eq_true rfl⟩ rfl (am_lv_ref (hp_m _ _ _) (am_lv_int (am_lv_int (am_lv_ref (hp_m _ _ _) am_lv_nil)))) (Nat.le_of_ble_eq_true rfl) dX6_bar_10 [.int 1, .ref 465] rfl ?_
  refine am_ifeq hF 20 dX6_bar_13 (by decide) (fun h9 => False.elim ((by revert h9; decide))) (fun _ => ?_)
  refine am_go hF sgX6_bar_16_1cbe9 21 [(0, .ref 465), (1, .int (nI l)), (2, .int (nI p))] [.int 0, .ref 465] sgX6_bar_16_1cbe9d rfl ?_
  refine sv_put hF 0 (by decide) rfl rfl rfl lf_RX6_104 dX6_bar_21 ?_
  refine am_go hF sgX6_bar_24_34db8 25 [(0, .ref 465), (1, .int (nI l)), (2, .int (nI p))] [.ref 465] sgX6_bar_24_34db8d rfl ?_
  refine sv_get hF 0 (by decide) rfl lf_RX6_104 (.int 0) rfl dX6_bar_25 ?_
  refine am_ifle hF 33 dX6_bar_28 (by decide) (fun _ => ?_) (fun h9 => False.elim ((by revert h9; decide)))
  refine am_go hF sgX6_bar_33_34db8 34 [(0, .ref 465), (1, .int (nI l)), (2, .int (nI p))] [.ref 465] sgX6_bar_33_34db8d rfl ?_
  refine sv_get hF 14 (by decide) rfl lf_RX6_41 (.ref 514) rfl dX6_bar_34 ?_
  refine am_go hF sgX6_bar_37_563cd 39 [(0, .ref 465), (1, .int (nI l)), (2, .int (nI p))] [.int (nI l), .ref 514, .int (nI l), .ref 514] sgX6_bar_37_563cdd rfl ?_
  refine sv_iald hF 14 (by decide) ⟨rfl, rfl, by decide⟩ l rfl (show l < 10 by omega) dX6_bar_39 ?_
  refine am_top (S 14 l) rfl ?_
  refine am_go hF sgX6_bar_40_0d86e 44 [(0, .ref 465), (1, .int (nI l)), (2, .int (nI p))] [.int ((S 14 l) ^^^ (1 <<< ((nI p) &&& 31))), .int (nI l), .ref 514] sgX6_bar_40_0d86ed rfl ?_
  refine sv_iast hF 14 (by decide) ⟨rfl, rfl, by decide⟩ l rfl (show l < 10 by omega) dX6_bar_44 ?_
  refine am_go hF sgX6_bar_45_34db8 46 [(0, .ref 465), (1, .int (nI l)), (2, .int (nI p))] [.ref 465] sgX6_bar_45_34db8d rfl ?_
  refine sv_get hF 14 (by decide) rfl lf_RX6_41 (.ref 514) rfl dX6_bar_46 ?_
  refine am_go hF sgX6_bar_49_840bf 50 [(0, .ref 465), (1, .int (nI l)), (2, .int (nI p))] [.int (nI l), .ref 514] sgX6_bar_49_840bfd rfl ?_
  refine sv_iald hF 14 (by decide) ⟨rfl, rfl, by decide⟩ l rfl (show l < 10 by omega) dX6_bar_50 ?_
  refine am_top ((S 14 l) ^^^ (1 <<< ((nI p) &&& 31))) (st1_same _ _ _ _) ?_
  refine am_go hF sgX6_bar_51_89201 56 [(0, .ref 465), (1, .int (nI l)), (2, .int (nI p))] [.int 1, .int ((((S 14 l) ^^^ (1 <<< ((nI p) &&& 31))) >>> ((nI p) &&& 31)) &&& 1)] sgX6_bar_51_89201d rfl ?_
  refine am_icmpne hF 63 dX6_bar_56 (by decide) (fun h9 => False.elim (absurd hb h9)) (fun _ => ?_)
  refine am_go hF sgX6_bar_59_1c64c 64 [(0, .ref 465), (1, .int (nI l)), (2, .int (nI p))] [.int 1] sgX6_bar_59_1c64cd rfl ?_
  exact am_iret hF hO hret rfl dX6_bar_64 ⟨rfl, rfl⟩
set_option maxRecDepth 100000 in
set_option maxHeartbeats 4000000 in
theorem c_r_bar_4 {G : am_S} {T S : am_T} {o : Nat → Int64} {n : Nat} (hn : S 9 0 = nI n) (hn10 : n ≤ 10) {l : Nat} (hl : l < n) {p : Nat} (hp9 : p < 16) (hb : ¬ (S 14 l ^^^ (1 : Int32) <<< (nI p &&& 31)) >>> (nI p &&& 31) &&& 1 = 1) : am_D G yX6_bar (.code yX6_bar cX6_bar 3 (some .boolean) :: am_G) { frames := 2, cells := 0, slots := 0, locals := 43 } (hp T S o) [.ref 465, .int (nI l), .int (nI p)] (hp T (st1 (st1 S 0 0 0) 14 l ((S 14 l) ^^^ (1 <<< ((nI p) &&& 31)))) o) (some (.int 0)) := by
  refine am_of (by decide +kernel) (Nat.le_of_ble_eq_true rfl) ?_
  intro C hse hret hname hF hO
  subst hse
  refine am_go hF sgX6_bar_0_6b3ba 3 [(0, .ref 465), (1, .int (nI l)), (2, .int (nI p))] [.int (nI l), .ref 465, .ref 465] sgX6_bar_0_6b3bad rfl ?_
  refine am_dV hF hO [.int (nI l)] [.ref 465] (c_isList_t (S := S) hn hn10 (show l < n by omega) rfl) myX6_isList vyX6_isList lm_RX6_122 (hp_m _ _ _) rfl rfl 0 0 ⟨Nat.le_of_ble_eq_true rfl, Nat.le_of_ble_eq_true rfl⟩ ⟨Nat.le_of_ble_eq_true rfl, Nat.le_of_ble_eq_true rfl, Nat.le_of_ble_eq_true rfl, Nat.le_of_ble_eq_true rfl⟩ rfl (am_lv_ref (hp_m _ _ _) (am_lv_int (am_lv_int (am_lv_ref (hp_m _ _ _) am_lv_nil)))) (Nat.le_of_ble_eq_true rfl) dX6_bar_3 [.int 1, .ref 465] rfl ?_
  refine am_ifeq hF 20 dX6_bar_6 (by decide) (fun h9 => False.elim ((by revert h9; decide))) (fun _ => ?_)
  refine am_go hF sgX6_bar_9_f8a59 10 [(0, .ref 465), (1, .int (nI l)), (2, .int (nI p))] [.int (nI p), .ref 465] sgX6_bar_9_f8a59d rfl ?_
  refine am_dS hF hO [.int (nI p)] [.ref 465] (c_isPerson_t (show p < 16 by omega) rfl) myX6_isPerson syX6_isPerson lm_RX6_118 rfl 0 0 ⟨Nat.le_of_ble_eq_true rfl, Nat.le_of_ble_eq_true rfl⟩ ⟨Nat.le_of_ble_eq_true rfl, Nat.le_of_ble_eq_true rfl, Nat.le_of_ble_eq_true rfl, Nat.le_of_ble_eq_true rfl⟩ rfl (am_lv_ref (hp_m _ _ _) (am_lv_int (am_lv_int (am_lv_ref (hp_m _ _ _) am_lv_nil)))) (Nat.le_of_ble_eq_true rfl) dX6_bar_10 [.int 1, .ref 465] rfl ?_
  refine am_ifeq hF 20 dX6_bar_13 (by decide) (fun h9 => False.elim ((by revert h9; decide))) (fun _ => ?_)
  refine am_go hF sgX6_bar_16_1cbe9 21 [(0, .ref 465), (1, .int (nI l)), (2, .int (nI p))] [.int 0, .ref 465] sgX6_bar_16_1cbe9d rfl ?_
  refine sv_put hF 0 (by decide) rfl rfl rfl lf_RX6_104 dX6_bar_21 ?_
  refine am_go hF sgX6_bar_24_34db8 25 [(0, .ref 465), (1, .int (nI l)), (2, .int (nI p))] [.ref 465] sgX6_bar_24_34db8d rfl ?_
  refine sv_get hF 0 (by decide) rfl lf_RX6_104 (.int 0) rfl dX6_bar_25 ?_
  refine am_ifle hF 33 dX6_bar_28 (by decide) (fun _ => ?_) (fun h9 => False.elim ((by revert h9; decide)))
  refine am_go hF sgX6_bar_33_34db8 34 [(0, .ref 465), (1, .int (nI l)), (2, .int (nI p))] [.ref 465] sgX6_bar_33_34db8d rfl ?_
  refine sv_get hF 14 (by decide) rfl lf_RX6_41 (.ref 514) rfl dX6_bar_34 ?_
  refine am_go hF sgX6_bar_37_563cd 39 [(0, .ref 465), (1, .int (nI l)), (2, .int (nI p))] [.int (nI l), .ref 514, .int (nI l), .ref 514] sgX6_bar_37_563cdd rfl ?_
  refine sv_iald hF 14 (by decide) ⟨rfl, rfl, by decide⟩ l rfl (show l < 10 by omega) dX6_bar_39 ?_
  refine am_top (S 14 l) rfl ?_
  refine am_go hF sgX6_bar_40_0d86e 44 [(0, .ref 465), (1, .int (nI l)), (2, .int (nI p))] [.int ((S 14 l) ^^^ (1 <<< ((nI p) &&& 31))), .int (nI l), .ref 514] sgX6_bar_40_0d86ed rfl ?_
  refine sv_iast hF 14 (by decide) ⟨rfl, rfl, by decide⟩ l rfl (show l < 10 by omega) dX6_bar_44 ?_
  refine am_go hF sgX6_bar_45_34db8 46 [(0, .ref 465), (1, .int (nI l)), (2, .int (nI p))] [.ref 465] sgX6_bar_45_34db8d rfl ?_
  refine sv_get hF 14 (by decide) rfl lf_RX6_41 (.ref 514) rfl dX6_bar_46 ?_
  refine am_go hF sgX6_bar_49_840bf 50 [(0, .ref 465), (1, .int (nI l)), (2, .int (nI p))] [.int (nI l), .ref 514] sgX6_bar_49_840bfd rfl ?_
  refine sv_iald hF 14 (by decide) ⟨rfl, rfl, by decide⟩ l rfl (show l < 10 by omega) dX6_bar_50 ?_
  refine am_top ((S 14 l) ^^^ (1 <<< ((nI p) &&& 31))) (st1_same _ _ _ _) ?_
  refine am_go hF sgX6_bar_51_89201 56 [(0, .ref 465), (1, .int (nI l)), (2, .int (nI p))] [.int 1, .int ((((S 14 l) ^^^ (1 <<< ((nI p) &&& 31))) >>> ((nI p) &&& 31)) &&& 1)] sgX6_bar_51_89201d rfl ?_
  refine am_icmpne hF 63 dX6_bar_56 (by decide) (fun _ => ?_) (fun h9 => False.elim (absurd h9 hb))
  refine am_go hF sgX6_bar_63_56c54 64 [(0, .ref 465), (1, .int (nI l)), (2, .int (nI p))] [.int 0] sgX6_bar_63_56c54d rfl ?_
  exact am_iret hF hO hret rfl dX6_bar_64 ⟨rfl, rfl⟩
set_option maxRecDepth 100000 in
set_option maxHeartbeats 4000000 in
theorem c_r_word_1 {G : am_S} {T S : am_T} {o : Nat → Int64} {x y : Int32} (hx : x < 0 ∨ nI 20 ≤ x) : am_D G yX6_word (.code yX6_word cX6_word 4 (some .int) :: am_G) { frames := 1, cells := 0, slots := 0, locals := 22 } (hp T S o) [.ref 465, .int x, .int y] (hp T (st1 S 0 0 1) o) (some (.int 0)) := by
  refine am_of (by decide +kernel) (Nat.le_of_ble_eq_true rfl) ?_
  intro C hse hret hname hF hO
  subst hse
  refine am_go hF sgX6_word_0_6e259 5 [(0, .ref 465), (1, .int x), (2, .int y)] [.int 19, .int 0, .int x, .ref 465] sgX6_word_0_6e259d rfl ?_
  refine am_dS hF hO [.int x, .int 0, .int 19] [.ref 465] (c_isIn_f (ii_f (m := 19) hx (by decide) rfl)) myX6_isIn syX6_isIn lm_RX6_108 rfl 0 0 ⟨Nat.le_of_ble_eq_true rfl, Nat.le_of_ble_eq_true rfl⟩ ⟨Nat.le_of_ble_eq_true rfl, Nat.le_of_ble_eq_true rfl, Nat.le_of_ble_eq_true rfl, Nat.le_of_ble_eq_true rfl⟩ rfl (am_lv_ref (hp_m _ _ _) (am_lv_int (am_lv_int (am_lv_ref (hp_m _ _ _) am_lv_nil)))) (Nat.le_of_ble_eq_true rfl) dX6_word_5 [.int 0, .ref 465] rfl ?_
  refine am_ifne hF 15 dX6_word_8 (by decide) (fun h9 => False.elim ((by revert h9; decide))) (fun _ => ?_)
  refine am_go hF sgX6_word_11_0ea85 31 [(0, .ref 465), (1, .int x), (2, .int y)] [.int 1, .ref 465] sgX6_word_11_0ea85d rfl ?_
  refine sv_put hF 0 (by decide) rfl rfl rfl lf_RX6_104 dX6_word_31 ?_
  refine am_go hF sgX6_word_34_34db8 35 [(0, .ref 465), (1, .int x), (2, .int y)] [.ref 465] sgX6_word_34_34db8d rfl ?_
  refine sv_get hF 0 (by decide) rfl lf_RX6_104 (.int 1) rfl dX6_word_35 ?_
  refine am_ifle hF 43 dX6_word_38 (by decide) (fun h9 => False.elim ((by revert h9; decide))) (fun _ => ?_)
  refine am_go hF sgX6_word_41_56c54 42 [(0, .ref 465), (1, .int x), (2, .int y)] [.int 0] sgX6_word_41_56c54d rfl ?_
  exact am_iret hF hO hret rfl dX6_word_42 ⟨rfl, rfl⟩
set_option maxRecDepth 100000 in
set_option maxHeartbeats 4000000 in
theorem c_r_word_2 {G : am_S} {T S : am_T} {o : Nat → Int64} {k : Nat} (hk : k < 20) {y : Int32} (hy : y < -20 ∨ 50 < y) : am_D G yX6_word (.code yX6_word cX6_word 4 (some .int) :: am_G) { frames := 1, cells := 0, slots := 0, locals := 22 } (hp T S o) [.ref 465, .int (nI k), .int y] (hp T (st1 S 0 0 2) o) (some (.int 0)) := by
  refine am_of (by decide +kernel) (Nat.le_of_ble_eq_true rfl) ?_
  intro C hse hret hname hF hO
  subst hse
  refine am_go hF sgX6_word_0_6e259 5 [(0, .ref 465), (1, .int (nI k)), (2, .int y)] [.int 19, .int 0, .int (nI k), .ref 465] sgX6_word_0_6e259d rfl ?_
  refine am_dS hF hO [.int (nI k), .int 0, .int 19] [.ref 465] (c_isIn_t (ii_0 rfl (by omega) rfl) (ii_1 (m := 19) rfl (by omega) (by decide) rfl)) myX6_isIn syX6_isIn lm_RX6_108 rfl 0 0 ⟨Nat.le_of_ble_eq_true rfl, Nat.le_of_ble_eq_true rfl⟩ ⟨Nat.le_of_ble_eq_true rfl, Nat.le_of_ble_eq_true rfl, Nat.le_of_ble_eq_true rfl, Nat.le_of_ble_eq_true rfl⟩ rfl (am_lv_ref (hp_m _ _ _) (am_lv_int (am_lv_int (am_lv_ref (hp_m _ _ _) am_lv_nil)))) (Nat.le_of_ble_eq_true rfl) dX6_word_5 [.int 1, .ref 465] rfl ?_
  refine am_ifne hF 15 dX6_word_8 (by decide) (fun _ => ?_) (fun h9 => False.elim ((by revert h9; decide)))
  refine am_go hF sgX6_word_15_f8e78 20 [(0, .ref 465), (1, .int (nI k)), (2, .int y)] [.int 50, .int (-20), .int y, .ref 465] sgX6_word_15_f8e78d rfl ?_
  refine am_dS hF hO [.int y, .int (-20), .int 50] [.ref 465] (c_isIn_f hy) myX6_isIn syX6_isIn lm_RX6_108 rfl 0 0 ⟨Nat.le_of_ble_eq_true rfl, Nat.le_of_ble_eq_true rfl⟩ ⟨Nat.le_of_ble_eq_true rfl, Nat.le_of_ble_eq_true rfl, Nat.le_of_ble_eq_true rfl, Nat.le_of_ble_eq_true rfl⟩ rfl (am_lv_ref (hp_m _ _ _) (am_lv_int (am_lv_int (am_lv_ref (hp_m _ _ _) am_lv_nil)))) (Nat.le_of_ble_eq_true rfl) dX6_word_20 [.int 0, .ref 465] rfl ?_
  refine am_ifeq hF 30 dX6_word_23 (by decide) (fun _ => ?_) (fun h9 => False.elim ((by revert h9; decide)))
  refine am_go hF sgX6_word_30_d5620 31 [(0, .ref 465), (1, .int (nI k)), (2, .int y)] [.int 2, .ref 465] sgX6_word_30_d5620d rfl ?_
  refine sv_put hF 0 (by decide) rfl rfl rfl lf_RX6_104 dX6_word_31 ?_
  refine am_go hF sgX6_word_34_34db8 35 [(0, .ref 465), (1, .int (nI k)), (2, .int y)] [.ref 465] sgX6_word_34_34db8d rfl ?_
  refine sv_get hF 0 (by decide) rfl lf_RX6_104 (.int 2) rfl dX6_word_35 ?_
  refine am_ifle hF 43 dX6_word_38 (by decide) (fun h9 => False.elim ((by revert h9; decide))) (fun _ => ?_)
  refine am_go hF sgX6_word_41_56c54 42 [(0, .ref 465), (1, .int (nI k)), (2, .int y)] [.int 0] sgX6_word_41_56c54d rfl ?_
  exact am_iret hF hO hret rfl dX6_word_42 ⟨rfl, rfl⟩
set_option maxRecDepth 100000 in
set_option maxHeartbeats 4000000 in
theorem c_r_word_3 {G : am_S} {T S : am_T} {o : Nat → Int64} {k : Nat} (hk : k < 20) {y : Int32} (hy1 : ¬ y < -20) (hy2 : ¬ 50 < y) : am_D G yX6_word (.code yX6_word cX6_word 4 (some .int) :: am_G) { frames := 1, cells := 0, slots := 0, locals := 22 } (hp T S o) [.ref 465, .int (nI k), .int y] (hp T (st1 (st1 S 0 0 0) 3 k y) o) (some (.int (S 3 k))) := by
  refine am_of (by decide +kernel) (Nat.le_of_ble_eq_true rfl) ?_
  intro C hse hret hname hF hO
  subst hse
  refine am_go hF sgX6_word_0_6e259 5 [(0, .ref 465), (1, .int (nI k)), (2, .int y)] [.int 19, .int 0, .int (nI k), .ref 465] sgX6_word_0_6e259d rfl ?_
  refine am_dS hF hO [.int (nI k), .int 0, .int 19] [.ref 465] (c_isIn_t (ii_0 rfl (by omega) rfl) (ii_1 (m := 19) rfl (by omega) (by decide) rfl)) myX6_isIn syX6_isIn lm_RX6_108 rfl 0 0 ⟨Nat.le_of_ble_eq_true rfl, Nat.le_of_ble_eq_true rfl⟩ ⟨Nat.le_of_ble_eq_true rfl, Nat.le_of_ble_eq_true rfl, Nat.le_of_ble_eq_true rfl, Nat.le_of_ble_eq_true rfl⟩ rfl (am_lv_ref (hp_m _ _ _) (am_lv_int (am_lv_int (am_lv_ref (hp_m _ _ _) am_lv_nil)))) (Nat.le_of_ble_eq_true rfl) dX6_word_5 [.int 1, .ref 465] rfl ?_
  refine am_ifne hF 15 dX6_word_8 (by decide) (fun _ => ?_) (fun h9 => False.elim ((by revert h9; decide)))
  refine am_go hF sgX6_word_15_f8e78 20 [(0, .ref 465), (1, .int (nI k)), (2, .int y)] [.int 50, .int (-20), .int y, .ref 465] sgX6_word_15_f8e78d rfl ?_
  refine am_dS hF hO [.int y, .int (-20), .int 50] [.ref 465] (c_isIn_t hy1 hy2) myX6_isIn syX6_isIn lm_RX6_108 rfl 0 0 ⟨Nat.le_of_ble_eq_true rfl, Nat.le_of_ble_eq_true rfl⟩ ⟨Nat.le_of_ble_eq_true rfl, Nat.le_of_ble_eq_true rfl, Nat.le_of_ble_eq_true rfl, Nat.le_of_ble_eq_true rfl⟩ rfl (am_lv_ref (hp_m _ _ _) (am_lv_int (am_lv_int (am_lv_ref (hp_m _ _ _) am_lv_nil)))) (Nat.le_of_ble_eq_true rfl) dX6_word_20 [.int 1, .ref 465] rfl ?_
  refine am_ifeq hF 30 dX6_word_23 (by decide) (fun h9 => False.elim ((by revert h9; decide))) (fun _ => ?_)
  refine am_go hF sgX6_word_26_1cbe9 31 [(0, .ref 465), (1, .int (nI k)), (2, .int y)] [.int 0, .ref 465] sgX6_word_26_1cbe9d rfl ?_
  refine sv_put hF 0 (by decide) rfl rfl rfl lf_RX6_104 dX6_word_31 ?_
  refine am_go hF sgX6_word_34_34db8 35 [(0, .ref 465), (1, .int (nI k)), (2, .int y)] [.ref 465] sgX6_word_34_34db8d rfl ?_
  refine sv_get hF 0 (by decide) rfl lf_RX6_104 (.int 0) rfl dX6_word_35 ?_
  refine am_ifle hF 43 dX6_word_38 (by decide) (fun _ => ?_) (fun h9 => False.elim ((by revert h9; decide)))
  refine am_go hF sgX6_word_43_34db8 44 [(0, .ref 465), (1, .int (nI k)), (2, .int y)] [.ref 465] sgX6_word_43_34db8d rfl ?_
  refine sv_get hF 3 (by decide) rfl lf_RX6_7 (.ref 503) rfl dX6_word_44 ?_
  refine am_go hF sgX6_word_47_840bf 48 [(0, .ref 465), (1, .int (nI k)), (2, .int y)] [.int (nI k), .ref 503] sgX6_word_47_840bfd rfl ?_
  refine sv_iald hF 3 (by decide) ⟨rfl, rfl, by decide⟩ k rfl (show k < 20 by omega) dX6_word_48 ?_
  refine am_top (S 3 k) rfl ?_
  refine am_go hF sgX6_word_49_a034f 51 [(3, .int (S 3 k)), (0, .ref 465), (1, .int (nI k)), (2, .int y)] [.ref 465] sgX6_word_49_a034fd rfl ?_
  refine sv_get hF 3 (by decide) rfl lf_RX6_7 (.ref 503) rfl dX6_word_51 ?_
  refine am_go hF sgX6_word_54_5601b 56 [(3, .int (S 3 k)), (0, .ref 465), (1, .int (nI k)), (2, .int y)] [.int y, .int (nI k), .ref 503] sgX6_word_54_5601bd rfl ?_
  refine sv_iast hF 3 (by decide) ⟨rfl, rfl, by decide⟩ k rfl (show k < 20 by omega) dX6_word_56 ?_
  refine am_go hF sgX6_word_57_13b50 58 [(3, .int (S 3 k)), (0, .ref 465), (1, .int (nI k)), (2, .int y)] [.int (S 3 k)] sgX6_word_57_13b50d rfl ?_
  exact am_iret hF hO hret rfl dX6_word_58 ⟨rfl, rfl⟩
set_option maxRecDepth 100000 in
set_option maxHeartbeats 4000000 in
theorem c_r_reaches_1 {G : am_S} {T S : am_T} {o : Nat → Int64} {n : Nat} (hn : S 9 0 = nI n) (hn10 : n ≤ 10) {x : Int32} (hx : x < 0 ∨ nI n ≤ x) : am_D G yX6_reaches (.code yX6_reaches cX6_reaches 2 (some .int) :: am_G) { frames := 3, cells := 0, slots := 0, locals := 75 } (hp T S o) [.ref 465, .int x] (hp T (st1 S 0 0 1) o) (some (.int 0)) := by
  refine am_of (by decide +kernel) (Nat.le_of_ble_eq_true rfl) ?_
  intro C hse hret hname hF hO
  subst hse
  refine am_go hF sgX6_reaches_0_6b3ba 3 [(0, .ref 465), (1, .int x)] [.int x, .ref 465, .ref 465] sgX6_reaches_0_6b3bad rfl ?_
  refine am_dV hF hO [.int x] [.ref 465] (c_isList_f (S := S) hn hn10 hx) myX6_isList vyX6_isList lm_RX6_122 (hp_m _ _ _) rfl rfl 0 0 ⟨Nat.le_of_ble_eq_true rfl, Nat.le_of_ble_eq_true rfl⟩ ⟨Nat.le_of_ble_eq_true rfl, Nat.le_of_ble_eq_true rfl, Nat.le_of_ble_eq_true rfl, Nat.le_of_ble_eq_true rfl⟩ rfl (am_lv_ref (hp_m _ _ _) (am_lv_int (am_lv_ref (hp_m _ _ _) am_lv_nil))) (Nat.le_of_ble_eq_true rfl) dX6_reaches_3 [.int 0, .ref 465] rfl ?_
  refine am_ifeq hF 13 dX6_reaches_6 (by decide) (fun _ => ?_) (fun h9 => False.elim ((by revert h9; decide)))
  refine am_go hF sgX6_reaches_13_4de0a 14 [(0, .ref 465), (1, .int x)] [.int 1, .ref 465] sgX6_reaches_13_4de0ad rfl ?_
  refine sv_put hF 0 (by decide) rfl rfl rfl lf_RX6_104 dX6_reaches_14 ?_
  refine am_go hF sgX6_reaches_17_34db8 18 [(0, .ref 465), (1, .int x)] [.ref 465] sgX6_reaches_17_34db8d rfl ?_
  refine sv_get hF 0 (by decide) rfl lf_RX6_104 (.int 1) rfl dX6_reaches_18 ?_
  refine am_ifle hF 28 dX6_reaches_21 (by decide) (fun h9 => False.elim ((by revert h9; decide))) (fun _ => ?_)
  refine am_go hF sgX6_reaches_24_0d2e2 33 [(0, .ref 465), (1, .int x)] [.int 0] sgX6_reaches_24_0d2e2d rfl ?_
  exact am_iret hF hO hret rfl dX6_reaches_33 ⟨rfl, rfl⟩
set_option maxRecDepth 100000 in
set_option maxHeartbeats 4000000 in
theorem c_r_reaches_2 {G : am_S} {T S : am_T} {o : Nat → Int64} {n : Nat} (hn : S 9 0 = nI n) (hn10 : n ≤ 10) {l : Nat} (hl : l < n) : am_D G yX6_reaches (.code yX6_reaches cX6_reaches 2 (some .int) :: am_G) { frames := 3, cells := 0, slots := 0, locals := 75 } (hp T S o) [.ref 465, .int (nI l)] (hp T (st1 S 0 0 0) o) (some (.int (rRe (st1 S 0 0 0) n l))) := by
  refine am_of (by decide +kernel) (Nat.le_of_ble_eq_true rfl) ?_
  intro C hse hret hname hF hO
  subst hse
  refine am_go hF sgX6_reaches_0_6b3ba 3 [(0, .ref 465), (1, .int (nI l))] [.int (nI l), .ref 465, .ref 465] sgX6_reaches_0_6b3bad rfl ?_
  refine am_dV hF hO [.int (nI l)] [.ref 465] (c_isList_t (S := S) hn hn10 (show l < n by omega) rfl) myX6_isList vyX6_isList lm_RX6_122 (hp_m _ _ _) rfl rfl 0 0 ⟨Nat.le_of_ble_eq_true rfl, Nat.le_of_ble_eq_true rfl⟩ ⟨Nat.le_of_ble_eq_true rfl, Nat.le_of_ble_eq_true rfl, Nat.le_of_ble_eq_true rfl, Nat.le_of_ble_eq_true rfl⟩ rfl (am_lv_ref (hp_m _ _ _) (am_lv_int (am_lv_ref (hp_m _ _ _) am_lv_nil))) (Nat.le_of_ble_eq_true rfl) dX6_reaches_3 [.int 1, .ref 465] rfl ?_
  refine am_ifeq hF 13 dX6_reaches_6 (by decide) (fun h9 => False.elim ((by revert h9; decide))) (fun _ => ?_)
  refine am_go hF sgX6_reaches_9_1cbe9 14 [(0, .ref 465), (1, .int (nI l))] [.int 0, .ref 465] sgX6_reaches_9_1cbe9d rfl ?_
  refine sv_put hF 0 (by decide) rfl rfl rfl lf_RX6_104 dX6_reaches_14 ?_
  refine am_go hF sgX6_reaches_17_34db8 18 [(0, .ref 465), (1, .int (nI l))] [.ref 465] sgX6_reaches_17_34db8d rfl ?_
  refine sv_get hF 0 (by decide) rfl lf_RX6_104 (.int 0) rfl dX6_reaches_18 ?_
  refine am_ifle hF 28 dX6_reaches_21 (by decide) (fun _ => ?_) (fun h9 => False.elim ((by revert h9; decide)))
  refine am_go hF sgX6_reaches_28_8bcf7 30 [(0, .ref 465), (1, .int (nI l))] [.int (nI l), .ref 465] sgX6_reaches_28_8bcf7d rfl ?_
  refine am_dV hF hO [.int (nI l)] [] (c_reachesOf (S := (st1 S 0 0 0)) hn hn10 (by omega)) myX6_reachesOf vyX6_reachesOf lm_RX6_136 (hp_m _ _ _) rfl rfl 0 0 ⟨Nat.le_of_ble_eq_true rfl, Nat.le_of_ble_eq_true rfl⟩ ⟨Nat.le_of_ble_eq_true rfl, Nat.le_of_ble_eq_true rfl, Nat.le_of_ble_eq_true rfl, Nat.le_of_ble_eq_true rfl⟩ rfl (am_lv_ref (hp_m _ _ _) (am_lv_int am_lv_nil)) (Nat.le_of_ble_eq_true rfl) dX6_reaches_30 [.int (rRe (st1 S 0 0 0) n l)] rfl ?_
  exact am_iret hF hO hret rfl dX6_reaches_33 ⟨rfl, rfl⟩
set_option maxRecDepth 100000 in
set_option maxHeartbeats 4000000 in
theorem c_r_reachesByMembers_1 {G : am_S} {T S : am_T} {o : Nat → Int64} {n : Nat} (hn : S 9 0 = nI n) (hn10 : n ≤ 10) {x : Int32} (hx : x < 0 ∨ nI n ≤ x) : am_D G yX6_reachesByMembers (.code yX6_reachesByMembers cX6_reachesByMembers 2 (some .int) :: am_G) { frames := 3, cells := 0, slots := 0, locals := 75 } (hp T S o) [.ref 465, .int x] (hp T (st1 S 0 0 1) o) (some (.int 0)) := by
  refine am_of (by decide +kernel) (Nat.le_of_ble_eq_true rfl) ?_
  intro C hse hret hname hF hO
  subst hse
  refine am_go hF sgX6_reachesByMembers_0_6b3ba 3 [(0, .ref 465), (1, .int x)] [.int x, .ref 465, .ref 465] sgX6_reachesByMembers_0_6b3bad rfl ?_
  refine am_dV hF hO [.int x] [.ref 465] (c_isList_f (S := S) hn hn10 hx) myX6_isList vyX6_isList lm_RX6_122 (hp_m _ _ _) rfl rfl 0 0 ⟨Nat.le_of_ble_eq_true rfl, Nat.le_of_ble_eq_true rfl⟩ ⟨Nat.le_of_ble_eq_true rfl, Nat.le_of_ble_eq_true rfl, Nat.le_of_ble_eq_true rfl, Nat.le_of_ble_eq_true rfl⟩ rfl (am_lv_ref (hp_m _ _ _) (am_lv_int (am_lv_ref (hp_m _ _ _) am_lv_nil))) (Nat.le_of_ble_eq_true rfl) dX6_reachesByMembers_3 [.int 0, .ref 465] rfl ?_
  refine am_ifeq hF 13 dX6_reachesByMembers_6 (by decide) (fun _ => ?_) (fun h9 => False.elim ((by revert h9; decide)))
  refine am_go hF sgX6_reachesByMembers_13_4de0a 14 [(0, .ref 465), (1, .int x)] [.int 1, .ref 465] sgX6_reachesByMembers_13_4de0ad rfl ?_
  refine sv_put hF 0 (by decide) rfl rfl rfl lf_RX6_104 dX6_reachesByMembers_14 ?_
  refine am_go hF sgX6_reachesByMembers_17_34db8 18 [(0, .ref 465), (1, .int x)] [.ref 465] sgX6_reachesByMembers_17_34db8d rfl ?_
  refine sv_get hF 0 (by decide) rfl lf_RX6_104 (.int 1) rfl dX6_reachesByMembers_18 ?_
  refine am_ifle hF 28 dX6_reachesByMembers_21 (by decide) (fun h9 => False.elim ((by revert h9; decide))) (fun _ => ?_)
  refine am_go hF sgX6_reachesByMembers_24_0d2e2 33 [(0, .ref 465), (1, .int x)] [.int 0] sgX6_reachesByMembers_24_0d2e2d rfl ?_
  exact am_iret hF hO hret rfl dX6_reachesByMembers_33 ⟨rfl, rfl⟩
set_option maxRecDepth 100000 in
set_option maxHeartbeats 4000000 in
theorem c_r_reachesByMembers_2 {G : am_S} {T S : am_T} {o : Nat → Int64} {n : Nat} (hn : S 9 0 = nI n) (hn10 : n ≤ 10) {l : Nat} (hl : l < n) : am_D G yX6_reachesByMembers (.code yX6_reachesByMembers cX6_reachesByMembers 2 (some .int) :: am_G) { frames := 3, cells := 0, slots := 0, locals := 75 } (hp T S o) [.ref 465, .int (nI l)] (hp T (st1 S 0 0 0) o) (some (.int (rRe (st1 S 0 0 0) n l))) := by
  refine am_of (by decide +kernel) (Nat.le_of_ble_eq_true rfl) ?_
  intro C hse hret hname hF hO
  subst hse
  refine am_go hF sgX6_reachesByMembers_0_6b3ba 3 [(0, .ref 465), (1, .int (nI l))] [.int (nI l), .ref 465, .ref 465] sgX6_reachesByMembers_0_6b3bad rfl ?_
  refine am_dV hF hO [.int (nI l)] [.ref 465] (c_isList_t (S := S) hn hn10 (show l < n by omega) rfl) myX6_isList vyX6_isList lm_RX6_122 (hp_m _ _ _) rfl rfl 0 0 ⟨Nat.le_of_ble_eq_true rfl, Nat.le_of_ble_eq_true rfl⟩ ⟨Nat.le_of_ble_eq_true rfl, Nat.le_of_ble_eq_true rfl, Nat.le_of_ble_eq_true rfl, Nat.le_of_ble_eq_true rfl⟩ rfl (am_lv_ref (hp_m _ _ _) (am_lv_int (am_lv_ref (hp_m _ _ _) am_lv_nil))) (Nat.le_of_ble_eq_true rfl) dX6_reachesByMembers_3 [.int 1, .ref 465] rfl ?_
  refine am_ifeq hF 13 dX6_reachesByMembers_6 (by decide) (fun h9 => False.elim ((by revert h9; decide))) (fun _ => ?_)
  refine am_go hF sgX6_reachesByMembers_9_1cbe9 14 [(0, .ref 465), (1, .int (nI l))] [.int 0, .ref 465] sgX6_reachesByMembers_9_1cbe9d rfl ?_
  refine sv_put hF 0 (by decide) rfl rfl rfl lf_RX6_104 dX6_reachesByMembers_14 ?_
  refine am_go hF sgX6_reachesByMembers_17_34db8 18 [(0, .ref 465), (1, .int (nI l))] [.ref 465] sgX6_reachesByMembers_17_34db8d rfl ?_
  refine sv_get hF 0 (by decide) rfl lf_RX6_104 (.int 0) rfl dX6_reachesByMembers_18 ?_
  refine am_ifle hF 28 dX6_reachesByMembers_21 (by decide) (fun _ => ?_) (fun h9 => False.elim ((by revert h9; decide)))
  refine am_go hF sgX6_reachesByMembers_28_8bcf7 30 [(0, .ref 465), (1, .int (nI l))] [.int (nI l), .ref 465] sgX6_reachesByMembers_28_8bcf7d rfl ?_
  refine am_dV hF hO [.int (nI l)] [] (c_reachesOf (S := (st1 S 0 0 0)) hn hn10 (by omega)) myX6_reachesOf vyX6_reachesOf lm_RX6_136 (hp_m _ _ _) rfl rfl 0 0 ⟨Nat.le_of_ble_eq_true rfl, Nat.le_of_ble_eq_true rfl⟩ ⟨Nat.le_of_ble_eq_true rfl, Nat.le_of_ble_eq_true rfl, Nat.le_of_ble_eq_true rfl, Nat.le_of_ble_eq_true rfl⟩ rfl (am_lv_ref (hp_m _ _ _) (am_lv_int am_lv_nil)) (Nat.le_of_ble_eq_true rfl) dX6_reachesByMembers_30 [.int (rRe (st1 S 0 0 0) n l)] rfl ?_
  exact am_iret hF hO hret rfl dX6_reachesByMembers_33 ⟨rfl, rfl⟩
set_option maxRecDepth 100000 in
set_option maxHeartbeats 4000000 in
theorem c_r_modeOf_1 {G : am_S} {T S : am_T} {o : Nat → Int64} {n : Nat} (hn : S 9 0 = nI n) (hn10 : n ≤ 10) {x : Int32} (hx : x < 0 ∨ nI n ≤ x) {y : Int32} : am_D G yX6_modeOf (.code yX6_modeOf cX6_modeOf 3 (some .int) :: am_G) { frames := 3, cells := 0, slots := 0, locals := 74 } (hp T S o) [.ref 465, .int x, .int y] (hp T (st1 S 0 0 1) o) (some (.int 0)) := by
  refine am_of (by decide +kernel) (Nat.le_of_ble_eq_true rfl) ?_
  intro C hse hret hname hF hO
  subst hse
  refine am_go hF sgX6_modeOf_0_6b3ba 3 [(0, .ref 465), (1, .int x), (2, .int y)] [.int x, .ref 465, .ref 465] sgX6_modeOf_0_6b3bad rfl ?_
  refine am_dV hF hO [.int x] [.ref 465] (c_isList_f (S := S) hn hn10 hx) myX6_isList vyX6_isList lm_RX6_122 (hp_m _ _ _) rfl rfl 0 0 ⟨Nat.le_of_ble_eq_true rfl, Nat.le_of_ble_eq_true rfl⟩ ⟨Nat.le_of_ble_eq_true rfl, Nat.le_of_ble_eq_true rfl, Nat.le_of_ble_eq_true rfl, Nat.le_of_ble_eq_true rfl⟩ rfl (am_lv_ref (hp_m _ _ _) (am_lv_int (am_lv_int (am_lv_ref (hp_m _ _ _) am_lv_nil)))) (Nat.le_of_ble_eq_true rfl) dX6_modeOf_3 [.int 0, .ref 465] rfl ?_
  refine am_ifeq hF 20 dX6_modeOf_6 (by decide) (fun _ => ?_) (fun h9 => False.elim ((by revert h9; decide)))
  refine am_go hF sgX6_modeOf_20_4de0a 21 [(0, .ref 465), (1, .int x), (2, .int y)] [.int 1, .ref 465] sgX6_modeOf_20_4de0ad rfl ?_
  refine sv_put hF 0 (by decide) rfl rfl rfl lf_RX6_104 dX6_modeOf_21 ?_
  refine am_go hF sgX6_modeOf_24_34db8 25 [(0, .ref 465), (1, .int x), (2, .int y)] [.ref 465] sgX6_modeOf_24_34db8d rfl ?_
  refine sv_get hF 0 (by decide) rfl lf_RX6_104 (.int 1) rfl dX6_modeOf_25 ?_
  refine am_ifle hF 35 dX6_modeOf_28 (by decide) (fun h9 => False.elim ((by revert h9; decide))) (fun _ => ?_)
  refine am_go hF sgX6_modeOf_31_077ad 41 [(0, .ref 465), (1, .int x), (2, .int y)] [.int 0] sgX6_modeOf_31_077add rfl ?_
  exact am_iret hF hO hret rfl dX6_modeOf_41 ⟨rfl, rfl⟩
set_option maxRecDepth 100000 in
set_option maxHeartbeats 4000000 in
theorem c_r_modeOf_2 {G : am_S} {T S : am_T} {o : Nat → Int64} {n : Nat} (hn : S 9 0 = nI n) (hn10 : n ≤ 10) {l : Nat} (hl : l < n) {y : Int32} (hy : y < 0 ∨ nI 16 ≤ y) : am_D G yX6_modeOf (.code yX6_modeOf cX6_modeOf 3 (some .int) :: am_G) { frames := 3, cells := 0, slots := 0, locals := 74 } (hp T S o) [.ref 465, .int (nI l), .int y] (hp T (st1 S 0 0 1) o) (some (.int 0)) := by
  refine am_of (by decide +kernel) (Nat.le_of_ble_eq_true rfl) ?_
  intro C hse hret hname hF hO
  subst hse
  refine am_go hF sgX6_modeOf_0_6b3ba 3 [(0, .ref 465), (1, .int (nI l)), (2, .int y)] [.int (nI l), .ref 465, .ref 465] sgX6_modeOf_0_6b3bad rfl ?_
  refine am_dV hF hO [.int (nI l)] [.ref 465] (c_isList_t (S := S) hn hn10 (show l < n by omega) rfl) myX6_isList vyX6_isList lm_RX6_122 (hp_m _ _ _) rfl rfl 0 0 ⟨Nat.le_of_ble_eq_true rfl, Nat.le_of_ble_eq_true rfl⟩ ⟨Nat.le_of_ble_eq_true rfl, Nat.le_of_ble_eq_true rfl, Nat.le_of_ble_eq_true rfl, Nat.le_of_ble_eq_true rfl⟩ rfl (am_lv_ref (hp_m _ _ _) (am_lv_int (am_lv_int (am_lv_ref (hp_m _ _ _) am_lv_nil)))) (Nat.le_of_ble_eq_true rfl) dX6_modeOf_3 [.int 1, .ref 465] rfl ?_
  refine am_ifeq hF 20 dX6_modeOf_6 (by decide) (fun h9 => False.elim ((by revert h9; decide))) (fun _ => ?_)
  refine am_go hF sgX6_modeOf_9_f8a59 10 [(0, .ref 465), (1, .int (nI l)), (2, .int y)] [.int y, .ref 465] sgX6_modeOf_9_f8a59d rfl ?_
  refine am_dS hF hO [.int y] [.ref 465] (c_isPerson_f hy) myX6_isPerson syX6_isPerson lm_RX6_118 rfl 0 0 ⟨Nat.le_of_ble_eq_true rfl, Nat.le_of_ble_eq_true rfl⟩ ⟨Nat.le_of_ble_eq_true rfl, Nat.le_of_ble_eq_true rfl, Nat.le_of_ble_eq_true rfl, Nat.le_of_ble_eq_true rfl⟩ rfl (am_lv_ref (hp_m _ _ _) (am_lv_int (am_lv_int (am_lv_ref (hp_m _ _ _) am_lv_nil)))) (Nat.le_of_ble_eq_true rfl) dX6_modeOf_10 [.int 0, .ref 465] rfl ?_
  refine am_ifeq hF 20 dX6_modeOf_13 (by decide) (fun _ => ?_) (fun h9 => False.elim ((by revert h9; decide)))
  refine am_go hF sgX6_modeOf_20_4de0a 21 [(0, .ref 465), (1, .int (nI l)), (2, .int y)] [.int 1, .ref 465] sgX6_modeOf_20_4de0ad rfl ?_
  refine sv_put hF 0 (by decide) rfl rfl rfl lf_RX6_104 dX6_modeOf_21 ?_
  refine am_go hF sgX6_modeOf_24_34db8 25 [(0, .ref 465), (1, .int (nI l)), (2, .int y)] [.ref 465] sgX6_modeOf_24_34db8d rfl ?_
  refine sv_get hF 0 (by decide) rfl lf_RX6_104 (.int 1) rfl dX6_modeOf_25 ?_
  refine am_ifle hF 35 dX6_modeOf_28 (by decide) (fun h9 => False.elim ((by revert h9; decide))) (fun _ => ?_)
  refine am_go hF sgX6_modeOf_31_077ad 41 [(0, .ref 465), (1, .int (nI l)), (2, .int y)] [.int 0] sgX6_modeOf_31_077add rfl ?_
  exact am_iret hF hO hret rfl dX6_modeOf_41 ⟨rfl, rfl⟩
set_option maxRecDepth 100000 in
set_option maxHeartbeats 4000000 in
theorem c_r_modeOf_3 {G : am_S} {T S : am_T} {o : Nat → Int64} {n : Nat} (hn : S 9 0 = nI n) (hn10 : n ≤ 10) {l : Nat} (hl : l < n) {p : Nat} (hp9 : p < 16) : am_D G yX6_modeOf (.code yX6_modeOf cX6_modeOf 3 (some .int) :: am_G) { frames := 3, cells := 0, slots := 0, locals := 74 } (hp T S o) [.ref 465, .int (nI l), .int (nI p)] (hp T (st1 S 0 0 0) o) (some (.int (rMode (st1 S 0 0 0) n l p))) := by
  refine am_of (by decide +kernel) (Nat.le_of_ble_eq_true rfl) ?_
  intro C hse hret hname hF hO
  subst hse
  refine am_go hF sgX6_modeOf_0_6b3ba 3 [(0, .ref 465), (1, .int (nI l)), (2, .int (nI p))] [.int (nI l), .ref 465, .ref 465] sgX6_modeOf_0_6b3bad rfl ?_
  refine am_dV hF hO [.int (nI l)] [.ref 465] (c_isList_t (S := S) hn hn10 (show l < n by omega) rfl) myX6_isList vyX6_isList lm_RX6_122 (hp_m _ _ _) rfl rfl 0 0 ⟨Nat.le_of_ble_eq_true rfl, Nat.le_of_ble_eq_true rfl⟩ ⟨Nat.le_of_ble_eq_true rfl, Nat.le_of_ble_eq_true rfl, Nat.le_of_ble_eq_true rfl, Nat.le_of_ble_eq_true rfl⟩ rfl (am_lv_ref (hp_m _ _ _) (am_lv_int (am_lv_int (am_lv_ref (hp_m _ _ _) am_lv_nil)))) (Nat.le_of_ble_eq_true rfl) dX6_modeOf_3 [.int 1, .ref 465] rfl ?_
  refine am_ifeq hF 20 dX6_modeOf_6 (by decide) (fun h9 => False.elim ((by revert h9; decide))) (fun _ => ?_)
  refine am_go hF sgX6_modeOf_9_f8a59 10 [(0, .ref 465), (1, .int (nI l)), (2, .int (nI p))] [.int (nI p), .ref 465] sgX6_modeOf_9_f8a59d rfl ?_
  refine am_dS hF hO [.int (nI p)] [.ref 465] (c_isPerson_t (show p < 16 by omega) rfl) myX6_isPerson syX6_isPerson lm_RX6_118 rfl 0 0 ⟨Nat.le_of_ble_eq_true rfl, Nat.le_of_ble_eq_true rfl⟩ ⟨Nat.le_of_ble_eq_true rfl, Nat.le_of_ble_eq_true rfl, Nat.le_of_ble_eq_true rfl, Nat.le_of_ble_eq_true rfl⟩ rfl (am_lv_ref (hp_m _ _ _) (am_lv_int (am_lv_int (am_lv_ref (hp_m _ _ _) am_lv_nil)))) (Nat.le_of_ble_eq_true rfl) dX6_modeOf_10 [.int 1, .ref 465] rfl ?_
  refine am_ifeq hF 20 dX6_modeOf_13 (by decide) (fun h9 => False.elim ((by revert h9; decide))) (fun _ => ?_)
  refine am_go hF sgX6_modeOf_16_1cbe9 21 [(0, .ref 465), (1, .int (nI l)), (2, .int (nI p))] [.int 0, .ref 465] sgX6_modeOf_16_1cbe9d rfl ?_
  refine sv_put hF 0 (by decide) rfl rfl rfl lf_RX6_104 dX6_modeOf_21 ?_
  refine am_go hF sgX6_modeOf_24_34db8 25 [(0, .ref 465), (1, .int (nI l)), (2, .int (nI p))] [.ref 465] sgX6_modeOf_24_34db8d rfl ?_
  refine sv_get hF 0 (by decide) rfl lf_RX6_104 (.int 0) rfl dX6_modeOf_25 ?_
  refine am_ifle hF 35 dX6_modeOf_28 (by decide) (fun _ => ?_) (fun h9 => False.elim ((by revert h9; decide)))
  refine am_go hF sgX6_modeOf_35_8dee2 38 [(0, .ref 465), (1, .int (nI l)), (2, .int (nI p))] [.int (nI p), .int (nI l), .ref 465] sgX6_modeOf_35_8dee2d rfl ?_
  refine am_dV hF hO [.int (nI l), .int (nI p)] [] (c_modeFor (S := (st1 S 0 0 0)) hn hn10 (by omega) (by omega)) myX6_modeFor vyX6_modeFor lm_RX6_139 (hp_m _ _ _) rfl rfl 0 0 ⟨Nat.le_of_ble_eq_true rfl, Nat.le_of_ble_eq_true rfl⟩ ⟨Nat.le_of_ble_eq_true rfl, Nat.le_of_ble_eq_true rfl, Nat.le_of_ble_eq_true rfl, Nat.le_of_ble_eq_true rfl⟩ rfl (am_lv_ref (hp_m _ _ _) (am_lv_int (am_lv_int am_lv_nil))) (Nat.le_of_ble_eq_true rfl) dX6_modeOf_38 [.int (rMode (st1 S 0 0 0) n l p)] rfl ?_
  exact am_iret hF hO hret rfl dX6_modeOf_41 ⟨rfl, rfl⟩
end
