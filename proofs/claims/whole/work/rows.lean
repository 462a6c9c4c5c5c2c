section
-- ===== PART A: goes FIRST, ahead of the names: the tables' words, and 'selects' of the private methods out of them =====
/-- a private method of a class that the tables say can be made, by its rows of tables_1 -/
def lw_okq (q : MethodName × Nat) : Prop := (q.1.cls ≠ "java/lang/invoke/MethodHandle" ∧ q.1.cls ≠ "java/lang/invoke/VarHandle") ∧ Cond.instantiable q.1.cls q.2 ∈ tables_1 ∧ Cond.privateMethod q.1 ∈ tables_1 ∧ Cond.instanceMethod q.1 ∈ tables_1
theorem lw_p0 : lw_okq (⟨"StreetEditions", "withFollower", "(JLStreetEditions$Follower;)J"⟩, 3) := ⟨⟨by decide +kernel, by decide +kernel⟩, List.mem_of_getElem? (i := 18) (by decide +kernel), List.mem_of_getElem? (i := 323) (by decide +kernel), List.mem_of_getElem? (i := 324) (by decide +kernel)⟩
theorem lw_p1 : lw_okq (⟨"StreetEditions", "withStreet", "(JI)J"⟩, 3) := ⟨⟨by decide +kernel, by decide +kernel⟩, List.mem_of_getElem? (i := 18) (by decide +kernel), List.mem_of_getElem? (i := 349) (by decide +kernel), List.mem_of_getElem? (i := 350) (by decide +kernel)⟩
theorem lw_p2 : lw_okq (⟨"java/lang/Throwable", "fillInStackTrace", "(I)Ljava/lang/Throwable;"⟩, 6) := ⟨⟨by decide +kernel, by decide +kernel⟩, List.mem_of_getElem? (i := 418) (by decide +kernel), List.mem_of_getElem? (i := 416) (by decide +kernel), List.mem_of_getElem? (i := 417) (by decide +kernel)⟩
theorem lw_p3 : lw_okq (⟨"StreetEditions$Differences", "dropOldest", "(I)V"⟩, 6) := ⟨⟨by decide +kernel, by decide +kernel⟩, List.mem_of_getElem? (i := 38) (by decide +kernel), List.mem_of_getElem? (i := 513) (by decide +kernel), List.mem_of_getElem? (i := 514) (by decide +kernel)⟩
theorem lw_p4 : lw_okq (⟨"StreetEditions$State", "giveNotice", "()V"⟩, 2) := ⟨⟨by decide +kernel, by decide +kernel⟩, List.mem_of_getElem? (i := 26) (by decide +kernel), List.mem_of_getElem? (i := 518) (by decide +kernel), List.mem_of_getElem? (i := 519) (by decide +kernel)⟩
theorem lw_p5 : lw_okq (⟨"StreetEditions", "needDifference", "(I)V"⟩, 3) := ⟨⟨by decide +kernel, by decide +kernel⟩, List.mem_of_getElem? (i := 18) (by decide +kernel), List.mem_of_getElem? (i := 591) (by decide +kernel), List.mem_of_getElem? (i := 592) (by decide +kernel)⟩
theorem lw_p6 : lw_okq (⟨"StreetEditions", "followerNumbered", "(I)LStreetEditions$Follower;"⟩, 3) := ⟨⟨by decide +kernel, by decide +kernel⟩, List.mem_of_getElem? (i := 18) (by decide +kernel), List.mem_of_getElem? (i := 620) (by decide +kernel), List.mem_of_getElem? (i := 621) (by decide +kernel)⟩
theorem lw_p7 : lw_okq (⟨"StreetEditions$State", "obeyOnStreet", "(II)Z"⟩, 2) := ⟨⟨by decide +kernel, by decide +kernel⟩, List.mem_of_getElem? (i := 26) (by decide +kernel), List.mem_of_getElem? (i := 759) (by decide +kernel), List.mem_of_getElem? (i := 760) (by decide +kernel)⟩
theorem lw_p8 : lw_okq (⟨"StreetEditions$State", "obeyOnFollower", "(ILStreetEditions$Follower;)Z"⟩, 2) := ⟨⟨by decide +kernel, by decide +kernel⟩, List.mem_of_getElem? (i := 26) (by decide +kernel), List.mem_of_getElem? (i := 772) (by decide +kernel), List.mem_of_getElem? (i := 773) (by decide +kernel)⟩
theorem lw_p9 : lw_okq (⟨"StreetEditionsModel", "fails", "(I)I"⟩, 10) := ⟨⟨by decide +kernel, by decide +kernel⟩, List.mem_of_getElem? (i := 788) (by decide +kernel), List.mem_of_getElem? (i := 833) (by decide +kernel), List.mem_of_getElem? (i := 834) (by decide +kernel)⟩
theorem lw_p10 : lw_okq (⟨"StreetEditionsModel", "canAdd", "(I)Z"⟩, 10) := ⟨⟨by decide +kernel, by decide +kernel⟩, List.mem_of_getElem? (i := 788) (by decide +kernel), List.mem_of_getElem? (i := 851) (by decide +kernel), List.mem_of_getElem? (i := 852) (by decide +kernel)⟩
theorem lw_p11 : lw_okq (⟨"StreetEditionsModel", "save", "()V"⟩, 10) := ⟨⟨by decide +kernel, by decide +kernel⟩, List.mem_of_getElem? (i := 788) (by decide +kernel), List.mem_of_getElem? (i := 855) (by decide +kernel), List.mem_of_getElem? (i := 856) (by decide +kernel)⟩
theorem lw_p12 : lw_okq (⟨"StreetEditionsModel", "changeDraft", "(I)I"⟩, 10) := ⟨⟨by decide +kernel, by decide +kernel⟩, List.mem_of_getElem? (i := 788) (by decide +kernel), List.mem_of_getElem? (i := 859) (by decide +kernel), List.mem_of_getElem? (i := 860) (by decide +kernel)⟩
theorem lw_p13 : lw_okq (⟨"StreetEditionsModel", "canPublish", "()Z"⟩, 10) := ⟨⟨by decide +kernel, by decide +kernel⟩, List.mem_of_getElem? (i := 788) (by decide +kernel), List.mem_of_getElem? (i := 874) (by decide +kernel), List.mem_of_getElem? (i := 875) (by decide +kernel)⟩
theorem lw_p14 : lw_okq (⟨"StreetEditionsModel", "publishes", "()I"⟩, 10) := ⟨⟨by decide +kernel, by decide +kernel⟩, List.mem_of_getElem? (i := 788) (by decide +kernel), List.mem_of_getElem? (i := 878) (by decide +kernel), List.mem_of_getElem? (i := 879) (by decide +kernel)⟩
theorem lw_p15 : lw_okq (⟨"StreetEditionsModel", "dropOldest", "()V"⟩, 10) := ⟨⟨by decide +kernel, by decide +kernel⟩, List.mem_of_getElem? (i := 788) (by decide +kernel), List.mem_of_getElem? (i := 882) (by decide +kernel), List.mem_of_getElem? (i := 883) (by decide +kernel)⟩
def lw_privs_1 : List (MethodName × Nat) := [(⟨"StreetEditions", "withFollower", "(JLStreetEditions$Follower;)J"⟩, 3), (⟨"StreetEditions", "withStreet", "(JI)J"⟩, 3), (⟨"java/lang/Throwable", "fillInStackTrace", "(I)Ljava/lang/Throwable;"⟩, 6), (⟨"StreetEditions$Differences", "dropOldest", "(I)V"⟩, 6), (⟨"StreetEditions$State", "giveNotice", "()V"⟩, 2), (⟨"StreetEditions", "needDifference", "(I)V"⟩, 3), (⟨"StreetEditions", "followerNumbered", "(I)LStreetEditions$Follower;"⟩, 3), (⟨"StreetEditions$State", "obeyOnStreet", "(II)Z"⟩, 2), (⟨"StreetEditions$State", "obeyOnFollower", "(ILStreetEditions$Follower;)Z"⟩, 2), (⟨"StreetEditionsModel", "fails", "(I)I"⟩, 10), (⟨"StreetEditionsModel", "canAdd", "(I)Z"⟩, 10), (⟨"StreetEditionsModel", "save", "()V"⟩, 10), (⟨"StreetEditionsModel", "changeDraft", "(I)I"⟩, 10), (⟨"StreetEditionsModel", "canPublish", "()Z"⟩, 10), (⟨"StreetEditionsModel", "publishes", "()I"⟩, 10), (⟨"StreetEditionsModel", "dropOldest", "()V"⟩, 10)]
theorem lw_r1 : ∀ q ∈ lw_privs_1, lw_okq q := List.forall_mem_cons.mpr ⟨lw_p0, List.forall_mem_cons.mpr ⟨lw_p1, List.forall_mem_cons.mpr ⟨lw_p2, List.forall_mem_cons.mpr ⟨lw_p3, List.forall_mem_cons.mpr ⟨lw_p4, List.forall_mem_cons.mpr ⟨lw_p5, List.forall_mem_cons.mpr ⟨lw_p6, List.forall_mem_cons.mpr ⟨lw_p7, List.forall_mem_cons.mpr ⟨lw_p8, List.forall_mem_cons.mpr ⟨lw_p9, List.forall_mem_cons.mpr ⟨lw_p10, List.forall_mem_cons.mpr ⟨lw_p11, List.forall_mem_cons.mpr ⟨lw_p12, List.forall_mem_cons.mpr ⟨lw_p13, List.forall_mem_cons.mpr ⟨lw_p14, List.forall_mem_cons.mpr ⟨lw_p15, fun _ h => absurd h List.not_mem_nil⟩⟩⟩⟩⟩⟩⟩⟩⟩⟩⟩⟩⟩⟩⟩⟩
theorem lw_p16 : lw_okq (⟨"StreetEditionsModel", "give", "()V"⟩, 10) := ⟨⟨by decide +kernel, by decide +kernel⟩, List.mem_of_getElem? (i := 788) (by decide +kernel), List.mem_of_getElem? (i := 886) (by decide +kernel), List.mem_of_getElem? (i := 887) (by decide +kernel)⟩
theorem lw_p17 : lw_okq (⟨"StreetEditionsModel", "of", "(II)I"⟩, 10) := ⟨⟨by decide +kernel, by decide +kernel⟩, List.mem_of_getElem? (i := 788) (by decide +kernel), List.mem_of_getElem? (i := 890) (by decide +kernel), List.mem_of_getElem? (i := 891) (by decide +kernel)⟩
theorem lw_p18 : lw_okq (⟨"StreetEditionsModel", "setOf", "(III)V"⟩, 10) := ⟨⟨by decide +kernel, by decide +kernel⟩, List.mem_of_getElem? (i := 788) (by decide +kernel), List.mem_of_getElem? (i := 894) (by decide +kernel), List.mem_of_getElem? (i := 895) (by decide +kernel)⟩
theorem lw_p19 : lw_okq (⟨"StreetEditionsModel", "canRenumber", "(I)Z"⟩, 10) := ⟨⟨by decide +kernel, by decide +kernel⟩, List.mem_of_getElem? (i := 788) (by decide +kernel), List.mem_of_getElem? (i := 902) (by decide +kernel), List.mem_of_getElem? (i := 903) (by decide +kernel)⟩
theorem lw_p20 : lw_okq (⟨"StreetEditionsModel", "renumbers", "(I)I"⟩, 10) := ⟨⟨by decide +kernel, by decide +kernel⟩, List.mem_of_getElem? (i := 788) (by decide +kernel), List.mem_of_getElem? (i := 909) (by decide +kernel), List.mem_of_getElem? (i := 910) (by decide +kernel)⟩
theorem lw_p21 : lw_okq (⟨"StreetEditionsModel", "tellsWhere", "(I)I"⟩, 10) := ⟨⟨by decide +kernel, by decide +kernel⟩, List.mem_of_getElem? (i := 788) (by decide +kernel), List.mem_of_getElem? (i := 933) (by decide +kernel), List.mem_of_getElem? (i := 934) (by decide +kernel)⟩
theorem lw_p22 : lw_okq (⟨"StreetEditionsModel", "unlike", "()I"⟩, 10) := ⟨⟨by decide +kernel, by decide +kernel⟩, List.mem_of_getElem? (i := 788) (by decide +kernel), List.mem_of_getElem? (i := 941) (by decide +kernel), List.mem_of_getElem? (i := 942) (by decide +kernel)⟩
theorem lw_p23 : lw_okq (⟨"StreetEditionsModel", "isDifference", "(I)Z"⟩, 10) := ⟨⟨by decide +kernel, by decide +kernel⟩, List.mem_of_getElem? (i := 788) (by decide +kernel), List.mem_of_getElem? (i := 953) (by decide +kernel), List.mem_of_getElem? (i := 954) (by decide +kernel)⟩
theorem lw_p24 : lw_okq (⟨"StreetEditionsModel", "ofDifference", "(II)I"⟩, 10) := ⟨⟨by decide +kernel, by decide +kernel⟩, List.mem_of_getElem? (i := 788) (by decide +kernel), List.mem_of_getElem? (i := 957) (by decide +kernel), List.mem_of_getElem? (i := 958) (by decide +kernel)⟩
theorem lw_p25 : lw_okq (⟨"StreetEditionsModel", "costOf", "(I)I"⟩, 10) := ⟨⟨by decide +kernel, by decide +kernel⟩, List.mem_of_getElem? (i := 788) (by decide +kernel), List.mem_of_getElem? (i := 965) (by decide +kernel), List.mem_of_getElem? (i := 966) (by decide +kernel)⟩
theorem lw_p26 : lw_okq (⟨"StreetEditionsModel", "refreshes", "(I)I"⟩, 10) := ⟨⟨by decide +kernel, by decide +kernel⟩, List.mem_of_getElem? (i := 788) (by decide +kernel), List.mem_of_getElem? (i := 983) (by decide +kernel), List.mem_of_getElem? (i := 984) (by decide +kernel)⟩
theorem lw_p27 : lw_okq (⟨"StreetEditionsModel", "answerTo", "(I)I"⟩, 10) := ⟨⟨by decide +kernel, by decide +kernel⟩, List.mem_of_getElem? (i := 788) (by decide +kernel), List.mem_of_getElem? (i := 987) (by decide +kernel), List.mem_of_getElem? (i := 988) (by decide +kernel)⟩
theorem lw_p28 : lw_okq (⟨"StreetEditionsModel", "leadsFrom", "(I)I"⟩, 10) := ⟨⟨by decide +kernel, by decide +kernel⟩, List.mem_of_getElem? (i := 788) (by decide +kernel), List.mem_of_getElem? (i := 991) (by decide +kernel), List.mem_of_getElem? (i := 992) (by decide +kernel)⟩
theorem lw_p29 : lw_okq (⟨"StreetEditionsModel", "costFrom", "(I)I"⟩, 10) := ⟨⟨by decide +kernel, by decide +kernel⟩, List.mem_of_getElem? (i := 788) (by decide +kernel), List.mem_of_getElem? (i := 995) (by decide +kernel), List.mem_of_getElem? (i := 996) (by decide +kernel)⟩
theorem lw_p30 : lw_okq (⟨"StreetEditionsModel", "wholeCost", "()I"⟩, 10) := ⟨⟨by decide +kernel, by decide +kernel⟩, List.mem_of_getElem? (i := 788) (by decide +kernel), List.mem_of_getElem? (i := 999) (by decide +kernel), List.mem_of_getElem? (i := 1000) (by decide +kernel)⟩
theorem lw_p31 : lw_okq (⟨"StreetEditionsModel", "costOfAnswer", "(I)I"⟩, 10) := ⟨⟨by decide +kernel, by decide +kernel⟩, List.mem_of_getElem? (i := 788) (by decide +kernel), List.mem_of_getElem? (i := 1003) (by decide +kernel), List.mem_of_getElem? (i := 1004) (by decide +kernel)⟩
def lw_privs_2 : List (MethodName × Nat) := [(⟨"StreetEditionsModel", "give", "()V"⟩, 10), (⟨"StreetEditionsModel", "of", "(II)I"⟩, 10), (⟨"StreetEditionsModel", "setOf", "(III)V"⟩, 10), (⟨"StreetEditionsModel", "canRenumber", "(I)Z"⟩, 10), (⟨"StreetEditionsModel", "renumbers", "(I)I"⟩, 10), (⟨"StreetEditionsModel", "tellsWhere", "(I)I"⟩, 10), (⟨"StreetEditionsModel", "unlike", "()I"⟩, 10), (⟨"StreetEditionsModel", "isDifference", "(I)Z"⟩, 10), (⟨"StreetEditionsModel", "ofDifference", "(II)I"⟩, 10), (⟨"StreetEditionsModel", "costOf", "(I)I"⟩, 10), (⟨"StreetEditionsModel", "refreshes", "(I)I"⟩, 10), (⟨"StreetEditionsModel", "answerTo", "(I)I"⟩, 10), (⟨"StreetEditionsModel", "leadsFrom", "(I)I"⟩, 10), (⟨"StreetEditionsModel", "costFrom", "(I)I"⟩, 10), (⟨"StreetEditionsModel", "wholeCost", "()I"⟩, 10), (⟨"StreetEditionsModel", "costOfAnswer", "(I)I"⟩, 10)]
theorem lw_r2 : ∀ q ∈ lw_privs_2, lw_okq q := List.forall_mem_cons.mpr ⟨lw_p16, List.forall_mem_cons.mpr ⟨lw_p17, List.forall_mem_cons.mpr ⟨lw_p18, List.forall_mem_cons.mpr ⟨lw_p19, List.forall_mem_cons.mpr ⟨lw_p20, List.forall_mem_cons.mpr ⟨lw_p21, List.forall_mem_cons.mpr ⟨lw_p22, List.forall_mem_cons.mpr ⟨lw_p23, List.forall_mem_cons.mpr ⟨lw_p24, List.forall_mem_cons.mpr ⟨lw_p25, List.forall_mem_cons.mpr ⟨lw_p26, List.forall_mem_cons.mpr ⟨lw_p27, List.forall_mem_cons.mpr ⟨lw_p28, List.forall_mem_cons.mpr ⟨lw_p29, List.forall_mem_cons.mpr ⟨lw_p30, List.forall_mem_cons.mpr ⟨lw_p31, fun _ h => absurd h List.not_mem_nil⟩⟩⟩⟩⟩⟩⟩⟩⟩⟩⟩⟩⟩⟩⟩⟩
theorem lw_p32 : lw_okq (⟨"StreetEditionsModel", "applyAll", "(I)V"⟩, 10) := ⟨⟨by decide +kernel, by decide +kernel⟩, List.mem_of_getElem? (i := 788) (by decide +kernel), List.mem_of_getElem? (i := 1007) (by decide +kernel), List.mem_of_getElem? (i := 1008) (by decide +kernel)⟩
theorem lw_p33 : lw_okq (⟨"StreetEditionsModel", "turns", "(II)I"⟩, 10) := ⟨⟨by decide +kernel, by decide +kernel⟩, List.mem_of_getElem? (i := 788) (by decide +kernel), List.mem_of_getElem? (i := 1019) (by decide +kernel), List.mem_of_getElem? (i := 1020) (by decide +kernel)⟩
theorem lw_p34 : lw_okq (⟨"StreetEditionsModel", "sleepers", "()I"⟩, 10) := ⟨⟨by decide +kernel, by decide +kernel⟩, List.mem_of_getElem? (i := 788) (by decide +kernel), List.mem_of_getElem? (i := 1023) (by decide +kernel), List.mem_of_getElem? (i := 1024) (by decide +kernel)⟩
theorem lw_p35 : lw_okq (⟨"StreetEditionsModel", "tellsStreets", "(I)I"⟩, 10) := ⟨⟨by decide +kernel, by decide +kernel⟩, List.mem_of_getElem? (i := 788) (by decide +kernel), List.mem_of_getElem? (i := 1035) (by decide +kernel), List.mem_of_getElem? (i := 1036) (by decide +kernel)⟩
theorem lw_p36 : lw_okq (⟨"StreetEditionsModel", "tellsEdition", "(I)I"⟩, 10) := ⟨⟨by decide +kernel, by decide +kernel⟩, List.mem_of_getElem? (i := 788) (by decide +kernel), List.mem_of_getElem? (i := 1043) (by decide +kernel), List.mem_of_getElem? (i := 1044) (by decide +kernel)⟩
theorem lw_p37 : lw_okq (⟨"StreetEditionsModel", "hasStreet", "(II)Z"⟩, 10) := ⟨⟨by decide +kernel, by decide +kernel⟩, List.mem_of_getElem? (i := 788) (by decide +kernel), List.mem_of_getElem? (i := 1055) (by decide +kernel), List.mem_of_getElem? (i := 1056) (by decide +kernel)⟩
theorem lw_p38 : lw_okq (⟨"StreetEditionsModel", "tellsAttention", "(I)I"⟩, 10) := ⟨⟨by decide +kernel, by decide +kernel⟩, List.mem_of_getElem? (i := 788) (by decide +kernel), List.mem_of_getElem? (i := 1067) (by decide +kernel), List.mem_of_getElem? (i := 1068) (by decide +kernel)⟩
theorem lw_p39 : lw_okq (⟨"StreetEditionsModel", "tellsWrong", "(I)I"⟩, 10) := ⟨⟨by decide +kernel, by decide +kernel⟩, List.mem_of_getElem? (i := 788) (by decide +kernel), List.mem_of_getElem? (i := 1087) (by decide +kernel), List.mem_of_getElem? (i := 1088) (by decide +kernel)⟩
theorem lw_p40 : lw_okq (⟨"StreetEditionsModel", "share", "()D"⟩, 10) := ⟨⟨by decide +kernel, by decide +kernel⟩, List.mem_of_getElem? (i := 788) (by decide +kernel), List.mem_of_getElem? (i := 1095) (by decide +kernel), List.mem_of_getElem? (i := 1096) (by decide +kernel)⟩
theorem lw_p41 : lw_okq (⟨"StreetEditionsModel", "findError", "()I"⟩, 10) := ⟨⟨by decide +kernel, by decide +kernel⟩, List.mem_of_getElem? (i := 788) (by decide +kernel), List.mem_of_getElem? (i := 1111) (by decide +kernel), List.mem_of_getElem? (i := 1112) (by decide +kernel)⟩
theorem lw_p42 : lw_okq (⟨"StreetEditionsModel", "readsOrder", "()Z"⟩, 10) := ⟨⟨by decide +kernel, by decide +kernel⟩, List.mem_of_getElem? (i := 788) (by decide +kernel), List.mem_of_getElem? (i := 1115) (by decide +kernel), List.mem_of_getElem? (i := 1116) (by decide +kernel)⟩
theorem lw_p43 : lw_okq (⟨"StreetEditionsModel", "next", "()I"⟩, 10) := ⟨⟨by decide +kernel, by decide +kernel⟩, List.mem_of_getElem? (i := 788) (by decide +kernel), List.mem_of_getElem? (i := 1119) (by decide +kernel), List.mem_of_getElem? (i := 1120) (by decide +kernel)⟩
theorem lw_p44 : lw_okq (⟨"StreetEditionsModel", "readsNumber", "(I)Z"⟩, 10) := ⟨⟨by decide +kernel, by decide +kernel⟩, List.mem_of_getElem? (i := 788) (by decide +kernel), List.mem_of_getElem? (i := 1123) (by decide +kernel), List.mem_of_getElem? (i := 1124) (by decide +kernel)⟩
theorem lw_p45 : lw_okq (⟨"StreetEditionsModel", "canDo", "()Z"⟩, 10) := ⟨⟨by decide +kernel, by decide +kernel⟩, List.mem_of_getElem? (i := 788) (by decide +kernel), List.mem_of_getElem? (i := 1131) (by decide +kernel), List.mem_of_getElem? (i := 1132) (by decide +kernel)⟩
theorem lw_p46 : lw_okq (⟨"StreetEditionsModel", "doOrder", "()I"⟩, 10) := ⟨⟨by decide +kernel, by decide +kernel⟩, List.mem_of_getElem? (i := 788) (by decide +kernel), List.mem_of_getElem? (i := 1135) (by decide +kernel), List.mem_of_getElem? (i := 1136) (by decide +kernel)⟩
theorem lw_p47 : lw_okq (⟨"StreetEditionsModel", "mix", "(J)V"⟩, 10) := ⟨⟨by decide +kernel, by decide +kernel⟩, List.mem_of_getElem? (i := 788) (by decide +kernel), List.mem_of_getElem? (i := 1144) (by decide +kernel), List.mem_of_getElem? (i := 1145) (by decide +kernel)⟩
def lw_privs_3 : List (MethodName × Nat) := [(⟨"StreetEditionsModel", "applyAll", "(I)V"⟩, 10), (⟨"StreetEditionsModel", "turns", "(II)I"⟩, 10), (⟨"StreetEditionsModel", "sleepers", "()I"⟩, 10), (⟨"StreetEditionsModel", "tellsStreets", "(I)I"⟩, 10), (⟨"StreetEditionsModel", "tellsEdition", "(I)I"⟩, 10), (⟨"StreetEditionsModel", "hasStreet", "(II)Z"⟩, 10), (⟨"StreetEditionsModel", "tellsAttention", "(I)I"⟩, 10), (⟨"StreetEditionsModel", "tellsWrong", "(I)I"⟩, 10), (⟨"StreetEditionsModel", "share", "()D"⟩, 10), (⟨"StreetEditionsModel", "findError", "()I"⟩, 10), (⟨"StreetEditionsModel", "readsOrder", "()Z"⟩, 10), (⟨"StreetEditionsModel", "next", "()I"⟩, 10), (⟨"StreetEditionsModel", "readsNumber", "(I)Z"⟩, 10), (⟨"StreetEditionsModel", "canDo", "()Z"⟩, 10), (⟨"StreetEditionsModel", "doOrder", "()I"⟩, 10), (⟨"StreetEditionsModel", "mix", "(J)V"⟩, 10)]
theorem lw_r3 : ∀ q ∈ lw_privs_3, lw_okq q := List.forall_mem_cons.mpr ⟨lw_p32, List.forall_mem_cons.mpr ⟨lw_p33, List.forall_mem_cons.mpr ⟨lw_p34, List.forall_mem_cons.mpr ⟨lw_p35, List.forall_mem_cons.mpr ⟨lw_p36, List.forall_mem_cons.mpr ⟨lw_p37, List.forall_mem_cons.mpr ⟨lw_p38, List.forall_mem_cons.mpr ⟨lw_p39, List.forall_mem_cons.mpr ⟨lw_p40, List.forall_mem_cons.mpr ⟨lw_p41, List.forall_mem_cons.mpr ⟨lw_p42, List.forall_mem_cons.mpr ⟨lw_p43, List.forall_mem_cons.mpr ⟨lw_p44, List.forall_mem_cons.mpr ⟨lw_p45, List.forall_mem_cons.mpr ⟨lw_p46, List.forall_mem_cons.mpr ⟨lw_p47, fun _ h => absurd h List.not_mem_nil⟩⟩⟩⟩⟩⟩⟩⟩⟩⟩⟩⟩⟩⟩⟩⟩
theorem lw_p48 : lw_okq (⟨"StreetEditionsModel", "mixFollower", "(I)V"⟩, 10) := ⟨⟨by decide +kernel, by decide +kernel⟩, List.mem_of_getElem? (i := 788) (by decide +kernel), List.mem_of_getElem? (i := 1149) (by decide +kernel), List.mem_of_getElem? (i := 1150) (by decide +kernel)⟩
def lw_privs_4 : List (MethodName × Nat) := [(⟨"StreetEditionsModel", "mixFollower", "(I)V"⟩, 10)]
theorem lw_r4 : ∀ q ∈ lw_privs_4, lw_okq q := List.forall_mem_cons.mpr ⟨lw_p48, fun _ h => absurd h List.not_mem_nil⟩
def lw_privs : List (MethodName × Nat) := lw_privs_1 ++ (lw_privs_2 ++ (lw_privs_3 ++ (lw_privs_4)))
def lw_tbl : List Cond := k2_sels lw_privs ++ tables_1
theorem lw_privs_ok : ∀ q ∈ lw_privs, lw_okq q := by
  show ∀ q ∈ lw_privs_1 ++ (lw_privs_2 ++ (lw_privs_3 ++ (lw_privs_4))), lw_okq q
  exact List.forall_mem_append.mpr ⟨lw_r1, List.forall_mem_append.mpr ⟨lw_r2, List.forall_mem_append.mpr ⟨lw_r3, lw_r4⟩⟩⟩
/-- the streams that the claim lets the run draw from -/
abbrev lw_cs : List Choice := [Jvm.Choice.named "NaN.bits"]
theorem lw_bits : nanBits ∈ lw_cs := by first | decide | exact List.mem_cons_self | simp [lw_cs, nanBits]

/-! ===== BEGIN words of one list among another's, by their places ===== -/
theorem goodIn_r {big : List Cond} (ws : List Cond) (ps : List Nat) (hp : ws = ps.filterMap (fun i => big[i]?)) (h : ws.all goodWord = true) : GoodIn big ws := by
  intro w hw
  have h1 := List.all_eq_true.mp h w hw
  rw [hp] at hw
  obtain ⟨i, -, hi⟩ := List.mem_filterMap.mp hw
  have hm : w ∈ big := by first | exact List.mem_of_getElem? hi | exact List.getElem?_mem hi
  exact ⟨hm, good_of_word h1⟩
theorem goodIn_app {big a b : List Cond} (ha : GoodIn big a) (hb : GoodIn big b) : GoodIn big (a ++ b) := fun w h => (List.mem_append.mp h).elim (ha w) (hb w)
theorem goodIn_ca {big a b : List Cond} {c : Cond} (ha : GoodIn big (c :: a)) (hb : GoodIn big b) : GoodIn big (c :: (a ++ b)) := fun w h => (List.mem_cons.mp h).elim (fun e => ha w (List.mem_cons.mpr (Or.inl e))) (fun h => (List.mem_append.mp h).elim (fun h => ha w (List.mem_cons.mpr (Or.inr h))) (hb w))
theorem goodIn_sub {big ws : List Cond} (hm : ∀ w ∈ ws, w ∈ big) (h : ws.all goodWord = true) : GoodIn big ws := fun w hw => ⟨hm w hw, good_of_word (List.all_eq_true.mp h w hw)⟩
/-! ===== END ===== -/

/-! ===== BEGIN exceptions that leave a method, and their catching by the caller (launches without stack traces) ===== -/
section VXA
/-! The laws vx_back, vx_callV, vx_callS, vx_callSW, vx_throw0, vx_throwS follow proofs of the library, with one case more: JvmDerived/Free/Laws.lean (Back.of_free), Shelf42/LK1.lean (callV, callS), Shelf/KitTraced.lean (throwNew0V, throwNewS). -/
/-- where a method has thrown q: the class by its name, the cell, what was written, the world -/
def vx_T (XC : String → State → State → Prop) (st : State) (q : Addr) (t : State) (mc ms : Nat) (free : Addr → Prop) : Prop :=
  ∃ (E : String) (ce : Cell) (L : List Loc), XC E st t ∧ t.heap[q]? = some ce ∧ ce.vm = .none ∧ st.vm.findClass E = some ce.cls ∧ st.WarmedH t.vm ∧ st.sameButNew ({ t with vm := st.vm } : State) L mc ms ∧ ∀ z ∈ L, free z.base
def vx_Q (Qc : Array Value → State → Outcome → State → Prop) (XC : String → State → State → Prop) (mc ms : Nat) (free : Addr → Prop) : Array Value → State → Outcome → State → Prop := fun a st o t =>
  (Qc a st o t ∧ ∃ L, FrameEnd st o t L mc ms ∧ ∀ q ∈ L, free q.base) ∨ ∃ q, o = .threw q ∧ vx_T XC st q t mc ms free
/-- a callee that returns or throws -/
def vx_Met (l : Launch) (y : MethodName) (ws : List Cond) (rm : Room) (Pc : Array Value → State → Prop) (Qc : Array Value → State → Outcome → State → Prop) (XC : String → State → State → Prop) (mc ms : Nat) (free : Addr → Prop) : Prop :=
  MetFree l y (headSpec ws rm) Pc (fun _ _ _ _ _ => True) (vx_Q Qc XC mc ms free)
def vx_Post (XC : String → State → State → Prop) (mc ms : Nat) (free : Addr → Prop) : Pt → Array Value → Addr → Pt → Prop := fun A a q B =>
  ∃ (g : JFrame) (mk : MethodId) (t : State) (L : List Loc) (E : String) (ce : Cell), B.U.heap = t.heap ∧ B.U.vm = t.vm ∧ XC E (A.U.calling g mk a) t ∧ t.heap[q]? = some ce ∧ ce.vm = .none ∧ A.U.vm.findClass E = some ce.cls ∧ B.locs = A.locs ++ L ∧ (∀ z ∈ L, free z.base) ∧ B.cells = A.cells + mc ∧ B.slots = A.slots + ms
def vx_Back (l : Launch) (R : Room) (p : Program) (e : Env) (below : List Frame) (s : State) (sargs : Array Value) (y : MethodName) (len W9 : Nat)
    (Pre : Pt → Array Value → Prop) (Post : Pt → Array Value → Option Value → Pt → Prop) (PostX : Pt → Array Value → Addr → Pt → Prop) : Prop :=
  ∀ (m : MethodId) (meth : Method) (c : Code) (A : Pt) (g : JFrame) (ig : Instr) (mk : MethodId) (a : Array Value),
    Stand p l e R s m sargs below meth c A.U A.locs A.cells A.slots → g.method = m → g.locals.size = c.maxLocals → decode c.code g.pc = .ok (ig, len) →
    2 * g.monitorRoom + (g.stack.map fun v => v.category).sum ≤ W9 → A.U.methodNamed? y = some mk → Pre A a →
    (∃ (v : Option Value) (B : Pt), Stand p l e R s m sargs below meth c B.U B.locs B.cells B.slots ∧ Post A a v B ∧
      Steps p.tables e below (doInvoke e (A.U.setTop g) [] mk a).1 (B.U.setTop { g with pc := g.pc + len, stack := v.toList ++ g.stack })) ∨
    (∃ (q : Addr) (B : Pt), Stand p l e R s m sargs below meth c B.U B.locs B.cells B.slots ∧ PostX A a q B ∧
      Steps p.tables e below (doInvoke e (A.U.setTop g) [] mk a).1 ((B.U.setTop g).pushFrame (.throwing q)))
section Payer
variable {l : Launch} {R : Room} {p : Program} {e : Env} {below : List Frame} {s : State} {sargs : Array Value} {y : MethodName} {len W9 : Nat}
theorem vx_back {ws : List Cond} {rm : Room} {Pc : Array Value → State → Prop} {Qc : Array Value → State → Outcome → State → Prop} {XC : String → State → State → Prop} {mc ms : Nat} {free : Addr → Prop} {bytes : ByteArray} {maxL : Nat} {ret : Option FieldType}
    (hM : vx_Met l y ws rm Pc Qc XC mc ms free) (hblind : FrameBlind Pc) (hrc : rm.cells = mc) (hrs : rm.slots = ms)
    (hframes : rm.frames + 1 ≤ R.frames) (hlocals : W9 + (maxL + 11) + rm.locals ≤ R.locals)
    (hws : ∀ w ∈ ws, ∀ a' U, s.WarmedH U.vm → w.before a' U = true) (hcode : Cond.code y bytes maxL ret ∈ ws) (hinit : ∀ a' U, s.WarmedH U.vm → (Cond.initialized y.cls).before a' U = true) :
    vx_Back l R p e below s sargs y len W9 (PreOf R mc ms Pc) (PostOf Qc mc ms free) (vx_Post XC mc ms free) := by
  intro m meth c A g ig mk a X hg hsize hdg hW hn hp
  have h1 : (headSpec ws rm).pre.before a A.U = true := atoms_intro fun w hw => hws w hw _ _ X.warmed
  have h2 : (Cond.code y bytes maxL ret).before a A.U = true := hws _ hcode _ _ X.warmed
  have h3 : (Cond.initialized y.cls).before a A.U = true := hinit _ _ X.warmed
  have h4 : A.cells + (headSpec ws rm).room.cells ≤ R.cells := by rw [show (headSpec ws rm).room.cells = mc from hrc]; exact hp.1
  have h5 : A.slots + (headSpec ws rm).room.slots ≤ R.slots := by rw [show (headSpec ws rm).room.slots = ms from hrs]; exact hp.2.1
  have hPc : Pc a (A.U.calling g mk a) := hblind _ _ _ _ hp.2.2
  obtain ⟨U, Ls, c0, s0⟩ := A
  dsimp only [Pt.U, Pt.locs, Pt.cells, Pt.slots] at h1 h2 h3 h4 h5 X hn hPc ⊢
  obtain ⟨methY, cY, hmY, hcY, -, hlY, -, -, -, -⟩ := Cond.code_spec hn h2
  obtain ⟨kY, hkY, -⟩ := className_of_methodNamed hn
  have hinitY : kY.init = .initialized := Cond.initialized_spec (findClass_of_methodNamed hn) hkY h3
  have h : At U g.method c below := by rw [hg]; exact X.here
  have hlocals9 : W9 + (maxL + 11) + (headSpec ws rm).room.locals ≤ R.locals := hlocals
  have happ : (headSpec ws rm).appliesLoose y e.platform (U.calling g mk a) = true :=
    Spec.appliesLoose_calling (g := g) h hdg hn hkY hinitY
      (X.room_calling (g := g) (R' := (headSpec ws rm).room) hsize hmY hcY hframes (by rw [hlY]; omega) h4 h5) h1
  obtain ⟨mid, hmid⟩ := h.above
  have hfr : (U.setTop g).frames = (.java g :: mid) ++ below := by rw [State.frames_setTop' g h.top, hmid]; rfl
  obtain ⟨o, s₂, hsteps, -, hend, hq⟩ := Steps.callFree hM p X.admits X.cas X.clock (acts := []) hfr happ hPc trivial
  have hq' : vx_Q Qc XC mc ms free a (U.calling g mk a) o s₂ := hq
  rw [State.frames_setTop' g h.top] at hend
  obtain ⟨g₀, hg0⟩ := Option.isSome_iff_exists.mp h.top
  obtain ⟨r, hr⟩ := State.topJava?_eq_some.mp hg0
  have hr' : (({ U with heap := s₂.heap, slotsUsed := s₂.slotsUsed } : State).setVm s₂.vm).frames = .java g₀ :: r := hr
  rcases hq' with ⟨hqc, L, hfe, hL⟩ | ⟨q, rfl, E, ce, L, hx, hce, hcv, hcl, hW₂, hsm, hL⟩
  · obtain ⟨⟨v, rfl⟩, hW₂, e2, q2, q3, q4, q5, q6⟩ := id hfe
    have e3 : s₂ = ({ (U.calling g mk a).setFrames s₂.frames with heap := s₂.heap, slotsUsed := s₂.slotsUsed } : State).setVm s₂.vm := by
      have : s₂ = ({ s₂ with vm := (U.calling g mk a).vm } : State).setVm s₂.vm := rfl
      rw [e2] at this
      exact this
    obtain ⟨c₂, i₂, len₂, hc₂, hd₂, hf₂⟩ := hend
    have hW' : U.WarmedH s₂.vm := hW₂
    have hcc : c₂ = c := by
      have h1 : s₂.code? g.method = U.code? g.method := by
        rw [State.code?_eq, State.code?_eq, hW'.alike.method?]
      exact Option.some.inj (hc₂.symm.trans (h1.trans h.code))
    subst hcc
    have hlen : len₂ = len := by rw [hdg] at hd₂; cases hd₂; rfl
    subst hlen
    have hs₂ : s₂ = (({ U with heap := s₂.heap, slotsUsed := s₂.slotsUsed } : State).setVm s₂.vm).setTop { g with pc := g.pc + len₂, stack := v.toList ++ g.stack } := by
      refine e3.trans ?_
      rw [hf₂, State.calling_eq h.top, State.setFrames_setFrames, State.setTop_of_frames _ hr', hr]
      rfl
    have hsame : U.sameButNew ({ U with heap := s₂.heap, slotsUsed := s₂.slotsUsed } : State) L mc ms := by
      refine ⟨?_, q2, q3, q4, q5, q6⟩
      obtain ⟨t, ht, -⟩ := State.frames_cons hr
      show ({ U with heap := s₂.heap, slotsUsed := s₂.slotsUsed } : State) = { U.setFrames U.frames with heap := s₂.heap, slotsUsed := s₂.slotsUsed }
      rw [State.setFrames_self ht]
    subst hg
    refine Or.inl ⟨v, ⟨(({ U with heap := s₂.heap, slotsUsed := s₂.slotsUsed } : State).setVm s₂.vm), Ls ++ L, c0 + mc, s0 + ms⟩,
      ⟨X.admits, X.cas, X.clock, X.frames, X.room, X.hears, X.method, X.code, (X.here.setHeapUsed s₂.heap s₂.slotsUsed).setVm hW'.alike, X.tail, State.WarmedH.trans X.warmed hW', X.limits, X.bytes, X.same.trans (hsame.setVm s.vm)⟩,
      ⟨g, mk, s₂, L, rfl, rfl, hqc, rfl, hL, rfl, rfl⟩, ?_⟩
    show Steps p.tables e below _ ((({ U with heap := s₂.heap, slotsUsed := s₂.slotsUsed } : State).setVm s₂.vm).setTop { g with pc := g.pc + len₂, stack := v.toList ++ g.stack })
    rw [← hs₂]
    exact hsteps
  · obtain ⟨e2, q2, q3, q4, q5, q6⟩ := id hsm
    have e3 : s₂ = ({ (U.calling g mk a).setFrames s₂.frames with heap := s₂.heap, slotsUsed := s₂.slotsUsed } : State).setVm s₂.vm := by
      have : s₂ = ({ s₂ with vm := (U.calling g mk a).vm } : State).setVm s₂.vm := rfl
      rw [e2] at this
      exact this
    have hf₂ : s₂.frames = .throwing q :: .java g :: U.frames.tail := hend
    have hW' : U.WarmedH s₂.vm := hW₂
    have hs₂ : s₂ = ((({ U with heap := s₂.heap, slotsUsed := s₂.slotsUsed } : State).setVm s₂.vm).setTop g).pushFrame (.throwing q) := by
      refine e3.trans ?_
      rw [hf₂, State.calling_eq h.top, State.setFrames_setFrames, State.pushFrame, State.frames_setTop _ hr', State.setTop_of_frames _ hr', State.setFrames_setFrames, hr]
      rfl
    have hsame : U.sameButNew ({ U with heap := s₂.heap, slotsUsed := s₂.slotsUsed } : State) L mc ms := by
      refine ⟨?_, q2, q3, q4, q5, q6⟩
      obtain ⟨t, ht, -⟩ := State.frames_cons hr
      show ({ U with heap := s₂.heap, slotsUsed := s₂.slotsUsed } : State) = { U.setFrames U.frames with heap := s₂.heap, slotsUsed := s₂.slotsUsed }
      rw [State.setFrames_self ht]
    subst hg
    refine Or.inr ⟨q, ⟨(({ U with heap := s₂.heap, slotsUsed := s₂.slotsUsed } : State).setVm s₂.vm), Ls ++ L, c0 + mc, s0 + ms⟩,
      ⟨X.admits, X.cas, X.clock, X.frames, X.room, X.hears, X.method, X.code, (X.here.setHeapUsed s₂.heap s₂.slotsUsed).setVm hW'.alike, X.tail, State.WarmedH.trans X.warmed hW', X.limits, X.bytes, X.same.trans (hsame.setVm s.vm)⟩,
      ⟨g, mk, s₂, L, E, ce, rfl, rfl, hx, hce, hcv, hcl, rfl, hL, rfl, rfl⟩, ?_⟩
    show Steps p.tables e below _ (((({ U with heap := s₂.heap, slotsUsed := s₂.slotsUsed } : State).setVm s₂.vm).setTop g).pushFrame (.throwing q))
    rw [← hs₂]
    exact hsteps
end Payer
section Calls
variable {p : Program} {l : Launch} {e : Env} {R : Room} {s : State} {m : MethodId} {args : Array Value} {below : List Frame} {meth : Method} {c : Code} {T : State} {locs : List Loc} {cells slots : Nat}
theorem vx_callV (X : Stand p l e R s m args below meth c T locs cells slots) (hexec : p.tables.exec = Jvm.exec) {own C : String} {index : Nat} {y : MethodName} {bytes : ByteArray} {maxL : Nat} {ret : Option FieldType}
    (hown : s.vm.findClass own = some m.cls) (hlink : (Cond.methodLink own index y).before args s = true) (hinst : (Cond.instanceMethod y).before args s = true) (hsel : (Cond.selects C y y).before args s = true)
    (hcode : (Cond.code y bytes maxL ret).before args s = true) (hy : y.cls ≠ "java/lang/invoke/MethodHandle" ∧ y.cls ≠ "java/lang/invoke/VarHandle")
    {W9 : Nat} {Pre : Pt → Array Value → Prop} {Post : Pt → Array Value → Option Value → Pt → Prop} {PostX : Pt → Array Value → Addr → Pt → Prop} (hK : vx_Back l R p e below s args y 3 W9 Pre Post PostX)
    {b : Addr} {cellB : Cell} (hcell : T.heap[b]? = some cellB) (hobj : cellB.vm.isStatics = false) (hcls : s.vm.findClass C = some cellB.cls)
    {g : JFrame} (hg : g.method = m) (hsize : g.locals.size = c.maxLocals) {argsL rest : List Value} (hlen : ∀ sig, parseMethodDescriptor y.desc = some sig → argsL.length = sig.parameters.length)
    (hstack : g.stack = argsL.reverse ++ .ref b :: rest) (hW : 2 * g.monitorRoom + (rest.map fun v => v.category).sum ≤ W9) (hdg : decode c.code g.pc = .ok (.invokevirtual index, 3))
    (hpre : ∀ vm₁, s.WarmedH vm₁ → Pre ⟨T.setVm vm₁, locs, cells, slots⟩ (Value.ref b :: argsL).toArray) :
    (∃ (v : Option Value) (vm₁ : Vm) (B : Pt), s.WarmedH vm₁ ∧ Stand p l e R s m args below meth c B.U B.locs B.cells B.slots ∧ Post ⟨T.setVm vm₁, locs, cells, slots⟩ (Value.ref b :: argsL).toArray v B ∧
      ∀ target, Steps p.tables e below (B.U.setTop { g with pc := g.pc + 3, stack := v.toList ++ rest }) target → Steps p.tables e below (T.setTop g) target) ∨
    (∃ (q : Addr) (vm₁ : Vm) (B : Pt), s.WarmedH vm₁ ∧ Stand p l e R s m args below meth c B.U B.locs B.cells B.slots ∧ PostX ⟨T.setVm vm₁, locs, cells, slots⟩ (Value.ref b :: argsL).toArray q B ∧
      Steps p.tables e below (T.setTop g) ((B.U.setTop { g with stack := rest }).pushFrame (.throwing q))) := by
  obtain ⟨mk, methM, hnamed, hmethM, hstM, habM⟩ := Cond.instanceMethod_spec hinst
  obtain ⟨methM', cM, hmethM', -, -, -, -, -, -, hsigM⟩ := Cond.code_spec hnamed hcode
  cases hmethM.symm.trans hmethM'
  obtain ⟨c2, r2, m2, q1, q2, q3, q4, kP, hkP, hkPi⟩ := Cond.selects_spec hsel
  cases hcls.symm.trans q1
  cases (State.methodFound?_of_named hnamed hy).symm.trans q2
  cases hnamed.symm.trans q3
  have hselP : selectMethod e.platform s.vm cellB.cls mk = .method mk := by rw [Launch.admits_selectMethod X.admits]; exact q4
  obtain ⟨vm₁, X₁, hstep₁⟩ := X.invokevirtual hexec hown hlink hnamed hmethM hstM hkP hkPi hy (a := b) (cell := cellB) hcell
    (fun z h => by rw [h] at hobj; cases hobj) hselP hmethM habM hkP hkPi (g := g) hg (argsL := argsL) (rest := rest) (hlen _ hsigM) hstack hdg
  rcases hK m meth c ⟨T.setVm vm₁, locs, cells, slots⟩ { g with stack := rest } (.invokevirtual index) mk (Value.ref b :: argsL).toArray X₁ hg hsize hdg hW (X₁.named hnamed) (hpre vm₁ X₁.warmed) with ⟨v, B, X', hpost, hsteps⟩ | ⟨q, B, X', hpost, hsteps⟩
  · exact Or.inl ⟨v, vm₁, B, X₁.warmed, X', hpost, fun target h => hstep₁ _ fun acts => by rw [doInvoke_state]; exact hsteps.trans h⟩
  · exact Or.inr ⟨q, vm₁, B, X₁.warmed, X', hpost, hstep₁ _ fun acts => by rw [doInvoke_state]; exact hsteps⟩
theorem vx_callS (X : Stand p l e R s m args below meth c T locs cells slots) (hexec : p.tables.exec = Jvm.exec) {own : String} {index : Nat} {y : MethodName} {bytes : ByteArray} {maxL : Nat} {ret : Option FieldType}
    (hown : s.vm.findClass own = some m.cls) (hlink : (Cond.methodLink own index y).before args s = true) (hstat : (Cond.static y).before args s = true) (hinit : (Cond.initialized y.cls).before args s = true)
    (hcode : (Cond.code y bytes maxL ret).before args s = true) (hy : y.cls ≠ "java/lang/invoke/MethodHandle" ∧ y.cls ≠ "java/lang/invoke/VarHandle")
    {W9 : Nat} {Pre : Pt → Array Value → Prop} {Post : Pt → Array Value → Option Value → Pt → Prop} {PostX : Pt → Array Value → Addr → Pt → Prop} (hK : vx_Back l R p e below s args y 3 W9 Pre Post PostX)
    {g : JFrame} (hg : g.method = m) (hsize : g.locals.size = c.maxLocals) {argsL rest : List Value} (hlen : ∀ sig, parseMethodDescriptor y.desc = some sig → argsL.length = sig.parameters.length)
    (hstack : g.stack = argsL.reverse ++ rest) (hW : 2 * g.monitorRoom + (rest.map fun v => v.category).sum ≤ W9) (hdg : decode c.code g.pc = .ok (.invokestatic index, 3))
    (hpre : ∀ vm₁, s.WarmedH vm₁ → Pre ⟨T.setVm vm₁, locs, cells, slots⟩ argsL.toArray) :
    (∃ (v : Option Value) (vm₁ : Vm) (B : Pt), s.WarmedH vm₁ ∧ Stand p l e R s m args below meth c B.U B.locs B.cells B.slots ∧ Post ⟨T.setVm vm₁, locs, cells, slots⟩ argsL.toArray v B ∧
      ∀ target, Steps p.tables e below (B.U.setTop { g with pc := g.pc + 3, stack := v.toList ++ rest }) target → Steps p.tables e below (T.setTop g) target) ∨
    (∃ (q : Addr) (vm₁ : Vm) (B : Pt), s.WarmedH vm₁ ∧ Stand p l e R s m args below meth c B.U B.locs B.cells B.slots ∧ PostX ⟨T.setVm vm₁, locs, cells, slots⟩ argsL.toArray q B ∧
      Steps p.tables e below (T.setTop g) ((B.U.setTop { g with stack := rest }).pushFrame (.throwing q))) := by
  obtain ⟨mk, hnamed⟩ := Cond.code_named hcode
  obtain ⟨methM, cM, hmethM, -, -, -, -, -, -, hsigM⟩ := Cond.code_spec hnamed hcode
  have hstatic : methM.isStatic = true := Cond.static_spec hnamed hmethM hstat
  obtain ⟨kP, hkP, -⟩ := className_of_methodNamed hnamed
  have hinitP : kP.init = .initialized := Cond.initialized_spec (findClass_of_methodNamed hnamed) hkP hinit
  obtain ⟨vm₁, X₁, hstep₁⟩ := X.invokestatic hexec hown hlink hnamed hmethM hstatic hkP hinitP hy (g := g) hg (argsL := argsL) (rest := rest) (hlen _ hsigM) hstack hdg
  rcases hK m meth c ⟨T.setVm vm₁, locs, cells, slots⟩ { g with stack := rest } (.invokestatic index) mk argsL.toArray X₁ hg hsize hdg hW (X₁.named hnamed) (hpre vm₁ X₁.warmed) with ⟨v, B, X', hpost, hsteps⟩ | ⟨q, B, X', hpost, hsteps⟩
  · exact Or.inl ⟨v, vm₁, B, X₁.warmed, X', hpost, fun target h => hstep₁ _ fun acts => by rw [doInvoke_state]; exact hsteps.trans h⟩
  · exact Or.inr ⟨q, vm₁, B, X₁.warmed, X', hpost, hstep₁ _ fun acts => by rw [doInvoke_state]; exact hsteps⟩
end Calls
theorem vx_cls {s : State} {T : State} {vm₁ : Vm} {E : String} {k : ClassId} (hW : s.WarmedH vm₁) (h : (T.setVm vm₁).vm.findClass E = some k) : s.vm.findClass E = some k := by
  have h1 : vm₁.findClass E = some k := h
  rw [hW.alike.findClass] at h1
  exact h1
/-- the method's frame g, with q thrown over it -/
def vx_W (p : Program) (l : Launch) (e : Env) (R : Room) (s : State) (m : MethodId) (args : Array Value) (below : List Frame) (meth : Method) (c : Code) (H : Heap) (locs : List Loc) (cells slots : Nat) (Q : State → Prop) (g : JFrame) (q : Addr) : Prop :=
  ∀ T : State, T.heap = H → Stand p l e R s m args below meth c T locs cells slots → ∃ t, Steps p.tables e below ((T.setTop g).pushFrame (.throwing q)) t ∧ Q t
def vx_Run (p : Program) (l : Launch) (e : Env) (R : Room) (s : State) (m : MethodId) (args : Array Value) (below : List Frame) (meth : Method) (c : Code) (H : Heap) (locs : List Loc) (cells slots mc ms : Nat) (g : JFrame) (rest : List Value) (Qa : State → Outcome → State → Prop) (XC : String → State → State → Prop) (free : Addr → Prop) : Prop :=
  ∀ T : State, T.heap = H → Stand p l e R s m args below meth c T locs cells slots →
    (∃ (v : Option Value) (st₀ t T' : State) (L : List Loc), st₀.heap = H ∧ Stand p l e R s m args below meth c T' (locs ++ L) (cells + mc) (slots + ms) ∧ (∀ q ∈ L, free q.base) ∧ T'.heap = t.heap ∧ T'.vm = t.vm ∧ Qa st₀ (.returned v) t ∧
      Goes p e below T g T' { g with pc := g.pc + 3, stack := v.toList ++ rest }) ∨
    (∃ (q : Addr) (st₀ t T' : State) (L : List Loc) (E : String) (ce : Cell), st₀.heap = H ∧ Stand p l e R s m args below meth c T' (locs ++ L) (cells + mc) (slots + ms) ∧ (∀ z ∈ L, free z.base) ∧ T'.heap = t.heap ∧ T'.vm = t.vm ∧ XC E st₀ t ∧ t.heap[q]? = some ce ∧ ce.vm = .none ∧ s.vm.findClass E = some ce.cls ∧
      Steps p.tables e below (T.setTop g) ((T'.setTop { g with stack := rest }).pushFrame (.throwing q)))
def vx_X {S : Type} (px : S → Prop) (B : String → S → State → Prop) (A : Nat → Prop) : String → State → State → Prop := fun E st t => ∃ u : S, px u ∧ B E u t ∧ va_F A st t
section Runs
variable {p : Program} {l : Launch} {e : Env} {R : Room} {s : State} {m : MethodId} {args : Array Value} {below : List Frame} {meth : Method} {c : Code} {H : Heap} {locs : List Loc} {cells slots : Nat}
variable {y : MethodName} {bytes cc : ByteArray} {maxL nL mc ms n index : Nat} {ret : Option FieldType} {ws : List Cond} {rm : Room} {Pc : Array Value → State → Prop} {Qc : Array Value → State → Outcome → State → Prop} {XC : String → State → State → Prop} {free : Addr → Prop} {Ts : List Cond} {own C : String} {b : Addr} {As rest : List Value} {g : JFrame}
theorem vx_callBack (cb : CallB R s args own index y bytes maxL ret ws rm mc ms n) (hM : vx_Met l y ws rm Pc Qc XC mc ms free) (hbl : FrameBlind Pc) : vx_Back l R p e below s args y 3 8 (PreOf R mc ms Pc) (PostOf Qc mc ms free) (vx_Post XC mc ms free) := by
  obtain ⟨hrc, hrs, hfr, hlo, hws, hcw, -, hini, -⟩ := cb
  exact vx_back (bytes := bytes) (maxL := maxL) (ret := ret) hM hbl hrc hrs hfr hlo hws hcw (fun a' U hW => word_at hW (Or.inl (by first | rfl | simp [Cond.onTables, Cond.keeps, Cond.steady])) hini)
theorem vx_runV (S : CallFix p m c cc nL s args Ts own) (hM : vx_Met l y ws rm Pc Qc XC mc ms free) (cw : CallW R s args own C index y bytes maxL ret ws rm mc ms n) (hp : PreV s H C b Pc As)
    (hg : g.method = m) (hn : As.length = n) (hsize : g.locals.size = nL) (hstack : g.stack = As.reverse ++ .ref b :: rest) (hW : 2 * g.monitorRoom + (rest.map fun v => v.category).sum ≤ 8) (hdg : decode cc g.pc = .ok (.invokevirtual index, 3)) (hf : cells + mc ≤ R.cells ∧ slots + ms ≤ R.slots) :
    vx_Run p l e R s m args below meth c H locs cells slots mc ms g rest (Qc (Value.ref b :: As).toArray) XC free := by
  have hK : vx_Back l R p e below s args y 3 8 (PreOf R mc ms Pc) (PostOf Qc mc ms free) (vx_Post XC mc ms free) := vx_callBack cw.1 hM hp.1
  obtain ⟨⟨-, -, -, -, -, -, hcode, -, hy, hlen, hl⟩, hin, hse⟩ := cw
  obtain ⟨hx, hb, hml, ho, -⟩ := S
  obtain ⟨-, ⟨cellB, hcB, hoB, hclB⟩, hPc⟩ := hp
  intro T hT X
  rcases vx_callV X hx (C := C) (bytes := bytes) (maxL := maxL) (ret := ret) ho hl hin hse hcode hy hK (by rw [hT]; exact hcB) hoB hclB hg (hsize.trans hml.symm) (argsL := As) (rest := rest) (fun sig h => hn.trans (hlen sig h)) hstack hW (by rw [hb]; exact hdg)
    (fun vm₁ hW₁ => ⟨hf.1, hf.2, hPc (T.setVm vm₁) hT hW₁⟩) with ⟨v, vm₁, ⟨U', l2, c2, s2⟩, hW₁, X', ⟨g', mk, t, L, e1, e2, hq, h1, hL, h2, h3⟩, st⟩ | ⟨q, vm₁, ⟨U', l2, c2, s2⟩, hW₁, X', ⟨g', mk, t, L, E, ce, e1, e2, hq, hce, hcv, hcl, h1, hL, h2, h3⟩, st⟩
  · dsimp only [Pt.U, Pt.locs, Pt.cells, Pt.slots] at X' e1 e2 h1 h2 h3 st
    subst h1; subst h2; subst h3
    exact Or.inl ⟨v, (T.setVm vm₁).calling g' mk (Value.ref b :: As).toArray, t, U', L, hT, X', hL, e1, e2, hq, st⟩
  · dsimp only [Pt.U, Pt.locs, Pt.cells, Pt.slots] at X' e1 e2 h1 h2 h3 st hcl
    subst h1; subst h2; subst h3
    exact Or.inr ⟨q, (T.setVm vm₁).calling g' mk (Value.ref b :: As).toArray, t, U', L, E, ce, hT, X', hL, e1, e2, hq, hce, hcv, vx_cls hW₁ hcl, st⟩
theorem vx_runS (S : CallFix p m c cc nL s args Ts own) (hM : vx_Met l y ws rm Pc Qc XC mc ms free) (cw : CallB R s args own index y bytes maxL ret ws rm mc ms n ∧ (Cond.static y).before args s = true) (hp : PreS s H Pc As)
    (hg : g.method = m) (hn : As.length = n) (hsize : g.locals.size = nL) (hstack : g.stack = As.reverse ++ rest) (hW : 2 * g.monitorRoom + (rest.map fun v => v.category).sum ≤ 8) (hdg : decode cc g.pc = .ok (.invokestatic index, 3)) (hf : cells + mc ≤ R.cells ∧ slots + ms ≤ R.slots) :
    vx_Run p l e R s m args below meth c H locs cells slots mc ms g rest (Qc As.toArray) XC free := by
  have hK : vx_Back l R p e below s args y 3 8 (PreOf R mc ms Pc) (PostOf Qc mc ms free) (vx_Post XC mc ms free) := vx_callBack cw.1 hM hp.1
  obtain ⟨⟨-, -, -, -, -, -, hcode, hini, hy, hlen, hl⟩, hstt⟩ := cw
  obtain ⟨hx, hb, hml, ho, -⟩ := S
  intro T hT X
  rcases vx_callS X hx (bytes := bytes) (maxL := maxL) (ret := ret) ho hl hstt hini hcode hy hK hg (hsize.trans hml.symm) (argsL := As) (rest := rest) (fun sig h => hn.trans (hlen sig h)) hstack hW (by rw [hb]; exact hdg)
    (fun vm₁ hW₁ => ⟨hf.1, hf.2, hp.2 (T.setVm vm₁) hT hW₁⟩) with ⟨v, vm₁, ⟨U', l2, c2, s2⟩, hW₁, X', ⟨g', mk, t, L, e1, e2, hq, h1, hL, h2, h3⟩, st⟩ | ⟨q, vm₁, ⟨U', l2, c2, s2⟩, hW₁, X', ⟨g', mk, t, L, E, ce, e1, e2, hq, hce, hcv, hcl, h1, hL, h2, h3⟩, st⟩
  · dsimp only [Pt.U, Pt.locs, Pt.cells, Pt.slots] at X' e1 e2 h1 h2 h3 st
    subst h1; subst h2; subst h3
    exact Or.inl ⟨v, (T.setVm vm₁).calling g' mk As.toArray, t, U', L, hT, X', hL, e1, e2, hq, st⟩
  · dsimp only [Pt.U, Pt.locs, Pt.cells, Pt.slots] at X' e1 e2 h1 h2 h3 st hcl
    subst h1; subst h2; subst h3
    exact Or.inr ⟨q, (T.setVm vm₁).calling g' mk As.toArray, t, U', L, E, ce, hT, X', hL, e1, e2, hq, hce, hcv, vx_cls hW₁ hcl, st⟩
end Runs
section Rows
variable {p : Program} {l : Launch} {e : Env} {R : Room} {s : State} {m : MethodId} {args : Array Value} {below : List Frame} {meth : Method} {c : Code} {H : Heap} {locs : List Loc} {cells slots : Nat} {Q : State → Prop}
variable {mc ms : Nat} {free : Addr → Prop} {A0 A1 : Nat → Prop} {H0 : Heap} {a : Array Value} {pc : Nat} {ls : Array Slot} {st0 rest : List Value}
theorem vx_keep {st₀ t T' : State} {L : List Loc} (h0 : st₀.heap = H) (e1 : T'.heap = t.heap) (hS : va_S A0 H0 H locs) (hA : ∀ q, q < H.size → A1 q → A0 q) (hf : ∀ q, free q → A0 q) (hL : ∀ q ∈ L, free q.base) (hF : va_F A1 st₀ t) :
    H.size ≤ T'.heap.size ∧ (∀ q : Nat, q < H.size → ¬ A1 q → T'.heap[q]? = H[q]?) ∧ va_S A0 H0 T'.heap (locs ++ L) := by
  obtain ⟨hz, hk⟩ := hF
  rw [h0] at hz hk
  exact ⟨by rw [e1]; exact hz, fun q h1 h2 => by rw [e1]; exact hk q h1 h2,
    ⟨Nat.le_trans hS.1 (by rw [e1]; exact hz), fun q h1 h2 => by rw [e1, hk q (Nat.lt_of_lt_of_le h1 hS.1) (fun z => h2 (hA q (Nat.lt_of_lt_of_le h1 hS.1) z))]; exact hS.2.1 q h1 h2, fun q hq => by
      rcases List.mem_append.mp hq with h | h
      · exact hS.2.2 q h
      · exact hf _ (hL q h)⟩⟩
theorem vx_calli {S SX : Type} {post : Int32 → S → Prop} {px : SX → Prop} {B : S → State → Prop} {BX : String → SX → State → Prop} {AX : Nat → Prop} (hr : vx_Run p l e R s m args below meth c H locs cells slots mc ms (F0 m pc ls st0) rest (va_Qi post B A1 a) (vx_X px BX AX) free) (hS : va_S A0 H0 H locs) (hA : ∀ q, q < H.size → A1 q → A0 q) (hf : ∀ q, free q → A0 q) (hAX : ∀ q, q < H.size → AX q → A0 q)
    (kx : ∀ (E : String) (ce : Cell) (q9 : Addr) (u : SX) (t : State) (H1 : Heap) (locs1 : List Loc), t.heap = H1 → s.vm.Alike t.vm → px u → BX E u t → H.size ≤ H1.size → (∀ q : Nat, q < H.size → ¬ AX q → H1[q]? = H[q]?) → va_S A0 H0 H1 locs1 → H1[q9]? = some ce → ce.vm = .none → s.vm.findClass E = some ce.cls → vx_W p l e R s m args below meth c H1 locs1 (cells + mc) (slots + ms) Q (F0 m pc ls rest) q9)
    (kk : ∀ (r : Int32) (u : S) (t : State) (H1 : Heap) (locs1 : List Loc), t.heap = H1 → s.vm.Alike t.vm → post r u → B u t → H.size ≤ H1.size → (∀ q : Nat, q < H.size → ¬ A1 q → H1[q]? = H[q]?) → va_S A0 H0 H1 locs1 → W p l e R s m args below meth c H1 locs1 (cells + mc) (slots + ms) Q (F0 m (pc + 3) ls (.int r :: rest))) : W p l e R s m args below meth c H locs cells slots Q (F0 m pc ls st0) := by
  intro T hT X
  rcases hr T hT X with ⟨v, st₀, t, T', L, h0, X', hL, e1, e2, ⟨⟨r, u, hv, hp, hb⟩, hF⟩, st⟩ | ⟨q, st₀, t, T', L, E, ce, h0, X', hL, e1, e2, ⟨u, hp, hb, hF⟩, hce, hcv, hcl, st⟩
  · cases hv
    obtain ⟨k1, k2, k3⟩ := vx_keep h0 e1 hS hA hf hL hF
    obtain ⟨t2, a1, b1⟩ := kk r u t T'.heap (locs ++ L) e1.symm (by rw [← e2]; exact X'.warmed.alike) hp hb k1 k2 k3 T' rfl X'
    exact ⟨t2, st t2 a1, b1⟩
  · obtain ⟨k1, k2, k3⟩ := vx_keep h0 e1 hS hAX hf hL hF
    obtain ⟨t2, a1, b1⟩ := kx E ce q u t T'.heap (locs ++ L) e1.symm (by rw [← e2]; exact X'.warmed.alike) hp hb k1 k2 k3 (by rw [e1]; exact hce) hcv hcl T' rfl X'
    exact ⟨t2, st.trans a1, b1⟩
theorem vx_calll {S SX : Type} {post : Int64 → S → Prop} {px : SX → Prop} {B : S → State → Prop} {BX : String → SX → State → Prop} {AX : Nat → Prop} (hr : vx_Run p l e R s m args below meth c H locs cells slots mc ms (F0 m pc ls st0) rest (va_Ql post B A1 a) (vx_X px BX AX) free) (hS : va_S A0 H0 H locs) (hA : ∀ q, q < H.size → A1 q → A0 q) (hf : ∀ q, free q → A0 q) (hAX : ∀ q, q < H.size → AX q → A0 q)
    (kx : ∀ (E : String) (ce : Cell) (q9 : Addr) (u : SX) (t : State) (H1 : Heap) (locs1 : List Loc), t.heap = H1 → s.vm.Alike t.vm → px u → BX E u t → H.size ≤ H1.size → (∀ q : Nat, q < H.size → ¬ AX q → H1[q]? = H[q]?) → va_S A0 H0 H1 locs1 → H1[q9]? = some ce → ce.vm = .none → s.vm.findClass E = some ce.cls → vx_W p l e R s m args below meth c H1 locs1 (cells + mc) (slots + ms) Q (F0 m pc ls rest) q9)
    (kk : ∀ (r : Int64) (u : S) (t : State) (H1 : Heap) (locs1 : List Loc), t.heap = H1 → s.vm.Alike t.vm → post r u → B u t → H.size ≤ H1.size → (∀ q : Nat, q < H.size → ¬ A1 q → H1[q]? = H[q]?) → va_S A0 H0 H1 locs1 → W p l e R s m args below meth c H1 locs1 (cells + mc) (slots + ms) Q (F0 m (pc + 3) ls (.long r :: rest))) : W p l e R s m args below meth c H locs cells slots Q (F0 m pc ls st0) := by
  intro T hT X
  rcases hr T hT X with ⟨v, st₀, t, T', L, h0, X', hL, e1, e2, ⟨⟨r, u, hv, hp, hb⟩, hF⟩, st⟩ | ⟨q, st₀, t, T', L, E, ce, h0, X', hL, e1, e2, ⟨u, hp, hb, hF⟩, hce, hcv, hcl, st⟩
  · cases hv
    obtain ⟨k1, k2, k3⟩ := vx_keep h0 e1 hS hA hf hL hF
    obtain ⟨t2, a1, b1⟩ := kk r u t T'.heap (locs ++ L) e1.symm (by rw [← e2]; exact X'.warmed.alike) hp hb k1 k2 k3 T' rfl X'
    exact ⟨t2, st t2 a1, b1⟩
  · obtain ⟨k1, k2, k3⟩ := vx_keep h0 e1 hS hAX hf hL hF
    obtain ⟨t2, a1, b1⟩ := kx E ce q u t T'.heap (locs ++ L) e1.symm (by rw [← e2]; exact X'.warmed.alike) hp hb k1 k2 k3 (by rw [e1]; exact hce) hcv hcl T' rfl X'
    exact ⟨t2, st.trans a1, b1⟩
theorem vx_callf {S SX : Type} {post : UInt32 → S → Prop} {px : SX → Prop} {B : S → State → Prop} {BX : String → SX → State → Prop} {AX : Nat → Prop} (hr : vx_Run p l e R s m args below meth c H locs cells slots mc ms (F0 m pc ls st0) rest (va_Qf post B A1 a) (vx_X px BX AX) free) (hS : va_S A0 H0 H locs) (hA : ∀ q, q < H.size → A1 q → A0 q) (hf : ∀ q, free q → A0 q) (hAX : ∀ q, q < H.size → AX q → A0 q)
    (kx : ∀ (E : String) (ce : Cell) (q9 : Addr) (u : SX) (t : State) (H1 : Heap) (locs1 : List Loc), t.heap = H1 → s.vm.Alike t.vm → px u → BX E u t → H.size ≤ H1.size → (∀ q : Nat, q < H.size → ¬ AX q → H1[q]? = H[q]?) → va_S A0 H0 H1 locs1 → H1[q9]? = some ce → ce.vm = .none → s.vm.findClass E = some ce.cls → vx_W p l e R s m args below meth c H1 locs1 (cells + mc) (slots + ms) Q (F0 m pc ls rest) q9)
    (kk : ∀ (r : UInt32) (u : S) (t : State) (H1 : Heap) (locs1 : List Loc), t.heap = H1 → s.vm.Alike t.vm → post r u → B u t → H.size ≤ H1.size → (∀ q : Nat, q < H.size → ¬ A1 q → H1[q]? = H[q]?) → va_S A0 H0 H1 locs1 → W p l e R s m args below meth c H1 locs1 (cells + mc) (slots + ms) Q (F0 m (pc + 3) ls (.float r :: rest))) : W p l e R s m args below meth c H locs cells slots Q (F0 m pc ls st0) := by
  intro T hT X
  rcases hr T hT X with ⟨v, st₀, t, T', L, h0, X', hL, e1, e2, ⟨⟨r, u, hv, hp, hb⟩, hF⟩, st⟩ | ⟨q, st₀, t, T', L, E, ce, h0, X', hL, e1, e2, ⟨u, hp, hb, hF⟩, hce, hcv, hcl, st⟩
  · cases hv
    obtain ⟨k1, k2, k3⟩ := vx_keep h0 e1 hS hA hf hL hF
    obtain ⟨t2, a1, b1⟩ := kk r u t T'.heap (locs ++ L) e1.symm (by rw [← e2]; exact X'.warmed.alike) hp hb k1 k2 k3 T' rfl X'
    exact ⟨t2, st t2 a1, b1⟩
  · obtain ⟨k1, k2, k3⟩ := vx_keep h0 e1 hS hAX hf hL hF
    obtain ⟨t2, a1, b1⟩ := kx E ce q u t T'.heap (locs ++ L) e1.symm (by rw [← e2]; exact X'.warmed.alike) hp hb k1 k2 k3 (by rw [e1]; exact hce) hcv hcl T' rfl X'
    exact ⟨t2, st.trans a1, b1⟩
theorem vx_calld {S SX : Type} {post : UInt64 → S → Prop} {px : SX → Prop} {B : S → State → Prop} {BX : String → SX → State → Prop} {AX : Nat → Prop} (hr : vx_Run p l e R s m args below meth c H locs cells slots mc ms (F0 m pc ls st0) rest (va_Qd post B A1 a) (vx_X px BX AX) free) (hS : va_S A0 H0 H locs) (hA : ∀ q, q < H.size → A1 q → A0 q) (hf : ∀ q, free q → A0 q) (hAX : ∀ q, q < H.size → AX q → A0 q)
    (kx : ∀ (E : String) (ce : Cell) (q9 : Addr) (u : SX) (t : State) (H1 : Heap) (locs1 : List Loc), t.heap = H1 → s.vm.Alike t.vm → px u → BX E u t → H.size ≤ H1.size → (∀ q : Nat, q < H.size → ¬ AX q → H1[q]? = H[q]?) → va_S A0 H0 H1 locs1 → H1[q9]? = some ce → ce.vm = .none → s.vm.findClass E = some ce.cls → vx_W p l e R s m args below meth c H1 locs1 (cells + mc) (slots + ms) Q (F0 m pc ls rest) q9)
    (kk : ∀ (r : UInt64) (u : S) (t : State) (H1 : Heap) (locs1 : List Loc), t.heap = H1 → s.vm.Alike t.vm → post r u → B u t → H.size ≤ H1.size → (∀ q : Nat, q < H.size → ¬ A1 q → H1[q]? = H[q]?) → va_S A0 H0 H1 locs1 → W p l e R s m args below meth c H1 locs1 (cells + mc) (slots + ms) Q (F0 m (pc + 3) ls (.double r :: rest))) : W p l e R s m args below meth c H locs cells slots Q (F0 m pc ls st0) := by
  intro T hT X
  rcases hr T hT X with ⟨v, st₀, t, T', L, h0, X', hL, e1, e2, ⟨⟨r, u, hv, hp, hb⟩, hF⟩, st⟩ | ⟨q, st₀, t, T', L, E, ce, h0, X', hL, e1, e2, ⟨u, hp, hb, hF⟩, hce, hcv, hcl, st⟩
  · cases hv
    obtain ⟨k1, k2, k3⟩ := vx_keep h0 e1 hS hA hf hL hF
    obtain ⟨t2, a1, b1⟩ := kk r u t T'.heap (locs ++ L) e1.symm (by rw [← e2]; exact X'.warmed.alike) hp hb k1 k2 k3 T' rfl X'
    exact ⟨t2, st t2 a1, b1⟩
  · obtain ⟨k1, k2, k3⟩ := vx_keep h0 e1 hS hAX hf hL hF
    obtain ⟨t2, a1, b1⟩ := kx E ce q u t T'.heap (locs ++ L) e1.symm (by rw [← e2]; exact X'.warmed.alike) hp hb k1 k2 k3 (by rw [e1]; exact hce) hcv hcl T' rfl X'
    exact ⟨t2, st.trans a1, b1⟩
theorem vx_callv {S SX : Type} {post : S → Prop} {px : SX → Prop} {B : S → State → Prop} {BX : String → SX → State → Prop} {AX : Nat → Prop} (hr : vx_Run p l e R s m args below meth c H locs cells slots mc ms (F0 m pc ls st0) rest (va_Qv post B A1 a) (vx_X px BX AX) free) (hS : va_S A0 H0 H locs) (hA : ∀ q, q < H.size → A1 q → A0 q) (hf : ∀ q, free q → A0 q) (hAX : ∀ q, q < H.size → AX q → A0 q)
    (kx : ∀ (E : String) (ce : Cell) (q9 : Addr) (u : SX) (t : State) (H1 : Heap) (locs1 : List Loc), t.heap = H1 → s.vm.Alike t.vm → px u → BX E u t → H.size ≤ H1.size → (∀ q : Nat, q < H.size → ¬ AX q → H1[q]? = H[q]?) → va_S A0 H0 H1 locs1 → H1[q9]? = some ce → ce.vm = .none → s.vm.findClass E = some ce.cls → vx_W p l e R s m args below meth c H1 locs1 (cells + mc) (slots + ms) Q (F0 m pc ls rest) q9)
    (kk : ∀ (u : S) (t : State) (H1 : Heap) (locs1 : List Loc), t.heap = H1 → s.vm.Alike t.vm → post u → B u t → H.size ≤ H1.size → (∀ q : Nat, q < H.size → ¬ A1 q → H1[q]? = H[q]?) → va_S A0 H0 H1 locs1 → W p l e R s m args below meth c H1 locs1 (cells + mc) (slots + ms) Q (F0 m (pc + 3) ls (rest))) : W p l e R s m args below meth c H locs cells slots Q (F0 m pc ls st0) := by
  intro T hT X
  rcases hr T hT X with ⟨v, st₀, t, T', L, h0, X', hL, e1, e2, ⟨⟨u, hv, hp, hb⟩, hF⟩, st⟩ | ⟨q, st₀, t, T', L, E, ce, h0, X', hL, e1, e2, ⟨u, hp, hb, hF⟩, hce, hcv, hcl, st⟩
  · cases hv
    obtain ⟨k1, k2, k3⟩ := vx_keep h0 e1 hS hA hf hL hF
    obtain ⟨t2, a1, b1⟩ := kk u t T'.heap (locs ++ L) e1.symm (by rw [← e2]; exact X'.warmed.alike) hp hb k1 k2 k3 T' rfl X'
    exact ⟨t2, st t2 a1, b1⟩
  · obtain ⟨k1, k2, k3⟩ := vx_keep h0 e1 hS hAX hf hL hF
    obtain ⟨t2, a1, b1⟩ := kx E ce q u t T'.heap (locs ++ L) e1.symm (by rw [← e2]; exact X'.warmed.alike) hp hb k1 k2 k3 (by rw [e1]; exact hce) hcv hcl T' rfl X'
    exact ⟨t2, st.trans a1, b1⟩
/-- caught by the row x of this method's table; the rows ahead don't take it -/
theorem vx_catch {own name : String} {E : String} {ce : Cell} {q : Addr} (hown : s.vm.findClass own = some m.cls) (pre : List ExceptionTableEntry) (x : ExceptionTableEntry) (suf : List ExceptionTableEntry) (hsplit : c.exceptionTable.toList = pre ++ x :: suf)
    (hpass : ∀ z ∈ pre, covers z pc = false ∨ (z.catchType ≠ 0 ∧ ∃ nm : String, (Cond.classLink own z.catchType nm).before args s = true ∧ va_Nc E nm s)) (hx : covers x pc = true) (h0 : x.catchType ≠ 0)
    (hlink : (Cond.classLink own x.catchType name).before args s = true) (hcast : (Cond.castable E name).before args s = true) (hcell : H[q]? = some ce) (hv : ce.vm = .none) (hcl : s.vm.findClass E = some ce.cls)
    (kk : W p l e R s m args below meth c H locs cells slots Q (F0 m x.handlerPc ls [.ref q])) : vx_W p l e R s m args below meth c H locs cells slots Q (F0 m pc ls rest) q := by
  intro T hT X
  have hpl : e.platform.magicAccessors = ({} : Platform).magicAccessors := by rw [X.admits.platform]
  obtain ⟨c3, c4, hc3, hc4, hasg⟩ := Cond.castable_spec hcast
  cases Option.some.inj (hc3.symm.trans hcl)
  obtain ⟨c5, hc5, hcl5⟩ := Cond.classLink_spec hown hlink e.platform hpl
  cases Option.some.inj (hc4.symm.trans hc5)
  obtain ⟨vm', X', st⟩ := X.thenCaughtThrough q (g := F0 m pc ls rest) rfl (Steps.refl _) (by rw [hT]; exact hcell) (by rw [hv]; rfl) (by obtain ⟨k9, h9, -⟩ := Vm.findClass_spec hcl; exact ⟨k9, h9⟩) pre x suf hsplit
    (fun z hz => by
      rcases hpass z hz with h | ⟨hz0, nm, hl1, hn1⟩
      · exact Or.inl h
      · obtain ⟨c6, hc6, hcl6⟩ := Cond.classLink_spec hown hl1 e.platform hpl
        obtain ⟨a8, b8, h1, h2, h3⟩ := hn1
        cases Option.some.inj (h1.symm.trans hcl)
        cases Option.some.inj (h2.symm.trans hc6)
        exact Or.inr ⟨hz0, _, hcl6, h3⟩) hx (Or.inr ⟨h0, c4, hcl5, hasg⟩)
  obtain ⟨t, a1, b1⟩ := kk (T.setVm vm') hT X'
  exact ⟨t, st.trans a1, b1⟩
end Rows
section Ends
variable {p : Program} {l : Launch} {e : Env} {R : Room} {s : State} {m : MethodId} {args : Array Value} {below : List Frame} {meth : Method} {c : Code} {H : Heap} {locs : List Loc} {cells slots : Nat} {Q : State → Prop}
variable {mc ms : Nat} {free : Addr → Prop} {A0 A1 : Nat → Prop} {H0 : Heap} {a : Array Value} {ls : Array Slot} {st0 rest : List Value}
variable {Qc : Array Value → State → Outcome → State → Prop} {XC : String → State → State → Prop}
/-- what a body that may throw owes at its end -/
def vx_MQ (below : List Frame) (Qc : Array Value → State → Outcome → State → Prop) (XC : String → State → State → Prop) (a : Array Value) (s : State) (mc ms : Nat) (free : Addr → Prop) : State → Prop := fun t =>
  ∃ o, t.status = .running ∧ Ended t below o ∧ vx_Q Qc XC mc ms free a s o t
theorem vx_ret {g : JFrame} {mc ms : Nat} (k : W p l e R s m args below meth c H locs cells slots (MQ below Qc args s mc ms free) g) : W p l e R s m args below meth c H locs cells slots (vx_MQ below Qc XC args s mc ms free) g := by
  intro T hT X
  obtain ⟨t, a1, o, b1, b2, b3, b4⟩ := k T hT X
  exact ⟨t, a1, o, b1, b2, Or.inl ⟨b3, b4⟩⟩
/-- not caught here: it goes on to the caller -/
theorem vx_widen {g : JFrame} {q : Addr} {k n : Nat} (h1 : cells ≤ k) (h2 : slots ≤ n) (kk : vx_W p l e R s m args below meth c H locs k n Q g q) : vx_W p l e R s m args below meth c H locs cells slots Q g q := fun T hT X => kk T hT (stand_widen X h1 h2)
theorem vx_out {pc : Nat} {E : String} {ce : Cell} {q : Addr} {mc ms : Nat} (hout : ∀ x ∈ c.exceptionTable.toList, covers x pc = false) (hlocks : meth.locks = false) (hcell : H[q]? = some ce) (hv : ce.vm = .none) (hcl : s.vm.findClass E = some ce.cls)
    (hx : ∀ t : State, t.heap = H → s.vm.Alike t.vm → XC E s t) (hf : ∀ z ∈ locs, free z.base) (hc : cells ≤ mc) (hs : slots ≤ ms) :
    vx_W p l e R s m args below meth c H locs cells slots (vx_MQ below Qc XC args s mc ms free) (F0 m pc ls rest) q := by
  intro T hT X
  obtain ⟨st1, hrun, hend, hW, hsm⟩ := X.leaveThrown q (g := F0 m pc ls rest) rfl rfl rfl hout hlocks
  have hcell9 : (T.setFrames (.throwing q :: below)).heap[q]? = some ce := by
    show T.heap[q]? = some ce
    rw [hT]; exact hcell
  exact ⟨_, st1, .threw q, hrun, hend, Or.inr ⟨q, rfl, E, ce, locs, hx _ hT hW.alike, hcell9, hv, hcl, hW, hsm.mono hc hs, hf⟩⟩
theorem vx_frame {U : State} {k n : Nat} (h : s.sameButNew ({ U with vm := s.vm } : State) locs k n) : s.heap.size ≤ U.heap.size ∧ ∀ q : Nat, q < s.heap.size → (∀ z ∈ locs, z.base ≠ q) → U.heap[q]? = s.heap[q]? := by
  obtain ⟨-, h2, -, -, -, h6⟩ := h
  refine ⟨h2, fun q hq hz => ?_⟩
  obtain ⟨c9, e1, e2, e3, e4⟩ := h6 q _ (Array.getElem?_eq_getElem hq)
  have hs : c9.slots = (s.heap[q]).slots := Array.ext_getElem? fun i => e4 i fun hm => hz _ hm rfl
  have h9 : c9 = s.heap[q] := by
    rw [hs] at e2
    exact e2
  have e5 : U.heap[q]? = some c9 := e1
  rw [e5, h9, Array.getElem?_eq_getElem hq]
/-- the words of a throw but the four that speak of the heap -/
def vx_no (w : Cond) : Bool := decide (w ≠ .isRef (.static Bundle.tN "UNASSIGNED_STACK" Bundle.steD)) && decide (w ≠ .isRef (.static Bundle.tN "SUPPRESSED_SENTINEL" Bundle.listD)) && decide (w ≠ .laysStatic Bundle.tN "UNASSIGNED_STACK" Bundle.steD) && decide (w ≠ .laysStatic Bundle.tN "SUPPRESSED_SENTINEL" Bundle.listD)
def vx_at0 (own : String) (ic : Nat) (X : String) (names : List String) : List Cond := (Bundle.ownAtoms0 own ic X names).filter vx_no
def vx_atS (own : String) (ic : Nat) (X : String) (names : List String) : List Cond := (Bundle.ownAtoms own ic X names).filter vx_no
/-- a word that the tables alone decide, or a good one -/
def vx_ot (w : Cond) : Bool := w.onTables || goodWord w
theorem vx_ot_at {args a' : Array Value} {s U : State} {w : Cond} (hW : s.WarmedH U.vm) (hvm : s.vm = U.vm) (hg : vx_ot w = true) (h : w.before args s = true) : w.before a' U = true := by
  simp only [vx_ot, Bool.or_eq_true] at hg
  rcases hg with hg | hg
  · exact va_tabs hg hvm h
  · exact word_at hW (good_of_word hg) h
/-- a list's words: the good ones out of the method's own list, the others by premises of their own -/
theorem vx_hat {args : Array Value} {s : State} {L B : List Cond} (h1 : ∀ w ∈ L.filter goodWord, w.before args s = true) (h2 : ∀ w ∈ L.filter (fun w => !goodWord w), w ∈ B) (h3 : ∀ w ∈ B, w.before args s = true) : ∀ w ∈ L, w.before args s = true := by
  intro w hw
  by_cases g : goodWord w = true
  · exact h1 w (List.mem_filter.mpr ⟨hw, g⟩)
  · refine h3 w (h2 w (List.mem_filter.mpr ⟨hw, ?_⟩))
    show (!goodWord w) = true
    cases hgw : goodWord w
    · rfl
    · exact absurd hgw g
theorem vx_c {args : Array Value} {s : State} {w : Cond} {B : List Cond} (h : w.before args s = true) (t : ∀ w ∈ B, w.before args s = true) : ∀ w' ∈ w :: B, w'.before args s = true := fun w' h' => (List.mem_cons.mp h').elim (fun e => by rw [e]; exact h) (t w')
theorem vx_n {args : Array Value} {s : State} : ∀ w ∈ ([] : List Cond), w.before args s = true := fun _ h => nomatch h
theorem vx_own {args : Array Value} {s : State} {L : List Cond} (h1 : ∀ w ∈ L.filter vx_no, w.before args s = true)
    (hU : (Cond.isRef (.static Bundle.tN "UNASSIGNED_STACK" Bundle.steD)).before args s = true) (hN : (Cond.isRef (.static Bundle.tN "SUPPRESSED_SENTINEL" Bundle.listD)).before args s = true)
    (lU : (Cond.laysStatic Bundle.tN "UNASSIGNED_STACK" Bundle.steD).before args s = true) (lN : (Cond.laysStatic Bundle.tN "SUPPRESSED_SENTINEL" Bundle.listD).before args s = true) : ∀ w ∈ L, w.before args s = true := by
  intro w hw
  by_cases e1 : w = .isRef (.static Bundle.tN "UNASSIGNED_STACK" Bundle.steD)
  · rw [e1]; exact hU
  · by_cases e2 : w = .isRef (.static Bundle.tN "SUPPRESSED_SENTINEL" Bundle.listD)
    · rw [e2]; exact hN
    · by_cases e3 : w = .laysStatic Bundle.tN "UNASSIGNED_STACK" Bundle.steD
      · rw [e3]; exact lU
      · by_cases e4 : w = .laysStatic Bundle.tN "SUPPRESSED_SENTINEL" Bundle.listD
        · rw [e4]; exact lN
        · exact h1 w (List.mem_filter.mpr ⟨hw, by unfold vx_no; rw [decide_eq_true e1, decide_eq_true e2, decide_eq_true e3, decide_eq_true e4]; rfl⟩)
/-- where a static field lies, its class's statics cell in H -/
def vx_L (C n d : String) (A : Nat → Prop) (U : State) (H : Heap) : Prop := ∃ (c : ClassId) (k : Class) (i : Nat) (f : Field) (a : Nat) (cell : Cell), U.vm.findClass C = some c ∧ U.fieldFound? C n d = some (c, k, i, f) ∧ f.isStatic = true ∧ k.statics = some a ∧ H[a]? = some cell ∧ cell.vm.isStatics = true ∧ cell.cls = c ∧ f.slot < cell.slots.size ∧ k.staticTypes[f.slot]? = some f.type ∧ ¬ A a
theorem vx_L.moved {C n d : String} {A : Nat → Prop} {u U : State} {H : Heap} (hvm : u.vm.Alike U.vm) (h : vx_L C n d A u H) : vx_L C n d A U H := by
  obtain ⟨c, k, i, f, a, cell, h1, h2, h3, h4, h5, h6, h7, h8, h9, h10⟩ := h
  obtain ⟨k', hi', he⟩ := State.fieldFound?_setVm hvm h2
  exact ⟨c, k', i, f, a, cell, by rw [hvm.findClass]; exact h1, hi', h3, by rw [he]; exact h4, h5, h6, h7, h8, by rw [he]; exact h9, h10⟩
theorem vx_L.kept {C n d : String} {A : Nat → Prop} {U : State} {H H1 : Heap} (h : vx_L C n d A U H) (hq : ∀ a : Nat, a < H.size → ¬ A a → H1[a]? = H[a]?) : vx_L C n d A U H1 := by
  obtain ⟨c, k, i, f, a, cell, h1, h2, h3, h4, h5, h6, h7, h8, h9, h10⟩ := h
  exact ⟨c, k, i, f, a, cell, h1, h2, h3, h4, by rw [hq a (Array.getElem?_eq_some_iff.mp h5).1 h10]; exact h5, h6, h7, h8, h9, h10⟩
theorem vx_L.narrow {C n d : String} {A B : Nat → Prop} {U : State} {H : Heap} (h : vx_L C n d A U H) (hAB : ∀ q, B q → A q) : vx_L C n d B U H := by
  obtain ⟨c, k, i, f, a, cell, h1, h2, h3, h4, h5, h6, h7, h8, h9, h10⟩ := h
  exact ⟨c, k, i, f, a, cell, h1, h2, h3, h4, h5, h6, h7, h8, h9, fun z => h10 (hAB _ z)⟩
theorem vx_L.word {C n d : String} {A : Nat → Prop} {s : State} {args : Array Value} (h : vx_L C n d A s s.heap) : (Cond.laysStatic C n d).before args s = true := by
  obtain ⟨c, k, i, f, a, cell, h1, h2, h3, h4, h5, h6, h7, h8, h9, -⟩ := h
  show (Cond.laysStatic C n d).holds args s none s [] = true
  exact Cond.laysStatic_of h1 h2 h3 h4 h5 h6 h7 h8 h9
/-- .. and what it holds: null or some reference -/
def vx_Zq (C n d : String) (A : Nat → Prop) (U : State) (H : Heap) : Prop := va_Zq C n d A U H ∧ vx_L C n d A U H
theorem vx_Zq.moved {C n d : String} {A : Nat → Prop} {u U : State} {H : Heap} (hvm : u.vm.Alike U.vm) (h : vx_Zq C n d A u H) : vx_Zq C n d A U H := ⟨va_Zq.moved hvm h.1, vx_L.moved hvm h.2⟩
theorem vx_Zq.kept {C n d : String} {A : Nat → Prop} {U : State} {H H1 : Heap} (h : vx_Zq C n d A U H) (hq : ∀ a : Nat, a < H.size → ¬ A a → H1[a]? = H[a]?) : vx_Zq C n d A U H1 := ⟨va_Zq.kept h.1 hq, vx_L.kept h.2 hq⟩
theorem vx_Zq.narrow {C n d : String} {A B : Nat → Prop} {U : State} {H : Heap} (h : vx_Zq C n d A U H) (hAB : ∀ q, B q → A q) : vx_Zq C n d B U H := ⟨va_Zq.narrow h.1 hAB, vx_L.narrow h.2 hAB⟩
theorem vx_Zqof {args : Array Value} {s : State} {C n d : String} {A : Nat → Prop} (hl : (Cond.laysStatic C n d).before args s = true) (hini : (Cond.initialized C).before args s = true) (h : (Cond.isRef (.static C n d)).before args s = true) (hA : ∀ a : Nat, a < s.heap.size → ¬ A a) : vx_Zq C n d A s s.heap := by
  refine ⟨va_Zqof hl hini h hA, ?_⟩
  obtain ⟨c, k, i, f, a, cell, h1, h2, h3, h4, h5, h6, h7, h8, h9⟩ := Cond.laysStatic_spec hl
  exact ⟨c, k, i, f, a, cell, h1, h2, h3, h4, h5, h6, h7, h8, h9, hA a (Array.getElem?_eq_some_iff.mp h5).1⟩
theorem vx_isRef {C n d : String} {v : Value} {A : Nat → Prop} {s : State} {args : Array Value} (h : va_Z C n d v A s s.heap) (hv : v.isRef = true) : (Cond.isRef (.static C n d)).before args s = true := by
  obtain ⟨cf, kf, fi, f, a, cell, h1, h2, h3, h4, h5, h6, h7, -⟩ := h
  have he : (Term.static C n d).eval args s none [] s = some v := by
    simp [Term.eval, State.fieldNamed?, h1, h2, h4, h5, h6, h7]
  simp only [Cond.before, Cond.holds, Cond.value, he]
  cases v <;> simp_all [Value.isRef]
theorem vx_isRefq {C n d : String} {A : Nat → Prop} {s : State} {args : Array Value} (h : va_Zq C n d A s s.heap) : (Cond.isRef (.static C n d)).before args s = true := by
  rcases h with h | ⟨t, h⟩
  · exact vx_isRef h rfl
  · exact vx_isRef h rfl
/-- the same frame, seen from here: as if the method were called anew in this heap -/
theorem vx_rebase {T : State} (X : Stand p l e R s m args below meth c T locs cells slots) {R' : Room} (hf : R'.frames ≤ R.frames) (hl : R'.locals ≤ R.locals) (hc : cells + R'.cells ≤ R.cells) (hs : slots + R'.slots ≤ R.slots) :
    Stand p l e R' ((T.setVm s.vm).setFrames (.invoking m args :: below)) m args below meth c T [] 0 0 := by
  have htop : (T.setVm s.vm).topJava?.isSome := X.here.top
  have hF : ((T.setVm s.vm).setFrames (.invoking m args :: below)).frames = .invoking m args :: below := State.frames_setFrames _ (State.cur_lt_of_top htop)
  obtain ⟨g₀, hg0⟩ := Option.isSome_iff_exists.mp htop
  obtain ⟨r, hr⟩ := State.topJava?_eq_some.mp hg0
  have hl9 : e.platform.stackLimits (T.setVm s.vm).me = e.platform.stackLimits s.me := X.limits
  have hb9 : (T.setVm s.vm).me.stackBytes = s.me.stackBytes := X.bytes
  refine ⟨X.admits, X.cas, X.clock, hF, ?_, X.hears, X.method, X.code, X.here, X.tail, X.warmed, ?_, ?_, ?_⟩
  · have h := X.room
    have hU : ((T.setVm s.vm).setFrames (.invoking m args :: below)).localsInUse = s.localsInUse := by
      rw [State.localsInUse_invoking hF (meth := meth) (c := c) X.method X.code, State.localsInUse_invoking X.frames X.method X.code]
    simp only [State.hasRoom, Bool.and_eq_true, decide_eq_true_eq] at h ⊢
    obtain ⟨⟨⟨⟨h1, h2, h3, h4, h5, h6⟩, h7⟩, h8⟩, h9⟩ := h
    rw [X.frames, List.length_cons] at h2 h3
    have q1 := X.heapSize
    have q2 := X.used
    simp only [hF, hU, List.length_cons, State.stackLimits_setFrames, State.stackBytes_setFrames, hl9, hb9]
    refine ⟨⟨⟨⟨by omega, by omega, by omega, by omega, by omega, h6⟩, ?_⟩, ?_⟩, X.book⟩
    · show T.heap.size + R'.cells ≤ e.platform.maxCells
      omega
    · show T.slotsUsed + R'.slots ≤ e.platform.maxSlots
      omega
  · rw [State.stackLimits_setFrames]; rfl
  · rw [State.stackBytes_setFrames]; rfl
  · refine ⟨?_, Nat.le_refl _, Nat.le_refl _, ?_, ?_, fun a c9 h9 => ⟨c9, h9, rfl, rfl, fun _ _ => rfl⟩⟩
    · obtain ⟨t, ht, -⟩ := State.frames_cons hr
      show T.setVm s.vm = { ((T.setVm s.vm).setFrames (.invoking m args :: below)).setFrames (T.setVm s.vm).frames with heap := T.heap, slotsUsed := T.slotsUsed }
      rw [State.setFrames_setFrames, State.setFrames_self ht]
      rfl
    · show T.slotsUsed = T.slotsUsed + ((T.heap.toList.drop T.heap.size).map (·.slots.size)).sum
      rw [List.drop_eq_nil_of_le (Nat.le_of_eq Array.length_toList)]
      rfl
    · show ((T.heap.toList.drop T.heap.size).map (·.slots.size)).sum ≤ 0
      rw [List.drop_eq_nil_of_le (Nat.le_of_eq Array.length_toList)]
      exact Nat.le_refl _
/-- 'throw new E()': new; dup; invokespecial; athrow -/
theorem vx_throw0 {cc : ByteArray} {pc : Nat} (hexec : p.tables.exec = Jvm.exec) (hb : c.code = cc) (hl : l.stackTraces = false) {own cls : String} {names : List String} {ik ic mc ms : Nat} {A : Nat → Prop}
    (hown : s.vm.findClass own = some m.cls) (hcls : Bundle.fit cls = true) (hnames : ∀ n ∈ names, Bundle.fit n = true)
    (hk : (Cond.classLink own ik cls).before args s = true) (hini : (Cond.initialized cls).before args s = true) (hat : ∀ w ∈ vx_at0 own ic cls names, w.before args s = true)
    (hgood : ∀ w ∈ Cond.classLink own ik cls :: Cond.initialized cls :: vx_at0 own ic cls names, vx_ot w = true)
    (hU : vx_Zq Bundle.tN "UNASSIGNED_STACK" Bundle.steD A s s.heap) (hN : vx_Zq Bundle.tN "SUPPRESSED_SENTINEL" Bundle.listD A s s.heap) (hS : va_S A s.heap H locs) (hsize : ls.size = c.maxLocals)
    (d0 : decode cc pc = .ok (.new ik, 3)) (d3 : decode cc (pc + 3) = .ok (.dup, 1)) (d4 : decode cc (pc + 4) = .ok (.invokespecial ic, 3)) (d7 : decode cc (pc + 7) = .ok (.athrow, 1))
    (hout : ∀ x ∈ c.exceptionTable.toList, covers x (pc + 7) = false)
    (hRframes : names.length + 3 < R.frames) (hRlocals : (rest.map fun v => v.category).sum + (13 * (names.length + 1) + 42) ≤ R.locals) (hRcells : cells + 1 ≤ R.cells) (hRslots : slots + 6 ≤ R.slots) (hlocks : meth.locks = false)
    (hx : ∀ t : State, s.vm.Alike t.vm → H.size ≤ t.heap.size → (∀ q : Nat, q < H.size → t.heap[q]? = H[q]?) → XC cls s t)
    (hf : ∀ z ∈ locs, free z.base) (hc : cells + 1 ≤ mc) (hs : slots + 6 ≤ ms) :
    W p l e R s m args below meth c H locs cells slots (vx_MQ below Qc XC args s mc ms free) (F0 m pc ls rest) := by
  intro T hT X
  have htr : e.platform.stackTraces = false := (show e.platform.stackTraces = l.stackTraces by rw [X.admits.platform]).trans hl
  have Y := vx_rebase X (R' := { frames := R.frames, locals := R.locals, cells := 1, slots := 6 }) (Nat.le_refl _) (Nat.le_refl _) hRcells hRslots
  obtain ⟨s', hA⟩ : ∃ z, z = (T.setVm s.vm).setFrames (.invoking m args :: below) := ⟨_, rfl⟩
  rw [← hA] at Y
  have hvm : s'.vm = s.vm := by rw [hA]; rfl
  have hhp : s'.heap = H := by rw [hA]; exact hT
  have hW0 : s.WarmedH s'.vm := by rw [hvm]; exact State.WarmedH.refl s
  have hat' : ∀ w ∈ vx_at0 own ic cls names, w.before args s' = true := fun w hw => vx_ot_at hW0 hvm.symm (hgood w (List.mem_cons_of_mem _ (List.mem_cons_of_mem _ hw))) (hat w hw)
  have hk' : (Cond.classLink own ik cls).before args s' = true := vx_ot_at hW0 hvm.symm (hgood _ List.mem_cons_self) hk
  have hini' : (Cond.initialized cls).before args s' = true := vx_ot_at hW0 hvm.symm (hgood _ (List.mem_cons_of_mem _ List.mem_cons_self)) hini
  have hU' : vx_Zq Bundle.tN "UNASSIGNED_STACK" Bundle.steD A s' s'.heap := by rw [hhp]; exact vx_Zq.moved hW0.alike (hU.kept hS.2.1)
  have hN' : vx_Zq Bundle.tN "SUPPRESSED_SENTINEL" Bundle.listD A s' s'.heap := by rw [hhp]; exact vx_Zq.moved hW0.alike (hN.kept hS.2.1)
  have h : ∀ w ∈ Bundle.ownAtoms0 own ic cls names, w.before args s' = true := vx_own hat' (vx_isRefq hU'.1) (vx_isRefq hN'.1) hU'.2.word hN'.2.word
  have hown' : s'.vm.findClass own = some m.cls := by rw [hvm]; exact hown
  have hins : (Cond.instantiable cls 6).before args s' = true := h _ (by simp [Bundle.ownAtoms0])
  obtain ⟨vm₁, cX, kX, hfX, hkX, -, -, X₁, st1⟩ := Y.newCold hexec (own := own) (C := cls) (index := ik) (n := 6) hown' hk' hins hini'
    (g := F0 m pc ls rest) rfl (by rw [hb]; exact d0) (Nat.le_refl _) (Nat.le_refl _)
  generalize hT1 : (T.setVm vm₁).pushCell { cls := cX, slots := kX.instanceTypes.map defaultValue, vm := .none } = T1 at X₁ st1
  have hcat : (Value.ref T.heap.size).category = 1 := rfl
  have hcellA : T1.heap[T.heap.size]? = some (freshCell cX kX) := by rw [← hT1]; exact State.heap_pushCell_size _ _
  have d3' : decode c.code (pc + 3) = .ok (.dup, 1) := by rw [hb]; exact d3
  obtain ⟨U, hsteps, hrun, hend, hW, hsame, ce, hce, hO⟩ := X₁.ctorThrow0 hexec htr (own := own) (cls := cls) (names := names) (ic := ic) hown' hcls hnames h (fun x hx => nomatch hx) hfX hkX hcellA (by rw [hhp, hT]; exact Nat.le_refl _)
    (g := { method := m, pc := pc + 4, locals := ls, stack := .ref T.heap.size :: .ref T.heap.size :: rest, locked := none }) rfl hsize rfl rfl (rest := rest) rfl
    (by rw [hb]; exact d4) (by rw [hb]; exact d7) hout hRframes (by simp only [List.map_cons, List.sum_cons, hcat]; omega) hlocks
  obtain ⟨f1, f2⟩ := vx_frame hsame
  rw [hhp] at f1 f2
  have hWs : s.WarmedH U.vm := State.WarmedH.trans hW0 hW
  have hcl : s.vm.findClass cls = some ce.cls := by
    have h9 := hO.cls
    rw [hvm] at h9
    exact h9
  have hall : s.sameButNew ({ U with vm := s.vm } : State) locs mc ms := by
    subst hA
    obtain ⟨e1, e2⟩ := hsame
    rw [State.setFrames_setFrames] at e1
    have h2 : (T.setVm s.vm).sameButNew ({ U with vm := s.vm } : State) [] (0 + 1) (0 + 6) := ⟨e1, e2⟩
    have h3 := X.same.trans h2
    rw [List.append_nil] at h3
    exact h3.mono hc hs
  refine ⟨U, ?_, .threw T.heap.size, hrun, hend, Or.inr ⟨T.heap.size, rfl, cls, ce, locs, hx U hWs.alike f1 (fun q hq => f2 q hq (fun z hz => nomatch hz)), hce, hO.vm, hcl, hWs, hall, hf⟩⟩
  refine st1 _ ?_
  show Steps p.tables e below (T1.setTop { method := m, pc := pc + 3, locals := ls, stack := .ref T.heap.size :: rest, locked := none }) _
  jvm_step X₁.here [X₁.here.top, hexec, d3', Value.category]
  exact hsteps
/-- 'throw new E("text")': new; dup; ldc; invokespecial; athrow -/
theorem vx_throwS {cc : ByteArray} {pc : Nat} (hexec : p.tables.exec = Jvm.exec) (hb : c.code = cc) (hl : l.stackTraces = false) {own cls text : String} {names : List String} {ik is ic mc ms sa : Nat} {A : Nat → Prop}
    (hown : s.vm.findClass own = some m.cls) (hcls : Bundle.fit cls = true) (hnames : ∀ n ∈ names, Bundle.fit n = true)
    (hk : (Cond.classLink own ik cls).before args s = true) (hini : (Cond.initialized cls).before args s = true) (hstr : vk_R own is text sa s) (hat : ∀ w ∈ vx_atS own ic cls names, w.before args s = true)
    (hgood : ∀ w ∈ Cond.classLink own ik cls :: Cond.initialized cls :: vx_atS own ic cls names, vx_ot w = true)
    (hU : vx_Zq Bundle.tN "UNASSIGNED_STACK" Bundle.steD A s s.heap) (hN : vx_Zq Bundle.tN "SUPPRESSED_SENTINEL" Bundle.listD A s s.heap) (hS : va_S A s.heap H locs) (hsize : ls.size = c.maxLocals)
    (d0 : decode cc pc = .ok (.new ik, 3)) (d3 : decode cc (pc + 3) = .ok (.dup, 1)) (d4 : decode cc (pc + 4) = .ok (.ldc is, 2)) (d6 : decode cc (pc + 6) = .ok (.invokespecial ic, 3)) (d9 : decode cc (pc + 9) = .ok (.athrow, 1))
    (hout : ∀ x ∈ c.exceptionTable.toList, covers x (pc + 9) = false)
    (hRframes : names.length + 3 < R.frames) (hRlocals : (rest.map fun v => v.category).sum + (13 * (names.length + 1) + 43) ≤ R.locals) (hRcells : cells + 1 ≤ R.cells) (hRslots : slots + 6 ≤ R.slots) (hlocks : meth.locks = false)
    (hx : ∀ t : State, s.vm.Alike t.vm → H.size ≤ t.heap.size → (∀ q : Nat, q < H.size → t.heap[q]? = H[q]?) → XC cls s t)
    (hf : ∀ z ∈ locs, free z.base) (hc : cells + 1 ≤ mc) (hs : slots + 6 ≤ ms) :
    W p l e R s m args below meth c H locs cells slots (vx_MQ below Qc XC args s mc ms free) (F0 m pc ls rest) := by
  intro T hT X
  have htr : e.platform.stackTraces = false := (show e.platform.stackTraces = l.stackTraces by rw [X.admits.platform]).trans hl
  have Y := vx_rebase X (R' := { frames := R.frames, locals := R.locals, cells := 1, slots := 6 }) (Nat.le_refl _) (Nat.le_refl _) hRcells hRslots
  obtain ⟨s', hA⟩ : ∃ z, z = (T.setVm s.vm).setFrames (.invoking m args :: below) := ⟨_, rfl⟩
  rw [← hA] at Y
  have hvm : s'.vm = s.vm := by rw [hA]; rfl
  have hhp : s'.heap = H := by rw [hA]; exact hT
  have hW0 : s.WarmedH s'.vm := by rw [hvm]; exact State.WarmedH.refl s
  have hat' : ∀ w ∈ vx_atS own ic cls names, w.before args s' = true := fun w hw => vx_ot_at hW0 hvm.symm (hgood w (List.mem_cons_of_mem _ (List.mem_cons_of_mem _ hw))) (hat w hw)
  have hk' : (Cond.classLink own ik cls).before args s' = true := vx_ot_at hW0 hvm.symm (hgood _ List.mem_cons_self) hk
  have hini' : (Cond.initialized cls).before args s' = true := vx_ot_at hW0 hvm.symm (hgood _ (List.mem_cons_of_mem _ List.mem_cons_self)) hini
  have hU' : vx_Zq Bundle.tN "UNASSIGNED_STACK" Bundle.steD A s' s'.heap := by rw [hhp]; exact vx_Zq.moved hW0.alike (hU.kept hS.2.1)
  have hN' : vx_Zq Bundle.tN "SUPPRESSED_SENTINEL" Bundle.listD A s' s'.heap := by rw [hhp]; exact vx_Zq.moved hW0.alike (hN.kept hS.2.1)
  have h : ∀ w ∈ Bundle.ownAtoms own ic cls names, w.before args s' = true := vx_own hat' (vx_isRefq hU'.1) (vx_isRefq hN'.1) hU'.2.word hN'.2.word
  have hown' : s'.vm.findClass own = some m.cls := by rw [hvm]; exact hown
  have hins : (Cond.instantiable cls 6).before args s' = true := h _ (by simp [Bundle.ownAtoms])
  obtain ⟨vm₁, cX, kX, hfX, hkX, -, -, X₁, st1⟩ := Y.newCold hexec (own := own) (C := cls) (index := ik) (n := 6) hown' hk' hins hini'
    (g := F0 m pc ls rest) rfl (by rw [hb]; exact d0) (Nat.le_refl _) (Nat.le_refl _)
  generalize hT1 : (T.setVm vm₁).pushCell { cls := cX, slots := kX.instanceTypes.map defaultValue, vm := .none } = T1 at X₁ st1
  have hcat : (Value.ref T.heap.size).category = 1 := rfl
  have hcellA : T1.heap[T.heap.size]? = some (freshCell cX kX) := by rw [← hT1]; exact State.heap_pushCell_size _ _
  have d3' : decode c.code (pc + 3) = .ok (.dup, 1) := by rw [hb]; exact d3
  have d4' : decode c.code (pc + 4) = .ok (.ldc is, 2) := by rw [hb]; exact d4
  have hstr' : vk_R own is text sa s' := vk_R.warm hW0 hstr
  obtain ⟨U, hsteps, hrun, hend, hW, hsame, ce, hce, hO⟩ := X₁.ctorThrowS hexec htr (own := own) (cls := cls) (names := names) (ic := ic) hown' hcls hnames h (fun x hx => nomatch hx) hfX hkX hcellA (by rw [hhp, hT]; exact Nat.le_refl _) (msg := .ref sa) rfl
    (g := { method := m, pc := pc + 6, locals := ls, stack := .ref sa :: .ref T.heap.size :: .ref T.heap.size :: rest, locked := none }) rfl hsize rfl rfl (rest := rest) rfl
    (by rw [hb]; exact d6) (by rw [hb]; exact d9) hout hRframes (by simp only [List.map_cons, List.sum_cons, hcat]; omega) hlocks
  obtain ⟨f1, f2⟩ := vx_frame hsame
  rw [hhp] at f1 f2
  have hWs : s.WarmedH U.vm := State.WarmedH.trans hW0 hW
  have hcl : s.vm.findClass cls = some ce.cls := by
    have h9 := hO.cls
    rw [hvm] at h9
    exact h9
  have hall : s.sameButNew ({ U with vm := s.vm } : State) locs mc ms := by
    subst hA
    obtain ⟨e1, e2⟩ := hsame
    rw [State.setFrames_setFrames] at e1
    have h2 : (T.setVm s.vm).sameButNew ({ U with vm := s.vm } : State) [] (0 + 1) (0 + 6) := ⟨e1, e2⟩
    have h3 := X.same.trans h2
    rw [List.append_nil] at h3
    exact h3.mono hc hs
  refine ⟨U, ?_, .threw T.heap.size, hrun, hend, Or.inr ⟨T.heap.size, rfl, cls, ce, locs, hx U hWs.alike f1 (fun q hq => f2 q hq (fun z hz => nomatch hz)), hce, hO.vm, hcl, hWs, hall, hf⟩⟩
  refine st1 _ ?_
  show Steps p.tables e below (T1.setTop { method := m, pc := pc + 3, locals := ls, stack := .ref T.heap.size :: rest, locked := none }) _
  jvm_step X₁.here [X₁.here.top, hexec, d3', Value.category]
  exact X₁.ldcString hexec (own := own) (text := text) (index := is) (a := sa) hown' hstr'.1 hstr'.2
    (g := { method := m, pc := pc + 4, locals := ls, stack := .ref T.heap.size :: .ref T.heap.size :: rest, locked := none }) rfl d4' _ hsteps
/-- 'throw new E("text")', the text by a wide index -/
theorem vx_throwSW {cc : ByteArray} {pc : Nat} (hexec : p.tables.exec = Jvm.exec) (hb : c.code = cc) (hl : l.stackTraces = false) {own cls text : String} {names : List String} {ik is ic mc ms sa : Nat} {A : Nat → Prop}
    (hown : s.vm.findClass own = some m.cls) (hcls : Bundle.fit cls = true) (hnames : ∀ n ∈ names, Bundle.fit n = true)
    (hk : (Cond.classLink own ik cls).before args s = true) (hini : (Cond.initialized cls).before args s = true) (hstr : vk_R own is text sa s) (hat : ∀ w ∈ vx_atS own ic cls names, w.before args s = true)
    (hgood : ∀ w ∈ Cond.classLink own ik cls :: Cond.initialized cls :: vx_atS own ic cls names, vx_ot w = true)
    (hU : vx_Zq Bundle.tN "UNASSIGNED_STACK" Bundle.steD A s s.heap) (hN : vx_Zq Bundle.tN "SUPPRESSED_SENTINEL" Bundle.listD A s s.heap) (hS : va_S A s.heap H locs) (hsize : ls.size = c.maxLocals)
    (d0 : decode cc pc = .ok (.new ik, 3)) (d3 : decode cc (pc + 3) = .ok (.dup, 1)) (d4 : decode cc (pc + 4) = .ok (.ldc_w is, 3)) (d7 : decode cc (pc + 7) = .ok (.invokespecial ic, 3)) (d10 : decode cc (pc + 10) = .ok (.athrow, 1))
    (hout : ∀ x ∈ c.exceptionTable.toList, covers x (pc + 10) = false)
    (hRframes : names.length + 3 < R.frames) (hRlocals : (rest.map fun v => v.category).sum + (13 * (names.length + 1) + 43) ≤ R.locals) (hRcells : cells + 1 ≤ R.cells) (hRslots : slots + 6 ≤ R.slots) (hlocks : meth.locks = false)
    (hx : ∀ t : State, s.vm.Alike t.vm → H.size ≤ t.heap.size → (∀ q : Nat, q < H.size → t.heap[q]? = H[q]?) → XC cls s t)
    (hf : ∀ z ∈ locs, free z.base) (hc : cells + 1 ≤ mc) (hs : slots + 6 ≤ ms) :
    W p l e R s m args below meth c H locs cells slots (vx_MQ below Qc XC args s mc ms free) (F0 m pc ls rest) := by
  intro T hT X
  have htr : e.platform.stackTraces = false := (show e.platform.stackTraces = l.stackTraces by rw [X.admits.platform]).trans hl
  have Y := vx_rebase X (R' := { frames := R.frames, locals := R.locals, cells := 1, slots := 6 }) (Nat.le_refl _) (Nat.le_refl _) hRcells hRslots
  obtain ⟨s', hA⟩ : ∃ z, z = (T.setVm s.vm).setFrames (.invoking m args :: below) := ⟨_, rfl⟩
  rw [← hA] at Y
  have hvm : s'.vm = s.vm := by rw [hA]; rfl
  have hhp : s'.heap = H := by rw [hA]; exact hT
  have hW0 : s.WarmedH s'.vm := by rw [hvm]; exact State.WarmedH.refl s
  have hat' : ∀ w ∈ vx_atS own ic cls names, w.before args s' = true := fun w hw => vx_ot_at hW0 hvm.symm (hgood w (List.mem_cons_of_mem _ (List.mem_cons_of_mem _ hw))) (hat w hw)
  have hk' : (Cond.classLink own ik cls).before args s' = true := vx_ot_at hW0 hvm.symm (hgood _ List.mem_cons_self) hk
  have hini' : (Cond.initialized cls).before args s' = true := vx_ot_at hW0 hvm.symm (hgood _ (List.mem_cons_of_mem _ List.mem_cons_self)) hini
  have hU' : vx_Zq Bundle.tN "UNASSIGNED_STACK" Bundle.steD A s' s'.heap := by rw [hhp]; exact vx_Zq.moved hW0.alike (hU.kept hS.2.1)
  have hN' : vx_Zq Bundle.tN "SUPPRESSED_SENTINEL" Bundle.listD A s' s'.heap := by rw [hhp]; exact vx_Zq.moved hW0.alike (hN.kept hS.2.1)
  have h : ∀ w ∈ Bundle.ownAtoms own ic cls names, w.before args s' = true := vx_own hat' (vx_isRefq hU'.1) (vx_isRefq hN'.1) hU'.2.word hN'.2.word
  have hown' : s'.vm.findClass own = some m.cls := by rw [hvm]; exact hown
  have hins : (Cond.instantiable cls 6).before args s' = true := h _ (by simp [Bundle.ownAtoms])
  obtain ⟨vm₁, cX, kX, hfX, hkX, -, -, X₁, st1⟩ := Y.newCold hexec (own := own) (C := cls) (index := ik) (n := 6) hown' hk' hins hini'
    (g := F0 m pc ls rest) rfl (by rw [hb]; exact d0) (Nat.le_refl _) (Nat.le_refl _)
  generalize hT1 : (T.setVm vm₁).pushCell { cls := cX, slots := kX.instanceTypes.map defaultValue, vm := .none } = T1 at X₁ st1
  have hcat : (Value.ref T.heap.size).category = 1 := rfl
  have hcellA : T1.heap[T.heap.size]? = some (freshCell cX kX) := by rw [← hT1]; exact State.heap_pushCell_size _ _
  have d3' : decode c.code (pc + 3) = .ok (.dup, 1) := by rw [hb]; exact d3
  have d4' : decode c.code (pc + 4) = .ok (.ldc_w is, 3) := by rw [hb]; exact d4
  have hstr' : vk_R own is text sa s' := vk_R.warm hW0 hstr
  obtain ⟨U, hsteps, hrun, hend, hW, hsame, ce, hce, hO⟩ := X₁.ctorThrowS hexec htr (own := own) (cls := cls) (names := names) (ic := ic) hown' hcls hnames h (fun x hx => nomatch hx) hfX hkX hcellA (by rw [hhp, hT]; exact Nat.le_refl _) (msg := .ref sa) rfl
    (g := { method := m, pc := pc + 7, locals := ls, stack := .ref sa :: .ref T.heap.size :: .ref T.heap.size :: rest, locked := none }) rfl hsize rfl rfl (rest := rest) rfl
    (by rw [hb]; exact d7) (by rw [hb]; exact d10) hout hRframes (by simp only [List.map_cons, List.sum_cons, hcat]; omega) hlocks
  obtain ⟨f1, f2⟩ := vx_frame hsame
  rw [hhp] at f1 f2
  have hWs : s.WarmedH U.vm := State.WarmedH.trans hW0 hW
  have hcl : s.vm.findClass cls = some ce.cls := by
    have h9 := hO.cls
    rw [hvm] at h9
    exact h9
  have hall : s.sameButNew ({ U with vm := s.vm } : State) locs mc ms := by
    subst hA
    obtain ⟨e1, e2⟩ := hsame
    rw [State.setFrames_setFrames] at e1
    have h2 : (T.setVm s.vm).sameButNew ({ U with vm := s.vm } : State) [] (0 + 1) (0 + 6) := ⟨e1, e2⟩
    have h3 := X.same.trans h2
    rw [List.append_nil] at h3
    exact h3.mono hc hs
  refine ⟨U, ?_, .threw T.heap.size, hrun, hend, Or.inr ⟨T.heap.size, rfl, cls, ce, locs, hx U hWs.alike f1 (fun q hq => f2 q hq (fun z hz => nomatch hz)), hce, hO.vm, hcl, hWs, hall, hf⟩⟩
  refine st1 _ ?_
  show Steps p.tables e below (T1.setTop { method := m, pc := pc + 3, locals := ls, stack := .ref T.heap.size :: rest, locked := none }) _
  jvm_step X₁.here [X₁.here.top, hexec, d3', Value.category]
  exact X₁.ldcStringW hexec (own := own) (text := text) (index := is) (a := sa) hown' hstr'.1 hstr'.2
    (g := { method := m, pc := pc + 4, locals := ls, stack := .ref T.heap.size :: .ref T.heap.size :: rest, locked := none }) rfl d4' _ hsteps
end Ends
section Bodies
variable {l : Launch}
theorem vx_ofW {y : MethodName} {ws ws' : List Cond} {rm : Room} {Pc : Array Value → State → Prop} {Qc : Array Value → State → Outcome → State → Prop} {XC : String → State → State → Prop} {mc ms : Nat} {free : Addr → Prop} {cc : ByteArray} {maxL : Nat} {ret : Option FieldType}
    (hy : plainName y.cls = true) (hw : ws = Cond.code y cc maxL ret :: ws')
    (body : ∀ p e s m args below meth c s₁, BodyLoose p l y (headSpec ws rm) cc maxL ret e s m args below meth c s₁ → c.maxLocals = maxL → (∀ x ∈ c.exceptionTable.toList, False) → Pc args s →
      W p l e (headSpec ws rm).room s m args below meth c s.heap [] 0 0 (vx_MQ below Qc XC args s mc ms free) (entryFrame m args maxL)) : vx_Met l y ws rm Pc Qc XC mc ms free := by
  refine MetFree.of_bodyS (code := cc) (maxLocals := maxL) (ret := ret) hy ?_ ?_
  · intro args s m h hn
    obtain ⟨meth, c, h1, h2, h3, h4, h5, h6, -, -⟩ := Cond.code_spec hn (atoms_spec (ws := ws) h _ (by rw [hw]; exact List.mem_cons_self))
    exact ⟨meth, c, h1, h2, h3, h4, h5, h6⟩
  · intro p e s m args below meth c s₁ B hml hP _
    have hh0 : s₁.heap = s.heap := by rw [B.state]; rfl
    have ht : ∀ x ∈ c.exceptionTable.toList, False := by
      obtain ⟨meth9, c9, h1, h2, -, -, -, -, h7, -⟩ := Cond.code_spec B.named (atoms_spec (ws := ws) B.pre _ (by rw [hw]; exact List.mem_cons_self))
      cases Option.some.inj (h1.symm.trans B.method)
      cases Option.some.inj (h2.symm.trans (Stand.of_body B).code)
      intro x hx
      rw [Array.isEmpty_iff.mp h7] at hx
      cases hx
    obtain ⟨t, a1, o, b1, b2, b3⟩ := body p e s m args below meth c s₁ B hml ht hP s₁ hh0 (Stand.of_body B)
    exact ⟨t, o, a1, b1, b2, b3⟩
/-- the table of a body with handlers -/
theorem vx_table {p : Program} {x y : MethodName} {S : Spec} {cc bytes : ByteArray} {maxL maxL' : Nat} {ret ret' : Option FieldType} {e : Env} {s s₁ : State} {m : MethodId} {args : Array Value} {below : List Frame} {meth : Method} {c : Code} {hh : List (Nat × Nat × Nat × Nat)}
    (B : BodyLoose p l y S cc maxL ret e s m args below meth c s₁) (h : (Cond.codeWith y bytes maxL' ret' hh).before args s = true) : c.exceptionTable.toList = tableOf hh := by
  obtain ⟨m9, meth9, c9, hn9, h1, h2, -, -, h6, -⟩ := Cond.codeWith_spec h
  cases Option.some.inj (hn9.symm.trans B.named)
  cases Option.some.inj (h1.symm.trans B.method)
  cases Option.some.inj (h2.symm.trans (Stand.of_body B).code)
  rw [← h6, table_eq]
end Bodies
end VXA
/-! ===== END ===== -/
/-! ===== BEGIN a static call of a method with an exception table ===== -/
section VXS
variable {p : Program} {l : Launch} {e : Env} {R : Room} {s : State} {m : MethodId} {args : Array Value} {below : List Frame} {meth : Method} {c : Code} {T : State} {H : Heap} {locs : List Loc} {cells slots : Nat}
abbrev vx_CSW (R : Room) (s : State) (args : Array Value) (own : String) (index : Nat) (y : MethodName) (bytes : ByteArray) (maxL : Nat) (ret : Option FieldType) (hh : List (Nat × Nat × Nat × Nat)) (ws : List Cond) (rm : Room) (mc ms n : Nat) : Prop :=
  (rm.cells = mc ∧ rm.slots = ms ∧ rm.frames + 1 ≤ R.frames ∧ 8 + (maxL + 11) + rm.locals ≤ R.locals ∧ (∀ w ∈ ws, ∀ (a' : Array Value) (U : State), s.WarmedH U.vm → w.before a' U = true) ∧ Cond.codeWith y bytes maxL ret hh ∈ ws) ∧
  (Cond.codeWith y bytes maxL ret hh).before args s = true ∧ (Cond.initialized y.cls).before args s = true ∧ (y.cls ≠ "java/lang/invoke/MethodHandle" ∧ y.cls ≠ "java/lang/invoke/VarHandle") ∧
  (∀ sig, parseMethodDescriptor y.desc = some sig → n = sig.parameters.length) ∧ (Cond.methodLink own index y).before args s = true ∧ (Cond.static y).before args s = true
theorem vx_cwSW {own : String} {index maxL mc ms : Nat} {y : MethodName} {bytes : ByteArray} {ret : Option FieldType} {hh : List (Nat × Nat × Nat × Nat)} {Ts ws ws' : List Cond} {rm : Room} (n : Nat) (ht : ∀ w ∈ Ts, w.before args s = true) (hT : GoodIn Ts (va_wsS own index y ws)) (hw : ws = Cond.codeWith y bytes maxL ret hh :: ws') (hrc : rm.cells = mc) (hrs : rm.slots = ms)
    (hd : y.cls ≠ "java/lang/invoke/MethodHandle" ∧ y.cls ≠ "java/lang/invoke/VarHandle" ∧ (parseMethodDescriptor y.desc).map (fun d => d.parameters.length) = some n) (hR : rm.frames + 1 ≤ R.frames ∧ 8 + (maxL + 11) + rm.locals ≤ R.locals) :
    vx_CSW R s args own index y bytes maxL ret hh ws rm mc ms n := by
  have ok : ∀ w ∈ va_wsS own index y ws, w.before args s = true := fun w h => ht w (hT w h).1
  have hG : GoodIn Ts ws := fun w h => hT w (by unfold va_wsS; exact List.mem_append_right _ h)
  have hc : Cond.codeWith y bytes maxL ret hh ∈ ws := by rw [hw]; exact List.mem_cons_self
  refine ⟨⟨hrc, hrs, hR.1, hR.2, pay_in ht hG, hc⟩, ht _ (hG _ hc).1, ok _ (by simp [va_wsS]), ⟨hd.1, hd.2.1⟩, fun sig h => ?_, ok _ (by simp [va_wsS]), ok _ (by simp [va_wsS])⟩
  have h2 := hd.2.2
  rw [h] at h2
  exact (Option.some.inj h2).symm
theorem vx_callSW (X : Stand p l e R s m args below meth c T locs cells slots) (hexec : p.tables.exec = Jvm.exec) {own : String} {index : Nat} {y : MethodName} {bytes : ByteArray} {maxL : Nat} {ret : Option FieldType} {hh : List (Nat × Nat × Nat × Nat)}
    (hown : s.vm.findClass own = some m.cls) (hlink : (Cond.methodLink own index y).before args s = true) (hstat : (Cond.static y).before args s = true) (hinit : (Cond.initialized y.cls).before args s = true)
    (hcode : (Cond.codeWith y bytes maxL ret hh).before args s = true) (hy : y.cls ≠ "java/lang/invoke/MethodHandle" ∧ y.cls ≠ "java/lang/invoke/VarHandle")
    {W9 : Nat} {Pre : Pt → Array Value → Prop} {Post : Pt → Array Value → Option Value → Pt → Prop} (hK : Back l R p e below s args y 3 W9 Pre Post)
    {g : JFrame} (hg : g.method = m) (hsize : g.locals.size = c.maxLocals) {argsL rest : List Value} (hlen : ∀ sig, parseMethodDescriptor y.desc = some sig → argsL.length = sig.parameters.length)
    (hstack : g.stack = argsL.reverse ++ rest) (hW : 2 * g.monitorRoom + (rest.map fun v => v.category).sum ≤ W9) (hdg : decode c.code g.pc = .ok (.invokestatic index, 3))
    (hpre : ∀ vm₁, s.WarmedH vm₁ → Pre ⟨T.setVm vm₁, locs, cells, slots⟩ argsL.toArray) :
    ∃ (v : Option Value) (vm₁ : Vm) (B : Pt), s.WarmedH vm₁ ∧ Stand p l e R s m args below meth c B.U B.locs B.cells B.slots ∧ Post ⟨T.setVm vm₁, locs, cells, slots⟩ argsL.toArray v B ∧
      ∀ target, Steps p.tables e below (B.U.setTop { g with pc := g.pc + 3, stack := v.toList ++ rest }) target → Steps p.tables e below (T.setTop g) target := by
  obtain ⟨mk, methM, cM, hnamed, hmethM, -, -, -, -, -, -, hsigM⟩ := Cond.codeWith_spec hcode
  have hstatic : methM.isStatic = true := Cond.static_spec hnamed hmethM hstat
  obtain ⟨kP, hkP, -⟩ := className_of_methodNamed hnamed
  have hinitP : kP.init = .initialized := Cond.initialized_spec (findClass_of_methodNamed hnamed) hkP hinit
  obtain ⟨vm₁, X₁, hstep₁⟩ := X.invokestatic hexec hown hlink hnamed hmethM hstatic hkP hinitP hy (g := g) hg (argsL := argsL) (rest := rest) (hlen _ hsigM) hstack hdg
  obtain ⟨v, B, X', hpost, hsteps⟩ := hK m meth c ⟨T.setVm vm₁, locs, cells, slots⟩ { g with stack := rest } (.invokestatic index) mk argsL.toArray X₁ hg hsize hdg hW (X₁.named hnamed) (hpre vm₁ X₁.warmed)
  exact ⟨v, vm₁, B, X₁.warmed, X', hpost, fun target h => hstep₁ _ fun acts => by rw [doInvoke_state]; exact hsteps.trans h⟩
theorem vx_runSW {y : MethodName} {bytes cc : ByteArray} {maxL nL mc ms n index : Nat} {ret : Option FieldType} {hh : List (Nat × Nat × Nat × Nat)} {ws : List Cond} {rm : Room} {Pc : Array Value → State → Prop} {Qc : Array Value → State → Outcome → State → Prop} {free : Addr → Prop} {Ts : List Cond} {own : String} {As rest : List Value} {g : JFrame}
    (S : CallFix p m c cc nL s args Ts own) (hM : Met l y ws rm Pc Qc mc ms free) (cw : vx_CSW R s args own index y bytes maxL ret hh ws rm mc ms n) (hp : PreS s H Pc As)
    (hg : g.method = m) (hn : As.length = n) (hsize : g.locals.size = nL) (hstack : g.stack = As.reverse ++ rest) (hW : 2 * g.monitorRoom + (rest.map fun v => v.category).sum ≤ 8) (hdg : decode cc g.pc = .ok (.invokestatic index, 3)) (hf : cells + mc ≤ R.cells ∧ slots + ms ≤ R.slots) :
    va_Run p l e R s m args below meth c H locs cells slots mc ms g rest (Qc As.toArray) (free) := by
  obtain ⟨⟨hrc, hrs, hfr, hlo, hws, hcw⟩, hcode, hini, hy, hlen, hl, hstt⟩ := cw
  have hK : Back l R p e below s args y 3 8 (PreOf R mc ms Pc) (PostOf Qc mc ms free) := va_backW (hh := hh) (bytes := bytes) (maxL := maxL) (ret := ret) hM hp.1 hrc hrs hfr hlo hws hcw (fun a' U hW => word_at hW (Or.inl (by first | rfl | simp [Cond.onTables, Cond.keeps, Cond.steady])) hini)
  obtain ⟨hx, hb, hml, ho, -⟩ := S
  intro T hT X
  obtain ⟨v, vm₁, ⟨U', l2, c2, s2⟩, hW₁, X', ⟨g', mk, t, L, e1, e2, hq, h1, hL, h2, h3⟩, st⟩ := vx_callSW X hx (hh := hh) (bytes := bytes) (maxL := maxL) (ret := ret) ho hl hstt hini hcode hy hK hg (hsize.trans hml.symm) (argsL := As) (rest := rest) (fun sig h => hn.trans (hlen sig h)) hstack hW (by rw [hb]; exact hdg)
    (fun vm₁ hW₁ => ⟨hf.1, hf.2, hp.2 (T.setVm vm₁) hT hW₁⟩)
  dsimp only [Pt.U, Pt.locs, Pt.cells, Pt.slots] at X' e1 e2 h1 h2 h3 st
  subst h1; subst h2; subst h3
  exact ⟨v, (T.setVm vm₁).calling g' mk As.toArray, t, U', L, hT, X', hL, e1, e2, hq, st⟩
/-- not caught here, past rows that name other classes: it goes on to the caller -/
theorem vx_outP {p : Program} {l : Launch} {e : Env} {R : Room} {s : State} {m : MethodId} {args : Array Value} {below : List Frame} {meth : Method} {c : Code} {H : Heap} {locs : List Loc} {cells slots : Nat} {free : Addr → Prop} {ls : Array Slot} {rest : List Value} {Qc : Array Value → State → Outcome → State → Prop} {XC : String → State → State → Prop}
    {pc : Nat} {own E : String} {ce : Cell} {q : Addr} {mc ms : Nat} (hown : s.vm.findClass own = some m.cls) (hlocks : meth.locks = false)
    (hpass : ∀ z ∈ c.exceptionTable.toList, covers z pc = false ∨ (z.catchType ≠ 0 ∧ ∃ nm : String, (Cond.classLink own z.catchType nm).before args s = true ∧ va_Nc E nm s)) (hcell : H[q]? = some ce) (hv : ce.vm = .none) (hcl : s.vm.findClass E = some ce.cls)
    (hx : ∀ t : State, t.heap = H → s.vm.Alike t.vm → XC E s t) (hf : ∀ z ∈ locs, free z.base) (hc : cells ≤ mc) (hs : slots ≤ ms) :
    vx_W p l e R s m args below meth c H locs cells slots (vx_MQ below Qc XC args s mc ms free) (F0 m pc ls rest) q := by
  intro T hT X
  have hpl : e.platform.magicAccessors = ({} : Platform).magicAccessors := by rw [X.admits.platform]
  obtain ⟨vm', hW', X', st⟩ := X.outThrough hlocks q (g := F0 m pc ls rest) rfl rfl rfl (cell := ce) (by rw [hT]; exact hcell) (by rw [hv]; rfl)
    (by obtain ⟨k9, h9, -⟩ := Vm.findClass_spec hcl; exact ⟨k9, h9⟩) (fun z hz => by
      rcases hpass z hz with h | ⟨hz0, nm, hl1, hn1⟩
      · exact Or.inl h
      · obtain ⟨c6, hc6, hcl6⟩ := Cond.classLink_spec hown hl1 e.platform hpl
        obtain ⟨a8, b8, h1, h2, h3⟩ := hn1
        cases Option.some.inj (h1.symm.trans hcl)
        cases Option.some.inj (h2.symm.trans hc6)
        exact Or.inr ⟨hz0, _, hcl6, h3⟩)
  obtain ⟨g₀, hfr⟩ := X'.frames_eq
  have hcell9 : ((T.setVm vm').setFrames (.throwing q :: below)).heap[q]? = some ce := by
    show T.heap[q]? = some ce
    rw [hT]; exact hcell
  have hend : Ended ((T.setVm vm').setFrames (.throwing q :: below)) below (.threw q) := State.frames_setFrames _ (State.cur_lt_of_frames hfr)
  refine ⟨(T.setVm vm').setFrames (.throwing q :: below), ?_, .threw q, X'.here.running, hend, Or.inr ⟨q, rfl, E, ce, locs, hx _ hT (X'.ends _).1.alike, hcell9, hv, hcl, (X'.ends _).1, (X'.ends _).2.mono hc hs, hf⟩⟩
  rw [X.pushThrowing_eq]
  exact st
/-- a thing of a world lies in the heap -/
theorem vx_lt {D : va_G} {cl : List vw_C} {ws : va_W} {H1 : Heap} (h : va_P D cl ws H1) {k : Nat} {q : Nat × va_E} (hk : ws[k]? = some q) : q.1 < H1.size := (h k q hk).lt
end VXS
/-! ===== END ===== -/
/-! ===== BEGIN methods with a table of their own: called by a name, returning or throwing ===== -/
section VXH
/-! vx_backW, vx_callVX, vx_callSX, vx_callVW, vx_runVW, vx_runVX, vx_runSX, vx_ofWH follow the same proofs as their sisters above (Free/Laws.lean, Shelf42/LK1.lean); vx_outP calls Shelf42/NT130.lean (outThrough). -/
section
variable {l : Launch} {R : Room} {p : Program} {e : Env} {below : List Frame} {s : State} {sargs : Array Value} {y : MethodName} {len W9 : Nat}
theorem vx_backW {ws : List Cond} {rm : Room} {Pc : Array Value → State → Prop} {Qc : Array Value → State → Outcome → State → Prop} {XC : String → State → State → Prop} {mc ms : Nat} {free : Addr → Prop} {bytes : ByteArray} {maxL : Nat} {ret : Option FieldType} {hh : List (Nat × Nat × Nat × Nat)}
    (hM : vx_Met l y ws rm Pc Qc XC mc ms free) (hblind : FrameBlind Pc) (hrc : rm.cells = mc) (hrs : rm.slots = ms)
    (hframes : rm.frames + 1 ≤ R.frames) (hlocals : W9 + (maxL + 11) + rm.locals ≤ R.locals)
    (hws : ∀ w ∈ ws, ∀ a' U, s.WarmedH U.vm → w.before a' U = true) (hcode : Cond.codeWith y bytes maxL ret hh ∈ ws) (hinit : ∀ a' U, s.WarmedH U.vm → (Cond.initialized y.cls).before a' U = true) :
    vx_Back l R p e below s sargs y len W9 (PreOf R mc ms Pc) (PostOf Qc mc ms free) (vx_Post XC mc ms free) := by
  intro m meth c A g ig mk a X hg hsize hdg hW hn hp
  have h1 : (headSpec ws rm).pre.before a A.U = true := atoms_intro fun w hw => hws w hw _ _ X.warmed
  have h2 : (Cond.codeWith y bytes maxL ret hh).before a A.U = true := hws _ hcode _ _ X.warmed
  have h3 : (Cond.initialized y.cls).before a A.U = true := hinit _ _ X.warmed
  have h4 : A.cells + (headSpec ws rm).room.cells ≤ R.cells := by rw [show (headSpec ws rm).room.cells = mc from hrc]; exact hp.1
  have h5 : A.slots + (headSpec ws rm).room.slots ≤ R.slots := by rw [show (headSpec ws rm).room.slots = ms from hrs]; exact hp.2.1
  have hPc : Pc a (A.U.calling g mk a) := hblind _ _ _ _ hp.2.2
  obtain ⟨U, Ls, c0, s0⟩ := A
  dsimp only [Pt.U, Pt.locs, Pt.cells, Pt.slots] at h1 h2 h3 h4 h5 X hn hPc ⊢
  obtain ⟨m9, methY, cY, hn9, hmY, hcY, -, hlY, -⟩ := Cond.codeWith_spec h2
  cases Option.some.inj (hn9.symm.trans hn)
  obtain ⟨kY, hkY, -⟩ := className_of_methodNamed hn
  have hinitY : kY.init = .initialized := Cond.initialized_spec (findClass_of_methodNamed hn) hkY h3
  have h : At U g.method c below := by rw [hg]; exact X.here
  have hlocals9 : W9 + (maxL + 11) + (headSpec ws rm).room.locals ≤ R.locals := hlocals
  have happ : (headSpec ws rm).appliesLoose y e.platform (U.calling g mk a) = true :=
    Spec.appliesLoose_calling (g := g) h hdg hn hkY hinitY
      (X.room_calling (g := g) (R' := (headSpec ws rm).room) hsize hmY hcY hframes (by rw [hlY]; omega) h4 h5) h1
  obtain ⟨mid, hmid⟩ := h.above
  have hfr : (U.setTop g).frames = (.java g :: mid) ++ below := by rw [State.frames_setTop' g h.top, hmid]; rfl
  obtain ⟨o, s₂, hsteps, -, hend, hq⟩ := Steps.callFree hM p X.admits X.cas X.clock (acts := []) hfr happ hPc trivial
  have hq' : vx_Q Qc XC mc ms free a (U.calling g mk a) o s₂ := hq
  rw [State.frames_setTop' g h.top] at hend
  obtain ⟨g₀, hg0⟩ := Option.isSome_iff_exists.mp h.top
  obtain ⟨r, hr⟩ := State.topJava?_eq_some.mp hg0
  have hr' : (({ U with heap := s₂.heap, slotsUsed := s₂.slotsUsed } : State).setVm s₂.vm).frames = .java g₀ :: r := hr
  rcases hq' with ⟨hqc, L, hfe, hL⟩ | ⟨q, rfl, E, ce, L, hx, hce, hcv, hcl, hW₂, hsm, hL⟩
  · obtain ⟨⟨v, rfl⟩, hW₂, e2, q2, q3, q4, q5, q6⟩ := id hfe
    have e3 : s₂ = ({ (U.calling g mk a).setFrames s₂.frames with heap := s₂.heap, slotsUsed := s₂.slotsUsed } : State).setVm s₂.vm := by
      have : s₂ = ({ s₂ with vm := (U.calling g mk a).vm } : State).setVm s₂.vm := rfl
      rw [e2] at this
      exact this
    obtain ⟨c₂, i₂, len₂, hc₂, hd₂, hf₂⟩ := hend
    have hW' : U.WarmedH s₂.vm := hW₂
    have hcc : c₂ = c := by
      have h1 : s₂.code? g.method = U.code? g.method := by
        rw [State.code?_eq, State.code?_eq, hW'.alike.method?]
      exact Option.some.inj (hc₂.symm.trans (h1.trans h.code))
    subst hcc
    have hlen : len₂ = len := by rw [hdg] at hd₂; cases hd₂; rfl
    subst hlen
    have hs₂ : s₂ = (({ U with heap := s₂.heap, slotsUsed := s₂.slotsUsed } : State).setVm s₂.vm).setTop { g with pc := g.pc + len₂, stack := v.toList ++ g.stack } := by
      refine e3.trans ?_
      rw [hf₂, State.calling_eq h.top, State.setFrames_setFrames, State.setTop_of_frames _ hr', hr]
      rfl
    have hsame : U.sameButNew ({ U with heap := s₂.heap, slotsUsed := s₂.slotsUsed } : State) L mc ms := by
      refine ⟨?_, q2, q3, q4, q5, q6⟩
      obtain ⟨t, ht, -⟩ := State.frames_cons hr
      show ({ U with heap := s₂.heap, slotsUsed := s₂.slotsUsed } : State) = { U.setFrames U.frames with heap := s₂.heap, slotsUsed := s₂.slotsUsed }
      rw [State.setFrames_self ht]
    subst hg
    refine Or.inl ⟨v, ⟨(({ U with heap := s₂.heap, slotsUsed := s₂.slotsUsed } : State).setVm s₂.vm), Ls ++ L, c0 + mc, s0 + ms⟩,
      ⟨X.admits, X.cas, X.clock, X.frames, X.room, X.hears, X.method, X.code, (X.here.setHeapUsed s₂.heap s₂.slotsUsed).setVm hW'.alike, X.tail, State.WarmedH.trans X.warmed hW', X.limits, X.bytes, X.same.trans (hsame.setVm s.vm)⟩,
      ⟨g, mk, s₂, L, rfl, rfl, hqc, rfl, hL, rfl, rfl⟩, ?_⟩
    show Steps p.tables e below _ ((({ U with heap := s₂.heap, slotsUsed := s₂.slotsUsed } : State).setVm s₂.vm).setTop { g with pc := g.pc + len₂, stack := v.toList ++ g.stack })
    rw [← hs₂]
    exact hsteps
  · obtain ⟨e2, q2, q3, q4, q5, q6⟩ := id hsm
    have e3 : s₂ = ({ (U.calling g mk a).setFrames s₂.frames with heap := s₂.heap, slotsUsed := s₂.slotsUsed } : State).setVm s₂.vm := by
      have : s₂ = ({ s₂ with vm := (U.calling g mk a).vm } : State).setVm s₂.vm := rfl
      rw [e2] at this
      exact this
    have hf₂ : s₂.frames = .throwing q :: .java g :: U.frames.tail := hend
    have hW' : U.WarmedH s₂.vm := hW₂
    have hs₂ : s₂ = ((({ U with heap := s₂.heap, slotsUsed := s₂.slotsUsed } : State).setVm s₂.vm).setTop g).pushFrame (.throwing q) := by
      refine e3.trans ?_
      rw [hf₂, State.calling_eq h.top, State.setFrames_setFrames, State.pushFrame, State.frames_setTop _ hr', State.setTop_of_frames _ hr', State.setFrames_setFrames, hr]
      rfl
    have hsame : U.sameButNew ({ U with heap := s₂.heap, slotsUsed := s₂.slotsUsed } : State) L mc ms := by
      refine ⟨?_, q2, q3, q4, q5, q6⟩
      obtain ⟨t, ht, -⟩ := State.frames_cons hr
      show ({ U with heap := s₂.heap, slotsUsed := s₂.slotsUsed } : State) = { U.setFrames U.frames with heap := s₂.heap, slotsUsed := s₂.slotsUsed }
      rw [State.setFrames_self ht]
    subst hg
    refine Or.inr ⟨q, ⟨(({ U with heap := s₂.heap, slotsUsed := s₂.slotsUsed } : State).setVm s₂.vm), Ls ++ L, c0 + mc, s0 + ms⟩,
      ⟨X.admits, X.cas, X.clock, X.frames, X.room, X.hears, X.method, X.code, (X.here.setHeapUsed s₂.heap s₂.slotsUsed).setVm hW'.alike, X.tail, State.WarmedH.trans X.warmed hW', X.limits, X.bytes, X.same.trans (hsame.setVm s.vm)⟩,
      ⟨g, mk, s₂, L, E, ce, rfl, rfl, hx, hce, hcv, hcl, rfl, hL, rfl, rfl⟩, ?_⟩
    show Steps p.tables e below _ (((({ U with heap := s₂.heap, slotsUsed := s₂.slotsUsed } : State).setVm s₂.vm).setTop g).pushFrame (.throwing q))
    rw [← hs₂]
    exact hsteps
end
variable {p : Program} {l : Launch} {e : Env} {R : Room} {s : State} {m : MethodId} {args : Array Value} {below : List Frame} {meth : Method} {c : Code} {T : State} {H : Heap} {locs : List Loc} {cells slots : Nat}
theorem vx_callVX (X : Stand p l e R s m args below meth c T locs cells slots) (hexec : p.tables.exec = Jvm.exec) {own C : String} {index : Nat} {y : MethodName} {bytes : ByteArray} {maxL : Nat} {ret : Option FieldType} {hh : List (Nat × Nat × Nat × Nat)}
    (hown : s.vm.findClass own = some m.cls) (hlink : (Cond.methodLink own index y).before args s = true) (hinst : (Cond.instanceMethod y).before args s = true) (hsel : (Cond.selects C y y).before args s = true)
    (hcode : (Cond.codeWith y bytes maxL ret hh).before args s = true) (hy : y.cls ≠ "java/lang/invoke/MethodHandle" ∧ y.cls ≠ "java/lang/invoke/VarHandle")
    {W9 : Nat} {Pre : Pt → Array Value → Prop} {Post : Pt → Array Value → Option Value → Pt → Prop} {PostX : Pt → Array Value → Addr → Pt → Prop} (hK : vx_Back l R p e below s args y 3 W9 Pre Post PostX)
    {b : Addr} {cellB : Cell} (hcell : T.heap[b]? = some cellB) (hobj : cellB.vm.isStatics = false) (hcls : s.vm.findClass C = some cellB.cls)
    {g : JFrame} (hg : g.method = m) (hsize : g.locals.size = c.maxLocals) {argsL rest : List Value} (hlen : ∀ sig, parseMethodDescriptor y.desc = some sig → argsL.length = sig.parameters.length)
    (hstack : g.stack = argsL.reverse ++ .ref b :: rest) (hW : 2 * g.monitorRoom + (rest.map fun v => v.category).sum ≤ W9) (hdg : decode c.code g.pc = .ok (.invokevirtual index, 3))
    (hpre : ∀ vm₁, s.WarmedH vm₁ → Pre ⟨T.setVm vm₁, locs, cells, slots⟩ (Value.ref b :: argsL).toArray) :
    (∃ (v : Option Value) (vm₁ : Vm) (B : Pt), s.WarmedH vm₁ ∧ Stand p l e R s m args below meth c B.U B.locs B.cells B.slots ∧ Post ⟨T.setVm vm₁, locs, cells, slots⟩ (Value.ref b :: argsL).toArray v B ∧
      ∀ target, Steps p.tables e below (B.U.setTop { g with pc := g.pc + 3, stack := v.toList ++ rest }) target → Steps p.tables e below (T.setTop g) target) ∨
    (∃ (q : Addr) (vm₁ : Vm) (B : Pt), s.WarmedH vm₁ ∧ Stand p l e R s m args below meth c B.U B.locs B.cells B.slots ∧ PostX ⟨T.setVm vm₁, locs, cells, slots⟩ (Value.ref b :: argsL).toArray q B ∧
      Steps p.tables e below (T.setTop g) ((B.U.setTop { g with stack := rest }).pushFrame (.throwing q))) := by
  obtain ⟨mk, methM, hnamed, hmethM, hstM, habM⟩ := Cond.instanceMethod_spec hinst
  obtain ⟨m8, methM', cM, hn8, hmethM', -, -, -, -, -, -, hsigM⟩ := Cond.codeWith_spec hcode
  cases Option.some.inj (hn8.symm.trans hnamed)
  cases hmethM.symm.trans hmethM'
  obtain ⟨c2, r2, m2, q1, q2, q3, q4, kP, hkP, hkPi⟩ := Cond.selects_spec hsel
  cases hcls.symm.trans q1
  cases (State.methodFound?_of_named hnamed hy).symm.trans q2
  cases hnamed.symm.trans q3
  have hselP : selectMethod e.platform s.vm cellB.cls mk = .method mk := by rw [Launch.admits_selectMethod X.admits]; exact q4
  obtain ⟨vm₁, X₁, hstep₁⟩ := X.invokevirtual hexec hown hlink hnamed hmethM hstM hkP hkPi hy (a := b) (cell := cellB) hcell
    (fun z h => by rw [h] at hobj; cases hobj) hselP hmethM habM hkP hkPi (g := g) hg (argsL := argsL) (rest := rest) (hlen _ hsigM) hstack hdg
  rcases hK m meth c ⟨T.setVm vm₁, locs, cells, slots⟩ { g with stack := rest } (.invokevirtual index) mk (Value.ref b :: argsL).toArray X₁ hg hsize hdg hW (X₁.named hnamed) (hpre vm₁ X₁.warmed) with ⟨v, B, X', hpost, hsteps⟩ | ⟨q, B, X', hpost, hsteps⟩
  · exact Or.inl ⟨v, vm₁, B, X₁.warmed, X', hpost, fun target h => hstep₁ _ fun acts => by rw [doInvoke_state]; exact hsteps.trans h⟩
  · exact Or.inr ⟨q, vm₁, B, X₁.warmed, X', hpost, hstep₁ _ fun acts => by rw [doInvoke_state]; exact hsteps⟩
theorem vx_callSX (X : Stand p l e R s m args below meth c T locs cells slots) (hexec : p.tables.exec = Jvm.exec) {own : String} {index : Nat} {y : MethodName} {bytes : ByteArray} {maxL : Nat} {ret : Option FieldType} {hh : List (Nat × Nat × Nat × Nat)}
    (hown : s.vm.findClass own = some m.cls) (hlink : (Cond.methodLink own index y).before args s = true) (hstat : (Cond.static y).before args s = true) (hinit : (Cond.initialized y.cls).before args s = true)
    (hcode : (Cond.codeWith y bytes maxL ret hh).before args s = true) (hy : y.cls ≠ "java/lang/invoke/MethodHandle" ∧ y.cls ≠ "java/lang/invoke/VarHandle")
    {W9 : Nat} {Pre : Pt → Array Value → Prop} {Post : Pt → Array Value → Option Value → Pt → Prop} {PostX : Pt → Array Value → Addr → Pt → Prop} (hK : vx_Back l R p e below s args y 3 W9 Pre Post PostX)
    {g : JFrame} (hg : g.method = m) (hsize : g.locals.size = c.maxLocals) {argsL rest : List Value} (hlen : ∀ sig, parseMethodDescriptor y.desc = some sig → argsL.length = sig.parameters.length)
    (hstack : g.stack = argsL.reverse ++ rest) (hW : 2 * g.monitorRoom + (rest.map fun v => v.category).sum ≤ W9) (hdg : decode c.code g.pc = .ok (.invokestatic index, 3))
    (hpre : ∀ vm₁, s.WarmedH vm₁ → Pre ⟨T.setVm vm₁, locs, cells, slots⟩ argsL.toArray) :
    (∃ (v : Option Value) (vm₁ : Vm) (B : Pt), s.WarmedH vm₁ ∧ Stand p l e R s m args below meth c B.U B.locs B.cells B.slots ∧ Post ⟨T.setVm vm₁, locs, cells, slots⟩ argsL.toArray v B ∧
      ∀ target, Steps p.tables e below (B.U.setTop { g with pc := g.pc + 3, stack := v.toList ++ rest }) target → Steps p.tables e below (T.setTop g) target) ∨
    (∃ (q : Addr) (vm₁ : Vm) (B : Pt), s.WarmedH vm₁ ∧ Stand p l e R s m args below meth c B.U B.locs B.cells B.slots ∧ PostX ⟨T.setVm vm₁, locs, cells, slots⟩ argsL.toArray q B ∧
      Steps p.tables e below (T.setTop g) ((B.U.setTop { g with stack := rest }).pushFrame (.throwing q))) := by
  obtain ⟨mk, methM, cM, hnamed, hmethM, -, -, -, -, -, -, hsigM⟩ := Cond.codeWith_spec hcode
  have hstatic : methM.isStatic = true := Cond.static_spec hnamed hmethM hstat
  obtain ⟨kP, hkP, -⟩ := className_of_methodNamed hnamed
  have hinitP : kP.init = .initialized := Cond.initialized_spec (findClass_of_methodNamed hnamed) hkP hinit
  obtain ⟨vm₁, X₁, hstep₁⟩ := X.invokestatic hexec hown hlink hnamed hmethM hstatic hkP hinitP hy (g := g) hg (argsL := argsL) (rest := rest) (hlen _ hsigM) hstack hdg
  rcases hK m meth c ⟨T.setVm vm₁, locs, cells, slots⟩ { g with stack := rest } (.invokestatic index) mk argsL.toArray X₁ hg hsize hdg hW (X₁.named hnamed) (hpre vm₁ X₁.warmed) with ⟨v, B, X', hpost, hsteps⟩ | ⟨q, B, X', hpost, hsteps⟩
  · exact Or.inl ⟨v, vm₁, B, X₁.warmed, X', hpost, fun target h => hstep₁ _ fun acts => by rw [doInvoke_state]; exact hsteps.trans h⟩
  · exact Or.inr ⟨q, vm₁, B, X₁.warmed, X', hpost, hstep₁ _ fun acts => by rw [doInvoke_state]; exact hsteps⟩
theorem vx_callVW (X : Stand p l e R s m args below meth c T locs cells slots) (hexec : p.tables.exec = Jvm.exec) {own C : String} {index : Nat} {y : MethodName} {bytes : ByteArray} {maxL : Nat} {ret : Option FieldType} {hh : List (Nat × Nat × Nat × Nat)}
    (hown : s.vm.findClass own = some m.cls) (hlink : (Cond.methodLink own index y).before args s = true) (hinst : (Cond.instanceMethod y).before args s = true) (hsel : (Cond.selects C y y).before args s = true)
    (hcode : (Cond.codeWith y bytes maxL ret hh).before args s = true) (hy : y.cls ≠ "java/lang/invoke/MethodHandle" ∧ y.cls ≠ "java/lang/invoke/VarHandle")
    {W9 : Nat} {Pre : Pt → Array Value → Prop} {Post : Pt → Array Value → Option Value → Pt → Prop} (hK : Back l R p e below s args y 3 W9 Pre Post)
    {b : Addr} {cellB : Cell} (hcell : T.heap[b]? = some cellB) (hobj : cellB.vm.isStatics = false) (hcls : s.vm.findClass C = some cellB.cls)
    {g : JFrame} (hg : g.method = m) (hsize : g.locals.size = c.maxLocals) {argsL rest : List Value} (hlen : ∀ sig, parseMethodDescriptor y.desc = some sig → argsL.length = sig.parameters.length)
    (hstack : g.stack = argsL.reverse ++ .ref b :: rest) (hW : 2 * g.monitorRoom + (rest.map fun v => v.category).sum ≤ W9) (hdg : decode c.code g.pc = .ok (.invokevirtual index, 3))
    (hpre : ∀ vm₁, s.WarmedH vm₁ → Pre ⟨T.setVm vm₁, locs, cells, slots⟩ (Value.ref b :: argsL).toArray) :
    ∃ (v : Option Value) (vm₁ : Vm) (B : Pt), s.WarmedH vm₁ ∧ Stand p l e R s m args below meth c B.U B.locs B.cells B.slots ∧ Post ⟨T.setVm vm₁, locs, cells, slots⟩ (Value.ref b :: argsL).toArray v B ∧
      ∀ target, Steps p.tables e below (B.U.setTop { g with pc := g.pc + 3, stack := v.toList ++ rest }) target → Steps p.tables e below (T.setTop g) target := by
  obtain ⟨mk, methM, hnamed, hmethM, hstM, habM⟩ := Cond.instanceMethod_spec hinst
  obtain ⟨m8, methM', cM, hn8, hmethM', -, -, -, -, -, -, hsigM⟩ := Cond.codeWith_spec hcode
  cases Option.some.inj (hn8.symm.trans hnamed)
  cases hmethM.symm.trans hmethM'
  obtain ⟨c2, r2, m2, q1, q2, q3, q4, kP, hkP, hkPi⟩ := Cond.selects_spec hsel
  cases hcls.symm.trans q1
  cases (State.methodFound?_of_named hnamed hy).symm.trans q2
  cases hnamed.symm.trans q3
  have hselP : selectMethod e.platform s.vm cellB.cls mk = .method mk := by rw [Launch.admits_selectMethod X.admits]; exact q4
  obtain ⟨vm₁, X₁, hstep₁⟩ := X.invokevirtual hexec hown hlink hnamed hmethM hstM hkP hkPi hy (a := b) (cell := cellB) hcell
    (fun z h => by rw [h] at hobj; cases hobj) hselP hmethM habM hkP hkPi (g := g) hg (argsL := argsL) (rest := rest) (hlen _ hsigM) hstack hdg
  obtain ⟨v, B, X', hpost, hsteps⟩ := hK m meth c ⟨T.setVm vm₁, locs, cells, slots⟩ { g with stack := rest } (.invokevirtual index) mk (Value.ref b :: argsL).toArray X₁ hg hsize hdg hW (X₁.named hnamed) (hpre vm₁ X₁.warmed)
  exact ⟨v, vm₁, B, X₁.warmed, X', hpost, fun target h => hstep₁ _ fun acts => by rw [doInvoke_state]; exact hsteps.trans h⟩
abbrev vx_CVW (R : Room) (s : State) (args : Array Value) (own C : String) (index : Nat) (y : MethodName) (bytes : ByteArray) (maxL : Nat) (ret : Option FieldType) (hh : List (Nat × Nat × Nat × Nat)) (ws : List Cond) (rm : Room) (mc ms n : Nat) : Prop :=
  (rm.cells = mc ∧ rm.slots = ms ∧ rm.frames + 1 ≤ R.frames ∧ 8 + (maxL + 11) + rm.locals ≤ R.locals ∧ (∀ w ∈ ws, ∀ (a' : Array Value) (U : State), s.WarmedH U.vm → w.before a' U = true) ∧ Cond.codeWith y bytes maxL ret hh ∈ ws) ∧
  (Cond.codeWith y bytes maxL ret hh).before args s = true ∧ (Cond.initialized y.cls).before args s = true ∧ (y.cls ≠ "java/lang/invoke/MethodHandle" ∧ y.cls ≠ "java/lang/invoke/VarHandle") ∧
  (∀ sig, parseMethodDescriptor y.desc = some sig → n = sig.parameters.length) ∧ (Cond.methodLink own index y).before args s = true ∧ (Cond.instanceMethod y).before args s = true ∧ (Cond.selects C y y).before args s = true
theorem vx_cwVW {own C : String} {index maxL mc ms : Nat} {y : MethodName} {bytes : ByteArray} {ret : Option FieldType} {hh : List (Nat × Nat × Nat × Nat)} {Ts ws ws' : List Cond} {rm : Room} (n : Nat) (ht : ∀ w ∈ Ts, w.before args s = true) (hT : GoodIn Ts (wsV own index C y ws)) (hw : ws = Cond.codeWith y bytes maxL ret hh :: ws') (hrc : rm.cells = mc) (hrs : rm.slots = ms)
    (hd : y.cls = C ∧ y.cls ≠ "java/lang/invoke/MethodHandle" ∧ y.cls ≠ "java/lang/invoke/VarHandle" ∧ (parseMethodDescriptor y.desc).map (fun d => d.parameters.length) = some n) (hR : rm.frames + 1 ≤ R.frames ∧ 8 + (maxL + 11) + rm.locals ≤ R.locals) :
    vx_CVW R s args own C index y bytes maxL ret hh ws rm mc ms n := by
  obtain ⟨hC, hd⟩ := hd
  subst hC
  have ok : ∀ w ∈ wsV own index y.cls y ws, w.before args s = true := fun w h => ht w (hT w h).1
  have hG : GoodIn Ts ws := fun w h => hT w (by unfold wsV; exact List.mem_append_right _ h)
  have hc : Cond.codeWith y bytes maxL ret hh ∈ ws := by rw [hw]; exact List.mem_cons_self
  refine ⟨⟨hrc, hrs, hR.1, hR.2, pay_in ht hG, hc⟩, ht _ (hG _ hc).1, ok _ (by simp [wsV]), ⟨hd.1, hd.2.1⟩, fun sig h => ?_, ok _ (by simp [wsV]), ok _ (by simp [wsV]), ok _ (by simp [wsV])⟩
  have h2 := hd.2.2
  rw [h] at h2
  exact (Option.some.inj h2).symm
theorem vx_runVW {y : MethodName} {bytes cc : ByteArray} {maxL nL mc ms n index : Nat} {ret : Option FieldType} {hh : List (Nat × Nat × Nat × Nat)} {ws : List Cond} {rm : Room} {Pc : Array Value → State → Prop} {Qc : Array Value → State → Outcome → State → Prop} {free : Addr → Prop} {Ts : List Cond} {own C : String} {b : Addr} {As rest : List Value} {g : JFrame}
    (S : CallFix p m c cc nL s args Ts own) (hM : Met l y ws rm Pc Qc mc ms free) (cw : vx_CVW R s args own C index y bytes maxL ret hh ws rm mc ms n) (hp : PreV s H C b Pc As)
    (hg : g.method = m) (hn : As.length = n) (hsize : g.locals.size = nL) (hstack : g.stack = As.reverse ++ .ref b :: rest) (hW : 2 * g.monitorRoom + (rest.map fun v => v.category).sum ≤ 8) (hdg : decode cc g.pc = .ok (.invokevirtual index, 3)) (hf : cells + mc ≤ R.cells ∧ slots + ms ≤ R.slots) :
    va_Run p l e R s m args below meth c H locs cells slots mc ms g rest (Qc (Value.ref b :: As).toArray) free := by
  obtain ⟨⟨hrc, hrs, hfr, hlo, hws, hcw⟩, hcode, hini, hy, hlen, hl, hin, hse⟩ := cw
  have hK : Back l R p e below s args y 3 8 (PreOf R mc ms Pc) (PostOf Qc mc ms free) := va_backW (hh := hh) (bytes := bytes) (maxL := maxL) (ret := ret) hM hp.1 hrc hrs hfr hlo hws hcw (fun a' U hW => word_at hW (Or.inl (by first | rfl | simp [Cond.onTables, Cond.keeps, Cond.steady])) hini)
  obtain ⟨hx, hb, hml, ho, -⟩ := S
  obtain ⟨-, ⟨cellB, hcB, hoB, hclB⟩, hPc⟩ := hp
  intro T hT X
  obtain ⟨v, vm₁, ⟨U', l2, c2, s2⟩, hW₁, X', ⟨g', mk, t, L, e1, e2, hq, h1, hL, h2, h3⟩, st⟩ := vx_callVW X hx (C := C) (hh := hh) (bytes := bytes) (maxL := maxL) (ret := ret) ho hl hin hse hcode hy hK (by rw [hT]; exact hcB) hoB hclB hg (hsize.trans hml.symm) (argsL := As) (rest := rest) (fun sig h => hn.trans (hlen sig h)) hstack hW (by rw [hb]; exact hdg)
    (fun vm₁ hW₁ => ⟨hf.1, hf.2, hPc (T.setVm vm₁) hT hW₁⟩)
  dsimp only [Pt.U, Pt.locs, Pt.cells, Pt.slots] at X' e1 e2 h1 h2 h3 st
  subst h1; subst h2; subst h3
  exact ⟨v, (T.setVm vm₁).calling g' mk (Value.ref b :: As).toArray, t, U', L, hT, X', hL, e1, e2, hq, st⟩
section
variable {y : MethodName} {bytes cc : ByteArray} {maxL nL mc ms n index : Nat} {ret : Option FieldType} {ws : List Cond} {rm : Room} {Pc : Array Value → State → Prop} {Qc : Array Value → State → Outcome → State → Prop} {XC : String → State → State → Prop} {free : Addr → Prop} {Ts : List Cond} {own C : String} {b : Addr} {As rest : List Value} {g : JFrame}
theorem vx_runVX {hh : List (Nat × Nat × Nat × Nat)} (S : CallFix p m c cc nL s args Ts own) (hM : vx_Met l y ws rm Pc Qc XC mc ms free) (cw : vx_CVW R s args own C index y bytes maxL ret hh ws rm mc ms n) (hp : PreV s H C b Pc As)
    (hg : g.method = m) (hn : As.length = n) (hsize : g.locals.size = nL) (hstack : g.stack = As.reverse ++ .ref b :: rest) (hW : 2 * g.monitorRoom + (rest.map fun v => v.category).sum ≤ 8) (hdg : decode cc g.pc = .ok (.invokevirtual index, 3)) (hf : cells + mc ≤ R.cells ∧ slots + ms ≤ R.slots) :
    vx_Run p l e R s m args below meth c H locs cells slots mc ms g rest (Qc (Value.ref b :: As).toArray) XC free := by
  obtain ⟨⟨hrc, hrs, hfr, hlo, hws, hcw⟩, hcode, hini, hy, hlen, hl, hin, hse⟩ := cw
  have hK : vx_Back l R p e below s args y 3 8 (PreOf R mc ms Pc) (PostOf Qc mc ms free) (vx_Post XC mc ms free) := vx_backW (hh := hh) (bytes := bytes) (maxL := maxL) (ret := ret) hM hp.1 hrc hrs hfr hlo hws hcw (fun a' U hW => word_at hW (Or.inl (by first | rfl | simp [Cond.onTables, Cond.keeps, Cond.steady])) hini)
  obtain ⟨hx, hb, hml, ho, -⟩ := S
  obtain ⟨-, ⟨cellB, hcB, hoB, hclB⟩, hPc⟩ := hp
  intro T hT X
  rcases vx_callVX X hx (C := C) (hh := hh) (bytes := bytes) (maxL := maxL) (ret := ret) ho hl hin hse hcode hy hK (by rw [hT]; exact hcB) hoB hclB hg (hsize.trans hml.symm) (argsL := As) (rest := rest) (fun sig h => hn.trans (hlen sig h)) hstack hW (by rw [hb]; exact hdg)
    (fun vm₁ hW₁ => ⟨hf.1, hf.2, hPc (T.setVm vm₁) hT hW₁⟩) with ⟨v, vm₁, ⟨U', l2, c2, s2⟩, hW₁, X', ⟨g', mk, t, L, e1, e2, hq, h1, hL, h2, h3⟩, st⟩ | ⟨q, vm₁, ⟨U', l2, c2, s2⟩, hW₁, X', ⟨g', mk, t, L, E, ce, e1, e2, hq, hce, hcv, hcl, h1, hL, h2, h3⟩, st⟩
  · dsimp only [Pt.U, Pt.locs, Pt.cells, Pt.slots] at X' e1 e2 h1 h2 h3 st
    subst h1; subst h2; subst h3
    exact Or.inl ⟨v, (T.setVm vm₁).calling g' mk (Value.ref b :: As).toArray, t, U', L, hT, X', hL, e1, e2, hq, st⟩
  · dsimp only [Pt.U, Pt.locs, Pt.cells, Pt.slots] at X' e1 e2 h1 h2 h3 st hcl
    subst h1; subst h2; subst h3
    exact Or.inr ⟨q, (T.setVm vm₁).calling g' mk (Value.ref b :: As).toArray, t, U', L, E, ce, hT, X', hL, e1, e2, hq, hce, hcv, vx_cls hW₁ hcl, st⟩
theorem vx_runSX {hh : List (Nat × Nat × Nat × Nat)} (S : CallFix p m c cc nL s args Ts own) (hM : vx_Met l y ws rm Pc Qc XC mc ms free) (cw : vx_CSW R s args own index y bytes maxL ret hh ws rm mc ms n) (hp : PreS s H Pc As)
    (hg : g.method = m) (hn : As.length = n) (hsize : g.locals.size = nL) (hstack : g.stack = As.reverse ++ rest) (hW : 2 * g.monitorRoom + (rest.map fun v => v.category).sum ≤ 8) (hdg : decode cc g.pc = .ok (.invokestatic index, 3)) (hf : cells + mc ≤ R.cells ∧ slots + ms ≤ R.slots) :
    vx_Run p l e R s m args below meth c H locs cells slots mc ms g rest (Qc As.toArray) XC free := by
  obtain ⟨⟨hrc, hrs, hfr, hlo, hws, hcw⟩, hcode, hini, hy, hlen, hl, hstt⟩ := cw
  have hK : vx_Back l R p e below s args y 3 8 (PreOf R mc ms Pc) (PostOf Qc mc ms free) (vx_Post XC mc ms free) := vx_backW (hh := hh) (bytes := bytes) (maxL := maxL) (ret := ret) hM hp.1 hrc hrs hfr hlo hws hcw (fun a' U hW => word_at hW (Or.inl (by first | rfl | simp [Cond.onTables, Cond.keeps, Cond.steady])) hini)
  obtain ⟨hx, hb, hml, ho, -⟩ := S
  intro T hT X
  rcases vx_callSX X hx (hh := hh) (bytes := bytes) (maxL := maxL) (ret := ret) ho hl hstt hini hcode hy hK hg (hsize.trans hml.symm) (argsL := As) (rest := rest) (fun sig h => hn.trans (hlen sig h)) hstack hW (by rw [hb]; exact hdg)
    (fun vm₁ hW₁ => ⟨hf.1, hf.2, hp.2 (T.setVm vm₁) hT hW₁⟩) with ⟨v, vm₁, ⟨U', l2, c2, s2⟩, hW₁, X', ⟨g', mk, t, L, e1, e2, hq, h1, hL, h2, h3⟩, st⟩ | ⟨q, vm₁, ⟨U', l2, c2, s2⟩, hW₁, X', ⟨g', mk, t, L, E, ce, e1, e2, hq, hce, hcv, hcl, h1, hL, h2, h3⟩, st⟩
  · dsimp only [Pt.U, Pt.locs, Pt.cells, Pt.slots] at X' e1 e2 h1 h2 h3 st
    subst h1; subst h2; subst h3
    exact Or.inl ⟨v, (T.setVm vm₁).calling g' mk As.toArray, t, U', L, hT, X', hL, e1, e2, hq, st⟩
  · dsimp only [Pt.U, Pt.locs, Pt.cells, Pt.slots] at X' e1 e2 h1 h2 h3 st hcl
    subst h1; subst h2; subst h3
    exact Or.inr ⟨q, (T.setVm vm₁).calling g' mk As.toArray, t, U', L, E, ce, hT, X', hL, e1, e2, hq, hce, hcv, vx_cls hW₁ hcl, st⟩
end
end VXH
theorem vx_ofWH {l : Launch} {y : MethodName} {ws ws' : List Cond} {rm : Room} {Pc : Array Value → State → Prop} {Qc : Array Value → State → Outcome → State → Prop} {XC : String → State → State → Prop} {mc ms : Nat} {free : Addr → Prop} {cc : ByteArray} {maxL : Nat} {ret : Option FieldType} {hh : List (Nat × Nat × Nat × Nat)}
    (hy : plainName y.cls = true) (hw : ws = Cond.codeWith y cc maxL ret hh :: ws')
    (body : ∀ p e s m args below meth c s₁, BodyLoose p l y (headSpec ws rm) cc maxL ret e s m args below meth c s₁ → c.maxLocals = maxL → Pc args s →
      W p l e (headSpec ws rm).room s m args below meth c s.heap [] 0 0 (vx_MQ below Qc XC args s mc ms free) (entryFrame m args maxL)) : vx_Met l y ws rm Pc Qc XC mc ms free := by
  refine MetFree.of_bodyS (code := cc) (maxLocals := maxL) (ret := ret) hy ?_ ?_
  · intro args s m h hn
    obtain ⟨m9, meth, c, hn9, h1, h2, h3, h4, -, h5, h6, -⟩ := Cond.codeWith_spec (atoms_spec (ws := ws) h _ (by rw [hw]; exact List.mem_cons_self))
    cases hn.symm.trans hn9
    exact ⟨meth, c, h1, h2, h3, h4, h5, h6⟩
  · intro p e s m args below meth c s₁ B hml hP _
    have hh0 : s₁.heap = s.heap := by rw [B.state]; rfl
    obtain ⟨t, a1, o, b1, b2, b3⟩ := body p e s m args below meth c s₁ B hml hP s₁ hh0 (Stand.of_body B)
    exact ⟨t, o, a1, b1, b2, b3⟩
/-! ===== END ===== -/
end
section
def RX0 : String := "StreetEditions$Differences"
def TX0 : u_T := fun k => match k with
  | 0 => ("StreetEditions$Differences", "leadsFrom", "[I", true)
  | 1 => ("StreetEditions$Differences", "crossedOut", "[I", true)
  | 2 => ("StreetEditions$Differences", "added", "[I", true)
  | 3 => ("StreetEditions$Differences", "costs", "[I", true)
  | 4 => ("StreetEditions$Differences", "limit", "I", false)
  | _ => ("StreetEditions$Differences", "count", "I", false)
def tyX0 : Nat → FieldType := fun k => match k with
  | 0 => .array .int
  | 1 => .array .int
  | 2 => .array .int
  | 3 => .array .int
  | 4 => .int
  | _ => .int
abbrev wsX00 : List Cond := u_ws RX0 TX0 6
theorem nmX0 : ∀ a, a < 6 → ∀ b, b < 6 → a ≠ b → (TX0 a).2.1 ≠ (TX0 b).2.1 := by decide +kernel
theorem tyX0_ok : ∀ k, k < 6 → parseFieldDescriptor (TX0 k).2.2.1 = some (tyX0 k) := by decide +kernel
abbrev cX0_init : ByteArray := prog_2_method_1_code
def yX0_init : MethodName := ⟨RX0, "<init>", "()V"⟩
abbrev cX0_copyFrom : ByteArray := prog_2_method_2_code
def yX0_copyFrom : MethodName := ⟨RX0, "copyFrom", "(LStreetEditions$Differences;)V"⟩
abbrev cX0_keep : ByteArray := prog_2_method_3_code
def yX0_keep : MethodName := ⟨RX0, "keep", "(III)V"⟩
abbrev cX0_limitTo : ByteArray := prog_2_method_4_code
def yX0_limitTo : MethodName := ⟨RX0, "limitTo", "(I)V"⟩
abbrev cX0_dropAll : ByteArray := prog_2_method_5_code
def yX0_dropAll : MethodName := ⟨RX0, "dropAll", "()V"⟩
abbrev cX0_dropOldest : ByteArray := prog_2_method_6_code
def yX0_dropOldest : MethodName := ⟨RX0, "dropOldest", "(I)V"⟩
abbrev cX0_costSince : ByteArray := prog_2_method_7_code
def yX0_costSince : MethodName := ⟨RX0, "costSince", "(I)I"⟩
abbrev cX0_appliedSince : ByteArray := prog_2_method_8_code
def yX0_appliedSince : MethodName := ⟨RX0, "appliedSince", "(II)I"⟩
def RX1 : String := "StreetEditions$Follower"
def TX1 : u_T := fun k => match k with
  | 0 => ("StreetEditions$Follower", "hasList", "Z", false)
  | 1 => ("StreetEditions$Follower", "list", "I", false)
  | 2 => ("StreetEditions$Follower", "edition", "I", false)
  | 3 => ("StreetEditions$Follower", "asleep", "Z", false)
  | 4 => ("StreetEditions$Follower", "noticed", "Z", false)
  | 5 => ("StreetEditions$Follower", "costsSoFar", "I", false)
  | _ => ("StreetEditions$Follower", "wholeListCosts", "I", false)
def tyX1 : Nat → FieldType := fun k => match k with
  | 0 => .boolean
  | 1 => .int
  | 2 => .int
  | 3 => .boolean
  | 4 => .boolean
  | 5 => .int
  | _ => .int
abbrev wsX10 : List Cond := u_ws RX1 TX1 7
theorem nmX1 : ∀ a, a < 7 → ∀ b, b < 7 → a ≠ b → (TX1 a).2.1 ≠ (TX1 b).2.1 := by decide +kernel
theorem tyX1_ok : ∀ k, k < 7 → parseFieldDescriptor (TX1 k).2.2.1 = some (tyX1 k) := by decide +kernel
abbrev cX1_init : ByteArray := prog_3_method_1_code
def yX1_init : MethodName := ⟨RX1, "<init>", "()V"⟩
abbrev cX1_copyFrom : ByteArray := prog_3_method_2_code
def yX1_copyFrom : MethodName := ⟨RX1, "copyFrom", "(LStreetEditions$Follower;)V"⟩
abbrev cX1_loseList : ByteArray := prog_3_method_3_code
def yX1_loseList : MethodName := ⟨RX1, "loseList", "()V"⟩
abbrev cX1_editionOrNone : ByteArray := prog_3_method_4_code
def yX1_editionOrNone : MethodName := ⟨RX1, "editionOrNone", "()I"⟩
abbrev cX1_sizeOrNone : ByteArray := prog_3_method_5_code
def yX1_sizeOrNone : MethodName := ⟨RX1, "sizeOrNone", "()I"⟩
abbrev cX1_wrongOrNone : ByteArray := prog_3_method_6_code
def yX1_wrongOrNone : MethodName := ⟨RX1, "wrongOrNone", "(I)I"⟩
abbrev cX1_knows : ByteArray := prog_3_method_7_code
def yX1_knows : MethodName := ⟨RX1, "knows", "(I)Z"⟩
abbrev cX1_attentionNumber : ByteArray := prog_3_method_8_code
def yX1_attentionNumber : MethodName := ⟨RX1, "attentionNumber", "()I"⟩
def RX2 : String := "StreetEditions$OrderText"
def TX2 : u_T := fun k => match k with
  | 0 => ("StreetEditions$OrderText", "codes", "[I", true)
  | _ => ("StreetEditions$OrderText", "length", "I", false)
def tyX2 : Nat → FieldType := fun k => match k with
  | 0 => .array .int
  | _ => .int
abbrev wsX20 : List Cond := u_ws RX2 TX2 2
theorem nmX2 : ∀ a, a < 2 → ∀ b, b < 2 → a ≠ b → (TX2 a).2.1 ≠ (TX2 b).2.1 := by decide +kernel
theorem tyX2_ok : ∀ k, k < 2 → parseFieldDescriptor (TX2 k).2.2.1 = some (tyX2 k) := by decide +kernel
abbrev cX2_init : ByteArray := prog_4_method_1_code
def yX2_init : MethodName := ⟨RX2, "<init>", "()V"⟩
abbrev cX2_take : ByteArray := prog_4_method_2_code
def yX2_take : MethodName := ⟨RX2, "take", "(I)V"⟩
abbrev cX2_makeEmpty : ByteArray := prog_4_method_3_code
def yX2_makeEmpty : MethodName := ⟨RX2, "makeEmpty", "()V"⟩
abbrev cX2_errorIndex : ByteArray := prog_4_method_4_code
def yX2_errorIndex : MethodName := ⟨RX2, "errorIndex", "()I"⟩
abbrev cX2_isComplete : ByteArray := prog_4_method_5_code
def yX2_isComplete : MethodName := ⟨RX2, "isComplete", "()Z"⟩
abbrev cX2_carriedOutBy : ByteArray := prog_4_method_6_code
def yX2_carriedOutBy : MethodName := ⟨RX2, "carriedOutBy", "(LStreetEditions$State;)I"⟩
abbrev cX2_mayEnd : ByteArray := prog_4_method_7_code
def yX2_mayEnd : MethodName := ⟨RX2, "mayEnd", "(I)Z"⟩
abbrev cX2_isDigit : ByteArray := prog_4_method_8_code
def yX2_isDigit : MethodName := ⟨RX2, "isDigit", "(II)Z"⟩
abbrev cX2_placeBehind : ByteArray := prog_4_method_9_code
def yX2_placeBehind : MethodName := ⟨RX2, "placeBehind", "(II)I"⟩
abbrev cX2_placeBehindSign : ByteArray := prog_4_method_10_code
def yX2_placeBehindSign : MethodName := ⟨RX2, "placeBehindSign", "(I)I"⟩
abbrev cX2_placeBehindStreetDigit : ByteArray := prog_4_method_11_code
def yX2_placeBehindStreetDigit : MethodName := ⟨RX2, "placeBehindStreetDigit", "(I)I"⟩
abbrev cX2_placeBehindEditionDigit : ByteArray := prog_4_method_12_code
def yX2_placeBehindEditionDigit : MethodName := ⟨RX2, "placeBehindEditionDigit", "(I)I"⟩
def RX3 : String := "StreetEditions$Printer"
def TX3 : u_T := fun k => match k with
  | 0 => ("StreetEditions$Printer", "draftList", "I", false)
  | 1 => ("StreetEditions$Printer", "publishedList", "I", false)
  | 2 => ("StreetEditions$Printer", "number", "I", false)
  | _ => ("StreetEditions$Printer", "differences", "LStreetEditions$Differences;", true)
def tyX3 : Nat → FieldType := fun k => match k with
  | 0 => .int
  | 1 => .int
  | 2 => .int
  | _ => .object "StreetEditions$Differences"
abbrev wsX30 : List Cond := u_ws RX3 TX3 4
theorem nmX3 : ∀ a, a < 4 → ∀ b, b < 4 → a ≠ b → (TX3 a).2.1 ≠ (TX3 b).2.1 := by decide +kernel
theorem tyX3_ok : ∀ k, k < 4 → parseFieldDescriptor (TX3 k).2.2.1 = some (tyX3 k) := by decide +kernel
abbrev cX3_init : ByteArray := prog_5_method_1_code
def yX3_init : MethodName := ⟨RX3, "<init>", "()V"⟩
abbrev cX3_copyFrom : ByteArray := prog_5_method_2_code
def yX3_copyFrom : MethodName := ⟨RX3, "copyFrom", "(LStreetEditions$Printer;)V"⟩
abbrev cX3_mayAdd : ByteArray := prog_5_method_3_code
def yX3_mayAdd : MethodName := ⟨RX3, "mayAdd", "(I)Z"⟩
abbrev cX3_mayCrossOut : ByteArray := prog_5_method_4_code
def yX3_mayCrossOut : MethodName := ⟨RX3, "mayCrossOut", "(I)Z"⟩
abbrev cX3_mayPublish : ByteArray := prog_5_method_5_code
def yX3_mayPublish : MethodName := ⟨RX3, "mayPublish", "()Z"⟩
abbrev cX3_mayTakeNumber : ByteArray := prog_5_method_6_code
def yX3_mayTakeNumber : MethodName := ⟨RX3, "mayTakeNumber", "(I)Z"⟩
abbrev cX3_addToDraft : ByteArray := prog_5_method_7_code
def yX3_addToDraft : MethodName := ⟨RX3, "addToDraft", "(I)V"⟩
abbrev cX3_takeOutOfDraft : ByteArray := prog_5_method_8_code
def yX3_takeOutOfDraft : MethodName := ⟨RX3, "takeOutOfDraft", "(I)V"⟩
abbrev cX3_issueDraft : ByteArray := prog_5_method_9_code
def yX3_issueDraft : MethodName := ⟨RX3, "issueDraft", "()V"⟩
abbrev cX3_takeNumber : ByteArray := prog_5_method_10_code
def yX3_takeNumber : MethodName := ⟨RX3, "takeNumber", "(I)V"⟩
abbrev cX3_placeOf : ByteArray := prog_5_method_11_code
def yX3_placeOf : MethodName := ⟨RX3, "placeOf", "(I)I"⟩
abbrev cX3_wholeListCost : ByteArray := prog_5_method_12_code
def yX3_wholeListCost : MethodName := ⟨RX3, "wholeListCost", "()I"⟩
abbrev cX3_answerTo : ByteArray := prog_5_method_13_code
def yX3_answerTo : MethodName := ⟨RX3, "answerTo", "(LStreetEditions$Follower;)I"⟩
abbrev cX3_costOfAnswer : ByteArray := prog_5_method_14_code
def yX3_costOfAnswer : MethodName := ⟨RX3, "costOfAnswer", "(II)I"⟩
def RX4 : String := "StreetEditions$SavedStates"
def TX4 : u_T := fun k => match k with
  | 0 => ("StreetEditions$SavedStates", "rows", "[LStreetEditions$State;", true)
  | 1 => ("StreetEditions$SavedStates", "next", "I", false)
  | _ => ("StreetEditions$SavedStates", "count", "I", false)
def tyX4 : Nat → FieldType := fun k => match k with
  | 0 => .array (.object "StreetEditions$State")
  | 1 => .int
  | _ => .int
abbrev wsX40 : List Cond := u_ws RX4 TX4 3
theorem nmX4 : ∀ a, a < 3 → ∀ b, b < 3 → a ≠ b → (TX4 a).2.1 ≠ (TX4 b).2.1 := by decide +kernel
theorem tyX4_ok : ∀ k, k < 3 → parseFieldDescriptor (TX4 k).2.2.1 = some (tyX4 k) := by decide +kernel
abbrev cX4_init : ByteArray := prog_6_method_1_code
def yX4_init : MethodName := ⟨RX4, "<init>", "()V"⟩
abbrev cX4_save : ByteArray := prog_6_method_2_code
def yX4_save : MethodName := ⟨RX4, "save", "(LStreetEditions$State;)V"⟩
abbrev cX4_restoreInto : ByteArray := prog_6_method_3_code
def yX4_restoreInto : MethodName := ⟨RX4, "restoreInto", "(LStreetEditions$State;)V"⟩
def RX5 : String := "StreetEditions$State"
def TX5 : u_T := fun k => match k with
  | 0 => ("StreetEditions$State", "printer", "LStreetEditions$Printer;", true)
  | _ => ("StreetEditions$State", "followers", "[LStreetEditions$Follower;", true)
def tyX5 : Nat → FieldType := fun k => match k with
  | 0 => .object "StreetEditions$Printer"
  | _ => .array (.object "StreetEditions$Follower")
abbrev wsX50 : List Cond := u_ws RX5 TX5 2
theorem nmX5 : ∀ a, a < 2 → ∀ b, b < 2 → a ≠ b → (TX5 a).2.1 ≠ (TX5 b).2.1 := by decide +kernel
theorem tyX5_ok : ∀ k, k < 2 → parseFieldDescriptor (TX5 k).2.2.1 = some (tyX5 k) := by decide +kernel
abbrev cX5_init : ByteArray := prog_7_method_1_code
def yX5_init : MethodName := ⟨RX5, "<init>", "()V"⟩
abbrev cX5_copyFrom : ByteArray := prog_7_method_2_code
def yX5_copyFrom : MethodName := ⟨RX5, "copyFrom", "(LStreetEditions$State;)V"⟩
abbrev cX5_issueDraft : ByteArray := prog_7_method_3_code
def yX5_issueDraft : MethodName := ⟨RX5, "issueDraft", "()V"⟩
abbrev cX5_takeNumber : ByteArray := prog_7_method_4_code
def yX5_takeNumber : MethodName := ⟨RX5, "takeNumber", "(I)V"⟩
abbrev cX5_giveNotice : ByteArray := prog_7_method_5_code
def yX5_giveNotice : MethodName := ⟨RX5, "giveNotice", "()V"⟩
abbrev cX5_countAsleep : ByteArray := prog_7_method_6_code
def yX5_countAsleep : MethodName := ⟨RX5, "countAsleep", "()I"⟩
abbrev cX5_nextCostOf : ByteArray := prog_7_method_7_code
def yX5_nextCostOf : MethodName := ⟨RX5, "nextCostOf", "(LStreetEditions$Follower;)I"⟩
abbrev cX5_bringNews : ByteArray := prog_7_method_8_code
def yX5_bringNews : MethodName := ⟨RX5, "bringNews", "(LStreetEditions$Follower;)I"⟩
abbrev cX5_bringNewsToAllWithNotice : ByteArray := prog_7_method_9_code
def yX5_bringNewsToAllWithNotice : MethodName := ⟨RX5, "bringNewsToAllWithNotice", "()I"⟩
abbrev cX5_obey : ByteArray := prog_7_method_10_code
def yX5_obey : MethodName := ⟨RX5, "obey", "(II)Z"⟩
abbrev cX5_obeyOnStreet : ByteArray := prog_7_method_11_code
def yX5_obeyOnStreet : MethodName := ⟨RX5, "obeyOnStreet", "(II)Z"⟩
abbrev cX5_obeyOnFollower : ByteArray := prog_7_method_12_code
def yX5_obeyOnFollower : MethodName := ⟨RX5, "obeyOnFollower", "(ILStreetEditions$Follower;)Z"⟩
def RX6 : String := "StreetEditions"
def TX6 : u_T := fun k => match k with
  | 0 => ("StreetEditions", "state", "LStreetEditions$State;", true)
  | 1 => ("StreetEditions", "saved", "LStreetEditions$SavedStates;", true)
  | _ => ("StreetEditions", "text", "LStreetEditions$OrderText;", true)
def tyX6 : Nat → FieldType := fun k => match k with
  | 0 => .object "StreetEditions$State"
  | 1 => .object "StreetEditions$SavedStates"
  | _ => .object "StreetEditions$OrderText"
abbrev wsX60 : List Cond := u_ws RX6 TX6 3
theorem nmX6 : ∀ a, a < 3 → ∀ b, b < 3 → a ≠ b → (TX6 a).2.1 ≠ (TX6 b).2.1 := by decide +kernel
theorem tyX6_ok : ∀ k, k < 3 → parseFieldDescriptor (TX6 k).2.2.1 = some (tyX6 k) := by decide +kernel
abbrev cX6_init : ByteArray := prog_1_method_1_code
def yX6_init : MethodName := ⟨RX6, "<init>", "()V"⟩
abbrev cX6_add : ByteArray := prog_1_method_2_code
def yX6_add : MethodName := ⟨RX6, "add", "(I)I"⟩
abbrev cX6_crossOut : ByteArray := prog_1_method_3_code
def yX6_crossOut : MethodName := ⟨RX6, "crossOut", "(I)I"⟩
abbrev cX6_publish : ByteArray := prog_1_method_4_code
def yX6_publish : MethodName := ⟨RX6, "publish", "()I"⟩
abbrev cX6_renumber : ByteArray := prog_1_method_5_code
def yX6_renumber : MethodName := ⟨RX6, "renumber", "(I)I"⟩
abbrev cX6_setKeep : ByteArray := prog_1_method_6_code
def yX6_setKeep : MethodName := ⟨RX6, "setKeep", "(I)I"⟩
abbrev cX6_edition : ByteArray := prog_1_method_7_code
def yX6_edition : MethodName := ⟨RX6, "edition", "()I"⟩
abbrev cX6_draft : ByteArray := prog_1_method_8_code
def yX6_draft : MethodName := ⟨RX6, "draft", "()I"⟩
abbrev cX6_published : ByteArray := prog_1_method_9_code
def yX6_published : MethodName := ⟨RX6, "published", "()I"⟩
abbrev cX6_where : ByteArray := prog_1_method_10_code
def yX6_where : MethodName := ⟨RX6, "where", "(I)I"⟩
abbrev cX6_pending : ByteArray := prog_1_method_11_code
def yX6_pending : MethodName := ⟨RX6, "pending", "()I"⟩
abbrev cX6_kept : ByteArray := prog_1_method_12_code
def yX6_kept : MethodName := ⟨RX6, "kept", "()I"⟩
abbrev cX6_from : ByteArray := prog_1_method_13_code
def yX6_from : MethodName := ⟨RX6, "from", "(I)I"⟩
abbrev cX6_cost : ByteArray := prog_1_method_14_code
def yX6_cost : MethodName := ⟨RX6, "cost", "(I)I"⟩
abbrev cX6_compare : ByteArray := prog_1_method_15_code
def yX6_compare : MethodName := ⟨RX6, "compare", "(II)I"⟩
abbrev cX6_refresh : ByteArray := prog_1_method_16_code
def yX6_refresh : MethodName := ⟨RX6, "refresh", "(I)I"⟩
abbrev cX6_refreshAll : ByteArray := prog_1_method_17_code
def yX6_refreshAll : MethodName := ⟨RX6, "refreshAll", "()I"⟩
abbrev cX6_sleep : ByteArray := prog_1_method_18_code
def yX6_sleep : MethodName := ⟨RX6, "sleep", "(I)I"⟩
abbrev cX6_wake : ByteArray := prog_1_method_19_code
def yX6_wake : MethodName := ⟨RX6, "wake", "(I)I"⟩
abbrev cX6_throwAway : ByteArray := prog_1_method_20_code
def yX6_throwAway : MethodName := ⟨RX6, "throwAway", "(I)I"⟩
abbrev cX6_editionOf : ByteArray := prog_1_method_21_code
def yX6_editionOf : MethodName := ⟨RX6, "editionOf", "(I)I"⟩
abbrev cX6_streets : ByteArray := prog_1_method_22_code
def yX6_streets : MethodName := ⟨RX6, "streets", "(I)I"⟩
abbrev cX6_has : ByteArray := prog_1_method_23_code
def yX6_has : MethodName := ⟨RX6, "has", "(II)Z"⟩
abbrev cX6_isRight : ByteArray := prog_1_method_24_code
def yX6_isRight : MethodName := ⟨RX6, "isRight", "(I)Z"⟩
abbrev cX6_attention : ByteArray := prog_1_method_25_code
def yX6_attention : MethodName := ⟨RX6, "attention", "(I)I"⟩
abbrev cX6_costs : ByteArray := prog_1_method_26_code
def yX6_costs : MethodName := ⟨RX6, "costs", "(I)I"⟩
abbrev cX6_answer : ByteArray := prog_1_method_27_code
def yX6_answer : MethodName := ⟨RX6, "answer", "(I)I"⟩
abbrev cX6_costToCome : ByteArray := prog_1_method_28_code
def yX6_costToCome : MethodName := ⟨RX6, "costToCome", "(I)I"⟩
abbrev cX6_wrong : ByteArray := prog_1_method_29_code
def yX6_wrong : MethodName := ⟨RX6, "wrong", "(I)I"⟩
abbrev cX6_savedShare : ByteArray := prog_1_method_30_code
def yX6_savedShare : MethodName := ⟨RX6, "savedShare", "()D"⟩
abbrev cX6_append : ByteArray := prog_1_method_31_code
def yX6_append : MethodName := ⟨RX6, "append", "(I)I"⟩
abbrev cX6_clearText : ByteArray := prog_1_method_32_code
def yX6_clearText : MethodName := ⟨RX6, "clearText", "()I"⟩
abbrev cX6_firstError : ByteArray := prog_1_method_33_code
def yX6_firstError : MethodName := ⟨RX6, "firstError", "()I"⟩
abbrev cX6_run : ByteArray := prog_1_method_34_code
def yX6_run : MethodName := ⟨RX6, "run", "()I"⟩
abbrev cX6_undo : ByteArray := prog_1_method_35_code
def yX6_undo : MethodName := ⟨RX6, "undo", "()I"⟩
abbrev cX6_savedStates : ByteArray := prog_1_method_36_code
def yX6_savedStates : MethodName := ⟨RX6, "savedStates", "()I"⟩
abbrev cX6_digest : ByteArray := prog_1_method_37_code
def yX6_digest : MethodName := ⟨RX6, "digest", "()J"⟩
abbrev cX6_withDifferences : ByteArray := prog_1_method_38_code
def yX6_withDifferences : MethodName := ⟨RX6, "withDifferences", "(JLStreetEditions$Differences;)J"⟩
abbrev cX6_withFollower : ByteArray := prog_1_method_39_code
def yX6_withFollower : MethodName := ⟨RX6, "withFollower", "(JLStreetEditions$Follower;)J"⟩
abbrev cX6_withStreet : ByteArray := prog_1_method_40_code
def yX6_withStreet : MethodName := ⟨RX6, "withStreet", "(JI)J"⟩
abbrev cX6_needStreet : ByteArray := prog_1_method_41_code
def yX6_needStreet : MethodName := ⟨RX6, "needStreet", "(I)V"⟩
abbrev cX6_needDifference : ByteArray := prog_1_method_42_code
def yX6_needDifference : MethodName := ⟨RX6, "needDifference", "(I)V"⟩
abbrev cX6_followerNumbered : ByteArray := prog_1_method_43_code
def yX6_followerNumbered : MethodName := ⟨RX6, "followerNumbered", "(I)LStreetEditions$Follower;"⟩
abbrev cX6_needAwake : ByteArray := prog_1_method_44_code
def yX6_needAwake : MethodName := ⟨RX6, "needAwake", "(LStreetEditions$Follower;)V"⟩
abbrev cX6_isStreet : ByteArray := prog_1_method_45_code
def yX6_isStreet : MethodName := ⟨RX6, "isStreet", "(I)Z"⟩
abbrev cX6_isEdition : ByteArray := prog_1_method_46_code
def yX6_isEdition : MethodName := ⟨RX6, "isEdition", "(I)Z"⟩
abbrev cX6_isFollower : ByteArray := prog_1_method_47_code
def yX6_isFollower : MethodName := ⟨RX6, "isFollower", "(I)Z"⟩
abbrev cX6_isNewer : ByteArray := prog_1_method_48_code
def yX6_isNewer : MethodName := ⟨RX6, "isNewer", "(II)Z"⟩
abbrev cX6_contains : ByteArray := prog_1_method_49_code
def yX6_contains : MethodName := ⟨RX6, "contains", "(II)Z"⟩
def RX7 : String := "StreetEditionsModel"
def TX7 : u_T := fun k => match k with
  | 0 => ("StreetEditionsModel", "thrown", "I", false)
  | 1 => ("StreetEditionsModel", "state", "[I", true)
  | 2 => ("StreetEditionsModel", "saved", "[I", true)
  | 3 => ("StreetEditionsModel", "savedMany", "I", false)
  | 4 => ("StreetEditionsModel", "buffer", "[I", true)
  | 5 => ("StreetEditionsModel", "length", "I", false)
  | 6 => ("StreetEditionsModel", "at", "I", false)
  | 7 => ("StreetEditionsModel", "sign", "I", false)
  | 8 => ("StreetEditionsModel", "value", "I", false)
  | _ => ("StreetEditionsModel", "hash", "J", false)
def tyX7 : Nat → FieldType := fun k => match k with
  | 0 => .int
  | 1 => .array .int
  | 2 => .array .int
  | 3 => .int
  | 4 => .array .int
  | 5 => .int
  | 6 => .int
  | 7 => .int
  | 8 => .int
  | _ => .long
abbrev wsX70 : List Cond := u_ws RX7 TX7 10
theorem nmX7 : ∀ a, a < 10 → ∀ b, b < 10 → a ≠ b → (TX7 a).2.1 ≠ (TX7 b).2.1 := by decide +kernel
theorem tyX7_ok : ∀ k, k < 10 → parseFieldDescriptor (TX7 k).2.2.1 = some (tyX7 k) := by decide +kernel
abbrev cX7_init : ByteArray := prog_9_method_1_code
def yX7_init : MethodName := ⟨RX7, "<init>", "()V"⟩
abbrev cX7_thrown : ByteArray := prog_9_method_2_code
def yX7_thrown : MethodName := ⟨RX7, "thrown", "()I"⟩
abbrev cX7_fails : ByteArray := prog_9_method_3_code
def yX7_fails : MethodName := ⟨RX7, "fails", "(I)I"⟩
abbrev cX7_within : ByteArray := prog_9_method_4_code
def yX7_within : MethodName := ⟨RX7, "within", "(III)Z"⟩
abbrev cX7_isStreet : ByteArray := prog_9_method_5_code
def yX7_isStreet : MethodName := ⟨RX7, "isStreet", "(I)Z"⟩
abbrev cX7_isEdition : ByteArray := prog_9_method_6_code
def yX7_isEdition : MethodName := ⟨RX7, "isEdition", "(I)Z"⟩
abbrev cX7_isFollower : ByteArray := prog_9_method_7_code
def yX7_isFollower : MethodName := ⟨RX7, "isFollower", "(I)Z"⟩
abbrev cX7_ones : ByteArray := prog_9_method_8_code
def yX7_ones : MethodName := ⟨RX7, "ones", "(I)I"⟩
abbrev cX7_of : ByteArray := prog_9_method_9_code
def yX7_of : MethodName := ⟨RX7, "of", "(II)I"⟩
abbrev cX7_setOf : ByteArray := prog_9_method_10_code
def yX7_setOf : MethodName := ⟨RX7, "setOf", "(III)V"⟩
abbrev cX7_ofDifference : ByteArray := prog_9_method_11_code
def yX7_ofDifference : MethodName := ⟨RX7, "ofDifference", "(II)I"⟩
abbrev cX7_save : ByteArray := prog_9_method_12_code
def yX7_save : MethodName := ⟨RX7, "save", "()V"⟩
abbrev cX7_undo : ByteArray := prog_9_method_13_code
def yX7_undo : MethodName := ⟨RX7, "undo", "()I"⟩
abbrev cX7_savedStates : ByteArray := prog_9_method_14_code
def yX7_savedStates : MethodName := ⟨RX7, "savedStates", "()I"⟩
abbrev cX7_dropOldest : ByteArray := prog_9_method_15_code
def yX7_dropOldest : MethodName := ⟨RX7, "dropOldest", "()V"⟩
abbrev cX7_give : ByteArray := prog_9_method_16_code
def yX7_give : MethodName := ⟨RX7, "give", "()V"⟩
abbrev cX7_costOf : ByteArray := prog_9_method_17_code
def yX7_costOf : MethodName := ⟨RX7, "costOf", "(I)I"⟩
abbrev cX7_wholeCost : ByteArray := prog_9_method_18_code
def yX7_wholeCost : MethodName := ⟨RX7, "wholeCost", "()I"⟩
abbrev cX7_order : ByteArray := prog_9_method_19_code
def yX7_order : MethodName := ⟨RX7, "order", "(II)I"⟩
abbrev cX7_leadsFrom : ByteArray := prog_9_method_20_code
def yX7_leadsFrom : MethodName := ⟨RX7, "leadsFrom", "(I)I"⟩
abbrev cX7_costFrom : ByteArray := prog_9_method_21_code
def yX7_costFrom : MethodName := ⟨RX7, "costFrom", "(I)I"⟩
abbrev cX7_answerTo : ByteArray := prog_9_method_22_code
def yX7_answerTo : MethodName := ⟨RX7, "answerTo", "(I)I"⟩
abbrev cX7_costOfAnswer : ByteArray := prog_9_method_23_code
def yX7_costOfAnswer : MethodName := ⟨RX7, "costOfAnswer", "(I)I"⟩
abbrev cX7_applyAll : ByteArray := prog_9_method_24_code
def yX7_applyAll : MethodName := ⟨RX7, "applyAll", "(I)V"⟩
abbrev cX7_refreshes : ByteArray := prog_9_method_25_code
def yX7_refreshes : MethodName := ⟨RX7, "refreshes", "(I)I"⟩
abbrev cX7_canAdd : ByteArray := prog_9_method_26_code
def yX7_canAdd : MethodName := ⟨RX7, "canAdd", "(I)Z"⟩
abbrev cX7_changeDraft : ByteArray := prog_9_method_27_code
def yX7_changeDraft : MethodName := ⟨RX7, "changeDraft", "(I)I"⟩
abbrev cX7_canPublish : ByteArray := prog_9_method_28_code
def yX7_canPublish : MethodName := ⟨RX7, "canPublish", "()Z"⟩
abbrev cX7_publishes : ByteArray := prog_9_method_29_code
def yX7_publishes : MethodName := ⟨RX7, "publishes", "()I"⟩
abbrev cX7_canRenumber : ByteArray := prog_9_method_30_code
def yX7_canRenumber : MethodName := ⟨RX7, "canRenumber", "(I)Z"⟩
abbrev cX7_renumbers : ByteArray := prog_9_method_31_code
def yX7_renumbers : MethodName := ⟨RX7, "renumbers", "(I)I"⟩
abbrev cX7_sleepers : ByteArray := prog_9_method_32_code
def yX7_sleepers : MethodName := ⟨RX7, "sleepers", "()I"⟩
abbrev cX7_turns : ByteArray := prog_9_method_33_code
def yX7_turns : MethodName := ⟨RX7, "turns", "(II)I"⟩
abbrev cX7_add : ByteArray := prog_9_method_34_code
def yX7_add : MethodName := ⟨RX7, "add", "(I)I"⟩
abbrev cX7_crossOut : ByteArray := prog_9_method_35_code
def yX7_crossOut : MethodName := ⟨RX7, "crossOut", "(I)I"⟩
abbrev cX7_publish : ByteArray := prog_9_method_36_code
def yX7_publish : MethodName := ⟨RX7, "publish", "()I"⟩
abbrev cX7_renumber : ByteArray := prog_9_method_37_code
def yX7_renumber : MethodName := ⟨RX7, "renumber", "(I)I"⟩
abbrev cX7_setKeep : ByteArray := prog_9_method_38_code
def yX7_setKeep : MethodName := ⟨RX7, "setKeep", "(I)I"⟩
abbrev cX7_edition : ByteArray := prog_9_method_39_code
def yX7_edition : MethodName := ⟨RX7, "edition", "()I"⟩
abbrev cX7_draft : ByteArray := prog_9_method_40_code
def yX7_draft : MethodName := ⟨RX7, "draft", "()I"⟩
abbrev cX7_published : ByteArray := prog_9_method_41_code
def yX7_published : MethodName := ⟨RX7, "published", "()I"⟩
abbrev cX7_tellsWhere : ByteArray := prog_9_method_42_code
def yX7_tellsWhere : MethodName := ⟨RX7, "tellsWhere", "(I)I"⟩
abbrev cX7_where : ByteArray := prog_9_method_43_code
def yX7_where : MethodName := ⟨RX7, "where", "(I)I"⟩
abbrev cX7_unlike : ByteArray := prog_9_method_44_code
def yX7_unlike : MethodName := ⟨RX7, "unlike", "()I"⟩
abbrev cX7_pending : ByteArray := prog_9_method_45_code
def yX7_pending : MethodName := ⟨RX7, "pending", "()I"⟩
abbrev cX7_kept : ByteArray := prog_9_method_46_code
def yX7_kept : MethodName := ⟨RX7, "kept", "()I"⟩
abbrev cX7_isDifference : ByteArray := prog_9_method_47_code
def yX7_isDifference : MethodName := ⟨RX7, "isDifference", "(I)Z"⟩
abbrev cX7_from : ByteArray := prog_9_method_48_code
def yX7_from : MethodName := ⟨RX7, "from", "(I)I"⟩
abbrev cX7_cost : ByteArray := prog_9_method_49_code
def yX7_cost : MethodName := ⟨RX7, "cost", "(I)I"⟩
abbrev cX7_compare : ByteArray := prog_9_method_50_code
def yX7_compare : MethodName := ⟨RX7, "compare", "(II)I"⟩
abbrev cX7_refresh : ByteArray := prog_9_method_51_code
def yX7_refresh : MethodName := ⟨RX7, "refresh", "(I)I"⟩
abbrev cX7_refreshAll : ByteArray := prog_9_method_52_code
def yX7_refreshAll : MethodName := ⟨RX7, "refreshAll", "()I"⟩
abbrev cX7_sleep : ByteArray := prog_9_method_53_code
def yX7_sleep : MethodName := ⟨RX7, "sleep", "(I)I"⟩
abbrev cX7_wake : ByteArray := prog_9_method_54_code
def yX7_wake : MethodName := ⟨RX7, "wake", "(I)I"⟩
abbrev cX7_tellsStreets : ByteArray := prog_9_method_55_code
def yX7_tellsStreets : MethodName := ⟨RX7, "tellsStreets", "(I)I"⟩
abbrev cX7_throwAway : ByteArray := prog_9_method_56_code
def yX7_throwAway : MethodName := ⟨RX7, "throwAway", "(I)I"⟩
abbrev cX7_tellsEdition : ByteArray := prog_9_method_57_code
def yX7_tellsEdition : MethodName := ⟨RX7, "tellsEdition", "(I)I"⟩
abbrev cX7_editionOf : ByteArray := prog_9_method_58_code
def yX7_editionOf : MethodName := ⟨RX7, "editionOf", "(I)I"⟩
abbrev cX7_streets : ByteArray := prog_9_method_59_code
def yX7_streets : MethodName := ⟨RX7, "streets", "(I)I"⟩
abbrev cX7_hasStreet : ByteArray := prog_9_method_60_code
def yX7_hasStreet : MethodName := ⟨RX7, "hasStreet", "(II)Z"⟩
abbrev cX7_has : ByteArray := prog_9_method_61_code
def yX7_has : MethodName := ⟨RX7, "has", "(II)Z"⟩
abbrev cX7_isRight : ByteArray := prog_9_method_62_code
def yX7_isRight : MethodName := ⟨RX7, "isRight", "(I)Z"⟩
abbrev cX7_tellsAttention : ByteArray := prog_9_method_63_code
def yX7_tellsAttention : MethodName := ⟨RX7, "tellsAttention", "(I)I"⟩
abbrev cX7_attention : ByteArray := prog_9_method_64_code
def yX7_attention : MethodName := ⟨RX7, "attention", "(I)I"⟩
abbrev cX7_costs : ByteArray := prog_9_method_65_code
def yX7_costs : MethodName := ⟨RX7, "costs", "(I)I"⟩
abbrev cX7_answer : ByteArray := prog_9_method_66_code
def yX7_answer : MethodName := ⟨RX7, "answer", "(I)I"⟩
abbrev cX7_costToCome : ByteArray := prog_9_method_67_code
def yX7_costToCome : MethodName := ⟨RX7, "costToCome", "(I)I"⟩
abbrev cX7_tellsWrong : ByteArray := prog_9_method_68_code
def yX7_tellsWrong : MethodName := ⟨RX7, "tellsWrong", "(I)I"⟩
abbrev cX7_wrong : ByteArray := prog_9_method_69_code
def yX7_wrong : MethodName := ⟨RX7, "wrong", "(I)I"⟩
abbrev cX7_share : ByteArray := prog_9_method_70_code
def yX7_share : MethodName := ⟨RX7, "share", "()D"⟩
abbrev cX7_savedShare : ByteArray := prog_9_method_71_code
def yX7_savedShare : MethodName := ⟨RX7, "savedShare", "()D"⟩
abbrev cX7_append : ByteArray := prog_9_method_72_code
def yX7_append : MethodName := ⟨RX7, "append", "(I)I"⟩
abbrev cX7_clearText : ByteArray := prog_9_method_73_code
def yX7_clearText : MethodName := ⟨RX7, "clearText", "()I"⟩
abbrev cX7_next : ByteArray := prog_9_method_74_code
def yX7_next : MethodName := ⟨RX7, "next", "()I"⟩
abbrev cX7_readsNumber : ByteArray := prog_9_method_75_code
def yX7_readsNumber : MethodName := ⟨RX7, "readsNumber", "(I)Z"⟩
abbrev cX7_readsOrder : ByteArray := prog_9_method_76_code
def yX7_readsOrder : MethodName := ⟨RX7, "readsOrder", "()Z"⟩
abbrev cX7_findError : ByteArray := prog_9_method_77_code
def yX7_findError : MethodName := ⟨RX7, "findError", "()I"⟩
abbrev cX7_firstError : ByteArray := prog_9_method_78_code
def yX7_firstError : MethodName := ⟨RX7, "firstError", "()I"⟩
abbrev cX7_canDo : ByteArray := prog_9_method_79_code
def yX7_canDo : MethodName := ⟨RX7, "canDo", "()Z"⟩
abbrev cX7_doOrder : ByteArray := prog_9_method_80_code
def yX7_doOrder : MethodName := ⟨RX7, "doOrder", "()I"⟩
abbrev cX7_run : ByteArray := prog_9_method_81_code
def yX7_run : MethodName := ⟨RX7, "run", "()I"⟩
abbrev cX7_mix : ByteArray := prog_9_method_82_code
def yX7_mix : MethodName := ⟨RX7, "mix", "(J)V"⟩
abbrev cX7_mixFollower : ByteArray := prog_9_method_83_code
def yX7_mixFollower : MethodName := ⟨RX7, "mixFollower", "(I)V"⟩
abbrev cX7_digest : ByteArray := prog_9_method_84_code
def yX7_digest : MethodName := ⟨RX7, "digest", "()J"⟩
def RJ6 : String := "java/lang/Integer"
def TJ6 : u_T := fun k => match k with
  | _ => ("", "", "", false)
def tyJ6 : Nat → FieldType := fun k => match k with
  | _ => .int
abbrev cJ6_bitCount_0f7a4 : ByteArray := prog_14_method_49_code
def yJ6_bitCount_0f7a4 : MethodName := ⟨RJ6, "bitCount", "(I)I"⟩
def RJ9 : String := "java/lang/Math"
def TJ9 : u_T := fun k => match k with
  | _ => ("", "", "", false)
def tyJ9 : Nat → FieldType := fun k => match k with
  | _ => .int
abbrev cJ9_min_7cf53 : ByteArray := prog_15_method_69_code
def yJ9_min_7cf53 : MethodName := ⟨RJ9, "min", "(II)I"⟩
def RJ0 : String := "java/lang/String"
def TJ0 : u_T := fun k => match k with
  | _ => ("", "", "", false)
def tyJ0 : Nat → FieldType := fun k => match k with
  | _ => .int
def RL : String := "StreetEditionsLaw"
abbrev cL_add : ByteArray := method_3_code
def yL_add : MethodName := ⟨RL, "add", "(LStreetEditions;I[J)I"⟩
abbrev cL_crossOut : ByteArray := method_4_code
def yL_crossOut : MethodName := ⟨RL, "crossOut", "(LStreetEditions;I[J)I"⟩
abbrev cL_publish : ByteArray := method_5_code
def yL_publish : MethodName := ⟨RL, "publish", "(LStreetEditions;[J)I"⟩
abbrev cL_renumber : ByteArray := method_6_code
def yL_renumber : MethodName := ⟨RL, "renumber", "(LStreetEditions;I[J)I"⟩
abbrev cL_setKeep : ByteArray := method_7_code
def yL_setKeep : MethodName := ⟨RL, "setKeep", "(LStreetEditions;I[J)I"⟩
abbrev cL_where : ByteArray := method_8_code
def yL_where : MethodName := ⟨RL, "where", "(LStreetEditions;I[J)I"⟩
abbrev cL_from : ByteArray := method_9_code
def yL_from : MethodName := ⟨RL, "from", "(LStreetEditions;I[J)I"⟩
abbrev cL_cost : ByteArray := method_10_code
def yL_cost : MethodName := ⟨RL, "cost", "(LStreetEditions;I[J)I"⟩
abbrev cL_compare : ByteArray := method_11_code
def yL_compare : MethodName := ⟨RL, "compare", "(LStreetEditions;II[J)I"⟩
abbrev cL_refresh : ByteArray := method_12_code
def yL_refresh : MethodName := ⟨RL, "refresh", "(LStreetEditions;I[J)I"⟩
abbrev cL_sleep : ByteArray := method_13_code
def yL_sleep : MethodName := ⟨RL, "sleep", "(LStreetEditions;I[J)I"⟩
abbrev cL_wake : ByteArray := method_14_code
def yL_wake : MethodName := ⟨RL, "wake", "(LStreetEditions;I[J)I"⟩
abbrev cL_throwAway : ByteArray := method_15_code
def yL_throwAway : MethodName := ⟨RL, "throwAway", "(LStreetEditions;I[J)I"⟩
abbrev cL_editionOf : ByteArray := method_16_code
def yL_editionOf : MethodName := ⟨RL, "editionOf", "(LStreetEditions;I[J)I"⟩
abbrev cL_streets : ByteArray := method_17_code
def yL_streets : MethodName := ⟨RL, "streets", "(LStreetEditions;I[J)I"⟩
abbrev cL_has : ByteArray := method_18_code
def yL_has : MethodName := ⟨RL, "has", "(LStreetEditions;II[J)I"⟩
abbrev cL_isRight : ByteArray := method_19_code
def yL_isRight : MethodName := ⟨RL, "isRight", "(LStreetEditions;I[J)I"⟩
abbrev cL_attention : ByteArray := method_20_code
def yL_attention : MethodName := ⟨RL, "attention", "(LStreetEditions;I[J)I"⟩
abbrev cL_costs : ByteArray := method_21_code
def yL_costs : MethodName := ⟨RL, "costs", "(LStreetEditions;I[J)I"⟩
abbrev cL_answer : ByteArray := method_22_code
def yL_answer : MethodName := ⟨RL, "answer", "(LStreetEditions;I[J)I"⟩
abbrev cL_costToCome : ByteArray := method_23_code
def yL_costToCome : MethodName := ⟨RL, "costToCome", "(LStreetEditions;I[J)I"⟩
abbrev cL_wrong : ByteArray := method_24_code
def yL_wrong : MethodName := ⟨RL, "wrong", "(LStreetEditions;I[J)I"⟩
abbrev cL_append : ByteArray := method_25_code
def yL_append : MethodName := ⟨RL, "append", "(LStreetEditions;I[J)I"⟩
abbrev cL_run : ByteArray := method_26_code
def yL_run : MethodName := ⟨RL, "run", "(LStreetEditions;[J)I"⟩
abbrev cL_undo : ByteArray := method_27_code
def yL_undo : MethodName := ⟨RL, "undo", "(LStreetEditions;[J)I"⟩
abbrev cL_law : ByteArray := code
def yL_law : MethodName := ⟨RL, "law", "([I)Z"⟩
abbrev vwCl : List vw_C := [(RX0, TX0, 6), (RX1, TX1, 7), (RX2, TX2, 2), (RX3, TX3, 4), (RX4, TX4, 3), (RX5, TX5, 2), (RX6, TX6, 3), (RX7, TX7, 10)]
theorem inX0 : ∀ w ∈ wsX00, w ∈ lw_tbl := by decide +kernel
theorem inX1 : ∀ w ∈ wsX10, w ∈ lw_tbl := by decide +kernel
theorem inX2 : ∀ w ∈ wsX20, w ∈ lw_tbl := by decide +kernel
theorem inX3 : ∀ w ∈ wsX30, w ∈ lw_tbl := by decide +kernel
theorem inX4 : ∀ w ∈ wsX40, w ∈ lw_tbl := by decide +kernel
theorem inX5 : ∀ w ∈ wsX50, w ∈ lw_tbl := by decide +kernel
theorem inX6 : ∀ w ∈ wsX60, w ∈ lw_tbl := by decide +kernel
theorem inX7 : ∀ w ∈ wsX70, w ∈ lw_tbl := by decide +kernel
end
section
theorem dX0_init_0 : decode cX0_init 0 = .ok (.aload_n 0, 1) := by decide +kernel
theorem dX0_init_1 : decode cX0_init 1 = .ok (.invokespecial 3, 3) := by decide +kernel
theorem dX0_init_4 : decode cX0_init 4 = .ok (.aload_n 0, 1) := by decide +kernel
theorem dX0_init_5 : decode cX0_init 5 = .ok (.bipush 6, 2) := by decide +kernel
theorem dX0_init_7 : decode cX0_init 7 = .ok (.newarray .int, 2) := by decide +kernel
theorem dX0_init_9 : decode cX0_init 9 = .ok (.putfield 9, 3) := by decide +kernel
theorem dX0_init_12 : decode cX0_init 12 = .ok (.aload_n 0, 1) := by decide +kernel
theorem dX0_init_13 : decode cX0_init 13 = .ok (.bipush 6, 2) := by decide +kernel
theorem dX0_init_15 : decode cX0_init 15 = .ok (.newarray .int, 2) := by decide +kernel
theorem dX0_init_17 : decode cX0_init 17 = .ok (.putfield 15, 3) := by decide +kernel
theorem dX0_init_20 : decode cX0_init 20 = .ok (.aload_n 0, 1) := by decide +kernel
theorem dX0_init_21 : decode cX0_init 21 = .ok (.bipush 6, 2) := by decide +kernel
theorem dX0_init_23 : decode cX0_init 23 = .ok (.newarray .int, 2) := by decide +kernel
theorem dX0_init_25 : decode cX0_init 25 = .ok (.putfield 18, 3) := by decide +kernel
theorem dX0_init_28 : decode cX0_init 28 = .ok (.aload_n 0, 1) := by decide +kernel
theorem dX0_init_29 : decode cX0_init 29 = .ok (.bipush 6, 2) := by decide +kernel
theorem dX0_init_31 : decode cX0_init 31 = .ok (.newarray .int, 2) := by decide +kernel
theorem dX0_init_33 : decode cX0_init 33 = .ok (.putfield 21, 3) := by decide +kernel
theorem dX0_init_36 : decode cX0_init 36 = .ok (.aload_n 0, 1) := by decide +kernel
theorem dX0_init_37 : decode cX0_init 37 = .ok (.iconst 3, 1) := by decide +kernel
theorem dX0_init_38 : decode cX0_init 38 = .ok (.putfield 24, 3) := by decide +kernel
theorem dX0_init_41 : decode cX0_init 41 = .ok (.return_, 1) := by decide +kernel
theorem dX0_copyFrom_0 : decode cX0_copyFrom 0 = .ok (.iconst 0, 1) := by decide +kernel
theorem dX0_copyFrom_1 : decode cX0_copyFrom 1 = .ok (.istore_n 2, 1) := by decide +kernel
theorem dX0_copyFrom_2 : decode cX0_copyFrom 2 = .ok (.iload_n 2, 1) := by decide +kernel
theorem dX0_copyFrom_3 : decode cX0_copyFrom 3 = .ok (.bipush 6, 2) := by decide +kernel
theorem dX0_copyFrom_5 : decode cX0_copyFrom 5 = .ok (.if_icmp .ge 57, 3) := by decide +kernel
theorem dX0_copyFrom_8 : decode cX0_copyFrom 8 = .ok (.aload_n 0, 1) := by decide +kernel
theorem dX0_copyFrom_9 : decode cX0_copyFrom 9 = .ok (.getfield 9, 3) := by decide +kernel
theorem dX0_copyFrom_12 : decode cX0_copyFrom 12 = .ok (.iload_n 2, 1) := by decide +kernel
theorem dX0_copyFrom_13 : decode cX0_copyFrom 13 = .ok (.aload_n 1, 1) := by decide +kernel
theorem dX0_copyFrom_14 : decode cX0_copyFrom 14 = .ok (.getfield 9, 3) := by decide +kernel
theorem dX0_copyFrom_17 : decode cX0_copyFrom 17 = .ok (.iload_n 2, 1) := by decide +kernel
theorem dX0_copyFrom_18 : decode cX0_copyFrom 18 = .ok (.iaload, 1) := by decide +kernel
theorem dX0_copyFrom_19 : decode cX0_copyFrom 19 = .ok (.iastore, 1) := by decide +kernel
theorem dX0_copyFrom_20 : decode cX0_copyFrom 20 = .ok (.aload_n 0, 1) := by decide +kernel
theorem dX0_copyFrom_21 : decode cX0_copyFrom 21 = .ok (.getfield 15, 3) := by decide +kernel
theorem dX0_copyFrom_24 : decode cX0_copyFrom 24 = .ok (.iload_n 2, 1) := by decide +kernel
theorem dX0_copyFrom_25 : decode cX0_copyFrom 25 = .ok (.aload_n 1, 1) := by decide +kernel
theorem dX0_copyFrom_26 : decode cX0_copyFrom 26 = .ok (.getfield 15, 3) := by decide +kernel
theorem dX0_copyFrom_29 : decode cX0_copyFrom 29 = .ok (.iload_n 2, 1) := by decide +kernel
theorem dX0_copyFrom_30 : decode cX0_copyFrom 30 = .ok (.iaload, 1) := by decide +kernel
theorem dX0_copyFrom_31 : decode cX0_copyFrom 31 = .ok (.iastore, 1) := by decide +kernel
theorem dX0_copyFrom_32 : decode cX0_copyFrom 32 = .ok (.aload_n 0, 1) := by decide +kernel
theorem dX0_copyFrom_33 : decode cX0_copyFrom 33 = .ok (.getfield 18, 3) := by decide +kernel
theorem dX0_copyFrom_36 : decode cX0_copyFrom 36 = .ok (.iload_n 2, 1) := by decide +kernel
theorem dX0_copyFrom_37 : decode cX0_copyFrom 37 = .ok (.aload_n 1, 1) := by decide +kernel
theorem dX0_copyFrom_38 : decode cX0_copyFrom 38 = .ok (.getfield 18, 3) := by decide +kernel
theorem dX0_copyFrom_41 : decode cX0_copyFrom 41 = .ok (.iload_n 2, 1) := by decide +kernel
theorem dX0_copyFrom_42 : decode cX0_copyFrom 42 = .ok (.iaload, 1) := by decide +kernel
theorem dX0_copyFrom_43 : decode cX0_copyFrom 43 = .ok (.iastore, 1) := by decide +kernel
theorem dX0_copyFrom_44 : decode cX0_copyFrom 44 = .ok (.aload_n 0, 1) := by decide +kernel
theorem dX0_copyFrom_45 : decode cX0_copyFrom 45 = .ok (.getfield 21, 3) := by decide +kernel
theorem dX0_copyFrom_48 : decode cX0_copyFrom 48 = .ok (.iload_n 2, 1) := by decide +kernel
theorem dX0_copyFrom_49 : decode cX0_copyFrom 49 = .ok (.aload_n 1, 1) := by decide +kernel
theorem dX0_copyFrom_50 : decode cX0_copyFrom 50 = .ok (.getfield 21, 3) := by decide +kernel
theorem dX0_copyFrom_53 : decode cX0_copyFrom 53 = .ok (.iload_n 2, 1) := by decide +kernel
theorem dX0_copyFrom_54 : decode cX0_copyFrom 54 = .ok (.iaload, 1) := by decide +kernel
theorem dX0_copyFrom_55 : decode cX0_copyFrom 55 = .ok (.iastore, 1) := by decide +kernel
theorem dX0_copyFrom_56 : decode cX0_copyFrom 56 = .ok (.iinc 2 1, 3) := by decide +kernel
theorem dX0_copyFrom_59 : decode cX0_copyFrom 59 = .ok (.goto (-57), 3) := by decide +kernel
theorem dX0_copyFrom_62 : decode cX0_copyFrom 62 = .ok (.aload_n 0, 1) := by decide +kernel
theorem dX0_copyFrom_63 : decode cX0_copyFrom 63 = .ok (.aload_n 1, 1) := by decide +kernel
theorem dX0_copyFrom_64 : decode cX0_copyFrom 64 = .ok (.getfield 24, 3) := by decide +kernel
theorem dX0_copyFrom_67 : decode cX0_copyFrom 67 = .ok (.putfield 24, 3) := by decide +kernel
theorem dX0_copyFrom_70 : decode cX0_copyFrom 70 = .ok (.aload_n 0, 1) := by decide +kernel
theorem dX0_copyFrom_71 : decode cX0_copyFrom 71 = .ok (.aload_n 1, 1) := by decide +kernel
theorem dX0_copyFrom_72 : decode cX0_copyFrom 72 = .ok (.getfield 28, 3) := by decide +kernel
theorem dX0_copyFrom_75 : decode cX0_copyFrom 75 = .ok (.putfield 28, 3) := by decide +kernel
theorem dX0_copyFrom_78 : decode cX0_copyFrom 78 = .ok (.return_, 1) := by decide +kernel
theorem dX0_keep_0 : decode cX0_keep 0 = .ok (.aload_n 0, 1) := by decide +kernel
theorem dX0_keep_1 : decode cX0_keep 1 = .ok (.getfield 28, 3) := by decide +kernel
theorem dX0_keep_4 : decode cX0_keep 4 = .ok (.aload_n 0, 1) := by decide +kernel
theorem dX0_keep_5 : decode cX0_keep 5 = .ok (.getfield 24, 3) := by decide +kernel
theorem dX0_keep_8 : decode cX0_keep 8 = .ok (.if_icmp .lt 18, 3) := by decide +kernel
theorem dX0_keep_11 : decode cX0_keep 11 = .ok (.aload_n 0, 1) := by decide +kernel
theorem dX0_keep_12 : decode cX0_keep 12 = .ok (.aload_n 0, 1) := by decide +kernel
theorem dX0_keep_13 : decode cX0_keep 13 = .ok (.getfield 28, 3) := by decide +kernel
theorem dX0_keep_16 : decode cX0_keep 16 = .ok (.aload_n 0, 1) := by decide +kernel
theorem dX0_keep_17 : decode cX0_keep 17 = .ok (.getfield 24, 3) := by decide +kernel
theorem dX0_keep_20 : decode cX0_keep 20 = .ok (.isub, 1) := by decide +kernel
theorem dX0_keep_21 : decode cX0_keep 21 = .ok (.iconst 1, 1) := by decide +kernel
theorem dX0_keep_22 : decode cX0_keep 22 = .ok (.iadd, 1) := by decide +kernel
theorem dX0_keep_23 : decode cX0_keep 23 = .ok (.invokevirtual 31, 3) := by decide +kernel
theorem dX0_keep_26 : decode cX0_keep 26 = .ok (.aload_n 0, 1) := by decide +kernel
theorem dX0_keep_27 : decode cX0_keep 27 = .ok (.getfield 9, 3) := by decide +kernel
theorem dX0_keep_30 : decode cX0_keep 30 = .ok (.aload_n 0, 1) := by decide +kernel
theorem dX0_keep_31 : decode cX0_keep 31 = .ok (.getfield 28, 3) := by decide +kernel
theorem dX0_keep_34 : decode cX0_keep 34 = .ok (.iload_n 1, 1) := by decide +kernel
theorem dX0_keep_35 : decode cX0_keep 35 = .ok (.iastore, 1) := by decide +kernel
theorem dX0_keep_36 : decode cX0_keep 36 = .ok (.aload_n 0, 1) := by decide +kernel
theorem dX0_keep_37 : decode cX0_keep 37 = .ok (.getfield 15, 3) := by decide +kernel
theorem dX0_keep_40 : decode cX0_keep 40 = .ok (.aload_n 0, 1) := by decide +kernel
theorem dX0_keep_41 : decode cX0_keep 41 = .ok (.getfield 28, 3) := by decide +kernel
theorem dX0_keep_44 : decode cX0_keep 44 = .ok (.iload_n 2, 1) := by decide +kernel
theorem dX0_keep_45 : decode cX0_keep 45 = .ok (.iastore, 1) := by decide +kernel
theorem dX0_keep_46 : decode cX0_keep 46 = .ok (.aload_n 0, 1) := by decide +kernel
theorem dX0_keep_47 : decode cX0_keep 47 = .ok (.getfield 18, 3) := by decide +kernel
theorem dX0_keep_50 : decode cX0_keep 50 = .ok (.aload_n 0, 1) := by decide +kernel
theorem dX0_keep_51 : decode cX0_keep 51 = .ok (.getfield 28, 3) := by decide +kernel
theorem dX0_keep_54 : decode cX0_keep 54 = .ok (.iload_n 3, 1) := by decide +kernel
theorem dX0_keep_55 : decode cX0_keep 55 = .ok (.iastore, 1) := by decide +kernel
theorem dX0_keep_56 : decode cX0_keep 56 = .ok (.aload_n 0, 1) := by decide +kernel
theorem dX0_keep_57 : decode cX0_keep 57 = .ok (.getfield 21, 3) := by decide +kernel
theorem dX0_keep_60 : decode cX0_keep 60 = .ok (.aload_n 0, 1) := by decide +kernel
theorem dX0_keep_61 : decode cX0_keep 61 = .ok (.getfield 28, 3) := by decide +kernel
theorem dX0_keep_64 : decode cX0_keep 64 = .ok (.iconst 1, 1) := by decide +kernel
theorem dX0_keep_65 : decode cX0_keep 65 = .ok (.iload_n 2, 1) := by decide +kernel
theorem dX0_keep_66 : decode cX0_keep 66 = .ok (.iload_n 3, 1) := by decide +kernel
theorem dX0_keep_67 : decode cX0_keep 67 = .ok (.ior, 1) := by decide +kernel
theorem dX0_keep_68 : decode cX0_keep 68 = .ok (.invokestatic 35, 3) := by decide +kernel
theorem dX0_keep_71 : decode cX0_keep 71 = .ok (.iadd, 1) := by decide +kernel
theorem dX0_keep_72 : decode cX0_keep 72 = .ok (.iastore, 1) := by decide +kernel
theorem dX0_keep_73 : decode cX0_keep 73 = .ok (.aload_n 0, 1) := by decide +kernel
theorem dX0_keep_74 : decode cX0_keep 74 = .ok (.dup, 1) := by decide +kernel
theorem dX0_keep_75 : decode cX0_keep 75 = .ok (.getfield 28, 3) := by decide +kernel
theorem dX0_keep_78 : decode cX0_keep 78 = .ok (.iconst 1, 1) := by decide +kernel
theorem dX0_keep_79 : decode cX0_keep 79 = .ok (.iadd, 1) := by decide +kernel
theorem dX0_keep_80 : decode cX0_keep 80 = .ok (.putfield 28, 3) := by decide +kernel
theorem dX0_keep_83 : decode cX0_keep 83 = .ok (.return_, 1) := by decide +kernel
theorem dX0_limitTo_0 : decode cX0_limitTo 0 = .ok (.aload_n 0, 1) := by decide +kernel
theorem dX0_limitTo_1 : decode cX0_limitTo 1 = .ok (.iload_n 1, 1) := by decide +kernel
theorem dX0_limitTo_2 : decode cX0_limitTo 2 = .ok (.putfield 24, 3) := by decide +kernel
theorem dX0_limitTo_5 : decode cX0_limitTo 5 = .ok (.aload_n 0, 1) := by decide +kernel
theorem dX0_limitTo_6 : decode cX0_limitTo 6 = .ok (.getfield 28, 3) := by decide +kernel
theorem dX0_limitTo_9 : decode cX0_limitTo 9 = .ok (.aload_n 0, 1) := by decide +kernel
theorem dX0_limitTo_10 : decode cX0_limitTo 10 = .ok (.getfield 24, 3) := by decide +kernel
theorem dX0_limitTo_13 : decode cX0_limitTo 13 = .ok (.if_icmp .le 16, 3) := by decide +kernel
theorem dX0_limitTo_16 : decode cX0_limitTo 16 = .ok (.aload_n 0, 1) := by decide +kernel
theorem dX0_limitTo_17 : decode cX0_limitTo 17 = .ok (.aload_n 0, 1) := by decide +kernel
theorem dX0_limitTo_18 : decode cX0_limitTo 18 = .ok (.getfield 28, 3) := by decide +kernel
theorem dX0_limitTo_21 : decode cX0_limitTo 21 = .ok (.aload_n 0, 1) := by decide +kernel
theorem dX0_limitTo_22 : decode cX0_limitTo 22 = .ok (.getfield 24, 3) := by decide +kernel
theorem dX0_limitTo_25 : decode cX0_limitTo 25 = .ok (.isub, 1) := by decide +kernel
theorem dX0_limitTo_26 : decode cX0_limitTo 26 = .ok (.invokevirtual 31, 3) := by decide +kernel
theorem dX0_limitTo_29 : decode cX0_limitTo 29 = .ok (.return_, 1) := by decide +kernel
theorem dX0_dropAll_0 : decode cX0_dropAll 0 = .ok (.aload_n 0, 1) := by decide +kernel
theorem dX0_dropAll_1 : decode cX0_dropAll 1 = .ok (.iconst 0, 1) := by decide +kernel
theorem dX0_dropAll_2 : decode cX0_dropAll 2 = .ok (.putfield 28, 3) := by decide +kernel
theorem dX0_dropAll_5 : decode cX0_dropAll 5 = .ok (.return_, 1) := by decide +kernel
theorem dX0_dropOldest_0 : decode cX0_dropOldest 0 = .ok (.iload_n 1, 1) := by decide +kernel
theorem dX0_dropOldest_1 : decode cX0_dropOldest 1 = .ok (.istore_n 2, 1) := by decide +kernel
theorem dX0_dropOldest_2 : decode cX0_dropOldest 2 = .ok (.iload_n 2, 1) := by decide +kernel
theorem dX0_dropOldest_3 : decode cX0_dropOldest 3 = .ok (.aload_n 0, 1) := by decide +kernel
theorem dX0_dropOldest_4 : decode cX0_dropOldest 4 = .ok (.getfield 28, 3) := by decide +kernel
theorem dX0_dropOldest_7 : decode cX0_dropOldest 7 = .ok (.if_icmp .ge 65, 3) := by decide +kernel
theorem dX0_dropOldest_10 : decode cX0_dropOldest 10 = .ok (.aload_n 0, 1) := by decide +kernel
theorem dX0_dropOldest_11 : decode cX0_dropOldest 11 = .ok (.getfield 9, 3) := by decide +kernel
theorem dX0_dropOldest_14 : decode cX0_dropOldest 14 = .ok (.iload_n 2, 1) := by decide +kernel
theorem dX0_dropOldest_15 : decode cX0_dropOldest 15 = .ok (.iload_n 1, 1) := by decide +kernel
theorem dX0_dropOldest_16 : decode cX0_dropOldest 16 = .ok (.isub, 1) := by decide +kernel
theorem dX0_dropOldest_17 : decode cX0_dropOldest 17 = .ok (.aload_n 0, 1) := by decide +kernel
theorem dX0_dropOldest_18 : decode cX0_dropOldest 18 = .ok (.getfield 9, 3) := by decide +kernel
theorem dX0_dropOldest_21 : decode cX0_dropOldest 21 = .ok (.iload_n 2, 1) := by decide +kernel
theorem dX0_dropOldest_22 : decode cX0_dropOldest 22 = .ok (.iaload, 1) := by decide +kernel
theorem dX0_dropOldest_23 : decode cX0_dropOldest 23 = .ok (.iastore, 1) := by decide +kernel
theorem dX0_dropOldest_24 : decode cX0_dropOldest 24 = .ok (.aload_n 0, 1) := by decide +kernel
theorem dX0_dropOldest_25 : decode cX0_dropOldest 25 = .ok (.getfield 15, 3) := by decide +kernel
theorem dX0_dropOldest_28 : decode cX0_dropOldest 28 = .ok (.iload_n 2, 1) := by decide +kernel
theorem dX0_dropOldest_29 : decode cX0_dropOldest 29 = .ok (.iload_n 1, 1) := by decide +kernel
theorem dX0_dropOldest_30 : decode cX0_dropOldest 30 = .ok (.isub, 1) := by decide +kernel
theorem dX0_dropOldest_31 : decode cX0_dropOldest 31 = .ok (.aload_n 0, 1) := by decide +kernel
theorem dX0_dropOldest_32 : decode cX0_dropOldest 32 = .ok (.getfield 15, 3) := by decide +kernel
theorem dX0_dropOldest_35 : decode cX0_dropOldest 35 = .ok (.iload_n 2, 1) := by decide +kernel
theorem dX0_dropOldest_36 : decode cX0_dropOldest 36 = .ok (.iaload, 1) := by decide +kernel
theorem dX0_dropOldest_37 : decode cX0_dropOldest 37 = .ok (.iastore, 1) := by decide +kernel
theorem dX0_dropOldest_38 : decode cX0_dropOldest 38 = .ok (.aload_n 0, 1) := by decide +kernel
theorem dX0_dropOldest_39 : decode cX0_dropOldest 39 = .ok (.getfield 18, 3) := by decide +kernel
theorem dX0_dropOldest_42 : decode cX0_dropOldest 42 = .ok (.iload_n 2, 1) := by decide +kernel
theorem dX0_dropOldest_43 : decode cX0_dropOldest 43 = .ok (.iload_n 1, 1) := by decide +kernel
theorem dX0_dropOldest_44 : decode cX0_dropOldest 44 = .ok (.isub, 1) := by decide +kernel
theorem dX0_dropOldest_45 : decode cX0_dropOldest 45 = .ok (.aload_n 0, 1) := by decide +kernel
theorem dX0_dropOldest_46 : decode cX0_dropOldest 46 = .ok (.getfield 18, 3) := by decide +kernel
theorem dX0_dropOldest_49 : decode cX0_dropOldest 49 = .ok (.iload_n 2, 1) := by decide +kernel
theorem dX0_dropOldest_50 : decode cX0_dropOldest 50 = .ok (.iaload, 1) := by decide +kernel
theorem dX0_dropOldest_51 : decode cX0_dropOldest 51 = .ok (.iastore, 1) := by decide +kernel
theorem dX0_dropOldest_52 : decode cX0_dropOldest 52 = .ok (.aload_n 0, 1) := by decide +kernel
theorem dX0_dropOldest_53 : decode cX0_dropOldest 53 = .ok (.getfield 21, 3) := by decide +kernel
theorem dX0_dropOldest_56 : decode cX0_dropOldest 56 = .ok (.iload_n 2, 1) := by decide +kernel
theorem dX0_dropOldest_57 : decode cX0_dropOldest 57 = .ok (.iload_n 1, 1) := by decide +kernel
theorem dX0_dropOldest_58 : decode cX0_dropOldest 58 = .ok (.isub, 1) := by decide +kernel
theorem dX0_dropOldest_59 : decode cX0_dropOldest 59 = .ok (.aload_n 0, 1) := by decide +kernel
theorem dX0_dropOldest_60 : decode cX0_dropOldest 60 = .ok (.getfield 21, 3) := by decide +kernel
theorem dX0_dropOldest_63 : decode cX0_dropOldest 63 = .ok (.iload_n 2, 1) := by decide +kernel
theorem dX0_dropOldest_64 : decode cX0_dropOldest 64 = .ok (.iaload, 1) := by decide +kernel
theorem dX0_dropOldest_65 : decode cX0_dropOldest 65 = .ok (.iastore, 1) := by decide +kernel
theorem dX0_dropOldest_66 : decode cX0_dropOldest 66 = .ok (.iinc 2 1, 3) := by decide +kernel
theorem dX0_dropOldest_69 : decode cX0_dropOldest 69 = .ok (.goto (-67), 3) := by decide +kernel
theorem dX0_dropOldest_72 : decode cX0_dropOldest 72 = .ok (.aload_n 0, 1) := by decide +kernel
theorem dX0_dropOldest_73 : decode cX0_dropOldest 73 = .ok (.dup, 1) := by decide +kernel
theorem dX0_dropOldest_74 : decode cX0_dropOldest 74 = .ok (.getfield 28, 3) := by decide +kernel
theorem dX0_dropOldest_77 : decode cX0_dropOldest 77 = .ok (.iload_n 1, 1) := by decide +kernel
theorem dX0_dropOldest_78 : decode cX0_dropOldest 78 = .ok (.isub, 1) := by decide +kernel
theorem dX0_dropOldest_79 : decode cX0_dropOldest 79 = .ok (.putfield 28, 3) := by decide +kernel
theorem dX0_dropOldest_82 : decode cX0_dropOldest 82 = .ok (.return_, 1) := by decide +kernel
theorem dX0_costSince_0 : decode cX0_costSince 0 = .ok (.iconst 0, 1) := by decide +kernel
theorem dX0_costSince_1 : decode cX0_costSince 1 = .ok (.istore_n 2, 1) := by decide +kernel
theorem dX0_costSince_2 : decode cX0_costSince 2 = .ok (.aload_n 0, 1) := by decide +kernel
theorem dX0_costSince_3 : decode cX0_costSince 3 = .ok (.getfield 28, 3) := by decide +kernel
theorem dX0_costSince_6 : decode cX0_costSince 6 = .ok (.iconst 1, 1) := by decide +kernel
theorem dX0_costSince_7 : decode cX0_costSince 7 = .ok (.isub, 1) := by decide +kernel
theorem dX0_costSince_8 : decode cX0_costSince 8 = .ok (.istore_n 3, 1) := by decide +kernel
theorem dX0_costSince_9 : decode cX0_costSince 9 = .ok (.iload_n 3, 1) := by decide +kernel
theorem dX0_costSince_10 : decode cX0_costSince 10 = .ok (.ifCond .lt 30, 3) := by decide +kernel
theorem dX0_costSince_13 : decode cX0_costSince 13 = .ok (.iload_n 2, 1) := by decide +kernel
theorem dX0_costSince_14 : decode cX0_costSince 14 = .ok (.aload_n 0, 1) := by decide +kernel
theorem dX0_costSince_15 : decode cX0_costSince 15 = .ok (.getfield 21, 3) := by decide +kernel
theorem dX0_costSince_18 : decode cX0_costSince 18 = .ok (.iload_n 3, 1) := by decide +kernel
theorem dX0_costSince_19 : decode cX0_costSince 19 = .ok (.iaload, 1) := by decide +kernel
theorem dX0_costSince_20 : decode cX0_costSince 20 = .ok (.iadd, 1) := by decide +kernel
theorem dX0_costSince_21 : decode cX0_costSince 21 = .ok (.istore_n 2, 1) := by decide +kernel
theorem dX0_costSince_22 : decode cX0_costSince 22 = .ok (.aload_n 0, 1) := by decide +kernel
theorem dX0_costSince_23 : decode cX0_costSince 23 = .ok (.getfield 9, 3) := by decide +kernel
theorem dX0_costSince_26 : decode cX0_costSince 26 = .ok (.iload_n 3, 1) := by decide +kernel
theorem dX0_costSince_27 : decode cX0_costSince 27 = .ok (.iaload, 1) := by decide +kernel
theorem dX0_costSince_28 : decode cX0_costSince 28 = .ok (.iload_n 1, 1) := by decide +kernel
theorem dX0_costSince_29 : decode cX0_costSince 29 = .ok (.if_icmp .ne 5, 3) := by decide +kernel
theorem dX0_costSince_32 : decode cX0_costSince 32 = .ok (.iload_n 2, 1) := by decide +kernel
theorem dX0_costSince_33 : decode cX0_costSince 33 = .ok (.ireturn, 1) := by decide +kernel
theorem dX0_costSince_34 : decode cX0_costSince 34 = .ok (.iinc 3 (-1), 3) := by decide +kernel
theorem dX0_costSince_37 : decode cX0_costSince 37 = .ok (.goto (-28), 3) := by decide +kernel
theorem dX0_costSince_40 : decode cX0_costSince 40 = .ok (.iconst (-1), 1) := by decide +kernel
theorem dX0_costSince_41 : decode cX0_costSince 41 = .ok (.ireturn, 1) := by decide +kernel
theorem dX0_appliedSince_0 : decode cX0_appliedSince 0 = .ok (.iload_n 2, 1) := by decide +kernel
theorem dX0_appliedSince_1 : decode cX0_appliedSince 1 = .ok (.istore_n 3, 1) := by decide +kernel
theorem dX0_appliedSince_2 : decode cX0_appliedSince 2 = .ok (.iconst 0, 1) := by decide +kernel
theorem dX0_appliedSince_3 : decode cX0_appliedSince 3 = .ok (.istore 4, 2) := by decide +kernel
theorem dX0_appliedSince_5 : decode cX0_appliedSince 5 = .ok (.iconst 0, 1) := by decide +kernel
theorem dX0_appliedSince_6 : decode cX0_appliedSince 6 = .ok (.istore 5, 2) := by decide +kernel
theorem dX0_appliedSince_8 : decode cX0_appliedSince 8 = .ok (.iload 5, 2) := by decide +kernel
theorem dX0_appliedSince_10 : decode cX0_appliedSince 10 = .ok (.aload_n 0, 1) := by decide +kernel
theorem dX0_appliedSince_11 : decode cX0_appliedSince 11 = .ok (.getfield 28, 3) := by decide +kernel
theorem dX0_appliedSince_14 : decode cX0_appliedSince 14 = .ok (.if_icmp .ge 57, 3) := by decide +kernel
theorem dX0_appliedSince_17 : decode cX0_appliedSince 17 = .ok (.iload 4, 2) := by decide +kernel
theorem dX0_appliedSince_19 : decode cX0_appliedSince 19 = .ok (.ifCond .ne 14, 3) := by decide +kernel
theorem dX0_appliedSince_22 : decode cX0_appliedSince 22 = .ok (.aload_n 0, 1) := by decide +kernel
theorem dX0_appliedSince_23 : decode cX0_appliedSince 23 = .ok (.getfield 9, 3) := by decide +kernel
theorem dX0_appliedSince_26 : decode cX0_appliedSince 26 = .ok (.iload 5, 2) := by decide +kernel
theorem dX0_appliedSince_28 : decode cX0_appliedSince 28 = .ok (.iaload, 1) := by decide +kernel
theorem dX0_appliedSince_29 : decode cX0_appliedSince 29 = .ok (.iload_n 1, 1) := by decide +kernel
theorem dX0_appliedSince_30 : decode cX0_appliedSince 30 = .ok (.if_icmp .ne 7, 3) := by decide +kernel
theorem dX0_appliedSince_33 : decode cX0_appliedSince 33 = .ok (.iconst 1, 1) := by decide +kernel
theorem dX0_appliedSince_34 : decode cX0_appliedSince 34 = .ok (.goto 4, 3) := by decide +kernel
theorem dX0_appliedSince_37 : decode cX0_appliedSince 37 = .ok (.iconst 0, 1) := by decide +kernel
theorem dX0_appliedSince_38 : decode cX0_appliedSince 38 = .ok (.istore 4, 2) := by decide +kernel
theorem dX0_appliedSince_40 : decode cX0_appliedSince 40 = .ok (.iload 4, 2) := by decide +kernel
theorem dX0_appliedSince_42 : decode cX0_appliedSince 42 = .ok (.ifCond .eq 23, 3) := by decide +kernel
theorem dX0_appliedSince_45 : decode cX0_appliedSince 45 = .ok (.iload_n 3, 1) := by decide +kernel
theorem dX0_appliedSince_46 : decode cX0_appliedSince 46 = .ok (.aload_n 0, 1) := by decide +kernel
theorem dX0_appliedSince_47 : decode cX0_appliedSince 47 = .ok (.getfield 15, 3) := by decide +kernel
theorem dX0_appliedSince_50 : decode cX0_appliedSince 50 = .ok (.iload 5, 2) := by decide +kernel
theorem dX0_appliedSince_52 : decode cX0_appliedSince 52 = .ok (.iaload, 1) := by decide +kernel
theorem dX0_appliedSince_53 : decode cX0_appliedSince 53 = .ok (.iconst (-1), 1) := by decide +kernel
theorem dX0_appliedSince_54 : decode cX0_appliedSince 54 = .ok (.ixor, 1) := by decide +kernel
theorem dX0_appliedSince_55 : decode cX0_appliedSince 55 = .ok (.iand, 1) := by decide +kernel
theorem dX0_appliedSince_56 : decode cX0_appliedSince 56 = .ok (.aload_n 0, 1) := by decide +kernel
theorem dX0_appliedSince_57 : decode cX0_appliedSince 57 = .ok (.getfield 18, 3) := by decide +kernel
theorem dX0_appliedSince_60 : decode cX0_appliedSince 60 = .ok (.iload 5, 2) := by decide +kernel
theorem dX0_appliedSince_62 : decode cX0_appliedSince 62 = .ok (.iaload, 1) := by decide +kernel
theorem dX0_appliedSince_63 : decode cX0_appliedSince 63 = .ok (.ior, 1) := by decide +kernel
theorem dX0_appliedSince_64 : decode cX0_appliedSince 64 = .ok (.istore_n 3, 1) := by decide +kernel
theorem dX0_appliedSince_65 : decode cX0_appliedSince 65 = .ok (.iinc 5 1, 3) := by decide +kernel
theorem dX0_appliedSince_68 : decode cX0_appliedSince 68 = .ok (.goto (-60), 3) := by decide +kernel
theorem dX0_appliedSince_71 : decode cX0_appliedSince 71 = .ok (.iload_n 3, 1) := by decide +kernel
theorem dX0_appliedSince_72 : decode cX0_appliedSince 72 = .ok (.ireturn, 1) := by decide +kernel
theorem dX1_init_0 : decode cX1_init 0 = .ok (.aload_n 0, 1) := by decide +kernel
theorem dX1_init_1 : decode cX1_init 1 = .ok (.invokespecial 3, 3) := by decide +kernel
theorem dX1_init_4 : decode cX1_init 4 = .ok (.return_, 1) := by decide +kernel
theorem dX1_copyFrom_0 : decode cX1_copyFrom 0 = .ok (.aload_n 0, 1) := by decide +kernel
theorem dX1_copyFrom_1 : decode cX1_copyFrom 1 = .ok (.aload_n 1, 1) := by decide +kernel
theorem dX1_copyFrom_2 : decode cX1_copyFrom 2 = .ok (.getfield 9, 3) := by decide +kernel
theorem dX1_copyFrom_5 : decode cX1_copyFrom 5 = .ok (.putfield 9, 3) := by decide +kernel
theorem dX1_copyFrom_8 : decode cX1_copyFrom 8 = .ok (.aload_n 0, 1) := by decide +kernel
theorem dX1_copyFrom_9 : decode cX1_copyFrom 9 = .ok (.aload_n 1, 1) := by decide +kernel
theorem dX1_copyFrom_10 : decode cX1_copyFrom 10 = .ok (.getfield 15, 3) := by decide +kernel
theorem dX1_copyFrom_13 : decode cX1_copyFrom 13 = .ok (.putfield 15, 3) := by decide +kernel
theorem dX1_copyFrom_16 : decode cX1_copyFrom 16 = .ok (.aload_n 0, 1) := by decide +kernel
theorem dX1_copyFrom_17 : decode cX1_copyFrom 17 = .ok (.aload_n 1, 1) := by decide +kernel
theorem dX1_copyFrom_18 : decode cX1_copyFrom 18 = .ok (.getfield 19, 3) := by decide +kernel
theorem dX1_copyFrom_21 : decode cX1_copyFrom 21 = .ok (.putfield 19, 3) := by decide +kernel
theorem dX1_copyFrom_24 : decode cX1_copyFrom 24 = .ok (.aload_n 0, 1) := by decide +kernel
theorem dX1_copyFrom_25 : decode cX1_copyFrom 25 = .ok (.aload_n 1, 1) := by decide +kernel
theorem dX1_copyFrom_26 : decode cX1_copyFrom 26 = .ok (.getfield 22, 3) := by decide +kernel
theorem dX1_copyFrom_29 : decode cX1_copyFrom 29 = .ok (.putfield 22, 3) := by decide +kernel
theorem dX1_copyFrom_32 : decode cX1_copyFrom 32 = .ok (.aload_n 0, 1) := by decide +kernel
theorem dX1_copyFrom_33 : decode cX1_copyFrom 33 = .ok (.aload_n 1, 1) := by decide +kernel
theorem dX1_copyFrom_34 : decode cX1_copyFrom 34 = .ok (.getfield 25, 3) := by decide +kernel
theorem dX1_copyFrom_37 : decode cX1_copyFrom 37 = .ok (.putfield 25, 3) := by decide +kernel
theorem dX1_copyFrom_40 : decode cX1_copyFrom 40 = .ok (.aload_n 0, 1) := by decide +kernel
theorem dX1_copyFrom_41 : decode cX1_copyFrom 41 = .ok (.aload_n 1, 1) := by decide +kernel
theorem dX1_copyFrom_42 : decode cX1_copyFrom 42 = .ok (.getfield 28, 3) := by decide +kernel
theorem dX1_copyFrom_45 : decode cX1_copyFrom 45 = .ok (.putfield 28, 3) := by decide +kernel
theorem dX1_copyFrom_48 : decode cX1_copyFrom 48 = .ok (.aload_n 0, 1) := by decide +kernel
theorem dX1_copyFrom_49 : decode cX1_copyFrom 49 = .ok (.aload_n 1, 1) := by decide +kernel
theorem dX1_copyFrom_50 : decode cX1_copyFrom 50 = .ok (.getfield 31, 3) := by decide +kernel
theorem dX1_copyFrom_53 : decode cX1_copyFrom 53 = .ok (.putfield 31, 3) := by decide +kernel
theorem dX1_copyFrom_56 : decode cX1_copyFrom 56 = .ok (.return_, 1) := by decide +kernel
theorem dX1_loseList_0 : decode cX1_loseList 0 = .ok (.aload_n 0, 1) := by decide +kernel
theorem dX1_loseList_1 : decode cX1_loseList 1 = .ok (.iconst 0, 1) := by decide +kernel
theorem dX1_loseList_2 : decode cX1_loseList 2 = .ok (.putfield 9, 3) := by decide +kernel
theorem dX1_loseList_5 : decode cX1_loseList 5 = .ok (.aload_n 0, 1) := by decide +kernel
theorem dX1_loseList_6 : decode cX1_loseList 6 = .ok (.iconst 0, 1) := by decide +kernel
theorem dX1_loseList_7 : decode cX1_loseList 7 = .ok (.putfield 15, 3) := by decide +kernel
theorem dX1_loseList_10 : decode cX1_loseList 10 = .ok (.return_, 1) := by decide +kernel
theorem dX1_editionOrNone_0 : decode cX1_editionOrNone 0 = .ok (.aload_n 0, 1) := by decide +kernel
theorem dX1_editionOrNone_1 : decode cX1_editionOrNone 1 = .ok (.getfield 9, 3) := by decide +kernel
theorem dX1_editionOrNone_4 : decode cX1_editionOrNone 4 = .ok (.ifCond .eq 10, 3) := by decide +kernel
theorem dX1_editionOrNone_7 : decode cX1_editionOrNone 7 = .ok (.aload_n 0, 1) := by decide +kernel
theorem dX1_editionOrNone_8 : decode cX1_editionOrNone 8 = .ok (.getfield 19, 3) := by decide +kernel
theorem dX1_editionOrNone_11 : decode cX1_editionOrNone 11 = .ok (.goto 4, 3) := by decide +kernel
theorem dX1_editionOrNone_14 : decode cX1_editionOrNone 14 = .ok (.iconst (-1), 1) := by decide +kernel
theorem dX1_editionOrNone_15 : decode cX1_editionOrNone 15 = .ok (.ireturn, 1) := by decide +kernel
theorem dX1_sizeOrNone_0 : decode cX1_sizeOrNone 0 = .ok (.aload_n 0, 1) := by decide +kernel
theorem dX1_sizeOrNone_1 : decode cX1_sizeOrNone 1 = .ok (.getfield 9, 3) := by decide +kernel
theorem dX1_sizeOrNone_4 : decode cX1_sizeOrNone 4 = .ok (.ifCond .eq 13, 3) := by decide +kernel
theorem dX1_sizeOrNone_7 : decode cX1_sizeOrNone 7 = .ok (.aload_n 0, 1) := by decide +kernel
theorem dX1_sizeOrNone_8 : decode cX1_sizeOrNone 8 = .ok (.getfield 15, 3) := by decide +kernel
theorem dX1_sizeOrNone_11 : decode cX1_sizeOrNone 11 = .ok (.invokestatic 34, 3) := by decide +kernel
theorem dX1_sizeOrNone_14 : decode cX1_sizeOrNone 14 = .ok (.goto 4, 3) := by decide +kernel
theorem dX1_sizeOrNone_17 : decode cX1_sizeOrNone 17 = .ok (.iconst (-1), 1) := by decide +kernel
theorem dX1_sizeOrNone_18 : decode cX1_sizeOrNone 18 = .ok (.ireturn, 1) := by decide +kernel
theorem dX1_wrongOrNone_0 : decode cX1_wrongOrNone 0 = .ok (.aload_n 0, 1) := by decide +kernel
theorem dX1_wrongOrNone_1 : decode cX1_wrongOrNone 1 = .ok (.getfield 9, 3) := by decide +kernel
theorem dX1_wrongOrNone_4 : decode cX1_wrongOrNone 4 = .ok (.ifCond .eq 15, 3) := by decide +kernel
theorem dX1_wrongOrNone_7 : decode cX1_wrongOrNone 7 = .ok (.aload_n 0, 1) := by decide +kernel
theorem dX1_wrongOrNone_8 : decode cX1_wrongOrNone 8 = .ok (.getfield 15, 3) := by decide +kernel
theorem dX1_wrongOrNone_11 : decode cX1_wrongOrNone 11 = .ok (.iload_n 1, 1) := by decide +kernel
theorem dX1_wrongOrNone_12 : decode cX1_wrongOrNone 12 = .ok (.ixor, 1) := by decide +kernel
theorem dX1_wrongOrNone_13 : decode cX1_wrongOrNone 13 = .ok (.invokestatic 34, 3) := by decide +kernel
theorem dX1_wrongOrNone_16 : decode cX1_wrongOrNone 16 = .ok (.goto 4, 3) := by decide +kernel
theorem dX1_wrongOrNone_19 : decode cX1_wrongOrNone 19 = .ok (.iconst (-1), 1) := by decide +kernel
theorem dX1_wrongOrNone_20 : decode cX1_wrongOrNone 20 = .ok (.ireturn, 1) := by decide +kernel
theorem dX1_knows_0 : decode cX1_knows 0 = .ok (.aload_n 0, 1) := by decide +kernel
theorem dX1_knows_1 : decode cX1_knows 1 = .ok (.getfield 15, 3) := by decide +kernel
theorem dX1_knows_4 : decode cX1_knows 4 = .ok (.iload_n 1, 1) := by decide +kernel
theorem dX1_knows_5 : decode cX1_knows 5 = .ok (.invokestatic 40, 3) := by decide +kernel
theorem dX1_knows_8 : decode cX1_knows 8 = .ok (.ireturn, 1) := by decide +kernel
theorem dX1_attentionNumber_0 : decode cX1_attentionNumber 0 = .ok (.aload_n 0, 1) := by decide +kernel
theorem dX1_attentionNumber_1 : decode cX1_attentionNumber 1 = .ok (.getfield 25, 3) := by decide +kernel
theorem dX1_attentionNumber_4 : decode cX1_attentionNumber 4 = .ok (.ifCond .eq 7, 3) := by decide +kernel
theorem dX1_attentionNumber_7 : decode cX1_attentionNumber 7 = .ok (.iconst 1, 1) := by decide +kernel
theorem dX1_attentionNumber_8 : decode cX1_attentionNumber 8 = .ok (.goto 4, 3) := by decide +kernel
theorem dX1_attentionNumber_11 : decode cX1_attentionNumber 11 = .ok (.iconst 0, 1) := by decide +kernel
theorem dX1_attentionNumber_12 : decode cX1_attentionNumber 12 = .ok (.aload_n 0, 1) := by decide +kernel
theorem dX1_attentionNumber_13 : decode cX1_attentionNumber 13 = .ok (.getfield 22, 3) := by decide +kernel
theorem dX1_attentionNumber_16 : decode cX1_attentionNumber 16 = .ok (.ifCond .eq 7, 3) := by decide +kernel
theorem dX1_attentionNumber_19 : decode cX1_attentionNumber 19 = .ok (.iconst 2, 1) := by decide +kernel
theorem dX1_attentionNumber_20 : decode cX1_attentionNumber 20 = .ok (.goto 4, 3) := by decide +kernel
theorem dX1_attentionNumber_23 : decode cX1_attentionNumber 23 = .ok (.iconst 0, 1) := by decide +kernel
theorem dX1_attentionNumber_24 : decode cX1_attentionNumber 24 = .ok (.iadd, 1) := by decide +kernel
theorem dX1_attentionNumber_25 : decode cX1_attentionNumber 25 = .ok (.ireturn, 1) := by decide +kernel
theorem dX2_init_0 : decode cX2_init 0 = .ok (.aload_n 0, 1) := by decide +kernel
theorem dX2_init_1 : decode cX2_init 1 = .ok (.invokespecial 3, 3) := by decide +kernel
theorem dX2_init_4 : decode cX2_init 4 = .ok (.aload_n 0, 1) := by decide +kernel
theorem dX2_init_5 : decode cX2_init 5 = .ok (.bipush 60, 2) := by decide +kernel
theorem dX2_init_7 : decode cX2_init 7 = .ok (.newarray .int, 2) := by decide +kernel
theorem dX2_init_9 : decode cX2_init 9 = .ok (.putfield 9, 3) := by decide +kernel
theorem dX2_init_12 : decode cX2_init 12 = .ok (.return_, 1) := by decide +kernel
theorem dX2_take_0 : decode cX2_take 0 = .ok (.aload_n 0, 1) := by decide +kernel
theorem dX2_take_1 : decode cX2_take 1 = .ok (.getfield 9, 3) := by decide +kernel
theorem dX2_take_4 : decode cX2_take 4 = .ok (.aload_n 0, 1) := by decide +kernel
theorem dX2_take_5 : decode cX2_take 5 = .ok (.getfield 15, 3) := by decide +kernel
theorem dX2_take_8 : decode cX2_take 8 = .ok (.iload_n 1, 1) := by decide +kernel
theorem dX2_take_9 : decode cX2_take 9 = .ok (.iastore, 1) := by decide +kernel
theorem dX2_take_10 : decode cX2_take 10 = .ok (.aload_n 0, 1) := by decide +kernel
theorem dX2_take_11 : decode cX2_take 11 = .ok (.dup, 1) := by decide +kernel
theorem dX2_take_12 : decode cX2_take 12 = .ok (.getfield 15, 3) := by decide +kernel
theorem dX2_take_15 : decode cX2_take 15 = .ok (.iconst 1, 1) := by decide +kernel
theorem dX2_take_16 : decode cX2_take 16 = .ok (.iadd, 1) := by decide +kernel
theorem dX2_take_17 : decode cX2_take 17 = .ok (.putfield 15, 3) := by decide +kernel
theorem dX2_take_20 : decode cX2_take 20 = .ok (.return_, 1) := by decide +kernel
theorem dX2_makeEmpty_0 : decode cX2_makeEmpty 0 = .ok (.aload_n 0, 1) := by decide +kernel
theorem dX2_makeEmpty_1 : decode cX2_makeEmpty 1 = .ok (.iconst 0, 1) := by decide +kernel
theorem dX2_makeEmpty_2 : decode cX2_makeEmpty 2 = .ok (.putfield 15, 3) := by decide +kernel
theorem dX2_makeEmpty_5 : decode cX2_makeEmpty 5 = .ok (.return_, 1) := by decide +kernel
theorem dX2_errorIndex_0 : decode cX2_errorIndex 0 = .ok (.iconst 0, 1) := by decide +kernel
theorem dX2_errorIndex_1 : decode cX2_errorIndex 1 = .ok (.istore_n 1, 1) := by decide +kernel
theorem dX2_errorIndex_2 : decode cX2_errorIndex 2 = .ok (.iconst 0, 1) := by decide +kernel
theorem dX2_errorIndex_3 : decode cX2_errorIndex 3 = .ok (.istore_n 2, 1) := by decide +kernel
theorem dX2_errorIndex_4 : decode cX2_errorIndex 4 = .ok (.iload_n 2, 1) := by decide +kernel
theorem dX2_errorIndex_5 : decode cX2_errorIndex 5 = .ok (.aload_n 0, 1) := by decide +kernel
theorem dX2_errorIndex_6 : decode cX2_errorIndex 6 = .ok (.getfield 15, 3) := by decide +kernel
theorem dX2_errorIndex_9 : decode cX2_errorIndex 9 = .ok (.if_icmp .ge 27, 3) := by decide +kernel
theorem dX2_errorIndex_12 : decode cX2_errorIndex 12 = .ok (.iload_n 1, 1) := by decide +kernel
theorem dX2_errorIndex_13 : decode cX2_errorIndex 13 = .ok (.aload_n 0, 1) := by decide +kernel
theorem dX2_errorIndex_14 : decode cX2_errorIndex 14 = .ok (.getfield 9, 3) := by decide +kernel
theorem dX2_errorIndex_17 : decode cX2_errorIndex 17 = .ok (.iload_n 2, 1) := by decide +kernel
theorem dX2_errorIndex_18 : decode cX2_errorIndex 18 = .ok (.iaload, 1) := by decide +kernel
theorem dX2_errorIndex_19 : decode cX2_errorIndex 19 = .ok (.invokestatic 19, 3) := by decide +kernel
theorem dX2_errorIndex_22 : decode cX2_errorIndex 22 = .ok (.istore_n 1, 1) := by decide +kernel
theorem dX2_errorIndex_23 : decode cX2_errorIndex 23 = .ok (.iload_n 1, 1) := by decide +kernel
theorem dX2_errorIndex_24 : decode cX2_errorIndex 24 = .ok (.iconst (-1), 1) := by decide +kernel
theorem dX2_errorIndex_25 : decode cX2_errorIndex 25 = .ok (.if_icmp .ne 5, 3) := by decide +kernel
theorem dX2_errorIndex_28 : decode cX2_errorIndex 28 = .ok (.iload_n 2, 1) := by decide +kernel
theorem dX2_errorIndex_29 : decode cX2_errorIndex 29 = .ok (.ireturn, 1) := by decide +kernel
theorem dX2_errorIndex_30 : decode cX2_errorIndex 30 = .ok (.iinc 2 1, 3) := by decide +kernel
theorem dX2_errorIndex_33 : decode cX2_errorIndex 33 = .ok (.goto (-29), 3) := by decide +kernel
theorem dX2_errorIndex_36 : decode cX2_errorIndex 36 = .ok (.aload_n 0, 1) := by decide +kernel
theorem dX2_errorIndex_37 : decode cX2_errorIndex 37 = .ok (.getfield 15, 3) := by decide +kernel
theorem dX2_errorIndex_40 : decode cX2_errorIndex 40 = .ok (.ireturn, 1) := by decide +kernel
theorem dX2_isComplete_0 : decode cX2_isComplete 0 = .ok (.iconst 0, 1) := by decide +kernel
theorem dX2_isComplete_1 : decode cX2_isComplete 1 = .ok (.istore_n 1, 1) := by decide +kernel
theorem dX2_isComplete_2 : decode cX2_isComplete 2 = .ok (.iconst 0, 1) := by decide +kernel
theorem dX2_isComplete_3 : decode cX2_isComplete 3 = .ok (.istore_n 2, 1) := by decide +kernel
theorem dX2_isComplete_4 : decode cX2_isComplete 4 = .ok (.iload_n 2, 1) := by decide +kernel
theorem dX2_isComplete_5 : decode cX2_isComplete 5 = .ok (.aload_n 0, 1) := by decide +kernel
theorem dX2_isComplete_6 : decode cX2_isComplete 6 = .ok (.getfield 15, 3) := by decide +kernel
theorem dX2_isComplete_9 : decode cX2_isComplete 9 = .ok (.if_icmp .ge 20, 3) := by decide +kernel
theorem dX2_isComplete_12 : decode cX2_isComplete 12 = .ok (.iload_n 1, 1) := by decide +kernel
theorem dX2_isComplete_13 : decode cX2_isComplete 13 = .ok (.aload_n 0, 1) := by decide +kernel
theorem dX2_isComplete_14 : decode cX2_isComplete 14 = .ok (.getfield 9, 3) := by decide +kernel
theorem dX2_isComplete_17 : decode cX2_isComplete 17 = .ok (.iload_n 2, 1) := by decide +kernel
theorem dX2_isComplete_18 : decode cX2_isComplete 18 = .ok (.iaload, 1) := by decide +kernel
theorem dX2_isComplete_19 : decode cX2_isComplete 19 = .ok (.invokestatic 19, 3) := by decide +kernel
theorem dX2_isComplete_22 : decode cX2_isComplete 22 = .ok (.istore_n 1, 1) := by decide +kernel
theorem dX2_isComplete_23 : decode cX2_isComplete 23 = .ok (.iinc 2 1, 3) := by decide +kernel
theorem dX2_isComplete_26 : decode cX2_isComplete 26 = .ok (.goto (-22), 3) := by decide +kernel
theorem dX2_isComplete_29 : decode cX2_isComplete 29 = .ok (.iload_n 1, 1) := by decide +kernel
theorem dX2_isComplete_30 : decode cX2_isComplete 30 = .ok (.invokestatic 23, 3) := by decide +kernel
theorem dX2_isComplete_33 : decode cX2_isComplete 33 = .ok (.ireturn, 1) := by decide +kernel
theorem dX2_carriedOutBy_0 : decode cX2_carriedOutBy 0 = .ok (.iconst 0, 1) := by decide +kernel
theorem dX2_carriedOutBy_1 : decode cX2_carriedOutBy 1 = .ok (.istore_n 2, 1) := by decide +kernel
theorem dX2_carriedOutBy_2 : decode cX2_carriedOutBy 2 = .ok (.iconst 0, 1) := by decide +kernel
theorem dX2_carriedOutBy_3 : decode cX2_carriedOutBy 3 = .ok (.istore_n 3, 1) := by decide +kernel
theorem dX2_carriedOutBy_4 : decode cX2_carriedOutBy 4 = .ok (.iconst 0, 1) := by decide +kernel
theorem dX2_carriedOutBy_5 : decode cX2_carriedOutBy 5 = .ok (.istore 4, 2) := by decide +kernel
theorem dX2_carriedOutBy_7 : decode cX2_carriedOutBy 7 = .ok (.iconst 0, 1) := by decide +kernel
theorem dX2_carriedOutBy_8 : decode cX2_carriedOutBy 8 = .ok (.istore 5, 2) := by decide +kernel
theorem dX2_carriedOutBy_10 : decode cX2_carriedOutBy 10 = .ok (.iload 5, 2) := by decide +kernel
theorem dX2_carriedOutBy_12 : decode cX2_carriedOutBy 12 = .ok (.aload_n 0, 1) := by decide +kernel
theorem dX2_carriedOutBy_13 : decode cX2_carriedOutBy 13 = .ok (.getfield 15, 3) := by decide +kernel
theorem dX2_carriedOutBy_16 : decode cX2_carriedOutBy 16 = .ok (.if_icmp .gt 89, 3) := by decide +kernel
theorem dX2_carriedOutBy_19 : decode cX2_carriedOutBy 19 = .ok (.iload 5, 2) := by decide +kernel
theorem dX2_carriedOutBy_21 : decode cX2_carriedOutBy 21 = .ok (.aload_n 0, 1) := by decide +kernel
theorem dX2_carriedOutBy_22 : decode cX2_carriedOutBy 22 = .ok (.getfield 15, 3) := by decide +kernel
theorem dX2_carriedOutBy_25 : decode cX2_carriedOutBy 25 = .ok (.if_icmp .ge 13, 3) := by decide +kernel
theorem dX2_carriedOutBy_28 : decode cX2_carriedOutBy 28 = .ok (.aload_n 0, 1) := by decide +kernel
theorem dX2_carriedOutBy_29 : decode cX2_carriedOutBy 29 = .ok (.getfield 9, 3) := by decide +kernel
theorem dX2_carriedOutBy_32 : decode cX2_carriedOutBy 32 = .ok (.iload 5, 2) := by decide +kernel
theorem dX2_carriedOutBy_34 : decode cX2_carriedOutBy 34 = .ok (.iaload, 1) := by decide +kernel
theorem dX2_carriedOutBy_35 : decode cX2_carriedOutBy 35 = .ok (.goto 5, 3) := by decide +kernel
theorem dX2_carriedOutBy_38 : decode cX2_carriedOutBy 38 = .ok (.bipush 59, 2) := by decide +kernel
theorem dX2_carriedOutBy_40 : decode cX2_carriedOutBy 40 = .ok (.istore 6, 2) := by decide +kernel
theorem dX2_carriedOutBy_42 : decode cX2_carriedOutBy 42 = .ok (.iload 6, 2) := by decide +kernel
theorem dX2_carriedOutBy_44 : decode cX2_carriedOutBy 44 = .ok (.bipush 59, 2) := by decide +kernel
theorem dX2_carriedOutBy_46 : decode cX2_carriedOutBy 46 = .ok (.if_icmp .ne 24, 3) := by decide +kernel
theorem dX2_carriedOutBy_49 : decode cX2_carriedOutBy 49 = .ok (.aload_n 1, 1) := by decide +kernel
theorem dX2_carriedOutBy_50 : decode cX2_carriedOutBy 50 = .ok (.iload_n 3, 1) := by decide +kernel
theorem dX2_carriedOutBy_51 : decode cX2_carriedOutBy 51 = .ok (.iload 4, 2) := by decide +kernel
theorem dX2_carriedOutBy_53 : decode cX2_carriedOutBy 53 = .ok (.invokevirtual 27, 3) := by decide +kernel
theorem dX2_carriedOutBy_56 : decode cX2_carriedOutBy 56 = .ok (.ifCond .ne 5, 3) := by decide +kernel
theorem dX2_carriedOutBy_59 : decode cX2_carriedOutBy 59 = .ok (.iload_n 2, 1) := by decide +kernel
theorem dX2_carriedOutBy_60 : decode cX2_carriedOutBy 60 = .ok (.ireturn, 1) := by decide +kernel
theorem dX2_carriedOutBy_61 : decode cX2_carriedOutBy 61 = .ok (.iinc 2 1, 3) := by decide +kernel
theorem dX2_carriedOutBy_64 : decode cX2_carriedOutBy 64 = .ok (.iconst 0, 1) := by decide +kernel
theorem dX2_carriedOutBy_65 : decode cX2_carriedOutBy 65 = .ok (.istore 4, 2) := by decide +kernel
theorem dX2_carriedOutBy_67 : decode cX2_carriedOutBy 67 = .ok (.goto 32, 3) := by decide +kernel
theorem dX2_carriedOutBy_70 : decode cX2_carriedOutBy 70 = .ok (.iload 6, 2) := by decide +kernel
theorem dX2_carriedOutBy_72 : decode cX2_carriedOutBy 72 = .ok (.bipush 57, 2) := by decide +kernel
theorem dX2_carriedOutBy_74 : decode cX2_carriedOutBy 74 = .ok (.invokestatic 33, 3) := by decide +kernel
theorem dX2_carriedOutBy_77 : decode cX2_carriedOutBy 77 = .ok (.ifCond .eq 19, 3) := by decide +kernel
theorem dX2_carriedOutBy_80 : decode cX2_carriedOutBy 80 = .ok (.bipush 10, 2) := by decide +kernel
theorem dX2_carriedOutBy_82 : decode cX2_carriedOutBy 82 = .ok (.iload 4, 2) := by decide +kernel
theorem dX2_carriedOutBy_84 : decode cX2_carriedOutBy 84 = .ok (.imul, 1) := by decide +kernel
theorem dX2_carriedOutBy_85 : decode cX2_carriedOutBy 85 = .ok (.iload 6, 2) := by decide +kernel
theorem dX2_carriedOutBy_87 : decode cX2_carriedOutBy 87 = .ok (.bipush 48, 2) := by decide +kernel
theorem dX2_carriedOutBy_89 : decode cX2_carriedOutBy 89 = .ok (.isub, 1) := by decide +kernel
theorem dX2_carriedOutBy_90 : decode cX2_carriedOutBy 90 = .ok (.iadd, 1) := by decide +kernel
theorem dX2_carriedOutBy_91 : decode cX2_carriedOutBy 91 = .ok (.istore 4, 2) := by decide +kernel
theorem dX2_carriedOutBy_93 : decode cX2_carriedOutBy 93 = .ok (.goto 6, 3) := by decide +kernel
theorem dX2_carriedOutBy_96 : decode cX2_carriedOutBy 96 = .ok (.iload 6, 2) := by decide +kernel
theorem dX2_carriedOutBy_98 : decode cX2_carriedOutBy 98 = .ok (.istore_n 3, 1) := by decide +kernel
theorem dX2_carriedOutBy_99 : decode cX2_carriedOutBy 99 = .ok (.iinc 5 1, 3) := by decide +kernel
theorem dX2_carriedOutBy_102 : decode cX2_carriedOutBy 102 = .ok (.goto (-92), 3) := by decide +kernel
theorem dX2_carriedOutBy_105 : decode cX2_carriedOutBy 105 = .ok (.iload_n 2, 1) := by decide +kernel
theorem dX2_carriedOutBy_106 : decode cX2_carriedOutBy 106 = .ok (.ireturn, 1) := by decide +kernel
theorem dX2_mayEnd_0 : decode cX2_mayEnd 0 = .ok (.iload_n 0, 1) := by decide +kernel
theorem dX2_mayEnd_1 : decode cX2_mayEnd 1 = .ok (.iconst 4, 1) := by decide +kernel
theorem dX2_mayEnd_2 : decode cX2_mayEnd 2 = .ok (.if_icmp .eq 14, 3) := by decide +kernel
theorem dX2_mayEnd_5 : decode cX2_mayEnd 5 = .ok (.iload_n 0, 1) := by decide +kernel
theorem dX2_mayEnd_6 : decode cX2_mayEnd 6 = .ok (.iconst 5, 1) := by decide +kernel
theorem dX2_mayEnd_7 : decode cX2_mayEnd 7 = .ok (.if_icmp .eq 9, 3) := by decide +kernel
theorem dX2_mayEnd_10 : decode cX2_mayEnd 10 = .ok (.iload_n 0, 1) := by decide +kernel
theorem dX2_mayEnd_11 : decode cX2_mayEnd 11 = .ok (.bipush 6, 2) := by decide +kernel
theorem dX2_mayEnd_13 : decode cX2_mayEnd 13 = .ok (.if_icmp .ne 7, 3) := by decide +kernel
theorem dX2_mayEnd_16 : decode cX2_mayEnd 16 = .ok (.iconst 1, 1) := by decide +kernel
theorem dX2_mayEnd_17 : decode cX2_mayEnd 17 = .ok (.goto 4, 3) := by decide +kernel
theorem dX2_mayEnd_20 : decode cX2_mayEnd 20 = .ok (.iconst 0, 1) := by decide +kernel
theorem dX2_mayEnd_21 : decode cX2_mayEnd 21 = .ok (.ireturn, 1) := by decide +kernel
theorem dX2_isDigit_0 : decode cX2_isDigit 0 = .ok (.iload_n 0, 1) := by decide +kernel
theorem dX2_isDigit_1 : decode cX2_isDigit 1 = .ok (.bipush 48, 2) := by decide +kernel
theorem dX2_isDigit_3 : decode cX2_isDigit 3 = .ok (.if_icmp .lt 12, 3) := by decide +kernel
theorem dX2_isDigit_6 : decode cX2_isDigit 6 = .ok (.iload_n 0, 1) := by decide +kernel
theorem dX2_isDigit_7 : decode cX2_isDigit 7 = .ok (.iload_n 1, 1) := by decide +kernel
theorem dX2_isDigit_8 : decode cX2_isDigit 8 = .ok (.if_icmp .gt 7, 3) := by decide +kernel
theorem dX2_isDigit_11 : decode cX2_isDigit 11 = .ok (.iconst 1, 1) := by decide +kernel
theorem dX2_isDigit_12 : decode cX2_isDigit 12 = .ok (.goto 4, 3) := by decide +kernel
theorem dX2_isDigit_15 : decode cX2_isDigit 15 = .ok (.iconst 0, 1) := by decide +kernel
theorem dX2_isDigit_16 : decode cX2_isDigit 16 = .ok (.ireturn, 1) := by decide +kernel
theorem dX2_placeBehind_0 : decode cX2_placeBehind 0 = .ok (.iload_n 1, 1) := by decide +kernel
theorem dX2_placeBehind_1 : decode cX2_placeBehind 1 = .ok (.bipush 59, 2) := by decide +kernel
theorem dX2_placeBehind_3 : decode cX2_placeBehind 3 = .ok (.if_icmp .ne 16, 3) := by decide +kernel
theorem dX2_placeBehind_6 : decode cX2_placeBehind 6 = .ok (.iload_n 0, 1) := by decide +kernel
theorem dX2_placeBehind_7 : decode cX2_placeBehind 7 = .ok (.invokestatic 23, 3) := by decide +kernel
theorem dX2_placeBehind_10 : decode cX2_placeBehind 10 = .ok (.ifCond .eq 7, 3) := by decide +kernel
theorem dX2_placeBehind_13 : decode cX2_placeBehind 13 = .ok (.iconst 0, 1) := by decide +kernel
theorem dX2_placeBehind_14 : decode cX2_placeBehind 14 = .ok (.goto 4, 3) := by decide +kernel
theorem dX2_placeBehind_17 : decode cX2_placeBehind 17 = .ok (.iconst (-1), 1) := by decide +kernel
theorem dX2_placeBehind_18 : decode cX2_placeBehind 18 = .ok (.ireturn, 1) := by decide +kernel
theorem dX2_placeBehind_19 : decode cX2_placeBehind 19 = .ok (.iload_n 0, 1) := by decide +kernel
theorem dX2_placeBehind_20 : decode cX2_placeBehind 20 = .ok (.tableswitch 103 0 5 #[40, 45, 50, 55, 71, 87], 40) := by decide +kernel
theorem dX2_placeBehind_60 : decode cX2_placeBehind 60 = .ok (.iload_n 1, 1) := by decide +kernel
theorem dX2_placeBehind_61 : decode cX2_placeBehind 61 = .ok (.invokestatic 36, 3) := by decide +kernel
theorem dX2_placeBehind_64 : decode cX2_placeBehind 64 = .ok (.ireturn, 1) := by decide +kernel
theorem dX2_placeBehind_65 : decode cX2_placeBehind 65 = .ok (.iload_n 1, 1) := by decide +kernel
theorem dX2_placeBehind_66 : decode cX2_placeBehind 66 = .ok (.invokestatic 40, 3) := by decide +kernel
theorem dX2_placeBehind_69 : decode cX2_placeBehind 69 = .ok (.ireturn, 1) := by decide +kernel
theorem dX2_placeBehind_70 : decode cX2_placeBehind 70 = .ok (.iload_n 1, 1) := by decide +kernel
theorem dX2_placeBehind_71 : decode cX2_placeBehind 71 = .ok (.invokestatic 43, 3) := by decide +kernel
theorem dX2_placeBehind_74 : decode cX2_placeBehind 74 = .ok (.ireturn, 1) := by decide +kernel
theorem dX2_placeBehind_75 : decode cX2_placeBehind 75 = .ok (.iload_n 1, 1) := by decide +kernel
theorem dX2_placeBehind_76 : decode cX2_placeBehind 76 = .ok (.bipush 51, 2) := by decide +kernel
theorem dX2_placeBehind_78 : decode cX2_placeBehind 78 = .ok (.invokestatic 33, 3) := by decide +kernel
theorem dX2_placeBehind_81 : decode cX2_placeBehind 81 = .ok (.ifCond .eq 8, 3) := by decide +kernel
theorem dX2_placeBehind_84 : decode cX2_placeBehind 84 = .ok (.bipush 6, 2) := by decide +kernel
theorem dX2_placeBehind_86 : decode cX2_placeBehind 86 = .ok (.goto 4, 3) := by decide +kernel
theorem dX2_placeBehind_89 : decode cX2_placeBehind 89 = .ok (.iconst (-1), 1) := by decide +kernel
theorem dX2_placeBehind_90 : decode cX2_placeBehind 90 = .ok (.ireturn, 1) := by decide +kernel
theorem dX2_placeBehind_91 : decode cX2_placeBehind 91 = .ok (.iload_n 1, 1) := by decide +kernel
theorem dX2_placeBehind_92 : decode cX2_placeBehind 92 = .ok (.bipush 57, 2) := by decide +kernel
theorem dX2_placeBehind_94 : decode cX2_placeBehind 94 = .ok (.invokestatic 33, 3) := by decide +kernel
theorem dX2_placeBehind_97 : decode cX2_placeBehind 97 = .ok (.ifCond .eq 8, 3) := by decide +kernel
theorem dX2_placeBehind_100 : decode cX2_placeBehind 100 = .ok (.bipush 6, 2) := by decide +kernel
theorem dX2_placeBehind_102 : decode cX2_placeBehind 102 = .ok (.goto 4, 3) := by decide +kernel
theorem dX2_placeBehind_105 : decode cX2_placeBehind 105 = .ok (.iconst (-1), 1) := by decide +kernel
theorem dX2_placeBehind_106 : decode cX2_placeBehind 106 = .ok (.ireturn, 1) := by decide +kernel
theorem dX2_placeBehind_107 : decode cX2_placeBehind 107 = .ok (.iload_n 1, 1) := by decide +kernel
theorem dX2_placeBehind_108 : decode cX2_placeBehind 108 = .ok (.bipush 53, 2) := by decide +kernel
theorem dX2_placeBehind_110 : decode cX2_placeBehind 110 = .ok (.invokestatic 33, 3) := by decide +kernel
theorem dX2_placeBehind_113 : decode cX2_placeBehind 113 = .ok (.ifCond .eq 8, 3) := by decide +kernel
theorem dX2_placeBehind_116 : decode cX2_placeBehind 116 = .ok (.bipush 6, 2) := by decide +kernel
theorem dX2_placeBehind_118 : decode cX2_placeBehind 118 = .ok (.goto 4, 3) := by decide +kernel
theorem dX2_placeBehind_121 : decode cX2_placeBehind 121 = .ok (.iconst (-1), 1) := by decide +kernel
theorem dX2_placeBehind_122 : decode cX2_placeBehind 122 = .ok (.ireturn, 1) := by decide +kernel
theorem dX2_placeBehind_123 : decode cX2_placeBehind 123 = .ok (.iconst (-1), 1) := by decide +kernel
theorem dX2_placeBehind_124 : decode cX2_placeBehind 124 = .ok (.ireturn, 1) := by decide +kernel
theorem dX2_placeBehindSign_0 : decode cX2_placeBehindSign 0 = .ok (.iload_n 0, 1) := by decide +kernel
theorem dX2_placeBehindSign_1 : decode cX2_placeBehindSign 1 = .ok (.lookupswitch 76 #[(43, 67), (45, 67), (110, 72), (112, 69), (114, 74), (115, 74), (119, 74)], 67) := by decide +kernel
theorem dX2_placeBehindSign_68 : decode cX2_placeBehindSign 68 = .ok (.iconst 1, 1) := by decide +kernel
theorem dX2_placeBehindSign_69 : decode cX2_placeBehindSign 69 = .ok (.ireturn, 1) := by decide +kernel
theorem dX2_placeBehindSign_70 : decode cX2_placeBehindSign 70 = .ok (.bipush 6, 2) := by decide +kernel
theorem dX2_placeBehindSign_72 : decode cX2_placeBehindSign 72 = .ok (.ireturn, 1) := by decide +kernel
theorem dX2_placeBehindSign_73 : decode cX2_placeBehindSign 73 = .ok (.iconst 2, 1) := by decide +kernel
theorem dX2_placeBehindSign_74 : decode cX2_placeBehindSign 74 = .ok (.ireturn, 1) := by decide +kernel
theorem dX2_placeBehindSign_75 : decode cX2_placeBehindSign 75 = .ok (.iconst 3, 1) := by decide +kernel
theorem dX2_placeBehindSign_76 : decode cX2_placeBehindSign 76 = .ok (.ireturn, 1) := by decide +kernel
theorem dX2_placeBehindSign_77 : decode cX2_placeBehindSign 77 = .ok (.iconst (-1), 1) := by decide +kernel
theorem dX2_placeBehindSign_78 : decode cX2_placeBehindSign 78 = .ok (.ireturn, 1) := by decide +kernel
theorem dX2_placeBehindStreetDigit_0 : decode cX2_placeBehindStreetDigit 0 = .ok (.iload_n 0, 1) := by decide +kernel
theorem dX2_placeBehindStreetDigit_1 : decode cX2_placeBehindStreetDigit 1 = .ok (.bipush 49, 2) := by decide +kernel
theorem dX2_placeBehindStreetDigit_3 : decode cX2_placeBehindStreetDigit 3 = .ok (.if_icmp .eq 9, 3) := by decide +kernel
theorem dX2_placeBehindStreetDigit_6 : decode cX2_placeBehindStreetDigit 6 = .ok (.iload_n 0, 1) := by decide +kernel
theorem dX2_placeBehindStreetDigit_7 : decode cX2_placeBehindStreetDigit 7 = .ok (.bipush 50, 2) := by decide +kernel
theorem dX2_placeBehindStreetDigit_9 : decode cX2_placeBehindStreetDigit 9 = .ok (.if_icmp .ne 5, 3) := by decide +kernel
theorem dX2_placeBehindStreetDigit_12 : decode cX2_placeBehindStreetDigit 12 = .ok (.iconst 4, 1) := by decide +kernel
theorem dX2_placeBehindStreetDigit_13 : decode cX2_placeBehindStreetDigit 13 = .ok (.ireturn, 1) := by decide +kernel
theorem dX2_placeBehindStreetDigit_14 : decode cX2_placeBehindStreetDigit 14 = .ok (.iload_n 0, 1) := by decide +kernel
theorem dX2_placeBehindStreetDigit_15 : decode cX2_placeBehindStreetDigit 15 = .ok (.bipush 57, 2) := by decide +kernel
theorem dX2_placeBehindStreetDigit_17 : decode cX2_placeBehindStreetDigit 17 = .ok (.invokestatic 33, 3) := by decide +kernel
theorem dX2_placeBehindStreetDigit_20 : decode cX2_placeBehindStreetDigit 20 = .ok (.ifCond .eq 8, 3) := by decide +kernel
theorem dX2_placeBehindStreetDigit_23 : decode cX2_placeBehindStreetDigit 23 = .ok (.bipush 6, 2) := by decide +kernel
theorem dX2_placeBehindStreetDigit_25 : decode cX2_placeBehindStreetDigit 25 = .ok (.goto 4, 3) := by decide +kernel
theorem dX2_placeBehindStreetDigit_28 : decode cX2_placeBehindStreetDigit 28 = .ok (.iconst (-1), 1) := by decide +kernel
theorem dX2_placeBehindStreetDigit_29 : decode cX2_placeBehindStreetDigit 29 = .ok (.ireturn, 1) := by decide +kernel
theorem dX2_placeBehindEditionDigit_0 : decode cX2_placeBehindEditionDigit 0 = .ok (.iload_n 0, 1) := by decide +kernel
theorem dX2_placeBehindEditionDigit_1 : decode cX2_placeBehindEditionDigit 1 = .ok (.bipush 49, 2) := by decide +kernel
theorem dX2_placeBehindEditionDigit_3 : decode cX2_placeBehindEditionDigit 3 = .ok (.if_icmp .ne 5, 3) := by decide +kernel
theorem dX2_placeBehindEditionDigit_6 : decode cX2_placeBehindEditionDigit 6 = .ok (.iconst 5, 1) := by decide +kernel
theorem dX2_placeBehindEditionDigit_7 : decode cX2_placeBehindEditionDigit 7 = .ok (.ireturn, 1) := by decide +kernel
theorem dX2_placeBehindEditionDigit_8 : decode cX2_placeBehindEditionDigit 8 = .ok (.iload_n 0, 1) := by decide +kernel
theorem dX2_placeBehindEditionDigit_9 : decode cX2_placeBehindEditionDigit 9 = .ok (.bipush 57, 2) := by decide +kernel
theorem dX2_placeBehindEditionDigit_11 : decode cX2_placeBehindEditionDigit 11 = .ok (.invokestatic 33, 3) := by decide +kernel
theorem dX2_placeBehindEditionDigit_14 : decode cX2_placeBehindEditionDigit 14 = .ok (.ifCond .eq 8, 3) := by decide +kernel
theorem dX2_placeBehindEditionDigit_17 : decode cX2_placeBehindEditionDigit 17 = .ok (.bipush 6, 2) := by decide +kernel
theorem dX2_placeBehindEditionDigit_19 : decode cX2_placeBehindEditionDigit 19 = .ok (.goto 4, 3) := by decide +kernel
theorem dX2_placeBehindEditionDigit_22 : decode cX2_placeBehindEditionDigit 22 = .ok (.iconst (-1), 1) := by decide +kernel
theorem dX2_placeBehindEditionDigit_23 : decode cX2_placeBehindEditionDigit 23 = .ok (.ireturn, 1) := by decide +kernel
theorem dX3_init_0 : decode cX3_init 0 = .ok (.aload_n 0, 1) := by decide +kernel
theorem dX3_init_1 : decode cX3_init 1 = .ok (.invokespecial 3, 3) := by decide +kernel
theorem dX3_init_4 : decode cX3_init 4 = .ok (.aload_n 0, 1) := by decide +kernel
theorem dX3_init_5 : decode cX3_init 5 = .ok (.new 9, 3) := by decide +kernel
theorem dX3_init_8 : decode cX3_init 8 = .ok (.dup, 1) := by decide +kernel
theorem dX3_init_9 : decode cX3_init 9 = .ok (.invokespecial 11, 3) := by decide +kernel
theorem dX3_init_12 : decode cX3_init 12 = .ok (.putfield 12, 3) := by decide +kernel
theorem dX3_init_15 : decode cX3_init 15 = .ok (.return_, 1) := by decide +kernel
theorem dX3_copyFrom_0 : decode cX3_copyFrom 0 = .ok (.aload_n 0, 1) := by decide +kernel
theorem dX3_copyFrom_1 : decode cX3_copyFrom 1 = .ok (.aload_n 1, 1) := by decide +kernel
theorem dX3_copyFrom_2 : decode cX3_copyFrom 2 = .ok (.getfield 18, 3) := by decide +kernel
theorem dX3_copyFrom_5 : decode cX3_copyFrom 5 = .ok (.putfield 18, 3) := by decide +kernel
theorem dX3_copyFrom_8 : decode cX3_copyFrom 8 = .ok (.aload_n 0, 1) := by decide +kernel
theorem dX3_copyFrom_9 : decode cX3_copyFrom 9 = .ok (.aload_n 1, 1) := by decide +kernel
theorem dX3_copyFrom_10 : decode cX3_copyFrom 10 = .ok (.getfield 22, 3) := by decide +kernel
theorem dX3_copyFrom_13 : decode cX3_copyFrom 13 = .ok (.putfield 22, 3) := by decide +kernel
theorem dX3_copyFrom_16 : decode cX3_copyFrom 16 = .ok (.aload_n 0, 1) := by decide +kernel
theorem dX3_copyFrom_17 : decode cX3_copyFrom 17 = .ok (.aload_n 1, 1) := by decide +kernel
theorem dX3_copyFrom_18 : decode cX3_copyFrom 18 = .ok (.getfield 25, 3) := by decide +kernel
theorem dX3_copyFrom_21 : decode cX3_copyFrom 21 = .ok (.putfield 25, 3) := by decide +kernel
theorem dX3_copyFrom_24 : decode cX3_copyFrom 24 = .ok (.aload_n 0, 1) := by decide +kernel
theorem dX3_copyFrom_25 : decode cX3_copyFrom 25 = .ok (.getfield 12, 3) := by decide +kernel
theorem dX3_copyFrom_28 : decode cX3_copyFrom 28 = .ok (.aload_n 1, 1) := by decide +kernel
theorem dX3_copyFrom_29 : decode cX3_copyFrom 29 = .ok (.getfield 12, 3) := by decide +kernel
theorem dX3_copyFrom_32 : decode cX3_copyFrom 32 = .ok (.invokevirtual 28, 3) := by decide +kernel
theorem dX3_copyFrom_35 : decode cX3_copyFrom 35 = .ok (.return_, 1) := by decide +kernel
theorem dX3_mayAdd_0 : decode cX3_mayAdd 0 = .ok (.iload_n 1, 1) := by decide +kernel
theorem dX3_mayAdd_1 : decode cX3_mayAdd 1 = .ok (.invokestatic 32, 3) := by decide +kernel
theorem dX3_mayAdd_4 : decode cX3_mayAdd 4 = .ok (.ifCond .eq 18, 3) := by decide +kernel
theorem dX3_mayAdd_7 : decode cX3_mayAdd 7 = .ok (.aload_n 0, 1) := by decide +kernel
theorem dX3_mayAdd_8 : decode cX3_mayAdd 8 = .ok (.getfield 18, 3) := by decide +kernel
theorem dX3_mayAdd_11 : decode cX3_mayAdd 11 = .ok (.iload_n 1, 1) := by decide +kernel
theorem dX3_mayAdd_12 : decode cX3_mayAdd 12 = .ok (.invokestatic 36, 3) := by decide +kernel
theorem dX3_mayAdd_15 : decode cX3_mayAdd 15 = .ok (.ifCond .ne 7, 3) := by decide +kernel
theorem dX3_mayAdd_18 : decode cX3_mayAdd 18 = .ok (.iconst 1, 1) := by decide +kernel
theorem dX3_mayAdd_19 : decode cX3_mayAdd 19 = .ok (.goto 4, 3) := by decide +kernel
theorem dX3_mayAdd_22 : decode cX3_mayAdd 22 = .ok (.iconst 0, 1) := by decide +kernel
theorem dX3_mayAdd_23 : decode cX3_mayAdd 23 = .ok (.ireturn, 1) := by decide +kernel
theorem dX3_mayCrossOut_0 : decode cX3_mayCrossOut 0 = .ok (.iload_n 1, 1) := by decide +kernel
theorem dX3_mayCrossOut_1 : decode cX3_mayCrossOut 1 = .ok (.invokestatic 32, 3) := by decide +kernel
theorem dX3_mayCrossOut_4 : decode cX3_mayCrossOut 4 = .ok (.ifCond .eq 18, 3) := by decide +kernel
theorem dX3_mayCrossOut_7 : decode cX3_mayCrossOut 7 = .ok (.aload_n 0, 1) := by decide +kernel
theorem dX3_mayCrossOut_8 : decode cX3_mayCrossOut 8 = .ok (.getfield 18, 3) := by decide +kernel
theorem dX3_mayCrossOut_11 : decode cX3_mayCrossOut 11 = .ok (.iload_n 1, 1) := by decide +kernel
theorem dX3_mayCrossOut_12 : decode cX3_mayCrossOut 12 = .ok (.invokestatic 36, 3) := by decide +kernel
theorem dX3_mayCrossOut_15 : decode cX3_mayCrossOut 15 = .ok (.ifCond .eq 7, 3) := by decide +kernel
theorem dX3_mayCrossOut_18 : decode cX3_mayCrossOut 18 = .ok (.iconst 1, 1) := by decide +kernel
theorem dX3_mayCrossOut_19 : decode cX3_mayCrossOut 19 = .ok (.goto 4, 3) := by decide +kernel
theorem dX3_mayCrossOut_22 : decode cX3_mayCrossOut 22 = .ok (.iconst 0, 1) := by decide +kernel
theorem dX3_mayCrossOut_23 : decode cX3_mayCrossOut 23 = .ok (.ireturn, 1) := by decide +kernel
theorem dX3_mayPublish_0 : decode cX3_mayPublish 0 = .ok (.aload_n 0, 1) := by decide +kernel
theorem dX3_mayPublish_1 : decode cX3_mayPublish 1 = .ok (.getfield 18, 3) := by decide +kernel
theorem dX3_mayPublish_4 : decode cX3_mayPublish 4 = .ok (.aload_n 0, 1) := by decide +kernel
theorem dX3_mayPublish_5 : decode cX3_mayPublish 5 = .ok (.getfield 22, 3) := by decide +kernel
theorem dX3_mayPublish_8 : decode cX3_mayPublish 8 = .ok (.if_icmp .eq 7, 3) := by decide +kernel
theorem dX3_mayPublish_11 : decode cX3_mayPublish 11 = .ok (.iconst 1, 1) := by decide +kernel
theorem dX3_mayPublish_12 : decode cX3_mayPublish 12 = .ok (.goto 4, 3) := by decide +kernel
theorem dX3_mayPublish_15 : decode cX3_mayPublish 15 = .ok (.iconst 0, 1) := by decide +kernel
theorem dX3_mayPublish_16 : decode cX3_mayPublish 16 = .ok (.ireturn, 1) := by decide +kernel
theorem dX3_mayTakeNumber_0 : decode cX3_mayTakeNumber 0 = .ok (.iload_n 1, 1) := by decide +kernel
theorem dX3_mayTakeNumber_1 : decode cX3_mayTakeNumber 1 = .ok (.invokestatic 40, 3) := by decide +kernel
theorem dX3_mayTakeNumber_4 : decode cX3_mayTakeNumber 4 = .ok (.ifCond .eq 15, 3) := by decide +kernel
theorem dX3_mayTakeNumber_7 : decode cX3_mayTakeNumber 7 = .ok (.iload_n 1, 1) := by decide +kernel
theorem dX3_mayTakeNumber_8 : decode cX3_mayTakeNumber 8 = .ok (.aload_n 0, 1) := by decide +kernel
theorem dX3_mayTakeNumber_9 : decode cX3_mayTakeNumber 9 = .ok (.getfield 25, 3) := by decide +kernel
theorem dX3_mayTakeNumber_12 : decode cX3_mayTakeNumber 12 = .ok (.if_icmp .eq 7, 3) := by decide +kernel
theorem dX3_mayTakeNumber_15 : decode cX3_mayTakeNumber 15 = .ok (.iconst 1, 1) := by decide +kernel
theorem dX3_mayTakeNumber_16 : decode cX3_mayTakeNumber 16 = .ok (.goto 4, 3) := by decide +kernel
theorem dX3_mayTakeNumber_19 : decode cX3_mayTakeNumber 19 = .ok (.iconst 0, 1) := by decide +kernel
theorem dX3_mayTakeNumber_20 : decode cX3_mayTakeNumber 20 = .ok (.ireturn, 1) := by decide +kernel
theorem dX3_addToDraft_0 : decode cX3_addToDraft 0 = .ok (.aload_n 0, 1) := by decide +kernel
theorem dX3_addToDraft_1 : decode cX3_addToDraft 1 = .ok (.dup, 1) := by decide +kernel
theorem dX3_addToDraft_2 : decode cX3_addToDraft 2 = .ok (.getfield 18, 3) := by decide +kernel
theorem dX3_addToDraft_5 : decode cX3_addToDraft 5 = .ok (.iconst 1, 1) := by decide +kernel
theorem dX3_addToDraft_6 : decode cX3_addToDraft 6 = .ok (.iload_n 1, 1) := by decide +kernel
theorem dX3_addToDraft_7 : decode cX3_addToDraft 7 = .ok (.ishl, 1) := by decide +kernel
theorem dX3_addToDraft_8 : decode cX3_addToDraft 8 = .ok (.ior, 1) := by decide +kernel
theorem dX3_addToDraft_9 : decode cX3_addToDraft 9 = .ok (.putfield 18, 3) := by decide +kernel
theorem dX3_addToDraft_12 : decode cX3_addToDraft 12 = .ok (.return_, 1) := by decide +kernel
theorem dX3_takeOutOfDraft_0 : decode cX3_takeOutOfDraft 0 = .ok (.aload_n 0, 1) := by decide +kernel
theorem dX3_takeOutOfDraft_1 : decode cX3_takeOutOfDraft 1 = .ok (.dup, 1) := by decide +kernel
theorem dX3_takeOutOfDraft_2 : decode cX3_takeOutOfDraft 2 = .ok (.getfield 18, 3) := by decide +kernel
theorem dX3_takeOutOfDraft_5 : decode cX3_takeOutOfDraft 5 = .ok (.iconst 1, 1) := by decide +kernel
theorem dX3_takeOutOfDraft_6 : decode cX3_takeOutOfDraft 6 = .ok (.iload_n 1, 1) := by decide +kernel
theorem dX3_takeOutOfDraft_7 : decode cX3_takeOutOfDraft 7 = .ok (.ishl, 1) := by decide +kernel
theorem dX3_takeOutOfDraft_8 : decode cX3_takeOutOfDraft 8 = .ok (.iconst (-1), 1) := by decide +kernel
theorem dX3_takeOutOfDraft_9 : decode cX3_takeOutOfDraft 9 = .ok (.ixor, 1) := by decide +kernel
theorem dX3_takeOutOfDraft_10 : decode cX3_takeOutOfDraft 10 = .ok (.iand, 1) := by decide +kernel
theorem dX3_takeOutOfDraft_11 : decode cX3_takeOutOfDraft 11 = .ok (.putfield 18, 3) := by decide +kernel
theorem dX3_takeOutOfDraft_14 : decode cX3_takeOutOfDraft 14 = .ok (.return_, 1) := by decide +kernel
theorem dX3_issueDraft_0 : decode cX3_issueDraft 0 = .ok (.aload_n 0, 1) := by decide +kernel
theorem dX3_issueDraft_1 : decode cX3_issueDraft 1 = .ok (.getfield 12, 3) := by decide +kernel
theorem dX3_issueDraft_4 : decode cX3_issueDraft 4 = .ok (.aload_n 0, 1) := by decide +kernel
theorem dX3_issueDraft_5 : decode cX3_issueDraft 5 = .ok (.getfield 25, 3) := by decide +kernel
theorem dX3_issueDraft_8 : decode cX3_issueDraft 8 = .ok (.aload_n 0, 1) := by decide +kernel
theorem dX3_issueDraft_9 : decode cX3_issueDraft 9 = .ok (.getfield 22, 3) := by decide +kernel
theorem dX3_issueDraft_12 : decode cX3_issueDraft 12 = .ok (.aload_n 0, 1) := by decide +kernel
theorem dX3_issueDraft_13 : decode cX3_issueDraft 13 = .ok (.getfield 18, 3) := by decide +kernel
theorem dX3_issueDraft_16 : decode cX3_issueDraft 16 = .ok (.iconst (-1), 1) := by decide +kernel
theorem dX3_issueDraft_17 : decode cX3_issueDraft 17 = .ok (.ixor, 1) := by decide +kernel
theorem dX3_issueDraft_18 : decode cX3_issueDraft 18 = .ok (.iand, 1) := by decide +kernel
theorem dX3_issueDraft_19 : decode cX3_issueDraft 19 = .ok (.aload_n 0, 1) := by decide +kernel
theorem dX3_issueDraft_20 : decode cX3_issueDraft 20 = .ok (.getfield 18, 3) := by decide +kernel
theorem dX3_issueDraft_23 : decode cX3_issueDraft 23 = .ok (.aload_n 0, 1) := by decide +kernel
theorem dX3_issueDraft_24 : decode cX3_issueDraft 24 = .ok (.getfield 22, 3) := by decide +kernel
theorem dX3_issueDraft_27 : decode cX3_issueDraft 27 = .ok (.iconst (-1), 1) := by decide +kernel
theorem dX3_issueDraft_28 : decode cX3_issueDraft 28 = .ok (.ixor, 1) := by decide +kernel
theorem dX3_issueDraft_29 : decode cX3_issueDraft 29 = .ok (.iand, 1) := by decide +kernel
theorem dX3_issueDraft_30 : decode cX3_issueDraft 30 = .ok (.invokevirtual 43, 3) := by decide +kernel
theorem dX3_issueDraft_33 : decode cX3_issueDraft 33 = .ok (.aload_n 0, 1) := by decide +kernel
theorem dX3_issueDraft_34 : decode cX3_issueDraft 34 = .ok (.aload_n 0, 1) := by decide +kernel
theorem dX3_issueDraft_35 : decode cX3_issueDraft 35 = .ok (.getfield 18, 3) := by decide +kernel
theorem dX3_issueDraft_38 : decode cX3_issueDraft 38 = .ok (.putfield 22, 3) := by decide +kernel
theorem dX3_issueDraft_41 : decode cX3_issueDraft 41 = .ok (.aload_n 0, 1) := by decide +kernel
theorem dX3_issueDraft_42 : decode cX3_issueDraft 42 = .ok (.aload_n 0, 1) := by decide +kernel
theorem dX3_issueDraft_43 : decode cX3_issueDraft 43 = .ok (.getfield 25, 3) := by decide +kernel
theorem dX3_issueDraft_46 : decode cX3_issueDraft 46 = .ok (.iconst 1, 1) := by decide +kernel
theorem dX3_issueDraft_47 : decode cX3_issueDraft 47 = .ok (.iadd, 1) := by decide +kernel
theorem dX3_issueDraft_48 : decode cX3_issueDraft 48 = .ok (.bipush 16, 2) := by decide +kernel
theorem dX3_issueDraft_50 : decode cX3_issueDraft 50 = .ok (.irem, 1) := by decide +kernel
theorem dX3_issueDraft_51 : decode cX3_issueDraft 51 = .ok (.putfield 25, 3) := by decide +kernel
theorem dX3_issueDraft_54 : decode cX3_issueDraft 54 = .ok (.return_, 1) := by decide +kernel
theorem dX3_takeNumber_0 : decode cX3_takeNumber 0 = .ok (.aload_n 0, 1) := by decide +kernel
theorem dX3_takeNumber_1 : decode cX3_takeNumber 1 = .ok (.iload_n 1, 1) := by decide +kernel
theorem dX3_takeNumber_2 : decode cX3_takeNumber 2 = .ok (.putfield 25, 3) := by decide +kernel
theorem dX3_takeNumber_5 : decode cX3_takeNumber 5 = .ok (.aload_n 0, 1) := by decide +kernel
theorem dX3_takeNumber_6 : decode cX3_takeNumber 6 = .ok (.getfield 12, 3) := by decide +kernel
theorem dX3_takeNumber_9 : decode cX3_takeNumber 9 = .ok (.invokevirtual 47, 3) := by decide +kernel
theorem dX3_takeNumber_12 : decode cX3_takeNumber 12 = .ok (.return_, 1) := by decide +kernel
theorem dX3_placeOf_0 : decode cX3_placeOf 0 = .ok (.aload_n 0, 1) := by decide +kernel
theorem dX3_placeOf_1 : decode cX3_placeOf 1 = .ok (.getfield 18, 3) := by decide +kernel
theorem dX3_placeOf_4 : decode cX3_placeOf 4 = .ok (.iload_n 1, 1) := by decide +kernel
theorem dX3_placeOf_5 : decode cX3_placeOf 5 = .ok (.invokestatic 36, 3) := by decide +kernel
theorem dX3_placeOf_8 : decode cX3_placeOf 8 = .ok (.ifCond .eq 7, 3) := by decide +kernel
theorem dX3_placeOf_11 : decode cX3_placeOf 11 = .ok (.iconst 1, 1) := by decide +kernel
theorem dX3_placeOf_12 : decode cX3_placeOf 12 = .ok (.goto 4, 3) := by decide +kernel
theorem dX3_placeOf_15 : decode cX3_placeOf 15 = .ok (.iconst 0, 1) := by decide +kernel
theorem dX3_placeOf_16 : decode cX3_placeOf 16 = .ok (.istore_n 2, 1) := by decide +kernel
theorem dX3_placeOf_17 : decode cX3_placeOf 17 = .ok (.aload_n 0, 1) := by decide +kernel
theorem dX3_placeOf_18 : decode cX3_placeOf 18 = .ok (.getfield 22, 3) := by decide +kernel
theorem dX3_placeOf_21 : decode cX3_placeOf 21 = .ok (.iload_n 1, 1) := by decide +kernel
theorem dX3_placeOf_22 : decode cX3_placeOf 22 = .ok (.invokestatic 36, 3) := by decide +kernel
theorem dX3_placeOf_25 : decode cX3_placeOf 25 = .ok (.ifCond .eq 7, 3) := by decide +kernel
theorem dX3_placeOf_28 : decode cX3_placeOf 28 = .ok (.iconst 2, 1) := by decide +kernel
theorem dX3_placeOf_29 : decode cX3_placeOf 29 = .ok (.goto 4, 3) := by decide +kernel
theorem dX3_placeOf_32 : decode cX3_placeOf 32 = .ok (.iconst 0, 1) := by decide +kernel
theorem dX3_placeOf_33 : decode cX3_placeOf 33 = .ok (.istore_n 3, 1) := by decide +kernel
theorem dX3_placeOf_34 : decode cX3_placeOf 34 = .ok (.iload_n 2, 1) := by decide +kernel
theorem dX3_placeOf_35 : decode cX3_placeOf 35 = .ok (.iload_n 3, 1) := by decide +kernel
theorem dX3_placeOf_36 : decode cX3_placeOf 36 = .ok (.iadd, 1) := by decide +kernel
theorem dX3_placeOf_37 : decode cX3_placeOf 37 = .ok (.ireturn, 1) := by decide +kernel
theorem dX3_wholeListCost_0 : decode cX3_wholeListCost 0 = .ok (.iconst 1, 1) := by decide +kernel
theorem dX3_wholeListCost_1 : decode cX3_wholeListCost 1 = .ok (.aload_n 0, 1) := by decide +kernel
theorem dX3_wholeListCost_2 : decode cX3_wholeListCost 2 = .ok (.getfield 22, 3) := by decide +kernel
theorem dX3_wholeListCost_5 : decode cX3_wholeListCost 5 = .ok (.invokestatic 50, 3) := by decide +kernel
theorem dX3_wholeListCost_8 : decode cX3_wholeListCost 8 = .ok (.iadd, 1) := by decide +kernel
theorem dX3_wholeListCost_9 : decode cX3_wholeListCost 9 = .ok (.ireturn, 1) := by decide +kernel
theorem dX3_answerTo_0 : decode cX3_answerTo 0 = .ok (.aload_n 1, 1) := by decide +kernel
theorem dX3_answerTo_1 : decode cX3_answerTo 1 = .ok (.getfield 56, 3) := by decide +kernel
theorem dX3_answerTo_4 : decode cX3_answerTo 4 = .ok (.ifCond .ne 5, 3) := by decide +kernel
theorem dX3_answerTo_7 : decode cX3_answerTo 7 = .ok (.iconst 2, 1) := by decide +kernel
theorem dX3_answerTo_8 : decode cX3_answerTo 8 = .ok (.ireturn, 1) := by decide +kernel
theorem dX3_answerTo_9 : decode cX3_answerTo 9 = .ok (.aload_n 1, 1) := by decide +kernel
theorem dX3_answerTo_10 : decode cX3_answerTo 10 = .ok (.getfield 62, 3) := by decide +kernel
theorem dX3_answerTo_13 : decode cX3_answerTo 13 = .ok (.aload_n 0, 1) := by decide +kernel
theorem dX3_answerTo_14 : decode cX3_answerTo 14 = .ok (.getfield 25, 3) := by decide +kernel
theorem dX3_answerTo_17 : decode cX3_answerTo 17 = .ok (.if_icmp .ne 5, 3) := by decide +kernel
theorem dX3_answerTo_20 : decode cX3_answerTo 20 = .ok (.iconst 0, 1) := by decide +kernel
theorem dX3_answerTo_21 : decode cX3_answerTo 21 = .ok (.ireturn, 1) := by decide +kernel
theorem dX3_answerTo_22 : decode cX3_answerTo 22 = .ok (.aload_n 0, 1) := by decide +kernel
theorem dX3_answerTo_23 : decode cX3_answerTo 23 = .ok (.getfield 25, 3) := by decide +kernel
theorem dX3_answerTo_26 : decode cX3_answerTo 26 = .ok (.aload_n 1, 1) := by decide +kernel
theorem dX3_answerTo_27 : decode cX3_answerTo 27 = .ok (.getfield 62, 3) := by decide +kernel
theorem dX3_answerTo_30 : decode cX3_answerTo 30 = .ok (.invokestatic 65, 3) := by decide +kernel
theorem dX3_answerTo_33 : decode cX3_answerTo 33 = .ok (.ifCond .ne 5, 3) := by decide +kernel
theorem dX3_answerTo_36 : decode cX3_answerTo 36 = .ok (.iconst 3, 1) := by decide +kernel
theorem dX3_answerTo_37 : decode cX3_answerTo 37 = .ok (.ireturn, 1) := by decide +kernel
theorem dX3_answerTo_38 : decode cX3_answerTo 38 = .ok (.aload_n 0, 1) := by decide +kernel
theorem dX3_answerTo_39 : decode cX3_answerTo 39 = .ok (.getfield 12, 3) := by decide +kernel
theorem dX3_answerTo_42 : decode cX3_answerTo 42 = .ok (.aload_n 1, 1) := by decide +kernel
theorem dX3_answerTo_43 : decode cX3_answerTo 43 = .ok (.getfield 62, 3) := by decide +kernel
theorem dX3_answerTo_46 : decode cX3_answerTo 46 = .ok (.invokevirtual 68, 3) := by decide +kernel
theorem dX3_answerTo_49 : decode cX3_answerTo 49 = .ok (.istore_n 2, 1) := by decide +kernel
theorem dX3_answerTo_50 : decode cX3_answerTo 50 = .ok (.iload_n 2, 1) := by decide +kernel
theorem dX3_answerTo_51 : decode cX3_answerTo 51 = .ok (.iconst (-1), 1) := by decide +kernel
theorem dX3_answerTo_52 : decode cX3_answerTo 52 = .ok (.if_icmp .eq 15, 3) := by decide +kernel
theorem dX3_answerTo_55 : decode cX3_answerTo 55 = .ok (.iload_n 2, 1) := by decide +kernel
theorem dX3_answerTo_56 : decode cX3_answerTo 56 = .ok (.aload_n 0, 1) := by decide +kernel
theorem dX3_answerTo_57 : decode cX3_answerTo 57 = .ok (.invokevirtual 71, 3) := by decide +kernel
theorem dX3_answerTo_60 : decode cX3_answerTo 60 = .ok (.if_icmp .gt 7, 3) := by decide +kernel
theorem dX3_answerTo_63 : decode cX3_answerTo 63 = .ok (.iconst 1, 1) := by decide +kernel
theorem dX3_answerTo_64 : decode cX3_answerTo 64 = .ok (.goto 4, 3) := by decide +kernel
theorem dX3_answerTo_67 : decode cX3_answerTo 67 = .ok (.iconst 2, 1) := by decide +kernel
theorem dX3_answerTo_68 : decode cX3_answerTo 68 = .ok (.ireturn, 1) := by decide +kernel
theorem dX3_costOfAnswer_0 : decode cX3_costOfAnswer 0 = .ok (.iload_n 1, 1) := by decide +kernel
theorem dX3_costOfAnswer_1 : decode cX3_costOfAnswer 1 = .ok (.iconst 1, 1) := by decide +kernel
theorem dX3_costOfAnswer_2 : decode cX3_costOfAnswer 2 = .ok (.if_icmp .ne 12, 3) := by decide +kernel
theorem dX3_costOfAnswer_5 : decode cX3_costOfAnswer 5 = .ok (.aload_n 0, 1) := by decide +kernel
theorem dX3_costOfAnswer_6 : decode cX3_costOfAnswer 6 = .ok (.getfield 12, 3) := by decide +kernel
theorem dX3_costOfAnswer_9 : decode cX3_costOfAnswer 9 = .ok (.iload_n 2, 1) := by decide +kernel
theorem dX3_costOfAnswer_10 : decode cX3_costOfAnswer 10 = .ok (.invokevirtual 68, 3) := by decide +kernel
theorem dX3_costOfAnswer_13 : decode cX3_costOfAnswer 13 = .ok (.ireturn, 1) := by decide +kernel
theorem dX3_costOfAnswer_14 : decode cX3_costOfAnswer 14 = .ok (.iload_n 1, 1) := by decide +kernel
theorem dX3_costOfAnswer_15 : decode cX3_costOfAnswer 15 = .ok (.iconst 2, 1) := by decide +kernel
theorem dX3_costOfAnswer_16 : decode cX3_costOfAnswer 16 = .ok (.if_icmp .ne 10, 3) := by decide +kernel
theorem dX3_costOfAnswer_19 : decode cX3_costOfAnswer 19 = .ok (.aload_n 0, 1) := by decide +kernel
theorem dX3_costOfAnswer_20 : decode cX3_costOfAnswer 20 = .ok (.invokevirtual 71, 3) := by decide +kernel
theorem dX3_costOfAnswer_23 : decode cX3_costOfAnswer 23 = .ok (.goto 4, 3) := by decide +kernel
theorem dX3_costOfAnswer_26 : decode cX3_costOfAnswer 26 = .ok (.iconst 0, 1) := by decide +kernel
theorem dX3_costOfAnswer_27 : decode cX3_costOfAnswer 27 = .ok (.ireturn, 1) := by decide +kernel
theorem dX4_init_0 : decode cX4_init 0 = .ok (.aload_n 0, 1) := by decide +kernel
theorem dX4_init_1 : decode cX4_init 1 = .ok (.invokespecial 3, 3) := by decide +kernel
theorem dX4_init_4 : decode cX4_init 4 = .ok (.aload_n 0, 1) := by decide +kernel
theorem dX4_init_5 : decode cX4_init 5 = .ok (.bipush 6, 2) := by decide +kernel
theorem dX4_init_7 : decode cX4_init 7 = .ok (.anewarray 9, 3) := by decide +kernel
theorem dX4_init_10 : decode cX4_init 10 = .ok (.putfield 11, 3) := by decide +kernel
theorem dX4_init_13 : decode cX4_init 13 = .ok (.iconst 0, 1) := by decide +kernel
theorem dX4_init_14 : decode cX4_init 14 = .ok (.istore_n 1, 1) := by decide +kernel
theorem dX4_init_15 : decode cX4_init 15 = .ok (.iload_n 1, 1) := by decide +kernel
theorem dX4_init_16 : decode cX4_init 16 = .ok (.bipush 6, 2) := by decide +kernel
theorem dX4_init_18 : decode cX4_init 18 = .ok (.if_icmp .ge 22, 3) := by decide +kernel
theorem dX4_init_21 : decode cX4_init 21 = .ok (.aload_n 0, 1) := by decide +kernel
theorem dX4_init_22 : decode cX4_init 22 = .ok (.getfield 11, 3) := by decide +kernel
theorem dX4_init_25 : decode cX4_init 25 = .ok (.iload_n 1, 1) := by decide +kernel
theorem dX4_init_26 : decode cX4_init 26 = .ok (.new 9, 3) := by decide +kernel
theorem dX4_init_29 : decode cX4_init 29 = .ok (.dup, 1) := by decide +kernel
theorem dX4_init_30 : decode cX4_init 30 = .ok (.invokespecial 17, 3) := by decide +kernel
theorem dX4_init_33 : decode cX4_init 33 = .ok (.aastore, 1) := by decide +kernel
theorem dX4_init_34 : decode cX4_init 34 = .ok (.iinc 1 1, 3) := by decide +kernel
theorem dX4_init_37 : decode cX4_init 37 = .ok (.goto (-22), 3) := by decide +kernel
theorem dX4_init_40 : decode cX4_init 40 = .ok (.return_, 1) := by decide +kernel
theorem dX4_save_0 : decode cX4_save 0 = .ok (.aload_n 0, 1) := by decide +kernel
theorem dX4_save_1 : decode cX4_save 1 = .ok (.getfield 11, 3) := by decide +kernel
theorem dX4_save_4 : decode cX4_save 4 = .ok (.aload_n 0, 1) := by decide +kernel
theorem dX4_save_5 : decode cX4_save 5 = .ok (.getfield 18, 3) := by decide +kernel
theorem dX4_save_8 : decode cX4_save 8 = .ok (.aaload, 1) := by decide +kernel
theorem dX4_save_9 : decode cX4_save 9 = .ok (.aload_n 1, 1) := by decide +kernel
theorem dX4_save_10 : decode cX4_save 10 = .ok (.invokevirtual 22, 3) := by decide +kernel
theorem dX4_save_13 : decode cX4_save 13 = .ok (.aload_n 0, 1) := by decide +kernel
theorem dX4_save_14 : decode cX4_save 14 = .ok (.aload_n 0, 1) := by decide +kernel
theorem dX4_save_15 : decode cX4_save 15 = .ok (.getfield 18, 3) := by decide +kernel
theorem dX4_save_18 : decode cX4_save 18 = .ok (.iconst 1, 1) := by decide +kernel
theorem dX4_save_19 : decode cX4_save 19 = .ok (.iadd, 1) := by decide +kernel
theorem dX4_save_20 : decode cX4_save 20 = .ok (.bipush 6, 2) := by decide +kernel
theorem dX4_save_22 : decode cX4_save 22 = .ok (.irem, 1) := by decide +kernel
theorem dX4_save_23 : decode cX4_save 23 = .ok (.putfield 18, 3) := by decide +kernel
theorem dX4_save_26 : decode cX4_save 26 = .ok (.aload_n 0, 1) := by decide +kernel
theorem dX4_save_27 : decode cX4_save 27 = .ok (.aload_n 0, 1) := by decide +kernel
theorem dX4_save_28 : decode cX4_save 28 = .ok (.getfield 26, 3) := by decide +kernel
theorem dX4_save_31 : decode cX4_save 31 = .ok (.iconst 1, 1) := by decide +kernel
theorem dX4_save_32 : decode cX4_save 32 = .ok (.iadd, 1) := by decide +kernel
theorem dX4_save_33 : decode cX4_save 33 = .ok (.bipush 6, 2) := by decide +kernel
theorem dX4_save_35 : decode cX4_save 35 = .ok (.invokestatic 29, 3) := by decide +kernel
theorem dX4_save_38 : decode cX4_save 38 = .ok (.putfield 26, 3) := by decide +kernel
theorem dX4_save_41 : decode cX4_save 41 = .ok (.return_, 1) := by decide +kernel
theorem dX4_restoreInto_0 : decode cX4_restoreInto 0 = .ok (.aload_n 0, 1) := by decide +kernel
theorem dX4_restoreInto_1 : decode cX4_restoreInto 1 = .ok (.aload_n 0, 1) := by decide +kernel
theorem dX4_restoreInto_2 : decode cX4_restoreInto 2 = .ok (.getfield 18, 3) := by decide +kernel
theorem dX4_restoreInto_5 : decode cX4_restoreInto 5 = .ok (.bipush 6, 2) := by decide +kernel
theorem dX4_restoreInto_7 : decode cX4_restoreInto 7 = .ok (.iadd, 1) := by decide +kernel
theorem dX4_restoreInto_8 : decode cX4_restoreInto 8 = .ok (.iconst 1, 1) := by decide +kernel
theorem dX4_restoreInto_9 : decode cX4_restoreInto 9 = .ok (.isub, 1) := by decide +kernel
theorem dX4_restoreInto_10 : decode cX4_restoreInto 10 = .ok (.bipush 6, 2) := by decide +kernel
theorem dX4_restoreInto_12 : decode cX4_restoreInto 12 = .ok (.irem, 1) := by decide +kernel
theorem dX4_restoreInto_13 : decode cX4_restoreInto 13 = .ok (.putfield 18, 3) := by decide +kernel
theorem dX4_restoreInto_16 : decode cX4_restoreInto 16 = .ok (.aload_n 0, 1) := by decide +kernel
theorem dX4_restoreInto_17 : decode cX4_restoreInto 17 = .ok (.dup, 1) := by decide +kernel
theorem dX4_restoreInto_18 : decode cX4_restoreInto 18 = .ok (.getfield 26, 3) := by decide +kernel
theorem dX4_restoreInto_21 : decode cX4_restoreInto 21 = .ok (.iconst 1, 1) := by decide +kernel
theorem dX4_restoreInto_22 : decode cX4_restoreInto 22 = .ok (.isub, 1) := by decide +kernel
theorem dX4_restoreInto_23 : decode cX4_restoreInto 23 = .ok (.putfield 26, 3) := by decide +kernel
theorem dX4_restoreInto_26 : decode cX4_restoreInto 26 = .ok (.aload_n 1, 1) := by decide +kernel
theorem dX4_restoreInto_27 : decode cX4_restoreInto 27 = .ok (.aload_n 0, 1) := by decide +kernel
theorem dX4_restoreInto_28 : decode cX4_restoreInto 28 = .ok (.getfield 11, 3) := by decide +kernel
theorem dX4_restoreInto_31 : decode cX4_restoreInto 31 = .ok (.aload_n 0, 1) := by decide +kernel
theorem dX4_restoreInto_32 : decode cX4_restoreInto 32 = .ok (.getfield 18, 3) := by decide +kernel
theorem dX4_restoreInto_35 : decode cX4_restoreInto 35 = .ok (.aaload, 1) := by decide +kernel
theorem dX4_restoreInto_36 : decode cX4_restoreInto 36 = .ok (.invokevirtual 22, 3) := by decide +kernel
theorem dX4_restoreInto_39 : decode cX4_restoreInto 39 = .ok (.return_, 1) := by decide +kernel
theorem dX5_init_0 : decode cX5_init 0 = .ok (.aload_n 0, 1) := by decide +kernel
theorem dX5_init_1 : decode cX5_init 1 = .ok (.invokespecial 3, 3) := by decide +kernel
theorem dX5_init_4 : decode cX5_init 4 = .ok (.aload_n 0, 1) := by decide +kernel
theorem dX5_init_5 : decode cX5_init 5 = .ok (.new 9, 3) := by decide +kernel
theorem dX5_init_8 : decode cX5_init 8 = .ok (.dup, 1) := by decide +kernel
theorem dX5_init_9 : decode cX5_init 9 = .ok (.invokespecial 11, 3) := by decide +kernel
theorem dX5_init_12 : decode cX5_init 12 = .ok (.putfield 12, 3) := by decide +kernel
theorem dX5_init_15 : decode cX5_init 15 = .ok (.aload_n 0, 1) := by decide +kernel
theorem dX5_init_16 : decode cX5_init 16 = .ok (.iconst 4, 1) := by decide +kernel
theorem dX5_init_17 : decode cX5_init 17 = .ok (.anewarray 18, 3) := by decide +kernel
theorem dX5_init_20 : decode cX5_init 20 = .ok (.putfield 20, 3) := by decide +kernel
theorem dX5_init_23 : decode cX5_init 23 = .ok (.iconst 0, 1) := by decide +kernel
theorem dX5_init_24 : decode cX5_init 24 = .ok (.istore_n 1, 1) := by decide +kernel
theorem dX5_init_25 : decode cX5_init 25 = .ok (.iload_n 1, 1) := by decide +kernel
theorem dX5_init_26 : decode cX5_init 26 = .ok (.iconst 4, 1) := by decide +kernel
theorem dX5_init_27 : decode cX5_init 27 = .ok (.if_icmp .ge 22, 3) := by decide +kernel
theorem dX5_init_30 : decode cX5_init 30 = .ok (.aload_n 0, 1) := by decide +kernel
theorem dX5_init_31 : decode cX5_init 31 = .ok (.getfield 20, 3) := by decide +kernel
theorem dX5_init_34 : decode cX5_init 34 = .ok (.iload_n 1, 1) := by decide +kernel
theorem dX5_init_35 : decode cX5_init 35 = .ok (.new 18, 3) := by decide +kernel
theorem dX5_init_38 : decode cX5_init 38 = .ok (.dup, 1) := by decide +kernel
theorem dX5_init_39 : decode cX5_init 39 = .ok (.invokespecial 24, 3) := by decide +kernel
theorem dX5_init_42 : decode cX5_init 42 = .ok (.aastore, 1) := by decide +kernel
theorem dX5_init_43 : decode cX5_init 43 = .ok (.iinc 1 1, 3) := by decide +kernel
theorem dX5_init_46 : decode cX5_init 46 = .ok (.goto (-21), 3) := by decide +kernel
theorem dX5_init_49 : decode cX5_init 49 = .ok (.return_, 1) := by decide +kernel
theorem dX5_copyFrom_0 : decode cX5_copyFrom 0 = .ok (.aload_n 0, 1) := by decide +kernel
theorem dX5_copyFrom_1 : decode cX5_copyFrom 1 = .ok (.getfield 12, 3) := by decide +kernel
theorem dX5_copyFrom_4 : decode cX5_copyFrom 4 = .ok (.aload_n 1, 1) := by decide +kernel
theorem dX5_copyFrom_5 : decode cX5_copyFrom 5 = .ok (.getfield 12, 3) := by decide +kernel
theorem dX5_copyFrom_8 : decode cX5_copyFrom 8 = .ok (.invokevirtual 25, 3) := by decide +kernel
theorem dX5_copyFrom_11 : decode cX5_copyFrom 11 = .ok (.iconst 0, 1) := by decide +kernel
theorem dX5_copyFrom_12 : decode cX5_copyFrom 12 = .ok (.istore_n 2, 1) := by decide +kernel
theorem dX5_copyFrom_13 : decode cX5_copyFrom 13 = .ok (.iload_n 2, 1) := by decide +kernel
theorem dX5_copyFrom_14 : decode cX5_copyFrom 14 = .ok (.iconst 4, 1) := by decide +kernel
theorem dX5_copyFrom_15 : decode cX5_copyFrom 15 = .ok (.if_icmp .ge 24, 3) := by decide +kernel
theorem dX5_copyFrom_18 : decode cX5_copyFrom 18 = .ok (.aload_n 0, 1) := by decide +kernel
theorem dX5_copyFrom_19 : decode cX5_copyFrom 19 = .ok (.getfield 20, 3) := by decide +kernel
theorem dX5_copyFrom_22 : decode cX5_copyFrom 22 = .ok (.iload_n 2, 1) := by decide +kernel
theorem dX5_copyFrom_23 : decode cX5_copyFrom 23 = .ok (.aaload, 1) := by decide +kernel
theorem dX5_copyFrom_24 : decode cX5_copyFrom 24 = .ok (.aload_n 1, 1) := by decide +kernel
theorem dX5_copyFrom_25 : decode cX5_copyFrom 25 = .ok (.getfield 20, 3) := by decide +kernel
theorem dX5_copyFrom_28 : decode cX5_copyFrom 28 = .ok (.iload_n 2, 1) := by decide +kernel
theorem dX5_copyFrom_29 : decode cX5_copyFrom 29 = .ok (.aaload, 1) := by decide +kernel
theorem dX5_copyFrom_30 : decode cX5_copyFrom 30 = .ok (.invokevirtual 29, 3) := by decide +kernel
theorem dX5_copyFrom_33 : decode cX5_copyFrom 33 = .ok (.iinc 2 1, 3) := by decide +kernel
theorem dX5_copyFrom_36 : decode cX5_copyFrom 36 = .ok (.goto (-23), 3) := by decide +kernel
theorem dX5_copyFrom_39 : decode cX5_copyFrom 39 = .ok (.return_, 1) := by decide +kernel
theorem dX5_issueDraft_0 : decode cX5_issueDraft 0 = .ok (.aload_n 0, 1) := by decide +kernel
theorem dX5_issueDraft_1 : decode cX5_issueDraft 1 = .ok (.getfield 12, 3) := by decide +kernel
theorem dX5_issueDraft_4 : decode cX5_issueDraft 4 = .ok (.invokevirtual 32, 3) := by decide +kernel
theorem dX5_issueDraft_7 : decode cX5_issueDraft 7 = .ok (.aload_n 0, 1) := by decide +kernel
theorem dX5_issueDraft_8 : decode cX5_issueDraft 8 = .ok (.invokevirtual 35, 3) := by decide +kernel
theorem dX5_issueDraft_11 : decode cX5_issueDraft 11 = .ok (.return_, 1) := by decide +kernel
theorem dX5_takeNumber_0 : decode cX5_takeNumber 0 = .ok (.aload_n 0, 1) := by decide +kernel
theorem dX5_takeNumber_1 : decode cX5_takeNumber 1 = .ok (.getfield 12, 3) := by decide +kernel
theorem dX5_takeNumber_4 : decode cX5_takeNumber 4 = .ok (.iload_n 1, 1) := by decide +kernel
theorem dX5_takeNumber_5 : decode cX5_takeNumber 5 = .ok (.invokevirtual 38, 3) := by decide +kernel
theorem dX5_takeNumber_8 : decode cX5_takeNumber 8 = .ok (.aload_n 0, 1) := by decide +kernel
theorem dX5_takeNumber_9 : decode cX5_takeNumber 9 = .ok (.invokevirtual 35, 3) := by decide +kernel
theorem dX5_takeNumber_12 : decode cX5_takeNumber 12 = .ok (.return_, 1) := by decide +kernel
theorem dX5_giveNotice_0 : decode cX5_giveNotice 0 = .ok (.iconst 0, 1) := by decide +kernel
theorem dX5_giveNotice_1 : decode cX5_giveNotice 1 = .ok (.istore_n 1, 1) := by decide +kernel
theorem dX5_giveNotice_2 : decode cX5_giveNotice 2 = .ok (.iload_n 1, 1) := by decide +kernel
theorem dX5_giveNotice_3 : decode cX5_giveNotice 3 = .ok (.iconst 4, 1) := by decide +kernel
theorem dX5_giveNotice_4 : decode cX5_giveNotice 4 = .ok (.if_icmp .ge 31, 3) := by decide +kernel
theorem dX5_giveNotice_7 : decode cX5_giveNotice 7 = .ok (.aload_n 0, 1) := by decide +kernel
theorem dX5_giveNotice_8 : decode cX5_giveNotice 8 = .ok (.getfield 20, 3) := by decide +kernel
theorem dX5_giveNotice_11 : decode cX5_giveNotice 11 = .ok (.iload_n 1, 1) := by decide +kernel
theorem dX5_giveNotice_12 : decode cX5_giveNotice 12 = .ok (.aaload, 1) := by decide +kernel
theorem dX5_giveNotice_13 : decode cX5_giveNotice 13 = .ok (.getfield 42, 3) := by decide +kernel
theorem dX5_giveNotice_16 : decode cX5_giveNotice 16 = .ok (.ifCond .ne 13, 3) := by decide +kernel
theorem dX5_giveNotice_19 : decode cX5_giveNotice 19 = .ok (.aload_n 0, 1) := by decide +kernel
theorem dX5_giveNotice_20 : decode cX5_giveNotice 20 = .ok (.getfield 20, 3) := by decide +kernel
theorem dX5_giveNotice_23 : decode cX5_giveNotice 23 = .ok (.iload_n 1, 1) := by decide +kernel
theorem dX5_giveNotice_24 : decode cX5_giveNotice 24 = .ok (.aaload, 1) := by decide +kernel
theorem dX5_giveNotice_25 : decode cX5_giveNotice 25 = .ok (.iconst 1, 1) := by decide +kernel
theorem dX5_giveNotice_26 : decode cX5_giveNotice 26 = .ok (.putfield 46, 3) := by decide +kernel
theorem dX5_giveNotice_29 : decode cX5_giveNotice 29 = .ok (.iinc 1 1, 3) := by decide +kernel
theorem dX5_giveNotice_32 : decode cX5_giveNotice 32 = .ok (.goto (-30), 3) := by decide +kernel
theorem dX5_giveNotice_35 : decode cX5_giveNotice 35 = .ok (.return_, 1) := by decide +kernel
theorem dX5_countAsleep_0 : decode cX5_countAsleep 0 = .ok (.iconst 0, 1) := by decide +kernel
theorem dX5_countAsleep_1 : decode cX5_countAsleep 1 = .ok (.istore_n 1, 1) := by decide +kernel
theorem dX5_countAsleep_2 : decode cX5_countAsleep 2 = .ok (.iconst 0, 1) := by decide +kernel
theorem dX5_countAsleep_3 : decode cX5_countAsleep 3 = .ok (.istore_n 2, 1) := by decide +kernel
theorem dX5_countAsleep_4 : decode cX5_countAsleep 4 = .ok (.iload_n 2, 1) := by decide +kernel
theorem dX5_countAsleep_5 : decode cX5_countAsleep 5 = .ok (.iconst 4, 1) := by decide +kernel
theorem dX5_countAsleep_6 : decode cX5_countAsleep 6 = .ok (.if_icmp .ge 24, 3) := by decide +kernel
theorem dX5_countAsleep_9 : decode cX5_countAsleep 9 = .ok (.aload_n 0, 1) := by decide +kernel
theorem dX5_countAsleep_10 : decode cX5_countAsleep 10 = .ok (.getfield 20, 3) := by decide +kernel
theorem dX5_countAsleep_13 : decode cX5_countAsleep 13 = .ok (.iload_n 2, 1) := by decide +kernel
theorem dX5_countAsleep_14 : decode cX5_countAsleep 14 = .ok (.aaload, 1) := by decide +kernel
theorem dX5_countAsleep_15 : decode cX5_countAsleep 15 = .ok (.getfield 42, 3) := by decide +kernel
theorem dX5_countAsleep_18 : decode cX5_countAsleep 18 = .ok (.ifCond .eq 6, 3) := by decide +kernel
theorem dX5_countAsleep_21 : decode cX5_countAsleep 21 = .ok (.iinc 1 1, 3) := by decide +kernel
theorem dX5_countAsleep_24 : decode cX5_countAsleep 24 = .ok (.iinc 2 1, 3) := by decide +kernel
theorem dX5_countAsleep_27 : decode cX5_countAsleep 27 = .ok (.goto (-23), 3) := by decide +kernel
theorem dX5_countAsleep_30 : decode cX5_countAsleep 30 = .ok (.iload_n 1, 1) := by decide +kernel
theorem dX5_countAsleep_31 : decode cX5_countAsleep 31 = .ok (.ireturn, 1) := by decide +kernel
theorem dX5_nextCostOf_0 : decode cX5_nextCostOf 0 = .ok (.aload_n 0, 1) := by decide +kernel
theorem dX5_nextCostOf_1 : decode cX5_nextCostOf 1 = .ok (.getfield 12, 3) := by decide +kernel
theorem dX5_nextCostOf_4 : decode cX5_nextCostOf 4 = .ok (.aload_n 0, 1) := by decide +kernel
theorem dX5_nextCostOf_5 : decode cX5_nextCostOf 5 = .ok (.getfield 12, 3) := by decide +kernel
theorem dX5_nextCostOf_8 : decode cX5_nextCostOf 8 = .ok (.aload_n 1, 1) := by decide +kernel
theorem dX5_nextCostOf_9 : decode cX5_nextCostOf 9 = .ok (.invokevirtual 49, 3) := by decide +kernel
theorem dX5_nextCostOf_12 : decode cX5_nextCostOf 12 = .ok (.aload_n 1, 1) := by decide +kernel
theorem dX5_nextCostOf_13 : decode cX5_nextCostOf 13 = .ok (.getfield 53, 3) := by decide +kernel
theorem dX5_nextCostOf_16 : decode cX5_nextCostOf 16 = .ok (.invokevirtual 57, 3) := by decide +kernel
theorem dX5_nextCostOf_19 : decode cX5_nextCostOf 19 = .ok (.ireturn, 1) := by decide +kernel
theorem dX5_bringNews_0 : decode cX5_bringNews 0 = .ok (.aload_n 0, 1) := by decide +kernel
theorem dX5_bringNews_1 : decode cX5_bringNews 1 = .ok (.getfield 12, 3) := by decide +kernel
theorem dX5_bringNews_4 : decode cX5_bringNews 4 = .ok (.aload_n 1, 1) := by decide +kernel
theorem dX5_bringNews_5 : decode cX5_bringNews 5 = .ok (.invokevirtual 49, 3) := by decide +kernel
theorem dX5_bringNews_8 : decode cX5_bringNews 8 = .ok (.istore_n 2, 1) := by decide +kernel
theorem dX5_bringNews_9 : decode cX5_bringNews 9 = .ok (.aload_n 1, 1) := by decide +kernel
theorem dX5_bringNews_10 : decode cX5_bringNews 10 = .ok (.iconst 0, 1) := by decide +kernel
theorem dX5_bringNews_11 : decode cX5_bringNews 11 = .ok (.putfield 46, 3) := by decide +kernel
theorem dX5_bringNews_14 : decode cX5_bringNews 14 = .ok (.iload_n 2, 1) := by decide +kernel
theorem dX5_bringNews_15 : decode cX5_bringNews 15 = .ok (.iconst 1, 1) := by decide +kernel
theorem dX5_bringNews_16 : decode cX5_bringNews 16 = .ok (.if_icmp .eq 8, 3) := by decide +kernel
theorem dX5_bringNews_19 : decode cX5_bringNews 19 = .ok (.iload_n 2, 1) := by decide +kernel
theorem dX5_bringNews_20 : decode cX5_bringNews 20 = .ok (.iconst 2, 1) := by decide +kernel
theorem dX5_bringNews_21 : decode cX5_bringNews 21 = .ok (.if_icmp .ne 93, 3) := by decide +kernel
theorem dX5_bringNews_24 : decode cX5_bringNews 24 = .ok (.aload_n 1, 1) := by decide +kernel
theorem dX5_bringNews_25 : decode cX5_bringNews 25 = .ok (.dup, 1) := by decide +kernel
theorem dX5_bringNews_26 : decode cX5_bringNews 26 = .ok (.getfield 61, 3) := by decide +kernel
theorem dX5_bringNews_29 : decode cX5_bringNews 29 = .ok (.aload_n 0, 1) := by decide +kernel
theorem dX5_bringNews_30 : decode cX5_bringNews 30 = .ok (.getfield 12, 3) := by decide +kernel
theorem dX5_bringNews_33 : decode cX5_bringNews 33 = .ok (.iload_n 2, 1) := by decide +kernel
theorem dX5_bringNews_34 : decode cX5_bringNews 34 = .ok (.aload_n 1, 1) := by decide +kernel
theorem dX5_bringNews_35 : decode cX5_bringNews 35 = .ok (.getfield 53, 3) := by decide +kernel
theorem dX5_bringNews_38 : decode cX5_bringNews 38 = .ok (.invokevirtual 57, 3) := by decide +kernel
theorem dX5_bringNews_41 : decode cX5_bringNews 41 = .ok (.iadd, 1) := by decide +kernel
theorem dX5_bringNews_42 : decode cX5_bringNews 42 = .ok (.putfield 61, 3) := by decide +kernel
theorem dX5_bringNews_45 : decode cX5_bringNews 45 = .ok (.aload_n 1, 1) := by decide +kernel
theorem dX5_bringNews_46 : decode cX5_bringNews 46 = .ok (.dup, 1) := by decide +kernel
theorem dX5_bringNews_47 : decode cX5_bringNews 47 = .ok (.getfield 64, 3) := by decide +kernel
theorem dX5_bringNews_50 : decode cX5_bringNews 50 = .ok (.aload_n 0, 1) := by decide +kernel
theorem dX5_bringNews_51 : decode cX5_bringNews 51 = .ok (.getfield 12, 3) := by decide +kernel
theorem dX5_bringNews_54 : decode cX5_bringNews 54 = .ok (.invokevirtual 67, 3) := by decide +kernel
theorem dX5_bringNews_57 : decode cX5_bringNews 57 = .ok (.iadd, 1) := by decide +kernel
theorem dX5_bringNews_58 : decode cX5_bringNews 58 = .ok (.putfield 64, 3) := by decide +kernel
theorem dX5_bringNews_61 : decode cX5_bringNews 61 = .ok (.aload_n 1, 1) := by decide +kernel
theorem dX5_bringNews_62 : decode cX5_bringNews 62 = .ok (.iload_n 2, 1) := by decide +kernel
theorem dX5_bringNews_63 : decode cX5_bringNews 63 = .ok (.iconst 2, 1) := by decide +kernel
theorem dX5_bringNews_64 : decode cX5_bringNews 64 = .ok (.if_icmp .ne 13, 3) := by decide +kernel
theorem dX5_bringNews_67 : decode cX5_bringNews 67 = .ok (.aload_n 0, 1) := by decide +kernel
theorem dX5_bringNews_68 : decode cX5_bringNews 68 = .ok (.getfield 12, 3) := by decide +kernel
theorem dX5_bringNews_71 : decode cX5_bringNews 71 = .ok (.getfield 71, 3) := by decide +kernel
theorem dX5_bringNews_74 : decode cX5_bringNews 74 = .ok (.goto 21, 3) := by decide +kernel
theorem dX5_bringNews_77 : decode cX5_bringNews 77 = .ok (.aload_n 0, 1) := by decide +kernel
theorem dX5_bringNews_78 : decode cX5_bringNews 78 = .ok (.getfield 12, 3) := by decide +kernel
theorem dX5_bringNews_81 : decode cX5_bringNews 81 = .ok (.getfield 74, 3) := by decide +kernel
theorem dX5_bringNews_84 : decode cX5_bringNews 84 = .ok (.aload_n 1, 1) := by decide +kernel
theorem dX5_bringNews_85 : decode cX5_bringNews 85 = .ok (.getfield 53, 3) := by decide +kernel
theorem dX5_bringNews_88 : decode cX5_bringNews 88 = .ok (.aload_n 1, 1) := by decide +kernel
theorem dX5_bringNews_89 : decode cX5_bringNews 89 = .ok (.getfield 78, 3) := by decide +kernel
theorem dX5_bringNews_92 : decode cX5_bringNews 92 = .ok (.invokevirtual 81, 3) := by decide +kernel
theorem dX5_bringNews_95 : decode cX5_bringNews 95 = .ok (.putfield 78, 3) := by decide +kernel
theorem dX5_bringNews_98 : decode cX5_bringNews 98 = .ok (.aload_n 1, 1) := by decide +kernel
theorem dX5_bringNews_99 : decode cX5_bringNews 99 = .ok (.iconst 1, 1) := by decide +kernel
theorem dX5_bringNews_100 : decode cX5_bringNews 100 = .ok (.putfield 86, 3) := by decide +kernel
theorem dX5_bringNews_103 : decode cX5_bringNews 103 = .ok (.aload_n 1, 1) := by decide +kernel
theorem dX5_bringNews_104 : decode cX5_bringNews 104 = .ok (.aload_n 0, 1) := by decide +kernel
theorem dX5_bringNews_105 : decode cX5_bringNews 105 = .ok (.getfield 12, 3) := by decide +kernel
theorem dX5_bringNews_108 : decode cX5_bringNews 108 = .ok (.getfield 89, 3) := by decide +kernel
theorem dX5_bringNews_111 : decode cX5_bringNews 111 = .ok (.putfield 53, 3) := by decide +kernel
theorem dX5_bringNews_114 : decode cX5_bringNews 114 = .ok (.iload_n 2, 1) := by decide +kernel
theorem dX5_bringNews_115 : decode cX5_bringNews 115 = .ok (.ireturn, 1) := by decide +kernel
theorem dX5_bringNewsToAllWithNotice_0 : decode cX5_bringNewsToAllWithNotice 0 = .ok (.iconst 0, 1) := by decide +kernel
theorem dX5_bringNewsToAllWithNotice_1 : decode cX5_bringNewsToAllWithNotice 1 = .ok (.istore_n 1, 1) := by decide +kernel
theorem dX5_bringNewsToAllWithNotice_2 : decode cX5_bringNewsToAllWithNotice 2 = .ok (.iconst 0, 1) := by decide +kernel
theorem dX5_bringNewsToAllWithNotice_3 : decode cX5_bringNewsToAllWithNotice 3 = .ok (.istore_n 2, 1) := by decide +kernel
theorem dX5_bringNewsToAllWithNotice_4 : decode cX5_bringNewsToAllWithNotice 4 = .ok (.iload_n 2, 1) := by decide +kernel
theorem dX5_bringNewsToAllWithNotice_5 : decode cX5_bringNewsToAllWithNotice 5 = .ok (.iconst 4, 1) := by decide +kernel
theorem dX5_bringNewsToAllWithNotice_6 : decode cX5_bringNewsToAllWithNotice 6 = .ok (.if_icmp .ge 47, 3) := by decide +kernel
theorem dX5_bringNewsToAllWithNotice_9 : decode cX5_bringNewsToAllWithNotice 9 = .ok (.aload_n 0, 1) := by decide +kernel
theorem dX5_bringNewsToAllWithNotice_10 : decode cX5_bringNewsToAllWithNotice 10 = .ok (.getfield 20, 3) := by decide +kernel
theorem dX5_bringNewsToAllWithNotice_13 : decode cX5_bringNewsToAllWithNotice 13 = .ok (.iload_n 2, 1) := by decide +kernel
theorem dX5_bringNewsToAllWithNotice_14 : decode cX5_bringNewsToAllWithNotice 14 = .ok (.aaload, 1) := by decide +kernel
theorem dX5_bringNewsToAllWithNotice_15 : decode cX5_bringNewsToAllWithNotice 15 = .ok (.getfield 42, 3) := by decide +kernel
theorem dX5_bringNewsToAllWithNotice_18 : decode cX5_bringNewsToAllWithNotice 18 = .ok (.ifCond .ne 29, 3) := by decide +kernel
theorem dX5_bringNewsToAllWithNotice_21 : decode cX5_bringNewsToAllWithNotice 21 = .ok (.aload_n 0, 1) := by decide +kernel
theorem dX5_bringNewsToAllWithNotice_22 : decode cX5_bringNewsToAllWithNotice 22 = .ok (.getfield 20, 3) := by decide +kernel
theorem dX5_bringNewsToAllWithNotice_25 : decode cX5_bringNewsToAllWithNotice 25 = .ok (.iload_n 2, 1) := by decide +kernel
theorem dX5_bringNewsToAllWithNotice_26 : decode cX5_bringNewsToAllWithNotice 26 = .ok (.aaload, 1) := by decide +kernel
theorem dX5_bringNewsToAllWithNotice_27 : decode cX5_bringNewsToAllWithNotice 27 = .ok (.getfield 46, 3) := by decide +kernel
theorem dX5_bringNewsToAllWithNotice_30 : decode cX5_bringNewsToAllWithNotice 30 = .ok (.ifCond .eq 17, 3) := by decide +kernel
theorem dX5_bringNewsToAllWithNotice_33 : decode cX5_bringNewsToAllWithNotice 33 = .ok (.aload_n 0, 1) := by decide +kernel
theorem dX5_bringNewsToAllWithNotice_34 : decode cX5_bringNewsToAllWithNotice 34 = .ok (.aload_n 0, 1) := by decide +kernel
theorem dX5_bringNewsToAllWithNotice_35 : decode cX5_bringNewsToAllWithNotice 35 = .ok (.getfield 20, 3) := by decide +kernel
theorem dX5_bringNewsToAllWithNotice_38 : decode cX5_bringNewsToAllWithNotice 38 = .ok (.iload_n 2, 1) := by decide +kernel
theorem dX5_bringNewsToAllWithNotice_39 : decode cX5_bringNewsToAllWithNotice 39 = .ok (.aaload, 1) := by decide +kernel
theorem dX5_bringNewsToAllWithNotice_40 : decode cX5_bringNewsToAllWithNotice 40 = .ok (.invokevirtual 92, 3) := by decide +kernel
theorem dX5_bringNewsToAllWithNotice_43 : decode cX5_bringNewsToAllWithNotice 43 = .ok (.pop, 1) := by decide +kernel
theorem dX5_bringNewsToAllWithNotice_44 : decode cX5_bringNewsToAllWithNotice 44 = .ok (.iinc 1 1, 3) := by decide +kernel
theorem dX5_bringNewsToAllWithNotice_47 : decode cX5_bringNewsToAllWithNotice 47 = .ok (.iinc 2 1, 3) := by decide +kernel
theorem dX5_bringNewsToAllWithNotice_50 : decode cX5_bringNewsToAllWithNotice 50 = .ok (.goto (-46), 3) := by decide +kernel
theorem dX5_bringNewsToAllWithNotice_53 : decode cX5_bringNewsToAllWithNotice 53 = .ok (.iload_n 1, 1) := by decide +kernel
theorem dX5_bringNewsToAllWithNotice_54 : decode cX5_bringNewsToAllWithNotice 54 = .ok (.ireturn, 1) := by decide +kernel
theorem dX5_obey_0 : decode cX5_obey 0 = .ok (.iload_n 1, 1) := by decide +kernel
theorem dX5_obey_1 : decode cX5_obey 1 = .ok (.lookupswitch 88 #[(43, 43), (45, 43), (110, 68), (112, 50)], 43) := by decide +kernel
theorem dX5_obey_44 : decode cX5_obey 44 = .ok (.aload_n 0, 1) := by decide +kernel
theorem dX5_obey_45 : decode cX5_obey 45 = .ok (.iload_n 1, 1) := by decide +kernel
theorem dX5_obey_46 : decode cX5_obey 46 = .ok (.iload_n 2, 1) := by decide +kernel
theorem dX5_obey_47 : decode cX5_obey 47 = .ok (.invokevirtual 95, 3) := by decide +kernel
theorem dX5_obey_50 : decode cX5_obey 50 = .ok (.ireturn, 1) := by decide +kernel
theorem dX5_obey_51 : decode cX5_obey 51 = .ok (.aload_n 0, 1) := by decide +kernel
theorem dX5_obey_52 : decode cX5_obey 52 = .ok (.getfield 12, 3) := by decide +kernel
theorem dX5_obey_55 : decode cX5_obey 55 = .ok (.invokevirtual 99, 3) := by decide +kernel
theorem dX5_obey_58 : decode cX5_obey 58 = .ok (.ifCond .ne 5, 3) := by decide +kernel
theorem dX5_obey_61 : decode cX5_obey 61 = .ok (.iconst 0, 1) := by decide +kernel
theorem dX5_obey_62 : decode cX5_obey 62 = .ok (.ireturn, 1) := by decide +kernel
theorem dX5_obey_63 : decode cX5_obey 63 = .ok (.aload_n 0, 1) := by decide +kernel
theorem dX5_obey_64 : decode cX5_obey 64 = .ok (.invokevirtual 103, 3) := by decide +kernel
theorem dX5_obey_67 : decode cX5_obey 67 = .ok (.iconst 1, 1) := by decide +kernel
theorem dX5_obey_68 : decode cX5_obey 68 = .ok (.ireturn, 1) := by decide +kernel
theorem dX5_obey_69 : decode cX5_obey 69 = .ok (.aload_n 0, 1) := by decide +kernel
theorem dX5_obey_70 : decode cX5_obey 70 = .ok (.getfield 12, 3) := by decide +kernel
theorem dX5_obey_73 : decode cX5_obey 73 = .ok (.iload_n 2, 1) := by decide +kernel
theorem dX5_obey_74 : decode cX5_obey 74 = .ok (.invokevirtual 104, 3) := by decide +kernel
theorem dX5_obey_77 : decode cX5_obey 77 = .ok (.ifCond .ne 5, 3) := by decide +kernel
theorem dX5_obey_80 : decode cX5_obey 80 = .ok (.iconst 0, 1) := by decide +kernel
theorem dX5_obey_81 : decode cX5_obey 81 = .ok (.ireturn, 1) := by decide +kernel
theorem dX5_obey_82 : decode cX5_obey 82 = .ok (.aload_n 0, 1) := by decide +kernel
theorem dX5_obey_83 : decode cX5_obey 83 = .ok (.iload_n 2, 1) := by decide +kernel
theorem dX5_obey_84 : decode cX5_obey 84 = .ok (.invokevirtual 108, 3) := by decide +kernel
theorem dX5_obey_87 : decode cX5_obey 87 = .ok (.iconst 1, 1) := by decide +kernel
theorem dX5_obey_88 : decode cX5_obey 88 = .ok (.ireturn, 1) := by decide +kernel
theorem dX5_obey_89 : decode cX5_obey 89 = .ok (.iload_n 2, 1) := by decide +kernel
theorem dX5_obey_90 : decode cX5_obey 90 = .ok (.invokestatic 109, 3) := by decide +kernel
theorem dX5_obey_93 : decode cX5_obey 93 = .ok (.ifCond .eq 21, 3) := by decide +kernel
theorem dX5_obey_96 : decode cX5_obey 96 = .ok (.aload_n 0, 1) := by decide +kernel
theorem dX5_obey_97 : decode cX5_obey 97 = .ok (.iload_n 1, 1) := by decide +kernel
theorem dX5_obey_98 : decode cX5_obey 98 = .ok (.aload_n 0, 1) := by decide +kernel
theorem dX5_obey_99 : decode cX5_obey 99 = .ok (.getfield 20, 3) := by decide +kernel
theorem dX5_obey_102 : decode cX5_obey 102 = .ok (.iload_n 2, 1) := by decide +kernel
theorem dX5_obey_103 : decode cX5_obey 103 = .ok (.aaload, 1) := by decide +kernel
theorem dX5_obey_104 : decode cX5_obey 104 = .ok (.invokevirtual 112, 3) := by decide +kernel
theorem dX5_obey_107 : decode cX5_obey 107 = .ok (.ifCond .eq 7, 3) := by decide +kernel
theorem dX5_obey_110 : decode cX5_obey 110 = .ok (.iconst 1, 1) := by decide +kernel
theorem dX5_obey_111 : decode cX5_obey 111 = .ok (.goto 4, 3) := by decide +kernel
theorem dX5_obey_114 : decode cX5_obey 114 = .ok (.iconst 0, 1) := by decide +kernel
theorem dX5_obey_115 : decode cX5_obey 115 = .ok (.ireturn, 1) := by decide +kernel
theorem dX5_obeyOnStreet_0 : decode cX5_obeyOnStreet 0 = .ok (.iload_n 1, 1) := by decide +kernel
theorem dX5_obeyOnStreet_1 : decode cX5_obeyOnStreet 1 = .ok (.bipush 43, 2) := by decide +kernel
theorem dX5_obeyOnStreet_3 : decode cX5_obeyOnStreet 3 = .ok (.if_icmp .ne 24, 3) := by decide +kernel
theorem dX5_obeyOnStreet_6 : decode cX5_obeyOnStreet 6 = .ok (.aload_n 0, 1) := by decide +kernel
theorem dX5_obeyOnStreet_7 : decode cX5_obeyOnStreet 7 = .ok (.getfield 12, 3) := by decide +kernel
theorem dX5_obeyOnStreet_10 : decode cX5_obeyOnStreet 10 = .ok (.iload_n 2, 1) := by decide +kernel
theorem dX5_obeyOnStreet_11 : decode cX5_obeyOnStreet 11 = .ok (.invokevirtual 116, 3) := by decide +kernel
theorem dX5_obeyOnStreet_14 : decode cX5_obeyOnStreet 14 = .ok (.ifCond .eq 13, 3) := by decide +kernel
theorem dX5_obeyOnStreet_17 : decode cX5_obeyOnStreet 17 = .ok (.aload_n 0, 1) := by decide +kernel
theorem dX5_obeyOnStreet_18 : decode cX5_obeyOnStreet 18 = .ok (.getfield 12, 3) := by decide +kernel
theorem dX5_obeyOnStreet_21 : decode cX5_obeyOnStreet 21 = .ok (.iload_n 2, 1) := by decide +kernel
theorem dX5_obeyOnStreet_22 : decode cX5_obeyOnStreet 22 = .ok (.invokevirtual 119, 3) := by decide +kernel
theorem dX5_obeyOnStreet_25 : decode cX5_obeyOnStreet 25 = .ok (.iconst 1, 1) := by decide +kernel
theorem dX5_obeyOnStreet_26 : decode cX5_obeyOnStreet 26 = .ok (.ireturn, 1) := by decide +kernel
theorem dX5_obeyOnStreet_27 : decode cX5_obeyOnStreet 27 = .ok (.iload_n 1, 1) := by decide +kernel
theorem dX5_obeyOnStreet_28 : decode cX5_obeyOnStreet 28 = .ok (.bipush 45, 2) := by decide +kernel
theorem dX5_obeyOnStreet_30 : decode cX5_obeyOnStreet 30 = .ok (.if_icmp .ne 24, 3) := by decide +kernel
theorem dX5_obeyOnStreet_33 : decode cX5_obeyOnStreet 33 = .ok (.aload_n 0, 1) := by decide +kernel
theorem dX5_obeyOnStreet_34 : decode cX5_obeyOnStreet 34 = .ok (.getfield 12, 3) := by decide +kernel
theorem dX5_obeyOnStreet_37 : decode cX5_obeyOnStreet 37 = .ok (.iload_n 2, 1) := by decide +kernel
theorem dX5_obeyOnStreet_38 : decode cX5_obeyOnStreet 38 = .ok (.invokevirtual 122, 3) := by decide +kernel
theorem dX5_obeyOnStreet_41 : decode cX5_obeyOnStreet 41 = .ok (.ifCond .eq 13, 3) := by decide +kernel
theorem dX5_obeyOnStreet_44 : decode cX5_obeyOnStreet 44 = .ok (.aload_n 0, 1) := by decide +kernel
theorem dX5_obeyOnStreet_45 : decode cX5_obeyOnStreet 45 = .ok (.getfield 12, 3) := by decide +kernel
theorem dX5_obeyOnStreet_48 : decode cX5_obeyOnStreet 48 = .ok (.iload_n 2, 1) := by decide +kernel
theorem dX5_obeyOnStreet_49 : decode cX5_obeyOnStreet 49 = .ok (.invokevirtual 125, 3) := by decide +kernel
theorem dX5_obeyOnStreet_52 : decode cX5_obeyOnStreet 52 = .ok (.iconst 1, 1) := by decide +kernel
theorem dX5_obeyOnStreet_53 : decode cX5_obeyOnStreet 53 = .ok (.ireturn, 1) := by decide +kernel
theorem dX5_obeyOnStreet_54 : decode cX5_obeyOnStreet 54 = .ok (.iconst 0, 1) := by decide +kernel
theorem dX5_obeyOnStreet_55 : decode cX5_obeyOnStreet 55 = .ok (.ireturn, 1) := by decide +kernel
theorem dX5_obeyOnFollower_0 : decode cX5_obeyOnFollower 0 = .ok (.iload_n 1, 1) := by decide +kernel
theorem dX5_obeyOnFollower_1 : decode cX5_obeyOnFollower 1 = .ok (.bipush 119, 2) := by decide +kernel
theorem dX5_obeyOnFollower_3 : decode cX5_obeyOnFollower 3 = .ok (.if_icmp .ne 7, 3) := by decide +kernel
theorem dX5_obeyOnFollower_6 : decode cX5_obeyOnFollower 6 = .ok (.iconst 1, 1) := by decide +kernel
theorem dX5_obeyOnFollower_7 : decode cX5_obeyOnFollower 7 = .ok (.goto 4, 3) := by decide +kernel
theorem dX5_obeyOnFollower_10 : decode cX5_obeyOnFollower 10 = .ok (.iconst 0, 1) := by decide +kernel
theorem dX5_obeyOnFollower_11 : decode cX5_obeyOnFollower 11 = .ok (.istore_n 3, 1) := by decide +kernel
theorem dX5_obeyOnFollower_12 : decode cX5_obeyOnFollower 12 = .ok (.aload_n 2, 1) := by decide +kernel
theorem dX5_obeyOnFollower_13 : decode cX5_obeyOnFollower 13 = .ok (.getfield 42, 3) := by decide +kernel
theorem dX5_obeyOnFollower_16 : decode cX5_obeyOnFollower 16 = .ok (.iload_n 3, 1) := by decide +kernel
theorem dX5_obeyOnFollower_17 : decode cX5_obeyOnFollower 17 = .ok (.if_icmp .eq 5, 3) := by decide +kernel
theorem dX5_obeyOnFollower_20 : decode cX5_obeyOnFollower 20 = .ok (.iconst 0, 1) := by decide +kernel
theorem dX5_obeyOnFollower_21 : decode cX5_obeyOnFollower 21 = .ok (.ireturn, 1) := by decide +kernel
theorem dX5_obeyOnFollower_22 : decode cX5_obeyOnFollower 22 = .ok (.iload_n 1, 1) := by decide +kernel
theorem dX5_obeyOnFollower_23 : decode cX5_obeyOnFollower 23 = .ok (.bipush 114, 2) := by decide +kernel
theorem dX5_obeyOnFollower_25 : decode cX5_obeyOnFollower 25 = .ok (.if_icmp .ne 12, 3) := by decide +kernel
theorem dX5_obeyOnFollower_28 : decode cX5_obeyOnFollower 28 = .ok (.aload_n 0, 1) := by decide +kernel
theorem dX5_obeyOnFollower_29 : decode cX5_obeyOnFollower 29 = .ok (.aload_n 2, 1) := by decide +kernel
theorem dX5_obeyOnFollower_30 : decode cX5_obeyOnFollower 30 = .ok (.invokevirtual 92, 3) := by decide +kernel
theorem dX5_obeyOnFollower_33 : decode cX5_obeyOnFollower 33 = .ok (.pop, 1) := by decide +kernel
theorem dX5_obeyOnFollower_34 : decode cX5_obeyOnFollower 34 = .ok (.goto 16, 3) := by decide +kernel
theorem dX5_obeyOnFollower_37 : decode cX5_obeyOnFollower 37 = .ok (.aload_n 2, 1) := by decide +kernel
theorem dX5_obeyOnFollower_38 : decode cX5_obeyOnFollower 38 = .ok (.iload_n 3, 1) := by decide +kernel
theorem dX5_obeyOnFollower_39 : decode cX5_obeyOnFollower 39 = .ok (.ifCond .ne 7, 3) := by decide +kernel
theorem dX5_obeyOnFollower_42 : decode cX5_obeyOnFollower 42 = .ok (.iconst 1, 1) := by decide +kernel
theorem dX5_obeyOnFollower_43 : decode cX5_obeyOnFollower 43 = .ok (.goto 4, 3) := by decide +kernel
theorem dX5_obeyOnFollower_46 : decode cX5_obeyOnFollower 46 = .ok (.iconst 0, 1) := by decide +kernel
theorem dX5_obeyOnFollower_47 : decode cX5_obeyOnFollower 47 = .ok (.putfield 42, 3) := by decide +kernel
theorem dX5_obeyOnFollower_50 : decode cX5_obeyOnFollower 50 = .ok (.iconst 1, 1) := by decide +kernel
theorem dX5_obeyOnFollower_51 : decode cX5_obeyOnFollower 51 = .ok (.ireturn, 1) := by decide +kernel
theorem dX6_init_0 : decode cX6_init 0 = .ok (.aload_n 0, 1) := by decide +kernel
theorem dX6_init_1 : decode cX6_init 1 = .ok (.invokespecial 1, 3) := by decide +kernel
theorem dX6_init_4 : decode cX6_init 4 = .ok (.aload_n 0, 1) := by decide +kernel
theorem dX6_init_5 : decode cX6_init 5 = .ok (.new 7, 3) := by decide +kernel
theorem dX6_init_8 : decode cX6_init 8 = .ok (.dup, 1) := by decide +kernel
theorem dX6_init_9 : decode cX6_init 9 = .ok (.invokespecial 9, 3) := by decide +kernel
theorem dX6_init_12 : decode cX6_init 12 = .ok (.putfield 10, 3) := by decide +kernel
theorem dX6_init_15 : decode cX6_init 15 = .ok (.aload_n 0, 1) := by decide +kernel
theorem dX6_init_16 : decode cX6_init 16 = .ok (.new 16, 3) := by decide +kernel
theorem dX6_init_19 : decode cX6_init 19 = .ok (.dup, 1) := by decide +kernel
theorem dX6_init_20 : decode cX6_init 20 = .ok (.invokespecial 18, 3) := by decide +kernel
theorem dX6_init_23 : decode cX6_init 23 = .ok (.putfield 19, 3) := by decide +kernel
theorem dX6_init_26 : decode cX6_init 26 = .ok (.aload_n 0, 1) := by decide +kernel
theorem dX6_init_27 : decode cX6_init 27 = .ok (.new 23, 3) := by decide +kernel
theorem dX6_init_30 : decode cX6_init 30 = .ok (.dup, 1) := by decide +kernel
theorem dX6_init_31 : decode cX6_init 31 = .ok (.invokespecial 25, 3) := by decide +kernel
theorem dX6_init_34 : decode cX6_init 34 = .ok (.putfield 26, 3) := by decide +kernel
theorem dX6_init_37 : decode cX6_init 37 = .ok (.return_, 1) := by decide +kernel
theorem dX6_add_0 : decode cX6_add 0 = .ok (.iload_n 1, 1) := by decide +kernel
theorem dX6_add_1 : decode cX6_add 1 = .ok (.invokestatic 30, 3) := by decide +kernel
theorem dX6_add_4 : decode cX6_add 4 = .ok (.aload_n 0, 1) := by decide +kernel
theorem dX6_add_5 : decode cX6_add 5 = .ok (.getfield 10, 3) := by decide +kernel
theorem dX6_add_8 : decode cX6_add 8 = .ok (.getfield 34, 3) := by decide +kernel
theorem dX6_add_11 : decode cX6_add 11 = .ok (.iload_n 1, 1) := by decide +kernel
theorem dX6_add_12 : decode cX6_add 12 = .ok (.invokevirtual 38, 3) := by decide +kernel
theorem dX6_add_15 : decode cX6_add 15 = .ok (.ifCond .ne 13, 3) := by decide +kernel
theorem dX6_add_18 : decode cX6_add 18 = .ok (.new 44, 3) := by decide +kernel
theorem dX6_add_21 : decode cX6_add 21 = .ok (.dup, 1) := by decide +kernel
theorem dX6_add_22 : decode cX6_add 22 = .ok (.ldc 46, 2) := by decide +kernel
theorem dX6_add_24 : decode cX6_add 24 = .ok (.invokespecial 48, 3) := by decide +kernel
theorem dX6_add_27 : decode cX6_add 27 = .ok (.athrow, 1) := by decide +kernel
theorem dX6_add_28 : decode cX6_add 28 = .ok (.aload_n 0, 1) := by decide +kernel
theorem dX6_add_29 : decode cX6_add 29 = .ok (.getfield 19, 3) := by decide +kernel
theorem dX6_add_32 : decode cX6_add 32 = .ok (.aload_n 0, 1) := by decide +kernel
theorem dX6_add_33 : decode cX6_add 33 = .ok (.getfield 10, 3) := by decide +kernel
theorem dX6_add_36 : decode cX6_add 36 = .ok (.invokevirtual 51, 3) := by decide +kernel
theorem dX6_add_39 : decode cX6_add 39 = .ok (.aload_n 0, 1) := by decide +kernel
theorem dX6_add_40 : decode cX6_add 40 = .ok (.getfield 10, 3) := by decide +kernel
theorem dX6_add_43 : decode cX6_add 43 = .ok (.getfield 34, 3) := by decide +kernel
theorem dX6_add_46 : decode cX6_add 46 = .ok (.iload_n 1, 1) := by decide +kernel
theorem dX6_add_47 : decode cX6_add 47 = .ok (.invokevirtual 55, 3) := by decide +kernel
theorem dX6_add_50 : decode cX6_add 50 = .ok (.aload_n 0, 1) := by decide +kernel
theorem dX6_add_51 : decode cX6_add 51 = .ok (.invokevirtual 58, 3) := by decide +kernel
theorem dX6_add_54 : decode cX6_add 54 = .ok (.ireturn, 1) := by decide +kernel
theorem dX6_crossOut_0 : decode cX6_crossOut 0 = .ok (.iload_n 1, 1) := by decide +kernel
theorem dX6_crossOut_1 : decode cX6_crossOut 1 = .ok (.invokestatic 30, 3) := by decide +kernel
theorem dX6_crossOut_4 : decode cX6_crossOut 4 = .ok (.aload_n 0, 1) := by decide +kernel
theorem dX6_crossOut_5 : decode cX6_crossOut 5 = .ok (.getfield 10, 3) := by decide +kernel
theorem dX6_crossOut_8 : decode cX6_crossOut 8 = .ok (.getfield 34, 3) := by decide +kernel
theorem dX6_crossOut_11 : decode cX6_crossOut 11 = .ok (.iload_n 1, 1) := by decide +kernel
theorem dX6_crossOut_12 : decode cX6_crossOut 12 = .ok (.invokevirtual 62, 3) := by decide +kernel
theorem dX6_crossOut_15 : decode cX6_crossOut 15 = .ok (.ifCond .ne 13, 3) := by decide +kernel
theorem dX6_crossOut_18 : decode cX6_crossOut 18 = .ok (.new 44, 3) := by decide +kernel
theorem dX6_crossOut_21 : decode cX6_crossOut 21 = .ok (.dup, 1) := by decide +kernel
theorem dX6_crossOut_22 : decode cX6_crossOut 22 = .ok (.ldc 65, 2) := by decide +kernel
theorem dX6_crossOut_24 : decode cX6_crossOut 24 = .ok (.invokespecial 48, 3) := by decide +kernel
theorem dX6_crossOut_27 : decode cX6_crossOut 27 = .ok (.athrow, 1) := by decide +kernel
theorem dX6_crossOut_28 : decode cX6_crossOut 28 = .ok (.aload_n 0, 1) := by decide +kernel
theorem dX6_crossOut_29 : decode cX6_crossOut 29 = .ok (.getfield 19, 3) := by decide +kernel
theorem dX6_crossOut_32 : decode cX6_crossOut 32 = .ok (.aload_n 0, 1) := by decide +kernel
theorem dX6_crossOut_33 : decode cX6_crossOut 33 = .ok (.getfield 10, 3) := by decide +kernel
theorem dX6_crossOut_36 : decode cX6_crossOut 36 = .ok (.invokevirtual 51, 3) := by decide +kernel
theorem dX6_crossOut_39 : decode cX6_crossOut 39 = .ok (.aload_n 0, 1) := by decide +kernel
theorem dX6_crossOut_40 : decode cX6_crossOut 40 = .ok (.getfield 10, 3) := by decide +kernel
theorem dX6_crossOut_43 : decode cX6_crossOut 43 = .ok (.getfield 34, 3) := by decide +kernel
theorem dX6_crossOut_46 : decode cX6_crossOut 46 = .ok (.iload_n 1, 1) := by decide +kernel
theorem dX6_crossOut_47 : decode cX6_crossOut 47 = .ok (.invokevirtual 67, 3) := by decide +kernel
theorem dX6_crossOut_50 : decode cX6_crossOut 50 = .ok (.aload_n 0, 1) := by decide +kernel
theorem dX6_crossOut_51 : decode cX6_crossOut 51 = .ok (.invokevirtual 58, 3) := by decide +kernel
theorem dX6_crossOut_54 : decode cX6_crossOut 54 = .ok (.ireturn, 1) := by decide +kernel
theorem dX6_publish_0 : decode cX6_publish 0 = .ok (.aload_n 0, 1) := by decide +kernel
theorem dX6_publish_1 : decode cX6_publish 1 = .ok (.getfield 10, 3) := by decide +kernel
theorem dX6_publish_4 : decode cX6_publish 4 = .ok (.getfield 34, 3) := by decide +kernel
theorem dX6_publish_7 : decode cX6_publish 7 = .ok (.invokevirtual 70, 3) := by decide +kernel
theorem dX6_publish_10 : decode cX6_publish 10 = .ok (.ifCond .ne 13, 3) := by decide +kernel
theorem dX6_publish_13 : decode cX6_publish 13 = .ok (.new 44, 3) := by decide +kernel
theorem dX6_publish_16 : decode cX6_publish 16 = .ok (.dup, 1) := by decide +kernel
theorem dX6_publish_17 : decode cX6_publish 17 = .ok (.ldc 74, 2) := by decide +kernel
theorem dX6_publish_19 : decode cX6_publish 19 = .ok (.invokespecial 48, 3) := by decide +kernel
theorem dX6_publish_22 : decode cX6_publish 22 = .ok (.athrow, 1) := by decide +kernel
theorem dX6_publish_23 : decode cX6_publish 23 = .ok (.aload_n 0, 1) := by decide +kernel
theorem dX6_publish_24 : decode cX6_publish 24 = .ok (.getfield 19, 3) := by decide +kernel
theorem dX6_publish_27 : decode cX6_publish 27 = .ok (.aload_n 0, 1) := by decide +kernel
theorem dX6_publish_28 : decode cX6_publish 28 = .ok (.getfield 10, 3) := by decide +kernel
theorem dX6_publish_31 : decode cX6_publish 31 = .ok (.invokevirtual 51, 3) := by decide +kernel
theorem dX6_publish_34 : decode cX6_publish 34 = .ok (.aload_n 0, 1) := by decide +kernel
theorem dX6_publish_35 : decode cX6_publish 35 = .ok (.getfield 10, 3) := by decide +kernel
theorem dX6_publish_38 : decode cX6_publish 38 = .ok (.invokevirtual 76, 3) := by decide +kernel
theorem dX6_publish_41 : decode cX6_publish 41 = .ok (.aload_n 0, 1) := by decide +kernel
theorem dX6_publish_42 : decode cX6_publish 42 = .ok (.invokevirtual 79, 3) := by decide +kernel
theorem dX6_publish_45 : decode cX6_publish 45 = .ok (.ireturn, 1) := by decide +kernel
theorem dX6_renumber_0 : decode cX6_renumber 0 = .ok (.aload_n 0, 1) := by decide +kernel
theorem dX6_renumber_1 : decode cX6_renumber 1 = .ok (.getfield 10, 3) := by decide +kernel
theorem dX6_renumber_4 : decode cX6_renumber 4 = .ok (.getfield 34, 3) := by decide +kernel
theorem dX6_renumber_7 : decode cX6_renumber 7 = .ok (.iload_n 1, 1) := by decide +kernel
theorem dX6_renumber_8 : decode cX6_renumber 8 = .ok (.invokevirtual 82, 3) := by decide +kernel
theorem dX6_renumber_11 : decode cX6_renumber 11 = .ok (.ifCond .ne 13, 3) := by decide +kernel
theorem dX6_renumber_14 : decode cX6_renumber 14 = .ok (.new 85, 3) := by decide +kernel
theorem dX6_renumber_17 : decode cX6_renumber 17 = .ok (.dup, 1) := by decide +kernel
theorem dX6_renumber_18 : decode cX6_renumber 18 = .ok (.ldc 87, 2) := by decide +kernel
theorem dX6_renumber_20 : decode cX6_renumber 20 = .ok (.invokespecial 89, 3) := by decide +kernel
theorem dX6_renumber_23 : decode cX6_renumber 23 = .ok (.athrow, 1) := by decide +kernel
theorem dX6_renumber_24 : decode cX6_renumber 24 = .ok (.aload_n 0, 1) := by decide +kernel
theorem dX6_renumber_25 : decode cX6_renumber 25 = .ok (.getfield 19, 3) := by decide +kernel
theorem dX6_renumber_28 : decode cX6_renumber 28 = .ok (.aload_n 0, 1) := by decide +kernel
theorem dX6_renumber_29 : decode cX6_renumber 29 = .ok (.getfield 10, 3) := by decide +kernel
theorem dX6_renumber_32 : decode cX6_renumber 32 = .ok (.invokevirtual 51, 3) := by decide +kernel
theorem dX6_renumber_35 : decode cX6_renumber 35 = .ok (.aload_n 0, 1) := by decide +kernel
theorem dX6_renumber_36 : decode cX6_renumber 36 = .ok (.invokevirtual 79, 3) := by decide +kernel
theorem dX6_renumber_39 : decode cX6_renumber 39 = .ok (.istore_n 2, 1) := by decide +kernel
theorem dX6_renumber_40 : decode cX6_renumber 40 = .ok (.aload_n 0, 1) := by decide +kernel
theorem dX6_renumber_41 : decode cX6_renumber 41 = .ok (.getfield 10, 3) := by decide +kernel
theorem dX6_renumber_44 : decode cX6_renumber 44 = .ok (.iload_n 1, 1) := by decide +kernel
theorem dX6_renumber_45 : decode cX6_renumber 45 = .ok (.invokevirtual 90, 3) := by decide +kernel
theorem dX6_renumber_48 : decode cX6_renumber 48 = .ok (.iload_n 2, 1) := by decide +kernel
theorem dX6_renumber_49 : decode cX6_renumber 49 = .ok (.ireturn, 1) := by decide +kernel
theorem dX6_setKeep_0 : decode cX6_setKeep 0 = .ok (.iload_n 1, 1) := by decide +kernel
theorem dX6_setKeep_1 : decode cX6_setKeep 1 = .ok (.iconst 1, 1) := by decide +kernel
theorem dX6_setKeep_2 : decode cX6_setKeep 2 = .ok (.if_icmp .lt 9, 3) := by decide +kernel
theorem dX6_setKeep_5 : decode cX6_setKeep 5 = .ok (.iload_n 1, 1) := by decide +kernel
theorem dX6_setKeep_6 : decode cX6_setKeep 6 = .ok (.bipush 6, 2) := by decide +kernel
theorem dX6_setKeep_8 : decode cX6_setKeep 8 = .ok (.if_icmp .le 13, 3) := by decide +kernel
theorem dX6_setKeep_11 : decode cX6_setKeep 11 = .ok (.new 85, 3) := by decide +kernel
theorem dX6_setKeep_14 : decode cX6_setKeep 14 = .ok (.dup, 1) := by decide +kernel
theorem dX6_setKeep_15 : decode cX6_setKeep 15 = .ok (.ldc 93, 2) := by decide +kernel
theorem dX6_setKeep_17 : decode cX6_setKeep 17 = .ok (.invokespecial 89, 3) := by decide +kernel
theorem dX6_setKeep_20 : decode cX6_setKeep 20 = .ok (.athrow, 1) := by decide +kernel
theorem dX6_setKeep_21 : decode cX6_setKeep 21 = .ok (.aload_n 0, 1) := by decide +kernel
theorem dX6_setKeep_22 : decode cX6_setKeep 22 = .ok (.getfield 19, 3) := by decide +kernel
theorem dX6_setKeep_25 : decode cX6_setKeep 25 = .ok (.aload_n 0, 1) := by decide +kernel
theorem dX6_setKeep_26 : decode cX6_setKeep 26 = .ok (.getfield 10, 3) := by decide +kernel
theorem dX6_setKeep_29 : decode cX6_setKeep 29 = .ok (.invokevirtual 51, 3) := by decide +kernel
theorem dX6_setKeep_32 : decode cX6_setKeep 32 = .ok (.aload_n 0, 1) := by decide +kernel
theorem dX6_setKeep_33 : decode cX6_setKeep 33 = .ok (.getfield 10, 3) := by decide +kernel
theorem dX6_setKeep_36 : decode cX6_setKeep 36 = .ok (.getfield 34, 3) := by decide +kernel
theorem dX6_setKeep_39 : decode cX6_setKeep 39 = .ok (.getfield 95, 3) := by decide +kernel
theorem dX6_setKeep_42 : decode cX6_setKeep 42 = .ok (.iload_n 1, 1) := by decide +kernel
theorem dX6_setKeep_43 : decode cX6_setKeep 43 = .ok (.invokevirtual 99, 3) := by decide +kernel
theorem dX6_setKeep_46 : decode cX6_setKeep 46 = .ok (.aload_n 0, 1) := by decide +kernel
theorem dX6_setKeep_47 : decode cX6_setKeep 47 = .ok (.invokevirtual 104, 3) := by decide +kernel
theorem dX6_setKeep_50 : decode cX6_setKeep 50 = .ok (.ireturn, 1) := by decide +kernel
theorem dX6_edition_0 : decode cX6_edition 0 = .ok (.aload_n 0, 1) := by decide +kernel
theorem dX6_edition_1 : decode cX6_edition 1 = .ok (.getfield 10, 3) := by decide +kernel
theorem dX6_edition_4 : decode cX6_edition 4 = .ok (.getfield 34, 3) := by decide +kernel
theorem dX6_edition_7 : decode cX6_edition 7 = .ok (.getfield 107, 3) := by decide +kernel
theorem dX6_edition_10 : decode cX6_edition 10 = .ok (.ireturn, 1) := by decide +kernel
theorem dX6_draft_0 : decode cX6_draft 0 = .ok (.aload_n 0, 1) := by decide +kernel
theorem dX6_draft_1 : decode cX6_draft 1 = .ok (.getfield 10, 3) := by decide +kernel
theorem dX6_draft_4 : decode cX6_draft 4 = .ok (.getfield 34, 3) := by decide +kernel
theorem dX6_draft_7 : decode cX6_draft 7 = .ok (.getfield 111, 3) := by decide +kernel
theorem dX6_draft_10 : decode cX6_draft 10 = .ok (.invokestatic 114, 3) := by decide +kernel
theorem dX6_draft_13 : decode cX6_draft 13 = .ok (.ireturn, 1) := by decide +kernel
theorem dX6_published_0 : decode cX6_published 0 = .ok (.aload_n 0, 1) := by decide +kernel
theorem dX6_published_1 : decode cX6_published 1 = .ok (.getfield 10, 3) := by decide +kernel
theorem dX6_published_4 : decode cX6_published 4 = .ok (.getfield 34, 3) := by decide +kernel
theorem dX6_published_7 : decode cX6_published 7 = .ok (.getfield 120, 3) := by decide +kernel
theorem dX6_published_10 : decode cX6_published 10 = .ok (.invokestatic 114, 3) := by decide +kernel
theorem dX6_published_13 : decode cX6_published 13 = .ok (.ireturn, 1) := by decide +kernel
theorem dX6_where_0 : decode cX6_where 0 = .ok (.iload_n 1, 1) := by decide +kernel
theorem dX6_where_1 : decode cX6_where 1 = .ok (.invokestatic 30, 3) := by decide +kernel
theorem dX6_where_4 : decode cX6_where 4 = .ok (.aload_n 0, 1) := by decide +kernel
theorem dX6_where_5 : decode cX6_where 5 = .ok (.getfield 10, 3) := by decide +kernel
theorem dX6_where_8 : decode cX6_where 8 = .ok (.getfield 34, 3) := by decide +kernel
theorem dX6_where_11 : decode cX6_where 11 = .ok (.iload_n 1, 1) := by decide +kernel
theorem dX6_where_12 : decode cX6_where 12 = .ok (.invokevirtual 123, 3) := by decide +kernel
theorem dX6_where_15 : decode cX6_where 15 = .ok (.ireturn, 1) := by decide +kernel
theorem dX6_pending_0 : decode cX6_pending 0 = .ok (.aload_n 0, 1) := by decide +kernel
theorem dX6_pending_1 : decode cX6_pending 1 = .ok (.getfield 10, 3) := by decide +kernel
theorem dX6_pending_4 : decode cX6_pending 4 = .ok (.getfield 34, 3) := by decide +kernel
theorem dX6_pending_7 : decode cX6_pending 7 = .ok (.getfield 111, 3) := by decide +kernel
theorem dX6_pending_10 : decode cX6_pending 10 = .ok (.aload_n 0, 1) := by decide +kernel
theorem dX6_pending_11 : decode cX6_pending 11 = .ok (.getfield 10, 3) := by decide +kernel
theorem dX6_pending_14 : decode cX6_pending 14 = .ok (.getfield 34, 3) := by decide +kernel
theorem dX6_pending_17 : decode cX6_pending 17 = .ok (.getfield 120, 3) := by decide +kernel
theorem dX6_pending_20 : decode cX6_pending 20 = .ok (.ixor, 1) := by decide +kernel
theorem dX6_pending_21 : decode cX6_pending 21 = .ok (.invokestatic 114, 3) := by decide +kernel
theorem dX6_pending_24 : decode cX6_pending 24 = .ok (.ireturn, 1) := by decide +kernel
theorem dX6_kept_0 : decode cX6_kept 0 = .ok (.aload_n 0, 1) := by decide +kernel
theorem dX6_kept_1 : decode cX6_kept 1 = .ok (.getfield 10, 3) := by decide +kernel
theorem dX6_kept_4 : decode cX6_kept 4 = .ok (.getfield 34, 3) := by decide +kernel
theorem dX6_kept_7 : decode cX6_kept 7 = .ok (.getfield 95, 3) := by decide +kernel
theorem dX6_kept_10 : decode cX6_kept 10 = .ok (.getfield 126, 3) := by decide +kernel
theorem dX6_kept_13 : decode cX6_kept 13 = .ok (.ireturn, 1) := by decide +kernel
theorem dX6_from_0 : decode cX6_from 0 = .ok (.aload_n 0, 1) := by decide +kernel
theorem dX6_from_1 : decode cX6_from 1 = .ok (.iload_n 1, 1) := by decide +kernel
theorem dX6_from_2 : decode cX6_from 2 = .ok (.invokevirtual 129, 3) := by decide +kernel
theorem dX6_from_5 : decode cX6_from 5 = .ok (.aload_n 0, 1) := by decide +kernel
theorem dX6_from_6 : decode cX6_from 6 = .ok (.getfield 10, 3) := by decide +kernel
theorem dX6_from_9 : decode cX6_from 9 = .ok (.getfield 34, 3) := by decide +kernel
theorem dX6_from_12 : decode cX6_from 12 = .ok (.getfield 95, 3) := by decide +kernel
theorem dX6_from_15 : decode cX6_from 15 = .ok (.getfield 132, 3) := by decide +kernel
theorem dX6_from_18 : decode cX6_from 18 = .ok (.iload_n 1, 1) := by decide +kernel
theorem dX6_from_19 : decode cX6_from 19 = .ok (.iaload, 1) := by decide +kernel
theorem dX6_from_20 : decode cX6_from 20 = .ok (.ireturn, 1) := by decide +kernel
theorem dX6_cost_0 : decode cX6_cost 0 = .ok (.aload_n 0, 1) := by decide +kernel
theorem dX6_cost_1 : decode cX6_cost 1 = .ok (.iload_n 1, 1) := by decide +kernel
theorem dX6_cost_2 : decode cX6_cost 2 = .ok (.invokevirtual 129, 3) := by decide +kernel
theorem dX6_cost_5 : decode cX6_cost 5 = .ok (.aload_n 0, 1) := by decide +kernel
theorem dX6_cost_6 : decode cX6_cost 6 = .ok (.getfield 10, 3) := by decide +kernel
theorem dX6_cost_9 : decode cX6_cost 9 = .ok (.getfield 34, 3) := by decide +kernel
theorem dX6_cost_12 : decode cX6_cost 12 = .ok (.getfield 95, 3) := by decide +kernel
theorem dX6_cost_15 : decode cX6_cost 15 = .ok (.getfield 136, 3) := by decide +kernel
theorem dX6_cost_18 : decode cX6_cost 18 = .ok (.iload_n 1, 1) := by decide +kernel
theorem dX6_cost_19 : decode cX6_cost 19 = .ok (.iaload, 1) := by decide +kernel
theorem dX6_cost_20 : decode cX6_cost 20 = .ok (.ireturn, 1) := by decide +kernel
theorem dX6_compare_0 : decode cX6_compare 0 = .ok (.iload_n 1, 1) := by decide +kernel
theorem dX6_compare_1 : decode cX6_compare 1 = .ok (.invokestatic 139, 3) := by decide +kernel
theorem dX6_compare_4 : decode cX6_compare 4 = .ok (.ifCond .eq 10, 3) := by decide +kernel
theorem dX6_compare_7 : decode cX6_compare 7 = .ok (.iload_n 2, 1) := by decide +kernel
theorem dX6_compare_8 : decode cX6_compare 8 = .ok (.invokestatic 139, 3) := by decide +kernel
theorem dX6_compare_11 : decode cX6_compare 11 = .ok (.ifCond .ne 13, 3) := by decide +kernel
theorem dX6_compare_14 : decode cX6_compare 14 = .ok (.new 85, 3) := by decide +kernel
theorem dX6_compare_17 : decode cX6_compare 17 = .ok (.dup, 1) := by decide +kernel
theorem dX6_compare_18 : decode cX6_compare 18 = .ok (.ldc 142, 2) := by decide +kernel
theorem dX6_compare_20 : decode cX6_compare 20 = .ok (.invokespecial 89, 3) := by decide +kernel
theorem dX6_compare_23 : decode cX6_compare 23 = .ok (.athrow, 1) := by decide +kernel
theorem dX6_compare_24 : decode cX6_compare 24 = .ok (.iload_n 1, 1) := by decide +kernel
theorem dX6_compare_25 : decode cX6_compare 25 = .ok (.iload_n 2, 1) := by decide +kernel
theorem dX6_compare_26 : decode cX6_compare 26 = .ok (.if_icmp .ne 5, 3) := by decide +kernel
theorem dX6_compare_29 : decode cX6_compare 29 = .ok (.iconst 0, 1) := by decide +kernel
theorem dX6_compare_30 : decode cX6_compare 30 = .ok (.ireturn, 1) := by decide +kernel
theorem dX6_compare_31 : decode cX6_compare 31 = .ok (.iload_n 1, 1) := by decide +kernel
theorem dX6_compare_32 : decode cX6_compare 32 = .ok (.iload_n 2, 1) := by decide +kernel
theorem dX6_compare_33 : decode cX6_compare 33 = .ok (.invokestatic 144, 3) := by decide +kernel
theorem dX6_compare_36 : decode cX6_compare 36 = .ok (.ifCond .eq 7, 3) := by decide +kernel
theorem dX6_compare_39 : decode cX6_compare 39 = .ok (.iconst 1, 1) := by decide +kernel
theorem dX6_compare_40 : decode cX6_compare 40 = .ok (.goto 4, 3) := by decide +kernel
theorem dX6_compare_43 : decode cX6_compare 43 = .ok (.iconst (-1), 1) := by decide +kernel
theorem dX6_compare_44 : decode cX6_compare 44 = .ok (.ireturn, 1) := by decide +kernel
theorem dX6_refresh_0 : decode cX6_refresh 0 = .ok (.aload_n 0, 1) := by decide +kernel
theorem dX6_refresh_1 : decode cX6_refresh 1 = .ok (.iload_n 1, 1) := by decide +kernel
theorem dX6_refresh_2 : decode cX6_refresh 2 = .ok (.invokevirtual 148, 3) := by decide +kernel
theorem dX6_refresh_5 : decode cX6_refresh 5 = .ok (.astore_n 2, 1) := by decide +kernel
theorem dX6_refresh_6 : decode cX6_refresh 6 = .ok (.aload_n 2, 1) := by decide +kernel
theorem dX6_refresh_7 : decode cX6_refresh 7 = .ok (.invokestatic 152, 3) := by decide +kernel
theorem dX6_refresh_10 : decode cX6_refresh 10 = .ok (.aload_n 0, 1) := by decide +kernel
theorem dX6_refresh_11 : decode cX6_refresh 11 = .ok (.getfield 19, 3) := by decide +kernel
theorem dX6_refresh_14 : decode cX6_refresh 14 = .ok (.aload_n 0, 1) := by decide +kernel
theorem dX6_refresh_15 : decode cX6_refresh 15 = .ok (.getfield 10, 3) := by decide +kernel
theorem dX6_refresh_18 : decode cX6_refresh 18 = .ok (.invokevirtual 51, 3) := by decide +kernel
theorem dX6_refresh_21 : decode cX6_refresh 21 = .ok (.aload_n 0, 1) := by decide +kernel
theorem dX6_refresh_22 : decode cX6_refresh 22 = .ok (.getfield 10, 3) := by decide +kernel
theorem dX6_refresh_25 : decode cX6_refresh 25 = .ok (.aload_n 2, 1) := by decide +kernel
theorem dX6_refresh_26 : decode cX6_refresh 26 = .ok (.invokevirtual 156, 3) := by decide +kernel
theorem dX6_refresh_29 : decode cX6_refresh 29 = .ok (.ireturn, 1) := by decide +kernel
theorem dX6_refreshAll_0 : decode cX6_refreshAll 0 = .ok (.aload_n 0, 1) := by decide +kernel
theorem dX6_refreshAll_1 : decode cX6_refreshAll 1 = .ok (.getfield 19, 3) := by decide +kernel
theorem dX6_refreshAll_4 : decode cX6_refreshAll 4 = .ok (.aload_n 0, 1) := by decide +kernel
theorem dX6_refreshAll_5 : decode cX6_refreshAll 5 = .ok (.getfield 10, 3) := by decide +kernel
theorem dX6_refreshAll_8 : decode cX6_refreshAll 8 = .ok (.invokevirtual 51, 3) := by decide +kernel
theorem dX6_refreshAll_11 : decode cX6_refreshAll 11 = .ok (.aload_n 0, 1) := by decide +kernel
theorem dX6_refreshAll_12 : decode cX6_refreshAll 12 = .ok (.getfield 10, 3) := by decide +kernel
theorem dX6_refreshAll_15 : decode cX6_refreshAll 15 = .ok (.invokevirtual 160, 3) := by decide +kernel
theorem dX6_refreshAll_18 : decode cX6_refreshAll 18 = .ok (.ireturn, 1) := by decide +kernel
theorem dX6_sleep_0 : decode cX6_sleep 0 = .ok (.aload_n 0, 1) := by decide +kernel
theorem dX6_sleep_1 : decode cX6_sleep 1 = .ok (.iload_n 1, 1) := by decide +kernel
theorem dX6_sleep_2 : decode cX6_sleep 2 = .ok (.invokevirtual 148, 3) := by decide +kernel
theorem dX6_sleep_5 : decode cX6_sleep 5 = .ok (.astore_n 2, 1) := by decide +kernel
theorem dX6_sleep_6 : decode cX6_sleep 6 = .ok (.aload_n 2, 1) := by decide +kernel
theorem dX6_sleep_7 : decode cX6_sleep 7 = .ok (.invokestatic 152, 3) := by decide +kernel
theorem dX6_sleep_10 : decode cX6_sleep 10 = .ok (.aload_n 0, 1) := by decide +kernel
theorem dX6_sleep_11 : decode cX6_sleep 11 = .ok (.getfield 19, 3) := by decide +kernel
theorem dX6_sleep_14 : decode cX6_sleep 14 = .ok (.aload_n 0, 1) := by decide +kernel
theorem dX6_sleep_15 : decode cX6_sleep 15 = .ok (.getfield 10, 3) := by decide +kernel
theorem dX6_sleep_18 : decode cX6_sleep 18 = .ok (.invokevirtual 51, 3) := by decide +kernel
theorem dX6_sleep_21 : decode cX6_sleep 21 = .ok (.aload_n 2, 1) := by decide +kernel
theorem dX6_sleep_22 : decode cX6_sleep 22 = .ok (.iconst 1, 1) := by decide +kernel
theorem dX6_sleep_23 : decode cX6_sleep 23 = .ok (.putfield 163, 3) := by decide +kernel
theorem dX6_sleep_26 : decode cX6_sleep 26 = .ok (.aload_n 0, 1) := by decide +kernel
theorem dX6_sleep_27 : decode cX6_sleep 27 = .ok (.getfield 10, 3) := by decide +kernel
theorem dX6_sleep_30 : decode cX6_sleep 30 = .ok (.invokevirtual 169, 3) := by decide +kernel
theorem dX6_sleep_33 : decode cX6_sleep 33 = .ok (.ireturn, 1) := by decide +kernel
theorem dX6_wake_0 : decode cX6_wake 0 = .ok (.aload_n 0, 1) := by decide +kernel
theorem dX6_wake_1 : decode cX6_wake 1 = .ok (.iload_n 1, 1) := by decide +kernel
theorem dX6_wake_2 : decode cX6_wake 2 = .ok (.invokevirtual 148, 3) := by decide +kernel
theorem dX6_wake_5 : decode cX6_wake 5 = .ok (.astore_n 2, 1) := by decide +kernel
theorem dX6_wake_6 : decode cX6_wake 6 = .ok (.aload_n 2, 1) := by decide +kernel
theorem dX6_wake_7 : decode cX6_wake 7 = .ok (.getfield 163, 3) := by decide +kernel
theorem dX6_wake_10 : decode cX6_wake 10 = .ok (.ifCond .ne 13, 3) := by decide +kernel
theorem dX6_wake_13 : decode cX6_wake 13 = .ok (.new 44, 3) := by decide +kernel
theorem dX6_wake_16 : decode cX6_wake 16 = .ok (.dup, 1) := by decide +kernel
theorem dX6_wake_17 : decode cX6_wake 17 = .ok (.ldc 172, 2) := by decide +kernel
theorem dX6_wake_19 : decode cX6_wake 19 = .ok (.invokespecial 48, 3) := by decide +kernel
theorem dX6_wake_22 : decode cX6_wake 22 = .ok (.athrow, 1) := by decide +kernel
theorem dX6_wake_23 : decode cX6_wake 23 = .ok (.aload_n 0, 1) := by decide +kernel
theorem dX6_wake_24 : decode cX6_wake 24 = .ok (.getfield 19, 3) := by decide +kernel
theorem dX6_wake_27 : decode cX6_wake 27 = .ok (.aload_n 0, 1) := by decide +kernel
theorem dX6_wake_28 : decode cX6_wake 28 = .ok (.getfield 10, 3) := by decide +kernel
theorem dX6_wake_31 : decode cX6_wake 31 = .ok (.invokevirtual 51, 3) := by decide +kernel
theorem dX6_wake_34 : decode cX6_wake 34 = .ok (.aload_n 2, 1) := by decide +kernel
theorem dX6_wake_35 : decode cX6_wake 35 = .ok (.iconst 0, 1) := by decide +kernel
theorem dX6_wake_36 : decode cX6_wake 36 = .ok (.putfield 163, 3) := by decide +kernel
theorem dX6_wake_39 : decode cX6_wake 39 = .ok (.aload_n 0, 1) := by decide +kernel
theorem dX6_wake_40 : decode cX6_wake 40 = .ok (.getfield 10, 3) := by decide +kernel
theorem dX6_wake_43 : decode cX6_wake 43 = .ok (.invokevirtual 169, 3) := by decide +kernel
theorem dX6_wake_46 : decode cX6_wake 46 = .ok (.ireturn, 1) := by decide +kernel
theorem dX6_throwAway_0 : decode cX6_throwAway 0 = .ok (.aload_n 0, 1) := by decide +kernel
theorem dX6_throwAway_1 : decode cX6_throwAway 1 = .ok (.iload_n 1, 1) := by decide +kernel
theorem dX6_throwAway_2 : decode cX6_throwAway 2 = .ok (.invokevirtual 148, 3) := by decide +kernel
theorem dX6_throwAway_5 : decode cX6_throwAway 5 = .ok (.astore_n 2, 1) := by decide +kernel
theorem dX6_throwAway_6 : decode cX6_throwAway 6 = .ok (.aload_n 0, 1) := by decide +kernel
theorem dX6_throwAway_7 : decode cX6_throwAway 7 = .ok (.getfield 19, 3) := by decide +kernel
theorem dX6_throwAway_10 : decode cX6_throwAway 10 = .ok (.aload_n 0, 1) := by decide +kernel
theorem dX6_throwAway_11 : decode cX6_throwAway 11 = .ok (.getfield 10, 3) := by decide +kernel
theorem dX6_throwAway_14 : decode cX6_throwAway 14 = .ok (.invokevirtual 51, 3) := by decide +kernel
theorem dX6_throwAway_17 : decode cX6_throwAway 17 = .ok (.aload_n 2, 1) := by decide +kernel
theorem dX6_throwAway_18 : decode cX6_throwAway 18 = .ok (.invokevirtual 174, 3) := by decide +kernel
theorem dX6_throwAway_21 : decode cX6_throwAway 21 = .ok (.istore_n 3, 1) := by decide +kernel
theorem dX6_throwAway_22 : decode cX6_throwAway 22 = .ok (.aload_n 2, 1) := by decide +kernel
theorem dX6_throwAway_23 : decode cX6_throwAway 23 = .ok (.invokevirtual 177, 3) := by decide +kernel
theorem dX6_throwAway_26 : decode cX6_throwAway 26 = .ok (.iload_n 3, 1) := by decide +kernel
theorem dX6_throwAway_27 : decode cX6_throwAway 27 = .ok (.ireturn, 1) := by decide +kernel
theorem dX6_editionOf_0 : decode cX6_editionOf 0 = .ok (.aload_n 0, 1) := by decide +kernel
theorem dX6_editionOf_1 : decode cX6_editionOf 1 = .ok (.iload_n 1, 1) := by decide +kernel
theorem dX6_editionOf_2 : decode cX6_editionOf 2 = .ok (.invokevirtual 148, 3) := by decide +kernel
theorem dX6_editionOf_5 : decode cX6_editionOf 5 = .ok (.invokevirtual 180, 3) := by decide +kernel
theorem dX6_editionOf_8 : decode cX6_editionOf 8 = .ok (.ireturn, 1) := by decide +kernel
theorem dX6_streets_0 : decode cX6_streets 0 = .ok (.aload_n 0, 1) := by decide +kernel
theorem dX6_streets_1 : decode cX6_streets 1 = .ok (.iload_n 1, 1) := by decide +kernel
theorem dX6_streets_2 : decode cX6_streets 2 = .ok (.invokevirtual 148, 3) := by decide +kernel
theorem dX6_streets_5 : decode cX6_streets 5 = .ok (.invokevirtual 174, 3) := by decide +kernel
theorem dX6_streets_8 : decode cX6_streets 8 = .ok (.ireturn, 1) := by decide +kernel
theorem dX6_has_0 : decode cX6_has 0 = .ok (.iload_n 2, 1) := by decide +kernel
theorem dX6_has_1 : decode cX6_has 1 = .ok (.invokestatic 30, 3) := by decide +kernel
theorem dX6_has_4 : decode cX6_has 4 = .ok (.aload_n 0, 1) := by decide +kernel
theorem dX6_has_5 : decode cX6_has 5 = .ok (.iload_n 1, 1) := by decide +kernel
theorem dX6_has_6 : decode cX6_has 6 = .ok (.invokevirtual 148, 3) := by decide +kernel
theorem dX6_has_9 : decode cX6_has 9 = .ok (.iload_n 2, 1) := by decide +kernel
theorem dX6_has_10 : decode cX6_has 10 = .ok (.invokevirtual 183, 3) := by decide +kernel
theorem dX6_has_13 : decode cX6_has 13 = .ok (.ireturn, 1) := by decide +kernel
theorem dX6_isRight_0 : decode cX6_isRight 0 = .ok (.aload_n 0, 1) := by decide +kernel
theorem dX6_isRight_1 : decode cX6_isRight 1 = .ok (.iload_n 1, 1) := by decide +kernel
theorem dX6_isRight_2 : decode cX6_isRight 2 = .ok (.invokevirtual 148, 3) := by decide +kernel
theorem dX6_isRight_5 : decode cX6_isRight 5 = .ok (.aload_n 0, 1) := by decide +kernel
theorem dX6_isRight_6 : decode cX6_isRight 6 = .ok (.getfield 10, 3) := by decide +kernel
theorem dX6_isRight_9 : decode cX6_isRight 9 = .ok (.getfield 34, 3) := by decide +kernel
theorem dX6_isRight_12 : decode cX6_isRight 12 = .ok (.getfield 120, 3) := by decide +kernel
theorem dX6_isRight_15 : decode cX6_isRight 15 = .ok (.invokevirtual 186, 3) := by decide +kernel
theorem dX6_isRight_18 : decode cX6_isRight 18 = .ok (.ifCond .ne 7, 3) := by decide +kernel
theorem dX6_isRight_21 : decode cX6_isRight 21 = .ok (.iconst 1, 1) := by decide +kernel
theorem dX6_isRight_22 : decode cX6_isRight 22 = .ok (.goto 4, 3) := by decide +kernel
theorem dX6_isRight_25 : decode cX6_isRight 25 = .ok (.iconst 0, 1) := by decide +kernel
theorem dX6_isRight_26 : decode cX6_isRight 26 = .ok (.ireturn, 1) := by decide +kernel
theorem dX6_attention_0 : decode cX6_attention 0 = .ok (.aload_n 0, 1) := by decide +kernel
theorem dX6_attention_1 : decode cX6_attention 1 = .ok (.iload_n 1, 1) := by decide +kernel
theorem dX6_attention_2 : decode cX6_attention 2 = .ok (.invokevirtual 148, 3) := by decide +kernel
theorem dX6_attention_5 : decode cX6_attention 5 = .ok (.invokevirtual 189, 3) := by decide +kernel
theorem dX6_attention_8 : decode cX6_attention 8 = .ok (.ireturn, 1) := by decide +kernel
theorem dX6_costs_0 : decode cX6_costs 0 = .ok (.aload_n 0, 1) := by decide +kernel
theorem dX6_costs_1 : decode cX6_costs 1 = .ok (.iload_n 1, 1) := by decide +kernel
theorem dX6_costs_2 : decode cX6_costs 2 = .ok (.invokevirtual 148, 3) := by decide +kernel
theorem dX6_costs_5 : decode cX6_costs 5 = .ok (.getfield 192, 3) := by decide +kernel
theorem dX6_costs_8 : decode cX6_costs 8 = .ok (.ireturn, 1) := by decide +kernel
theorem dX6_answer_0 : decode cX6_answer 0 = .ok (.aload_n 0, 1) := by decide +kernel
theorem dX6_answer_1 : decode cX6_answer 1 = .ok (.getfield 10, 3) := by decide +kernel
theorem dX6_answer_4 : decode cX6_answer 4 = .ok (.getfield 34, 3) := by decide +kernel
theorem dX6_answer_7 : decode cX6_answer 7 = .ok (.aload_n 0, 1) := by decide +kernel
theorem dX6_answer_8 : decode cX6_answer 8 = .ok (.iload_n 1, 1) := by decide +kernel
theorem dX6_answer_9 : decode cX6_answer 9 = .ok (.invokevirtual 148, 3) := by decide +kernel
theorem dX6_answer_12 : decode cX6_answer 12 = .ok (.invokevirtual 195, 3) := by decide +kernel
theorem dX6_answer_15 : decode cX6_answer 15 = .ok (.ireturn, 1) := by decide +kernel
theorem dX6_costToCome_0 : decode cX6_costToCome 0 = .ok (.aload_n 0, 1) := by decide +kernel
theorem dX6_costToCome_1 : decode cX6_costToCome 1 = .ok (.getfield 10, 3) := by decide +kernel
theorem dX6_costToCome_4 : decode cX6_costToCome 4 = .ok (.aload_n 0, 1) := by decide +kernel
theorem dX6_costToCome_5 : decode cX6_costToCome 5 = .ok (.iload_n 1, 1) := by decide +kernel
theorem dX6_costToCome_6 : decode cX6_costToCome 6 = .ok (.invokevirtual 148, 3) := by decide +kernel
theorem dX6_costToCome_9 : decode cX6_costToCome 9 = .ok (.invokevirtual 198, 3) := by decide +kernel
theorem dX6_costToCome_12 : decode cX6_costToCome 12 = .ok (.ireturn, 1) := by decide +kernel
theorem dX6_wrong_0 : decode cX6_wrong 0 = .ok (.aload_n 0, 1) := by decide +kernel
theorem dX6_wrong_1 : decode cX6_wrong 1 = .ok (.iload_n 1, 1) := by decide +kernel
theorem dX6_wrong_2 : decode cX6_wrong 2 = .ok (.invokevirtual 148, 3) := by decide +kernel
theorem dX6_wrong_5 : decode cX6_wrong 5 = .ok (.aload_n 0, 1) := by decide +kernel
theorem dX6_wrong_6 : decode cX6_wrong 6 = .ok (.getfield 10, 3) := by decide +kernel
theorem dX6_wrong_9 : decode cX6_wrong 9 = .ok (.getfield 34, 3) := by decide +kernel
theorem dX6_wrong_12 : decode cX6_wrong 12 = .ok (.getfield 120, 3) := by decide +kernel
theorem dX6_wrong_15 : decode cX6_wrong 15 = .ok (.invokevirtual 186, 3) := by decide +kernel
theorem dX6_wrong_18 : decode cX6_wrong 18 = .ok (.ireturn, 1) := by decide +kernel
theorem dX6_savedShare_0 : decode cX6_savedShare 0 = .ok (.iconst 0, 1) := by decide +kernel
theorem dX6_savedShare_1 : decode cX6_savedShare 1 = .ok (.istore_n 1, 1) := by decide +kernel
theorem dX6_savedShare_2 : decode cX6_savedShare 2 = .ok (.iconst 0, 1) := by decide +kernel
theorem dX6_savedShare_3 : decode cX6_savedShare 3 = .ok (.istore_n 2, 1) := by decide +kernel
theorem dX6_savedShare_4 : decode cX6_savedShare 4 = .ok (.iconst 0, 1) := by decide +kernel
theorem dX6_savedShare_5 : decode cX6_savedShare 5 = .ok (.istore_n 3, 1) := by decide +kernel
theorem dX6_savedShare_6 : decode cX6_savedShare 6 = .ok (.iload_n 3, 1) := by decide +kernel
theorem dX6_savedShare_7 : decode cX6_savedShare 7 = .ok (.iconst 4, 1) := by decide +kernel
theorem dX6_savedShare_8 : decode cX6_savedShare 8 = .ok (.if_icmp .ge 39, 3) := by decide +kernel
theorem dX6_savedShare_11 : decode cX6_savedShare 11 = .ok (.iload_n 1, 1) := by decide +kernel
theorem dX6_savedShare_12 : decode cX6_savedShare 12 = .ok (.aload_n 0, 1) := by decide +kernel
theorem dX6_savedShare_13 : decode cX6_savedShare 13 = .ok (.getfield 10, 3) := by decide +kernel
theorem dX6_savedShare_16 : decode cX6_savedShare 16 = .ok (.getfield 201, 3) := by decide +kernel
theorem dX6_savedShare_19 : decode cX6_savedShare 19 = .ok (.iload_n 3, 1) := by decide +kernel
theorem dX6_savedShare_20 : decode cX6_savedShare 20 = .ok (.aaload, 1) := by decide +kernel
theorem dX6_savedShare_21 : decode cX6_savedShare 21 = .ok (.getfield 192, 3) := by decide +kernel
theorem dX6_savedShare_24 : decode cX6_savedShare 24 = .ok (.iadd, 1) := by decide +kernel
theorem dX6_savedShare_25 : decode cX6_savedShare 25 = .ok (.istore_n 1, 1) := by decide +kernel
theorem dX6_savedShare_26 : decode cX6_savedShare 26 = .ok (.iload_n 2, 1) := by decide +kernel
theorem dX6_savedShare_27 : decode cX6_savedShare 27 = .ok (.aload_n 0, 1) := by decide +kernel
theorem dX6_savedShare_28 : decode cX6_savedShare 28 = .ok (.getfield 10, 3) := by decide +kernel
theorem dX6_savedShare_31 : decode cX6_savedShare 31 = .ok (.getfield 201, 3) := by decide +kernel
theorem dX6_savedShare_34 : decode cX6_savedShare 34 = .ok (.iload_n 3, 1) := by decide +kernel
theorem dX6_savedShare_35 : decode cX6_savedShare 35 = .ok (.aaload, 1) := by decide +kernel
theorem dX6_savedShare_36 : decode cX6_savedShare 36 = .ok (.getfield 205, 3) := by decide +kernel
theorem dX6_savedShare_39 : decode cX6_savedShare 39 = .ok (.iadd, 1) := by decide +kernel
theorem dX6_savedShare_40 : decode cX6_savedShare 40 = .ok (.istore_n 2, 1) := by decide +kernel
theorem dX6_savedShare_41 : decode cX6_savedShare 41 = .ok (.iinc 3 1, 3) := by decide +kernel
theorem dX6_savedShare_44 : decode cX6_savedShare 44 = .ok (.goto (-38), 3) := by decide +kernel
theorem dX6_savedShare_47 : decode cX6_savedShare 47 = .ok (.iload_n 2, 1) := by decide +kernel
theorem dX6_savedShare_48 : decode cX6_savedShare 48 = .ok (.ifCond .ne 5, 3) := by decide +kernel
theorem dX6_savedShare_51 : decode cX6_savedShare 51 = .ok (.dconst 0, 1) := by decide +kernel
theorem dX6_savedShare_52 : decode cX6_savedShare 52 = .ok (.dreturn, 1) := by decide +kernel
theorem dX6_savedShare_53 : decode cX6_savedShare 53 = .ok (.dconst 1, 1) := by decide +kernel
theorem dX6_savedShare_54 : decode cX6_savedShare 54 = .ok (.iload_n 1, 1) := by decide +kernel
theorem dX6_savedShare_55 : decode cX6_savedShare 55 = .ok (.i2d, 1) := by decide +kernel
theorem dX6_savedShare_56 : decode cX6_savedShare 56 = .ok (.iload_n 2, 1) := by decide +kernel
theorem dX6_savedShare_57 : decode cX6_savedShare 57 = .ok (.i2d, 1) := by decide +kernel
theorem dX6_savedShare_58 : decode cX6_savedShare 58 = .ok (.ddiv, 1) := by decide +kernel
theorem dX6_savedShare_59 : decode cX6_savedShare 59 = .ok (.dsub, 1) := by decide +kernel
theorem dX6_savedShare_60 : decode cX6_savedShare 60 = .ok (.dreturn, 1) := by decide +kernel
theorem dX6_append_0 : decode cX6_append 0 = .ok (.iload_n 1, 1) := by decide +kernel
theorem dX6_append_1 : decode cX6_append 1 = .ok (.bipush 33, 2) := by decide +kernel
theorem dX6_append_3 : decode cX6_append 3 = .ok (.if_icmp .lt 9, 3) := by decide +kernel
theorem dX6_append_6 : decode cX6_append 6 = .ok (.iload_n 1, 1) := by decide +kernel
theorem dX6_append_7 : decode cX6_append 7 = .ok (.bipush 126, 2) := by decide +kernel
theorem dX6_append_9 : decode cX6_append 9 = .ok (.if_icmp .le 13, 3) := by decide +kernel
theorem dX6_append_12 : decode cX6_append 12 = .ok (.new 85, 3) := by decide +kernel
theorem dX6_append_15 : decode cX6_append 15 = .ok (.dup, 1) := by decide +kernel
theorem dX6_append_16 : decode cX6_append 16 = .ok (.ldc 208, 2) := by decide +kernel
theorem dX6_append_18 : decode cX6_append 18 = .ok (.invokespecial 89, 3) := by decide +kernel
theorem dX6_append_21 : decode cX6_append 21 = .ok (.athrow, 1) := by decide +kernel
theorem dX6_append_22 : decode cX6_append 22 = .ok (.aload_n 0, 1) := by decide +kernel
theorem dX6_append_23 : decode cX6_append 23 = .ok (.getfield 26, 3) := by decide +kernel
theorem dX6_append_26 : decode cX6_append 26 = .ok (.getfield 210, 3) := by decide +kernel
theorem dX6_append_29 : decode cX6_append 29 = .ok (.bipush 60, 2) := by decide +kernel
theorem dX6_append_31 : decode cX6_append 31 = .ok (.if_icmp .lt 13, 3) := by decide +kernel
theorem dX6_append_34 : decode cX6_append 34 = .ok (.new 44, 3) := by decide +kernel
theorem dX6_append_37 : decode cX6_append 37 = .ok (.dup, 1) := by decide +kernel
theorem dX6_append_38 : decode cX6_append 38 = .ok (.ldc 213, 2) := by decide +kernel
theorem dX6_append_40 : decode cX6_append 40 = .ok (.invokespecial 48, 3) := by decide +kernel
theorem dX6_append_43 : decode cX6_append 43 = .ok (.athrow, 1) := by decide +kernel
theorem dX6_append_44 : decode cX6_append 44 = .ok (.aload_n 0, 1) := by decide +kernel
theorem dX6_append_45 : decode cX6_append 45 = .ok (.getfield 26, 3) := by decide +kernel
theorem dX6_append_48 : decode cX6_append 48 = .ok (.iload_n 1, 1) := by decide +kernel
theorem dX6_append_49 : decode cX6_append 49 = .ok (.invokevirtual 215, 3) := by decide +kernel
theorem dX6_append_52 : decode cX6_append 52 = .ok (.aload_n 0, 1) := by decide +kernel
theorem dX6_append_53 : decode cX6_append 53 = .ok (.getfield 26, 3) := by decide +kernel
theorem dX6_append_56 : decode cX6_append 56 = .ok (.getfield 210, 3) := by decide +kernel
theorem dX6_append_59 : decode cX6_append 59 = .ok (.ireturn, 1) := by decide +kernel
theorem dX6_clearText_0 : decode cX6_clearText 0 = .ok (.aload_n 0, 1) := by decide +kernel
theorem dX6_clearText_1 : decode cX6_clearText 1 = .ok (.getfield 26, 3) := by decide +kernel
theorem dX6_clearText_4 : decode cX6_clearText 4 = .ok (.getfield 210, 3) := by decide +kernel
theorem dX6_clearText_7 : decode cX6_clearText 7 = .ok (.istore_n 1, 1) := by decide +kernel
theorem dX6_clearText_8 : decode cX6_clearText 8 = .ok (.aload_n 0, 1) := by decide +kernel
theorem dX6_clearText_9 : decode cX6_clearText 9 = .ok (.getfield 26, 3) := by decide +kernel
theorem dX6_clearText_12 : decode cX6_clearText 12 = .ok (.invokevirtual 218, 3) := by decide +kernel
theorem dX6_clearText_15 : decode cX6_clearText 15 = .ok (.iload_n 1, 1) := by decide +kernel
theorem dX6_clearText_16 : decode cX6_clearText 16 = .ok (.ireturn, 1) := by decide +kernel
theorem dX6_firstError_0 : decode cX6_firstError 0 = .ok (.aload_n 0, 1) := by decide +kernel
theorem dX6_firstError_1 : decode cX6_firstError 1 = .ok (.getfield 26, 3) := by decide +kernel
theorem dX6_firstError_4 : decode cX6_firstError 4 = .ok (.invokevirtual 221, 3) := by decide +kernel
theorem dX6_firstError_7 : decode cX6_firstError 7 = .ok (.ireturn, 1) := by decide +kernel
theorem dX6_run_0 : decode cX6_run 0 = .ok (.aload_n 0, 1) := by decide +kernel
theorem dX6_run_1 : decode cX6_run 1 = .ok (.getfield 26, 3) := by decide +kernel
theorem dX6_run_4 : decode cX6_run 4 = .ok (.invokevirtual 224, 3) := by decide +kernel
theorem dX6_run_7 : decode cX6_run 7 = .ok (.ifCond .ne 13, 3) := by decide +kernel
theorem dX6_run_10 : decode cX6_run 10 = .ok (.new 85, 3) := by decide +kernel
theorem dX6_run_13 : decode cX6_run 13 = .ok (.dup, 1) := by decide +kernel
theorem dX6_run_14 : decode cX6_run 14 = .ok (.ldc 227, 2) := by decide +kernel
theorem dX6_run_16 : decode cX6_run 16 = .ok (.invokespecial 89, 3) := by decide +kernel
theorem dX6_run_19 : decode cX6_run 19 = .ok (.athrow, 1) := by decide +kernel
theorem dX6_run_20 : decode cX6_run 20 = .ok (.aload_n 0, 1) := by decide +kernel
theorem dX6_run_21 : decode cX6_run 21 = .ok (.getfield 19, 3) := by decide +kernel
theorem dX6_run_24 : decode cX6_run 24 = .ok (.aload_n 0, 1) := by decide +kernel
theorem dX6_run_25 : decode cX6_run 25 = .ok (.getfield 10, 3) := by decide +kernel
theorem dX6_run_28 : decode cX6_run 28 = .ok (.invokevirtual 51, 3) := by decide +kernel
theorem dX6_run_31 : decode cX6_run 31 = .ok (.aload_n 0, 1) := by decide +kernel
theorem dX6_run_32 : decode cX6_run 32 = .ok (.getfield 26, 3) := by decide +kernel
theorem dX6_run_35 : decode cX6_run 35 = .ok (.aload_n 0, 1) := by decide +kernel
theorem dX6_run_36 : decode cX6_run 36 = .ok (.getfield 10, 3) := by decide +kernel
theorem dX6_run_39 : decode cX6_run 39 = .ok (.invokevirtual 229, 3) := by decide +kernel
theorem dX6_run_42 : decode cX6_run 42 = .ok (.istore_n 1, 1) := by decide +kernel
theorem dX6_run_43 : decode cX6_run 43 = .ok (.aload_n 0, 1) := by decide +kernel
theorem dX6_run_44 : decode cX6_run 44 = .ok (.getfield 26, 3) := by decide +kernel
theorem dX6_run_47 : decode cX6_run 47 = .ok (.invokevirtual 218, 3) := by decide +kernel
theorem dX6_run_50 : decode cX6_run 50 = .ok (.iload_n 1, 1) := by decide +kernel
theorem dX6_run_51 : decode cX6_run 51 = .ok (.ireturn, 1) := by decide +kernel
theorem dX6_undo_0 : decode cX6_undo 0 = .ok (.aload_n 0, 1) := by decide +kernel
theorem dX6_undo_1 : decode cX6_undo 1 = .ok (.getfield 19, 3) := by decide +kernel
theorem dX6_undo_4 : decode cX6_undo 4 = .ok (.getfield 233, 3) := by decide +kernel
theorem dX6_undo_7 : decode cX6_undo 7 = .ok (.ifCond .ne 13, 3) := by decide +kernel
theorem dX6_undo_10 : decode cX6_undo 10 = .ok (.new 44, 3) := by decide +kernel
theorem dX6_undo_13 : decode cX6_undo 13 = .ok (.dup, 1) := by decide +kernel
theorem dX6_undo_14 : decode cX6_undo 14 = .ok (.ldc 234, 2) := by decide +kernel
theorem dX6_undo_16 : decode cX6_undo 16 = .ok (.invokespecial 48, 3) := by decide +kernel
theorem dX6_undo_19 : decode cX6_undo 19 = .ok (.athrow, 1) := by decide +kernel
theorem dX6_undo_20 : decode cX6_undo 20 = .ok (.aload_n 0, 1) := by decide +kernel
theorem dX6_undo_21 : decode cX6_undo 21 = .ok (.getfield 19, 3) := by decide +kernel
theorem dX6_undo_24 : decode cX6_undo 24 = .ok (.aload_n 0, 1) := by decide +kernel
theorem dX6_undo_25 : decode cX6_undo 25 = .ok (.getfield 10, 3) := by decide +kernel
theorem dX6_undo_28 : decode cX6_undo 28 = .ok (.invokevirtual 236, 3) := by decide +kernel
theorem dX6_undo_31 : decode cX6_undo 31 = .ok (.aload_n 0, 1) := by decide +kernel
theorem dX6_undo_32 : decode cX6_undo 32 = .ok (.getfield 19, 3) := by decide +kernel
theorem dX6_undo_35 : decode cX6_undo 35 = .ok (.getfield 233, 3) := by decide +kernel
theorem dX6_undo_38 : decode cX6_undo 38 = .ok (.ireturn, 1) := by decide +kernel
theorem dX6_savedStates_0 : decode cX6_savedStates 0 = .ok (.aload_n 0, 1) := by decide +kernel
theorem dX6_savedStates_1 : decode cX6_savedStates 1 = .ok (.getfield 19, 3) := by decide +kernel
theorem dX6_savedStates_4 : decode cX6_savedStates 4 = .ok (.getfield 233, 3) := by decide +kernel
theorem dX6_savedStates_7 : decode cX6_savedStates 7 = .ok (.ireturn, 1) := by decide +kernel
theorem dX6_digest_0 : decode cX6_digest 0 = .ok (.ldc2_w 239, 3) := by decide +kernel
theorem dX6_digest_3 : decode cX6_digest 3 = .ok (.lstore_n 1, 1) := by decide +kernel
theorem dX6_digest_4 : decode cX6_digest 4 = .ok (.ldc2_w 241, 3) := by decide +kernel
theorem dX6_digest_7 : decode cX6_digest 7 = .ok (.lload_n 1, 1) := by decide +kernel
theorem dX6_digest_8 : decode cX6_digest 8 = .ok (.lmul, 1) := by decide +kernel
theorem dX6_digest_9 : decode cX6_digest 9 = .ok (.aload_n 0, 1) := by decide +kernel
theorem dX6_digest_10 : decode cX6_digest 10 = .ok (.invokevirtual 79, 3) := by decide +kernel
theorem dX6_digest_13 : decode cX6_digest 13 = .ok (.i2l, 1) := by decide +kernel
theorem dX6_digest_14 : decode cX6_digest 14 = .ok (.ladd, 1) := by decide +kernel
theorem dX6_digest_15 : decode cX6_digest 15 = .ok (.lstore_n 1, 1) := by decide +kernel
theorem dX6_digest_16 : decode cX6_digest 16 = .ok (.ldc2_w 241, 3) := by decide +kernel
theorem dX6_digest_19 : decode cX6_digest 19 = .ok (.lload_n 1, 1) := by decide +kernel
theorem dX6_digest_20 : decode cX6_digest 20 = .ok (.lmul, 1) := by decide +kernel
theorem dX6_digest_21 : decode cX6_digest 21 = .ok (.aload_n 0, 1) := by decide +kernel
theorem dX6_digest_22 : decode cX6_digest 22 = .ok (.invokevirtual 58, 3) := by decide +kernel
theorem dX6_digest_25 : decode cX6_digest 25 = .ok (.i2l, 1) := by decide +kernel
theorem dX6_digest_26 : decode cX6_digest 26 = .ok (.ladd, 1) := by decide +kernel
theorem dX6_digest_27 : decode cX6_digest 27 = .ok (.lstore_n 1, 1) := by decide +kernel
theorem dX6_digest_28 : decode cX6_digest 28 = .ok (.ldc2_w 241, 3) := by decide +kernel
theorem dX6_digest_31 : decode cX6_digest 31 = .ok (.lload_n 1, 1) := by decide +kernel
theorem dX6_digest_32 : decode cX6_digest 32 = .ok (.lmul, 1) := by decide +kernel
theorem dX6_digest_33 : decode cX6_digest 33 = .ok (.aload_n 0, 1) := by decide +kernel
theorem dX6_digest_34 : decode cX6_digest 34 = .ok (.invokevirtual 243, 3) := by decide +kernel
theorem dX6_digest_37 : decode cX6_digest 37 = .ok (.i2l, 1) := by decide +kernel
theorem dX6_digest_38 : decode cX6_digest 38 = .ok (.ladd, 1) := by decide +kernel
theorem dX6_digest_39 : decode cX6_digest 39 = .ok (.lstore_n 1, 1) := by decide +kernel
theorem dX6_digest_40 : decode cX6_digest 40 = .ok (.ldc2_w 241, 3) := by decide +kernel
theorem dX6_digest_43 : decode cX6_digest 43 = .ok (.lload_n 1, 1) := by decide +kernel
theorem dX6_digest_44 : decode cX6_digest 44 = .ok (.lmul, 1) := by decide +kernel
theorem dX6_digest_45 : decode cX6_digest 45 = .ok (.aload_n 0, 1) := by decide +kernel
theorem dX6_digest_46 : decode cX6_digest 46 = .ok (.invokevirtual 246, 3) := by decide +kernel
theorem dX6_digest_49 : decode cX6_digest 49 = .ok (.i2l, 1) := by decide +kernel
theorem dX6_digest_50 : decode cX6_digest 50 = .ok (.ladd, 1) := by decide +kernel
theorem dX6_digest_51 : decode cX6_digest 51 = .ok (.lstore_n 1, 1) := by decide +kernel
theorem dX6_digest_52 : decode cX6_digest 52 = .ok (.ldc2_w 241, 3) := by decide +kernel
theorem dX6_digest_55 : decode cX6_digest 55 = .ok (.lload_n 1, 1) := by decide +kernel
theorem dX6_digest_56 : decode cX6_digest 56 = .ok (.lmul, 1) := by decide +kernel
theorem dX6_digest_57 : decode cX6_digest 57 = .ok (.aload_n 0, 1) := by decide +kernel
theorem dX6_digest_58 : decode cX6_digest 58 = .ok (.invokevirtual 104, 3) := by decide +kernel
theorem dX6_digest_61 : decode cX6_digest 61 = .ok (.i2l, 1) := by decide +kernel
theorem dX6_digest_62 : decode cX6_digest 62 = .ok (.ladd, 1) := by decide +kernel
theorem dX6_digest_63 : decode cX6_digest 63 = .ok (.lstore_n 1, 1) := by decide +kernel
theorem dX6_digest_64 : decode cX6_digest 64 = .ok (.lload_n 1, 1) := by decide +kernel
theorem dX6_digest_65 : decode cX6_digest 65 = .ok (.aload_n 0, 1) := by decide +kernel
theorem dX6_digest_66 : decode cX6_digest 66 = .ok (.getfield 10, 3) := by decide +kernel
theorem dX6_digest_69 : decode cX6_digest 69 = .ok (.getfield 34, 3) := by decide +kernel
theorem dX6_digest_72 : decode cX6_digest 72 = .ok (.getfield 95, 3) := by decide +kernel
theorem dX6_digest_75 : decode cX6_digest 75 = .ok (.invokestatic 249, 3) := by decide +kernel
theorem dX6_digest_78 : decode cX6_digest 78 = .ok (.lstore_n 1, 1) := by decide +kernel
theorem dX6_digest_79 : decode cX6_digest 79 = .ok (.iconst 0, 1) := by decide +kernel
theorem dX6_digest_80 : decode cX6_digest 80 = .ok (.istore_n 3, 1) := by decide +kernel
theorem dX6_digest_81 : decode cX6_digest 81 = .ok (.iload_n 3, 1) := by decide +kernel
theorem dX6_digest_82 : decode cX6_digest 82 = .ok (.iconst 4, 1) := by decide +kernel
theorem dX6_digest_83 : decode cX6_digest 83 = .ok (.if_icmp .ge 24, 3) := by decide +kernel
theorem dX6_digest_86 : decode cX6_digest 86 = .ok (.aload_n 0, 1) := by decide +kernel
theorem dX6_digest_87 : decode cX6_digest 87 = .ok (.lload_n 1, 1) := by decide +kernel
theorem dX6_digest_88 : decode cX6_digest 88 = .ok (.aload_n 0, 1) := by decide +kernel
theorem dX6_digest_89 : decode cX6_digest 89 = .ok (.getfield 10, 3) := by decide +kernel
theorem dX6_digest_92 : decode cX6_digest 92 = .ok (.getfield 201, 3) := by decide +kernel
theorem dX6_digest_95 : decode cX6_digest 95 = .ok (.iload_n 3, 1) := by decide +kernel
theorem dX6_digest_96 : decode cX6_digest 96 = .ok (.aaload, 1) := by decide +kernel
theorem dX6_digest_97 : decode cX6_digest 97 = .ok (.invokevirtual 253, 3) := by decide +kernel
theorem dX6_digest_100 : decode cX6_digest 100 = .ok (.lstore_n 1, 1) := by decide +kernel
theorem dX6_digest_101 : decode cX6_digest 101 = .ok (.iinc 3 1, 3) := by decide +kernel
theorem dX6_digest_104 : decode cX6_digest 104 = .ok (.goto (-23), 3) := by decide +kernel
theorem dX6_digest_107 : decode cX6_digest 107 = .ok (.iconst 0, 1) := by decide +kernel
theorem dX6_digest_108 : decode cX6_digest 108 = .ok (.istore_n 3, 1) := by decide +kernel
theorem dX6_digest_109 : decode cX6_digest 109 = .ok (.iload_n 3, 1) := by decide +kernel
theorem dX6_digest_110 : decode cX6_digest 110 = .ok (.bipush 30, 2) := by decide +kernel
theorem dX6_digest_112 : decode cX6_digest 112 = .ok (.if_icmp .ge 16, 3) := by decide +kernel
theorem dX6_digest_115 : decode cX6_digest 115 = .ok (.aload_n 0, 1) := by decide +kernel
theorem dX6_digest_116 : decode cX6_digest 116 = .ok (.lload_n 1, 1) := by decide +kernel
theorem dX6_digest_117 : decode cX6_digest 117 = .ok (.iload_n 3, 1) := by decide +kernel
theorem dX6_digest_118 : decode cX6_digest 118 = .ok (.invokevirtual 257, 3) := by decide +kernel
theorem dX6_digest_121 : decode cX6_digest 121 = .ok (.lstore_n 1, 1) := by decide +kernel
theorem dX6_digest_122 : decode cX6_digest 122 = .ok (.iinc 3 1, 3) := by decide +kernel
theorem dX6_digest_125 : decode cX6_digest 125 = .ok (.goto (-16), 3) := by decide +kernel
theorem dX6_digest_128 : decode cX6_digest 128 = .ok (.lload_n 1, 1) := by decide +kernel
theorem dX6_digest_129 : decode cX6_digest 129 = .ok (.lreturn, 1) := by decide +kernel
theorem dX6_withDifferences_0 : decode cX6_withDifferences 0 = .ok (.lload_n 0, 1) := by decide +kernel
theorem dX6_withDifferences_1 : decode cX6_withDifferences 1 = .ok (.lstore_n 3, 1) := by decide +kernel
theorem dX6_withDifferences_2 : decode cX6_withDifferences 2 = .ok (.iconst 0, 1) := by decide +kernel
theorem dX6_withDifferences_3 : decode cX6_withDifferences 3 = .ok (.istore 5, 2) := by decide +kernel
theorem dX6_withDifferences_5 : decode cX6_withDifferences 5 = .ok (.iload 5, 2) := by decide +kernel
theorem dX6_withDifferences_7 : decode cX6_withDifferences 7 = .ok (.aload_n 2, 1) := by decide +kernel
theorem dX6_withDifferences_8 : decode cX6_withDifferences 8 = .ok (.getfield 126, 3) := by decide +kernel
theorem dX6_withDifferences_11 : decode cX6_withDifferences 11 = .ok (.if_icmp .ge 39, 3) := by decide +kernel
theorem dX6_withDifferences_14 : decode cX6_withDifferences 14 = .ok (.ldc2_w 241, 3) := by decide +kernel
theorem dX6_withDifferences_17 : decode cX6_withDifferences 17 = .ok (.lload_n 3, 1) := by decide +kernel
theorem dX6_withDifferences_18 : decode cX6_withDifferences 18 = .ok (.lmul, 1) := by decide +kernel
theorem dX6_withDifferences_19 : decode cX6_withDifferences 19 = .ok (.aload_n 2, 1) := by decide +kernel
theorem dX6_withDifferences_20 : decode cX6_withDifferences 20 = .ok (.getfield 132, 3) := by decide +kernel
theorem dX6_withDifferences_23 : decode cX6_withDifferences 23 = .ok (.iload 5, 2) := by decide +kernel
theorem dX6_withDifferences_25 : decode cX6_withDifferences 25 = .ok (.iaload, 1) := by decide +kernel
theorem dX6_withDifferences_26 : decode cX6_withDifferences 26 = .ok (.i2l, 1) := by decide +kernel
theorem dX6_withDifferences_27 : decode cX6_withDifferences 27 = .ok (.ladd, 1) := by decide +kernel
theorem dX6_withDifferences_28 : decode cX6_withDifferences 28 = .ok (.lstore_n 3, 1) := by decide +kernel
theorem dX6_withDifferences_29 : decode cX6_withDifferences 29 = .ok (.ldc2_w 241, 3) := by decide +kernel
theorem dX6_withDifferences_32 : decode cX6_withDifferences 32 = .ok (.lload_n 3, 1) := by decide +kernel
theorem dX6_withDifferences_33 : decode cX6_withDifferences 33 = .ok (.lmul, 1) := by decide +kernel
theorem dX6_withDifferences_34 : decode cX6_withDifferences 34 = .ok (.aload_n 2, 1) := by decide +kernel
theorem dX6_withDifferences_35 : decode cX6_withDifferences 35 = .ok (.getfield 136, 3) := by decide +kernel
theorem dX6_withDifferences_38 : decode cX6_withDifferences 38 = .ok (.iload 5, 2) := by decide +kernel
theorem dX6_withDifferences_40 : decode cX6_withDifferences 40 = .ok (.iaload, 1) := by decide +kernel
theorem dX6_withDifferences_41 : decode cX6_withDifferences 41 = .ok (.i2l, 1) := by decide +kernel
theorem dX6_withDifferences_42 : decode cX6_withDifferences 42 = .ok (.ladd, 1) := by decide +kernel
theorem dX6_withDifferences_43 : decode cX6_withDifferences 43 = .ok (.lstore_n 3, 1) := by decide +kernel
theorem dX6_withDifferences_44 : decode cX6_withDifferences 44 = .ok (.iinc 5 1, 3) := by decide +kernel
theorem dX6_withDifferences_47 : decode cX6_withDifferences 47 = .ok (.goto (-42), 3) := by decide +kernel
theorem dX6_withDifferences_50 : decode cX6_withDifferences 50 = .ok (.lload_n 3, 1) := by decide +kernel
theorem dX6_withDifferences_51 : decode cX6_withDifferences 51 = .ok (.lreturn, 1) := by decide +kernel
theorem dX6_withFollower_0 : decode cX6_withFollower 0 = .ok (.lload_n 1, 1) := by decide +kernel
theorem dX6_withFollower_1 : decode cX6_withFollower 1 = .ok (.lstore 4, 2) := by decide +kernel
theorem dX6_withFollower_3 : decode cX6_withFollower 3 = .ok (.ldc2_w 241, 3) := by decide +kernel
theorem dX6_withFollower_6 : decode cX6_withFollower 6 = .ok (.lload 4, 2) := by decide +kernel
theorem dX6_withFollower_8 : decode cX6_withFollower 8 = .ok (.lmul, 1) := by decide +kernel
theorem dX6_withFollower_9 : decode cX6_withFollower 9 = .ok (.aload_n 3, 1) := by decide +kernel
theorem dX6_withFollower_10 : decode cX6_withFollower 10 = .ok (.invokevirtual 180, 3) := by decide +kernel
theorem dX6_withFollower_13 : decode cX6_withFollower 13 = .ok (.i2l, 1) := by decide +kernel
theorem dX6_withFollower_14 : decode cX6_withFollower 14 = .ok (.ladd, 1) := by decide +kernel
theorem dX6_withFollower_15 : decode cX6_withFollower 15 = .ok (.lstore 4, 2) := by decide +kernel
theorem dX6_withFollower_17 : decode cX6_withFollower 17 = .ok (.ldc2_w 241, 3) := by decide +kernel
theorem dX6_withFollower_20 : decode cX6_withFollower 20 = .ok (.lload 4, 2) := by decide +kernel
theorem dX6_withFollower_22 : decode cX6_withFollower 22 = .ok (.lmul, 1) := by decide +kernel
theorem dX6_withFollower_23 : decode cX6_withFollower 23 = .ok (.aload_n 3, 1) := by decide +kernel
theorem dX6_withFollower_24 : decode cX6_withFollower 24 = .ok (.invokevirtual 174, 3) := by decide +kernel
theorem dX6_withFollower_27 : decode cX6_withFollower 27 = .ok (.i2l, 1) := by decide +kernel
theorem dX6_withFollower_28 : decode cX6_withFollower 28 = .ok (.ladd, 1) := by decide +kernel
theorem dX6_withFollower_29 : decode cX6_withFollower 29 = .ok (.lstore 4, 2) := by decide +kernel
theorem dX6_withFollower_31 : decode cX6_withFollower 31 = .ok (.ldc2_w 241, 3) := by decide +kernel
theorem dX6_withFollower_34 : decode cX6_withFollower 34 = .ok (.lload 4, 2) := by decide +kernel
theorem dX6_withFollower_36 : decode cX6_withFollower 36 = .ok (.lmul, 1) := by decide +kernel
theorem dX6_withFollower_37 : decode cX6_withFollower 37 = .ok (.aload_n 3, 1) := by decide +kernel
theorem dX6_withFollower_38 : decode cX6_withFollower 38 = .ok (.invokevirtual 189, 3) := by decide +kernel
theorem dX6_withFollower_41 : decode cX6_withFollower 41 = .ok (.i2l, 1) := by decide +kernel
theorem dX6_withFollower_42 : decode cX6_withFollower 42 = .ok (.ladd, 1) := by decide +kernel
theorem dX6_withFollower_43 : decode cX6_withFollower 43 = .ok (.lstore 4, 2) := by decide +kernel
theorem dX6_withFollower_45 : decode cX6_withFollower 45 = .ok (.ldc2_w 241, 3) := by decide +kernel
theorem dX6_withFollower_48 : decode cX6_withFollower 48 = .ok (.lload 4, 2) := by decide +kernel
theorem dX6_withFollower_50 : decode cX6_withFollower 50 = .ok (.lmul, 1) := by decide +kernel
theorem dX6_withFollower_51 : decode cX6_withFollower 51 = .ok (.aload_n 3, 1) := by decide +kernel
theorem dX6_withFollower_52 : decode cX6_withFollower 52 = .ok (.getfield 192, 3) := by decide +kernel
theorem dX6_withFollower_55 : decode cX6_withFollower 55 = .ok (.i2l, 1) := by decide +kernel
theorem dX6_withFollower_56 : decode cX6_withFollower 56 = .ok (.ladd, 1) := by decide +kernel
theorem dX6_withFollower_57 : decode cX6_withFollower 57 = .ok (.lstore 4, 2) := by decide +kernel
theorem dX6_withFollower_59 : decode cX6_withFollower 59 = .ok (.ldc2_w 241, 3) := by decide +kernel
theorem dX6_withFollower_62 : decode cX6_withFollower 62 = .ok (.lload 4, 2) := by decide +kernel
theorem dX6_withFollower_64 : decode cX6_withFollower 64 = .ok (.lmul, 1) := by decide +kernel
theorem dX6_withFollower_65 : decode cX6_withFollower 65 = .ok (.aload_n 0, 1) := by decide +kernel
theorem dX6_withFollower_66 : decode cX6_withFollower 66 = .ok (.getfield 10, 3) := by decide +kernel
theorem dX6_withFollower_69 : decode cX6_withFollower 69 = .ok (.getfield 34, 3) := by decide +kernel
theorem dX6_withFollower_72 : decode cX6_withFollower 72 = .ok (.aload_n 3, 1) := by decide +kernel
theorem dX6_withFollower_73 : decode cX6_withFollower 73 = .ok (.invokevirtual 195, 3) := by decide +kernel
theorem dX6_withFollower_76 : decode cX6_withFollower 76 = .ok (.i2l, 1) := by decide +kernel
theorem dX6_withFollower_77 : decode cX6_withFollower 77 = .ok (.ladd, 1) := by decide +kernel
theorem dX6_withFollower_78 : decode cX6_withFollower 78 = .ok (.lstore 4, 2) := by decide +kernel
theorem dX6_withFollower_80 : decode cX6_withFollower 80 = .ok (.ldc2_w 241, 3) := by decide +kernel
theorem dX6_withFollower_83 : decode cX6_withFollower 83 = .ok (.lload 4, 2) := by decide +kernel
theorem dX6_withFollower_85 : decode cX6_withFollower 85 = .ok (.lmul, 1) := by decide +kernel
theorem dX6_withFollower_86 : decode cX6_withFollower 86 = .ok (.aload_n 0, 1) := by decide +kernel
theorem dX6_withFollower_87 : decode cX6_withFollower 87 = .ok (.getfield 10, 3) := by decide +kernel
theorem dX6_withFollower_90 : decode cX6_withFollower 90 = .ok (.aload_n 3, 1) := by decide +kernel
theorem dX6_withFollower_91 : decode cX6_withFollower 91 = .ok (.invokevirtual 198, 3) := by decide +kernel
theorem dX6_withFollower_94 : decode cX6_withFollower 94 = .ok (.i2l, 1) := by decide +kernel
theorem dX6_withFollower_95 : decode cX6_withFollower 95 = .ok (.ladd, 1) := by decide +kernel
theorem dX6_withFollower_96 : decode cX6_withFollower 96 = .ok (.lstore 4, 2) := by decide +kernel
theorem dX6_withFollower_98 : decode cX6_withFollower 98 = .ok (.ldc2_w 241, 3) := by decide +kernel
theorem dX6_withFollower_101 : decode cX6_withFollower 101 = .ok (.lload 4, 2) := by decide +kernel
theorem dX6_withFollower_103 : decode cX6_withFollower 103 = .ok (.lmul, 1) := by decide +kernel
theorem dX6_withFollower_104 : decode cX6_withFollower 104 = .ok (.aload_n 3, 1) := by decide +kernel
theorem dX6_withFollower_105 : decode cX6_withFollower 105 = .ok (.aload_n 0, 1) := by decide +kernel
theorem dX6_withFollower_106 : decode cX6_withFollower 106 = .ok (.getfield 10, 3) := by decide +kernel
theorem dX6_withFollower_109 : decode cX6_withFollower 109 = .ok (.getfield 34, 3) := by decide +kernel
theorem dX6_withFollower_112 : decode cX6_withFollower 112 = .ok (.getfield 120, 3) := by decide +kernel
theorem dX6_withFollower_115 : decode cX6_withFollower 115 = .ok (.invokevirtual 186, 3) := by decide +kernel
theorem dX6_withFollower_118 : decode cX6_withFollower 118 = .ok (.i2l, 1) := by decide +kernel
theorem dX6_withFollower_119 : decode cX6_withFollower 119 = .ok (.ladd, 1) := by decide +kernel
theorem dX6_withFollower_120 : decode cX6_withFollower 120 = .ok (.lstore 4, 2) := by decide +kernel
theorem dX6_withFollower_122 : decode cX6_withFollower 122 = .ok (.lload 4, 2) := by decide +kernel
theorem dX6_withFollower_124 : decode cX6_withFollower 124 = .ok (.lreturn, 1) := by decide +kernel
theorem dX6_withStreet_0 : decode cX6_withStreet 0 = .ok (.ldc2_w 241, 3) := by decide +kernel
theorem dX6_withStreet_3 : decode cX6_withStreet 3 = .ok (.lload_n 1, 1) := by decide +kernel
theorem dX6_withStreet_4 : decode cX6_withStreet 4 = .ok (.lmul, 1) := by decide +kernel
theorem dX6_withStreet_5 : decode cX6_withStreet 5 = .ok (.aload_n 0, 1) := by decide +kernel
theorem dX6_withStreet_6 : decode cX6_withStreet 6 = .ok (.getfield 10, 3) := by decide +kernel
theorem dX6_withStreet_9 : decode cX6_withStreet 9 = .ok (.getfield 34, 3) := by decide +kernel
theorem dX6_withStreet_12 : decode cX6_withStreet 12 = .ok (.iload_n 3, 1) := by decide +kernel
theorem dX6_withStreet_13 : decode cX6_withStreet 13 = .ok (.invokevirtual 123, 3) := by decide +kernel
theorem dX6_withStreet_16 : decode cX6_withStreet 16 = .ok (.i2l, 1) := by decide +kernel
theorem dX6_withStreet_17 : decode cX6_withStreet 17 = .ok (.ladd, 1) := by decide +kernel
theorem dX6_withStreet_18 : decode cX6_withStreet 18 = .ok (.lstore 4, 2) := by decide +kernel
theorem dX6_withStreet_20 : decode cX6_withStreet 20 = .ok (.iconst 0, 1) := by decide +kernel
theorem dX6_withStreet_21 : decode cX6_withStreet 21 = .ok (.istore 6, 2) := by decide +kernel
theorem dX6_withStreet_23 : decode cX6_withStreet 23 = .ok (.iload 6, 2) := by decide +kernel
theorem dX6_withStreet_25 : decode cX6_withStreet 25 = .ok (.iconst 4, 1) := by decide +kernel
theorem dX6_withStreet_26 : decode cX6_withStreet 26 = .ok (.if_icmp .ge 41, 3) := by decide +kernel
theorem dX6_withStreet_29 : decode cX6_withStreet 29 = .ok (.ldc2_w 241, 3) := by decide +kernel
theorem dX6_withStreet_32 : decode cX6_withStreet 32 = .ok (.lload 4, 2) := by decide +kernel
theorem dX6_withStreet_34 : decode cX6_withStreet 34 = .ok (.lmul, 1) := by decide +kernel
theorem dX6_withStreet_35 : decode cX6_withStreet 35 = .ok (.aload_n 0, 1) := by decide +kernel
theorem dX6_withStreet_36 : decode cX6_withStreet 36 = .ok (.getfield 10, 3) := by decide +kernel
theorem dX6_withStreet_39 : decode cX6_withStreet 39 = .ok (.getfield 201, 3) := by decide +kernel
theorem dX6_withStreet_42 : decode cX6_withStreet 42 = .ok (.iload 6, 2) := by decide +kernel
theorem dX6_withStreet_44 : decode cX6_withStreet 44 = .ok (.aaload, 1) := by decide +kernel
theorem dX6_withStreet_45 : decode cX6_withStreet 45 = .ok (.iload_n 3, 1) := by decide +kernel
theorem dX6_withStreet_46 : decode cX6_withStreet 46 = .ok (.invokevirtual 183, 3) := by decide +kernel
theorem dX6_withStreet_49 : decode cX6_withStreet 49 = .ok (.ifCond .eq 7, 3) := by decide +kernel
theorem dX6_withStreet_52 : decode cX6_withStreet 52 = .ok (.iconst 1, 1) := by decide +kernel
theorem dX6_withStreet_53 : decode cX6_withStreet 53 = .ok (.goto 4, 3) := by decide +kernel
theorem dX6_withStreet_56 : decode cX6_withStreet 56 = .ok (.iconst 0, 1) := by decide +kernel
theorem dX6_withStreet_57 : decode cX6_withStreet 57 = .ok (.i2l, 1) := by decide +kernel
theorem dX6_withStreet_58 : decode cX6_withStreet 58 = .ok (.ladd, 1) := by decide +kernel
theorem dX6_withStreet_59 : decode cX6_withStreet 59 = .ok (.lstore 4, 2) := by decide +kernel
theorem dX6_withStreet_61 : decode cX6_withStreet 61 = .ok (.iinc 6 1, 3) := by decide +kernel
theorem dX6_withStreet_64 : decode cX6_withStreet 64 = .ok (.goto (-41), 3) := by decide +kernel
theorem dX6_withStreet_67 : decode cX6_withStreet 67 = .ok (.lload 4, 2) := by decide +kernel
theorem dX6_withStreet_69 : decode cX6_withStreet 69 = .ok (.lreturn, 1) := by decide +kernel
theorem dX6_needStreet_0 : decode cX6_needStreet 0 = .ok (.iload_n 0, 1) := by decide +kernel
theorem dX6_needStreet_1 : decode cX6_needStreet 1 = .ok (.invokestatic 261, 3) := by decide +kernel
theorem dX6_needStreet_4 : decode cX6_needStreet 4 = .ok (.ifCond .ne 14, 3) := by decide +kernel
theorem dX6_needStreet_7 : decode cX6_needStreet 7 = .ok (.new 264, 3) := by decide +kernel
theorem dX6_needStreet_10 : decode cX6_needStreet 10 = .ok (.dup, 1) := by decide +kernel
theorem dX6_needStreet_11 : decode cX6_needStreet 11 = .ok (.ldc_w 266, 3) := by decide +kernel
theorem dX6_needStreet_14 : decode cX6_needStreet 14 = .ok (.invokespecial 268, 3) := by decide +kernel
theorem dX6_needStreet_17 : decode cX6_needStreet 17 = .ok (.athrow, 1) := by decide +kernel
theorem dX6_needStreet_18 : decode cX6_needStreet 18 = .ok (.return_, 1) := by decide +kernel
theorem dX6_needDifference_0 : decode cX6_needDifference 0 = .ok (.iload_n 1, 1) := by decide +kernel
theorem dX6_needDifference_1 : decode cX6_needDifference 1 = .ok (.ifCond .lt 20, 3) := by decide +kernel
theorem dX6_needDifference_4 : decode cX6_needDifference 4 = .ok (.iload_n 1, 1) := by decide +kernel
theorem dX6_needDifference_5 : decode cX6_needDifference 5 = .ok (.aload_n 0, 1) := by decide +kernel
theorem dX6_needDifference_6 : decode cX6_needDifference 6 = .ok (.getfield 10, 3) := by decide +kernel
theorem dX6_needDifference_9 : decode cX6_needDifference 9 = .ok (.getfield 34, 3) := by decide +kernel
theorem dX6_needDifference_12 : decode cX6_needDifference 12 = .ok (.getfield 95, 3) := by decide +kernel
theorem dX6_needDifference_15 : decode cX6_needDifference 15 = .ok (.getfield 126, 3) := by decide +kernel
theorem dX6_needDifference_18 : decode cX6_needDifference 18 = .ok (.if_icmp .lt 14, 3) := by decide +kernel
theorem dX6_needDifference_21 : decode cX6_needDifference 21 = .ok (.new 264, 3) := by decide +kernel
theorem dX6_needDifference_24 : decode cX6_needDifference 24 = .ok (.dup, 1) := by decide +kernel
theorem dX6_needDifference_25 : decode cX6_needDifference 25 = .ok (.ldc_w 269, 3) := by decide +kernel
theorem dX6_needDifference_28 : decode cX6_needDifference 28 = .ok (.invokespecial 268, 3) := by decide +kernel
theorem dX6_needDifference_31 : decode cX6_needDifference 31 = .ok (.athrow, 1) := by decide +kernel
theorem dX6_needDifference_32 : decode cX6_needDifference 32 = .ok (.return_, 1) := by decide +kernel
theorem dX6_followerNumbered_0 : decode cX6_followerNumbered 0 = .ok (.iload_n 1, 1) := by decide +kernel
theorem dX6_followerNumbered_1 : decode cX6_followerNumbered 1 = .ok (.invokestatic 271, 3) := by decide +kernel
theorem dX6_followerNumbered_4 : decode cX6_followerNumbered 4 = .ok (.ifCond .ne 14, 3) := by decide +kernel
theorem dX6_followerNumbered_7 : decode cX6_followerNumbered 7 = .ok (.new 264, 3) := by decide +kernel
theorem dX6_followerNumbered_10 : decode cX6_followerNumbered 10 = .ok (.dup, 1) := by decide +kernel
theorem dX6_followerNumbered_11 : decode cX6_followerNumbered 11 = .ok (.ldc_w 274, 3) := by decide +kernel
theorem dX6_followerNumbered_14 : decode cX6_followerNumbered 14 = .ok (.invokespecial 268, 3) := by decide +kernel
theorem dX6_followerNumbered_17 : decode cX6_followerNumbered 17 = .ok (.athrow, 1) := by decide +kernel
theorem dX6_followerNumbered_18 : decode cX6_followerNumbered 18 = .ok (.aload_n 0, 1) := by decide +kernel
theorem dX6_followerNumbered_19 : decode cX6_followerNumbered 19 = .ok (.getfield 10, 3) := by decide +kernel
theorem dX6_followerNumbered_22 : decode cX6_followerNumbered 22 = .ok (.getfield 201, 3) := by decide +kernel
theorem dX6_followerNumbered_25 : decode cX6_followerNumbered 25 = .ok (.iload_n 1, 1) := by decide +kernel
theorem dX6_followerNumbered_26 : decode cX6_followerNumbered 26 = .ok (.aaload, 1) := by decide +kernel
theorem dX6_followerNumbered_27 : decode cX6_followerNumbered 27 = .ok (.areturn, 1) := by decide +kernel
theorem dX6_needAwake_0 : decode cX6_needAwake 0 = .ok (.aload_n 0, 1) := by decide +kernel
theorem dX6_needAwake_1 : decode cX6_needAwake 1 = .ok (.getfield 163, 3) := by decide +kernel
theorem dX6_needAwake_4 : decode cX6_needAwake 4 = .ok (.ifCond .eq 14, 3) := by decide +kernel
theorem dX6_needAwake_7 : decode cX6_needAwake 7 = .ok (.new 44, 3) := by decide +kernel
theorem dX6_needAwake_10 : decode cX6_needAwake 10 = .ok (.dup, 1) := by decide +kernel
theorem dX6_needAwake_11 : decode cX6_needAwake 11 = .ok (.ldc_w 276, 3) := by decide +kernel
theorem dX6_needAwake_14 : decode cX6_needAwake 14 = .ok (.invokespecial 48, 3) := by decide +kernel
theorem dX6_needAwake_17 : decode cX6_needAwake 17 = .ok (.athrow, 1) := by decide +kernel
theorem dX6_needAwake_18 : decode cX6_needAwake 18 = .ok (.return_, 1) := by decide +kernel
theorem dX6_isStreet_0 : decode cX6_isStreet 0 = .ok (.iload_n 0, 1) := by decide +kernel
theorem dX6_isStreet_1 : decode cX6_isStreet 1 = .ok (.ifCond .lt 13, 3) := by decide +kernel
theorem dX6_isStreet_4 : decode cX6_isStreet 4 = .ok (.iload_n 0, 1) := by decide +kernel
theorem dX6_isStreet_5 : decode cX6_isStreet 5 = .ok (.bipush 30, 2) := by decide +kernel
theorem dX6_isStreet_7 : decode cX6_isStreet 7 = .ok (.if_icmp .ge 7, 3) := by decide +kernel
theorem dX6_isStreet_10 : decode cX6_isStreet 10 = .ok (.iconst 1, 1) := by decide +kernel
theorem dX6_isStreet_11 : decode cX6_isStreet 11 = .ok (.goto 4, 3) := by decide +kernel
theorem dX6_isStreet_14 : decode cX6_isStreet 14 = .ok (.iconst 0, 1) := by decide +kernel
theorem dX6_isStreet_15 : decode cX6_isStreet 15 = .ok (.ireturn, 1) := by decide +kernel
theorem dX6_isEdition_0 : decode cX6_isEdition 0 = .ok (.iload_n 0, 1) := by decide +kernel
theorem dX6_isEdition_1 : decode cX6_isEdition 1 = .ok (.ifCond .lt 13, 3) := by decide +kernel
theorem dX6_isEdition_4 : decode cX6_isEdition 4 = .ok (.iload_n 0, 1) := by decide +kernel
theorem dX6_isEdition_5 : decode cX6_isEdition 5 = .ok (.bipush 16, 2) := by decide +kernel
theorem dX6_isEdition_7 : decode cX6_isEdition 7 = .ok (.if_icmp .ge 7, 3) := by decide +kernel
theorem dX6_isEdition_10 : decode cX6_isEdition 10 = .ok (.iconst 1, 1) := by decide +kernel
theorem dX6_isEdition_11 : decode cX6_isEdition 11 = .ok (.goto 4, 3) := by decide +kernel
theorem dX6_isEdition_14 : decode cX6_isEdition 14 = .ok (.iconst 0, 1) := by decide +kernel
theorem dX6_isEdition_15 : decode cX6_isEdition 15 = .ok (.ireturn, 1) := by decide +kernel
theorem dX6_isFollower_0 : decode cX6_isFollower 0 = .ok (.iload_n 0, 1) := by decide +kernel
theorem dX6_isFollower_1 : decode cX6_isFollower 1 = .ok (.ifCond .lt 12, 3) := by decide +kernel
theorem dX6_isFollower_4 : decode cX6_isFollower 4 = .ok (.iload_n 0, 1) := by decide +kernel
theorem dX6_isFollower_5 : decode cX6_isFollower 5 = .ok (.iconst 4, 1) := by decide +kernel
theorem dX6_isFollower_6 : decode cX6_isFollower 6 = .ok (.if_icmp .ge 7, 3) := by decide +kernel
theorem dX6_isFollower_9 : decode cX6_isFollower 9 = .ok (.iconst 1, 1) := by decide +kernel
theorem dX6_isFollower_10 : decode cX6_isFollower 10 = .ok (.goto 4, 3) := by decide +kernel
theorem dX6_isFollower_13 : decode cX6_isFollower 13 = .ok (.iconst 0, 1) := by decide +kernel
theorem dX6_isFollower_14 : decode cX6_isFollower 14 = .ok (.ireturn, 1) := by decide +kernel
theorem dX6_isNewer_0 : decode cX6_isNewer 0 = .ok (.iload_n 0, 1) := by decide +kernel
theorem dX6_isNewer_1 : decode cX6_isNewer 1 = .ok (.iload_n 1, 1) := by decide +kernel
theorem dX6_isNewer_2 : decode cX6_isNewer 2 = .ok (.isub, 1) := by decide +kernel
theorem dX6_isNewer_3 : decode cX6_isNewer 3 = .ok (.bipush 16, 2) := by decide +kernel
theorem dX6_isNewer_5 : decode cX6_isNewer 5 = .ok (.iadd, 1) := by decide +kernel
theorem dX6_isNewer_6 : decode cX6_isNewer 6 = .ok (.bipush 16, 2) := by decide +kernel
theorem dX6_isNewer_8 : decode cX6_isNewer 8 = .ok (.irem, 1) := by decide +kernel
theorem dX6_isNewer_9 : decode cX6_isNewer 9 = .ok (.istore_n 2, 1) := by decide +kernel
theorem dX6_isNewer_10 : decode cX6_isNewer 10 = .ok (.iload_n 2, 1) := by decide +kernel
theorem dX6_isNewer_11 : decode cX6_isNewer 11 = .ok (.iconst 1, 1) := by decide +kernel
theorem dX6_isNewer_12 : decode cX6_isNewer 12 = .ok (.if_icmp .lt 13, 3) := by decide +kernel
theorem dX6_isNewer_15 : decode cX6_isNewer 15 = .ok (.iload_n 2, 1) := by decide +kernel
theorem dX6_isNewer_16 : decode cX6_isNewer 16 = .ok (.bipush 7, 2) := by decide +kernel
theorem dX6_isNewer_18 : decode cX6_isNewer 18 = .ok (.if_icmp .gt 7, 3) := by decide +kernel
theorem dX6_isNewer_21 : decode cX6_isNewer 21 = .ok (.iconst 1, 1) := by decide +kernel
theorem dX6_isNewer_22 : decode cX6_isNewer 22 = .ok (.goto 4, 3) := by decide +kernel
theorem dX6_isNewer_25 : decode cX6_isNewer 25 = .ok (.iconst 0, 1) := by decide +kernel
theorem dX6_isNewer_26 : decode cX6_isNewer 26 = .ok (.ireturn, 1) := by decide +kernel
theorem dX6_contains_0 : decode cX6_contains 0 = .ok (.iload_n 0, 1) := by decide +kernel
theorem dX6_contains_1 : decode cX6_contains 1 = .ok (.iconst 1, 1) := by decide +kernel
theorem dX6_contains_2 : decode cX6_contains 2 = .ok (.iload_n 1, 1) := by decide +kernel
theorem dX6_contains_3 : decode cX6_contains 3 = .ok (.ishl, 1) := by decide +kernel
theorem dX6_contains_4 : decode cX6_contains 4 = .ok (.iand, 1) := by decide +kernel
theorem dX6_contains_5 : decode cX6_contains 5 = .ok (.ifCond .eq 7, 3) := by decide +kernel
theorem dX6_contains_8 : decode cX6_contains 8 = .ok (.iconst 1, 1) := by decide +kernel
theorem dX6_contains_9 : decode cX6_contains 9 = .ok (.goto 4, 3) := by decide +kernel
theorem dX6_contains_12 : decode cX6_contains 12 = .ok (.iconst 0, 1) := by decide +kernel
theorem dX6_contains_13 : decode cX6_contains 13 = .ok (.ireturn, 1) := by decide +kernel
theorem dJ6_bitCount_0f7a4_0 : decode cJ6_bitCount_0f7a4 0 = .ok (.iload_n 0, 1) := by decide +kernel
theorem dJ6_bitCount_0f7a4_1 : decode cJ6_bitCount_0f7a4 1 = .ok (.iload_n 0, 1) := by decide +kernel
theorem dJ6_bitCount_0f7a4_2 : decode cJ6_bitCount_0f7a4 2 = .ok (.iconst 1, 1) := by decide +kernel
theorem dJ6_bitCount_0f7a4_3 : decode cJ6_bitCount_0f7a4 3 = .ok (.iushr, 1) := by decide +kernel
theorem dJ6_bitCount_0f7a4_4 : decode cJ6_bitCount_0f7a4 4 = .ok (.ldc_w 265, 3) := by decide +kernel
theorem dJ6_bitCount_0f7a4_7 : decode cJ6_bitCount_0f7a4 7 = .ok (.iand, 1) := by decide +kernel
theorem dJ6_bitCount_0f7a4_8 : decode cJ6_bitCount_0f7a4 8 = .ok (.isub, 1) := by decide +kernel
theorem dJ6_bitCount_0f7a4_9 : decode cJ6_bitCount_0f7a4 9 = .ok (.istore_n 0, 1) := by decide +kernel
theorem dJ6_bitCount_0f7a4_10 : decode cJ6_bitCount_0f7a4 10 = .ok (.iload_n 0, 1) := by decide +kernel
theorem dJ6_bitCount_0f7a4_11 : decode cJ6_bitCount_0f7a4 11 = .ok (.ldc_w 266, 3) := by decide +kernel
theorem dJ6_bitCount_0f7a4_14 : decode cJ6_bitCount_0f7a4 14 = .ok (.iand, 1) := by decide +kernel
theorem dJ6_bitCount_0f7a4_15 : decode cJ6_bitCount_0f7a4 15 = .ok (.iload_n 0, 1) := by decide +kernel
theorem dJ6_bitCount_0f7a4_16 : decode cJ6_bitCount_0f7a4 16 = .ok (.iconst 2, 1) := by decide +kernel
theorem dJ6_bitCount_0f7a4_17 : decode cJ6_bitCount_0f7a4 17 = .ok (.iushr, 1) := by decide +kernel
theorem dJ6_bitCount_0f7a4_18 : decode cJ6_bitCount_0f7a4 18 = .ok (.ldc_w 266, 3) := by decide +kernel
theorem dJ6_bitCount_0f7a4_21 : decode cJ6_bitCount_0f7a4 21 = .ok (.iand, 1) := by decide +kernel
theorem dJ6_bitCount_0f7a4_22 : decode cJ6_bitCount_0f7a4 22 = .ok (.iadd, 1) := by decide +kernel
theorem dJ6_bitCount_0f7a4_23 : decode cJ6_bitCount_0f7a4 23 = .ok (.istore_n 0, 1) := by decide +kernel
theorem dJ6_bitCount_0f7a4_24 : decode cJ6_bitCount_0f7a4 24 = .ok (.iload_n 0, 1) := by decide +kernel
theorem dJ6_bitCount_0f7a4_25 : decode cJ6_bitCount_0f7a4 25 = .ok (.iload_n 0, 1) := by decide +kernel
theorem dJ6_bitCount_0f7a4_26 : decode cJ6_bitCount_0f7a4 26 = .ok (.iconst 4, 1) := by decide +kernel
theorem dJ6_bitCount_0f7a4_27 : decode cJ6_bitCount_0f7a4 27 = .ok (.iushr, 1) := by decide +kernel
theorem dJ6_bitCount_0f7a4_28 : decode cJ6_bitCount_0f7a4 28 = .ok (.iadd, 1) := by decide +kernel
theorem dJ6_bitCount_0f7a4_29 : decode cJ6_bitCount_0f7a4 29 = .ok (.ldc_w 267, 3) := by decide +kernel
theorem dJ6_bitCount_0f7a4_32 : decode cJ6_bitCount_0f7a4 32 = .ok (.iand, 1) := by decide +kernel
theorem dJ6_bitCount_0f7a4_33 : decode cJ6_bitCount_0f7a4 33 = .ok (.istore_n 0, 1) := by decide +kernel
theorem dJ6_bitCount_0f7a4_34 : decode cJ6_bitCount_0f7a4 34 = .ok (.iload_n 0, 1) := by decide +kernel
theorem dJ6_bitCount_0f7a4_35 : decode cJ6_bitCount_0f7a4 35 = .ok (.iload_n 0, 1) := by decide +kernel
theorem dJ6_bitCount_0f7a4_36 : decode cJ6_bitCount_0f7a4 36 = .ok (.bipush 8, 2) := by decide +kernel
theorem dJ6_bitCount_0f7a4_38 : decode cJ6_bitCount_0f7a4 38 = .ok (.iushr, 1) := by decide +kernel
theorem dJ6_bitCount_0f7a4_39 : decode cJ6_bitCount_0f7a4 39 = .ok (.iadd, 1) := by decide +kernel
theorem dJ6_bitCount_0f7a4_40 : decode cJ6_bitCount_0f7a4 40 = .ok (.istore_n 0, 1) := by decide +kernel
theorem dJ6_bitCount_0f7a4_41 : decode cJ6_bitCount_0f7a4 41 = .ok (.iload_n 0, 1) := by decide +kernel
theorem dJ6_bitCount_0f7a4_42 : decode cJ6_bitCount_0f7a4 42 = .ok (.iload_n 0, 1) := by decide +kernel
theorem dJ6_bitCount_0f7a4_43 : decode cJ6_bitCount_0f7a4 43 = .ok (.bipush 16, 2) := by decide +kernel
theorem dJ6_bitCount_0f7a4_45 : decode cJ6_bitCount_0f7a4 45 = .ok (.iushr, 1) := by decide +kernel
theorem dJ6_bitCount_0f7a4_46 : decode cJ6_bitCount_0f7a4 46 = .ok (.iadd, 1) := by decide +kernel
theorem dJ6_bitCount_0f7a4_47 : decode cJ6_bitCount_0f7a4 47 = .ok (.istore_n 0, 1) := by decide +kernel
theorem dJ6_bitCount_0f7a4_48 : decode cJ6_bitCount_0f7a4 48 = .ok (.iload_n 0, 1) := by decide +kernel
theorem dJ6_bitCount_0f7a4_49 : decode cJ6_bitCount_0f7a4 49 = .ok (.bipush 63, 2) := by decide +kernel
theorem dJ6_bitCount_0f7a4_51 : decode cJ6_bitCount_0f7a4 51 = .ok (.iand, 1) := by decide +kernel
theorem dJ6_bitCount_0f7a4_52 : decode cJ6_bitCount_0f7a4 52 = .ok (.ireturn, 1) := by decide +kernel
theorem dJ9_min_7cf53_0 : decode cJ9_min_7cf53 0 = .ok (.iload_n 0, 1) := by decide +kernel
theorem dJ9_min_7cf53_1 : decode cJ9_min_7cf53 1 = .ok (.iload_n 1, 1) := by decide +kernel
theorem dJ9_min_7cf53_2 : decode cJ9_min_7cf53 2 = .ok (.if_icmp .gt 7, 3) := by decide +kernel
theorem dJ9_min_7cf53_5 : decode cJ9_min_7cf53 5 = .ok (.iload_n 0, 1) := by decide +kernel
theorem dJ9_min_7cf53_6 : decode cJ9_min_7cf53 6 = .ok (.goto 4, 3) := by decide +kernel
theorem dJ9_min_7cf53_9 : decode cJ9_min_7cf53 9 = .ok (.iload_n 1, 1) := by decide +kernel
theorem dJ9_min_7cf53_10 : decode cJ9_min_7cf53 10 = .ok (.ireturn, 1) := by decide +kernel
end
section
theorem dX7_init_0 : decode cX7_init 0 = .ok (.aload_n 0, 1) := by decide +kernel
theorem dX7_init_1 : decode cX7_init 1 = .ok (.invokespecial 1, 3) := by decide +kernel
theorem dX7_init_4 : decode cX7_init 4 = .ok (.aload_n 0, 1) := by decide +kernel
theorem dX7_init_5 : decode cX7_init 5 = .ok (.bipush 48, 2) := by decide +kernel
theorem dX7_init_7 : decode cX7_init 7 = .ok (.newarray .int, 2) := by decide +kernel
theorem dX7_init_9 : decode cX7_init 9 = .ok (.putfield 7, 3) := by decide +kernel
theorem dX7_init_12 : decode cX7_init 12 = .ok (.aload_n 0, 1) := by decide +kernel
theorem dX7_init_13 : decode cX7_init 13 = .ok (.sipush 288, 3) := by decide +kernel
theorem dX7_init_16 : decode cX7_init 16 = .ok (.newarray .int, 2) := by decide +kernel
theorem dX7_init_18 : decode cX7_init 18 = .ok (.putfield 13, 3) := by decide +kernel
theorem dX7_init_21 : decode cX7_init 21 = .ok (.aload_n 0, 1) := by decide +kernel
theorem dX7_init_22 : decode cX7_init 22 = .ok (.bipush 60, 2) := by decide +kernel
theorem dX7_init_24 : decode cX7_init 24 = .ok (.newarray .int, 2) := by decide +kernel
theorem dX7_init_26 : decode cX7_init 26 = .ok (.putfield 16, 3) := by decide +kernel
theorem dX7_init_29 : decode cX7_init 29 = .ok (.aload_n 0, 1) := by decide +kernel
theorem dX7_init_30 : decode cX7_init 30 = .ok (.getfield 7, 3) := by decide +kernel
theorem dX7_init_33 : decode cX7_init 33 = .ok (.iconst 3, 1) := by decide +kernel
theorem dX7_init_34 : decode cX7_init 34 = .ok (.iconst 3, 1) := by decide +kernel
theorem dX7_init_35 : decode cX7_init 35 = .ok (.iastore, 1) := by decide +kernel
theorem dX7_init_36 : decode cX7_init 36 = .ok (.return_, 1) := by decide +kernel
theorem dX7_thrown_0 : decode cX7_thrown 0 = .ok (.aload_n 0, 1) := by decide +kernel
theorem dX7_thrown_1 : decode cX7_thrown 1 = .ok (.getfield 19, 3) := by decide +kernel
theorem dX7_thrown_4 : decode cX7_thrown 4 = .ok (.ireturn, 1) := by decide +kernel
theorem dX7_fails_0 : decode cX7_fails 0 = .ok (.aload_n 0, 1) := by decide +kernel
theorem dX7_fails_1 : decode cX7_fails 1 = .ok (.iload_n 1, 1) := by decide +kernel
theorem dX7_fails_2 : decode cX7_fails 2 = .ok (.putfield 19, 3) := by decide +kernel
theorem dX7_fails_5 : decode cX7_fails 5 = .ok (.iconst 0, 1) := by decide +kernel
theorem dX7_fails_6 : decode cX7_fails 6 = .ok (.ireturn, 1) := by decide +kernel
theorem dX7_within_0 : decode cX7_within 0 = .ok (.iload_n 0, 1) := by decide +kernel
theorem dX7_within_1 : decode cX7_within 1 = .ok (.iload_n 1, 1) := by decide +kernel
theorem dX7_within_2 : decode cX7_within 2 = .ok (.if_icmp .lt 12, 3) := by decide +kernel
theorem dX7_within_5 : decode cX7_within 5 = .ok (.iload_n 0, 1) := by decide +kernel
theorem dX7_within_6 : decode cX7_within 6 = .ok (.iload_n 2, 1) := by decide +kernel
theorem dX7_within_7 : decode cX7_within 7 = .ok (.if_icmp .gt 7, 3) := by decide +kernel
theorem dX7_within_10 : decode cX7_within 10 = .ok (.iconst 1, 1) := by decide +kernel
theorem dX7_within_11 : decode cX7_within 11 = .ok (.goto 4, 3) := by decide +kernel
theorem dX7_within_14 : decode cX7_within 14 = .ok (.iconst 0, 1) := by decide +kernel
theorem dX7_within_15 : decode cX7_within 15 = .ok (.ireturn, 1) := by decide +kernel
theorem dX7_isStreet_0 : decode cX7_isStreet 0 = .ok (.iload_n 0, 1) := by decide +kernel
theorem dX7_isStreet_1 : decode cX7_isStreet 1 = .ok (.iconst 0, 1) := by decide +kernel
theorem dX7_isStreet_2 : decode cX7_isStreet 2 = .ok (.bipush 29, 2) := by decide +kernel
theorem dX7_isStreet_4 : decode cX7_isStreet 4 = .ok (.invokestatic 23, 3) := by decide +kernel
theorem dX7_isStreet_7 : decode cX7_isStreet 7 = .ok (.ireturn, 1) := by decide +kernel
theorem dX7_isEdition_0 : decode cX7_isEdition 0 = .ok (.iload_n 0, 1) := by decide +kernel
theorem dX7_isEdition_1 : decode cX7_isEdition 1 = .ok (.iconst 0, 1) := by decide +kernel
theorem dX7_isEdition_2 : decode cX7_isEdition 2 = .ok (.bipush 15, 2) := by decide +kernel
theorem dX7_isEdition_4 : decode cX7_isEdition 4 = .ok (.invokestatic 23, 3) := by decide +kernel
theorem dX7_isEdition_7 : decode cX7_isEdition 7 = .ok (.ireturn, 1) := by decide +kernel
theorem dX7_isFollower_0 : decode cX7_isFollower 0 = .ok (.iload_n 0, 1) := by decide +kernel
theorem dX7_isFollower_1 : decode cX7_isFollower 1 = .ok (.iconst 0, 1) := by decide +kernel
theorem dX7_isFollower_2 : decode cX7_isFollower 2 = .ok (.iconst 3, 1) := by decide +kernel
theorem dX7_isFollower_3 : decode cX7_isFollower 3 = .ok (.invokestatic 23, 3) := by decide +kernel
theorem dX7_isFollower_6 : decode cX7_isFollower 6 = .ok (.ireturn, 1) := by decide +kernel
theorem dX7_ones_0 : decode cX7_ones 0 = .ok (.iconst 0, 1) := by decide +kernel
theorem dX7_ones_1 : decode cX7_ones 1 = .ok (.istore_n 1, 1) := by decide +kernel
theorem dX7_ones_2 : decode cX7_ones 2 = .ok (.iconst 0, 1) := by decide +kernel
theorem dX7_ones_3 : decode cX7_ones 3 = .ok (.istore_n 2, 1) := by decide +kernel
theorem dX7_ones_4 : decode cX7_ones 4 = .ok (.iload_n 2, 1) := by decide +kernel
theorem dX7_ones_5 : decode cX7_ones 5 = .ok (.bipush 30, 2) := by decide +kernel
theorem dX7_ones_7 : decode cX7_ones 7 = .ok (.if_icmp .ge 17, 3) := by decide +kernel
theorem dX7_ones_10 : decode cX7_ones 10 = .ok (.iload_n 1, 1) := by decide +kernel
theorem dX7_ones_11 : decode cX7_ones 11 = .ok (.iload_n 0, 1) := by decide +kernel
theorem dX7_ones_12 : decode cX7_ones 12 = .ok (.iload_n 2, 1) := by decide +kernel
theorem dX7_ones_13 : decode cX7_ones 13 = .ok (.ishr, 1) := by decide +kernel
theorem dX7_ones_14 : decode cX7_ones 14 = .ok (.iconst 1, 1) := by decide +kernel
theorem dX7_ones_15 : decode cX7_ones 15 = .ok (.iand, 1) := by decide +kernel
theorem dX7_ones_16 : decode cX7_ones 16 = .ok (.iadd, 1) := by decide +kernel
theorem dX7_ones_17 : decode cX7_ones 17 = .ok (.istore_n 1, 1) := by decide +kernel
theorem dX7_ones_18 : decode cX7_ones 18 = .ok (.iinc 2 1, 3) := by decide +kernel
theorem dX7_ones_21 : decode cX7_ones 21 = .ok (.goto (-17), 3) := by decide +kernel
theorem dX7_ones_24 : decode cX7_ones 24 = .ok (.iload_n 1, 1) := by decide +kernel
theorem dX7_ones_25 : decode cX7_ones 25 = .ok (.ireturn, 1) := by decide +kernel
theorem dX7_of_0 : decode cX7_of 0 = .ok (.aload_n 0, 1) := by decide +kernel
theorem dX7_of_1 : decode cX7_of 1 = .ok (.getfield 7, 3) := by decide +kernel
theorem dX7_of_4 : decode cX7_of 4 = .ok (.bipush 24, 2) := by decide +kernel
theorem dX7_of_6 : decode cX7_of 6 = .ok (.bipush 6, 2) := by decide +kernel
theorem dX7_of_8 : decode cX7_of 8 = .ok (.iload_n 1, 1) := by decide +kernel
theorem dX7_of_9 : decode cX7_of 9 = .ok (.imul, 1) := by decide +kernel
theorem dX7_of_10 : decode cX7_of 10 = .ok (.iadd, 1) := by decide +kernel
theorem dX7_of_11 : decode cX7_of 11 = .ok (.iload_n 2, 1) := by decide +kernel
theorem dX7_of_12 : decode cX7_of 12 = .ok (.iadd, 1) := by decide +kernel
theorem dX7_of_13 : decode cX7_of 13 = .ok (.iaload, 1) := by decide +kernel
theorem dX7_of_14 : decode cX7_of 14 = .ok (.ireturn, 1) := by decide +kernel
theorem dX7_setOf_0 : decode cX7_setOf 0 = .ok (.aload_n 0, 1) := by decide +kernel
theorem dX7_setOf_1 : decode cX7_setOf 1 = .ok (.getfield 7, 3) := by decide +kernel
theorem dX7_setOf_4 : decode cX7_setOf 4 = .ok (.bipush 24, 2) := by decide +kernel
theorem dX7_setOf_6 : decode cX7_setOf 6 = .ok (.bipush 6, 2) := by decide +kernel
theorem dX7_setOf_8 : decode cX7_setOf 8 = .ok (.iload_n 1, 1) := by decide +kernel
theorem dX7_setOf_9 : decode cX7_setOf 9 = .ok (.imul, 1) := by decide +kernel
theorem dX7_setOf_10 : decode cX7_setOf 10 = .ok (.iadd, 1) := by decide +kernel
theorem dX7_setOf_11 : decode cX7_setOf 11 = .ok (.iload_n 2, 1) := by decide +kernel
theorem dX7_setOf_12 : decode cX7_setOf 12 = .ok (.iadd, 1) := by decide +kernel
theorem dX7_setOf_13 : decode cX7_setOf 13 = .ok (.iload_n 3, 1) := by decide +kernel
theorem dX7_setOf_14 : decode cX7_setOf 14 = .ok (.iastore, 1) := by decide +kernel
theorem dX7_setOf_15 : decode cX7_setOf 15 = .ok (.return_, 1) := by decide +kernel
theorem dX7_ofDifference_0 : decode cX7_ofDifference 0 = .ok (.aload_n 0, 1) := by decide +kernel
theorem dX7_ofDifference_1 : decode cX7_ofDifference 1 = .ok (.getfield 7, 3) := by decide +kernel
theorem dX7_ofDifference_4 : decode cX7_ofDifference 4 = .ok (.bipush 6, 2) := by decide +kernel
theorem dX7_ofDifference_6 : decode cX7_ofDifference 6 = .ok (.iconst 3, 1) := by decide +kernel
theorem dX7_ofDifference_7 : decode cX7_ofDifference 7 = .ok (.iload_n 1, 1) := by decide +kernel
theorem dX7_ofDifference_8 : decode cX7_ofDifference 8 = .ok (.imul, 1) := by decide +kernel
theorem dX7_ofDifference_9 : decode cX7_ofDifference 9 = .ok (.iadd, 1) := by decide +kernel
theorem dX7_ofDifference_10 : decode cX7_ofDifference 10 = .ok (.iload_n 2, 1) := by decide +kernel
theorem dX7_ofDifference_11 : decode cX7_ofDifference 11 = .ok (.iadd, 1) := by decide +kernel
theorem dX7_ofDifference_12 : decode cX7_ofDifference 12 = .ok (.iaload, 1) := by decide +kernel
theorem dX7_ofDifference_13 : decode cX7_ofDifference 13 = .ok (.ireturn, 1) := by decide +kernel
theorem dX7_save_0 : decode cX7_save 0 = .ok (.aload_n 0, 1) := by decide +kernel
theorem dX7_save_1 : decode cX7_save 1 = .ok (.getfield 27, 3) := by decide +kernel
theorem dX7_save_4 : decode cX7_save 4 = .ok (.bipush 6, 2) := by decide +kernel
theorem dX7_save_6 : decode cX7_save 6 = .ok (.if_icmp .ne 43, 3) := by decide +kernel
theorem dX7_save_9 : decode cX7_save 9 = .ok (.iconst 0, 1) := by decide +kernel
theorem dX7_save_10 : decode cX7_save 10 = .ok (.istore_n 1, 1) := by decide +kernel
theorem dX7_save_11 : decode cX7_save 11 = .ok (.iload_n 1, 1) := by decide +kernel
theorem dX7_save_12 : decode cX7_save 12 = .ok (.sipush 240, 3) := by decide +kernel
theorem dX7_save_15 : decode cX7_save 15 = .ok (.if_icmp .ge 24, 3) := by decide +kernel
theorem dX7_save_18 : decode cX7_save 18 = .ok (.aload_n 0, 1) := by decide +kernel
theorem dX7_save_19 : decode cX7_save 19 = .ok (.getfield 13, 3) := by decide +kernel
theorem dX7_save_22 : decode cX7_save 22 = .ok (.iload_n 1, 1) := by decide +kernel
theorem dX7_save_23 : decode cX7_save 23 = .ok (.aload_n 0, 1) := by decide +kernel
theorem dX7_save_24 : decode cX7_save 24 = .ok (.getfield 13, 3) := by decide +kernel
theorem dX7_save_27 : decode cX7_save 27 = .ok (.iload_n 1, 1) := by decide +kernel
theorem dX7_save_28 : decode cX7_save 28 = .ok (.bipush 48, 2) := by decide +kernel
theorem dX7_save_30 : decode cX7_save 30 = .ok (.iadd, 1) := by decide +kernel
theorem dX7_save_31 : decode cX7_save 31 = .ok (.iaload, 1) := by decide +kernel
theorem dX7_save_32 : decode cX7_save 32 = .ok (.iastore, 1) := by decide +kernel
theorem dX7_save_33 : decode cX7_save 33 = .ok (.iinc 1 1, 3) := by decide +kernel
theorem dX7_save_36 : decode cX7_save 36 = .ok (.goto (-25), 3) := by decide +kernel
theorem dX7_save_39 : decode cX7_save 39 = .ok (.aload_n 0, 1) := by decide +kernel
theorem dX7_save_40 : decode cX7_save 40 = .ok (.dup, 1) := by decide +kernel
theorem dX7_save_41 : decode cX7_save 41 = .ok (.getfield 27, 3) := by decide +kernel
theorem dX7_save_44 : decode cX7_save 44 = .ok (.iconst 1, 1) := by decide +kernel
theorem dX7_save_45 : decode cX7_save 45 = .ok (.isub, 1) := by decide +kernel
theorem dX7_save_46 : decode cX7_save 46 = .ok (.putfield 27, 3) := by decide +kernel
theorem dX7_save_49 : decode cX7_save 49 = .ok (.iconst 0, 1) := by decide +kernel
theorem dX7_save_50 : decode cX7_save 50 = .ok (.istore_n 1, 1) := by decide +kernel
theorem dX7_save_51 : decode cX7_save 51 = .ok (.iload_n 1, 1) := by decide +kernel
theorem dX7_save_52 : decode cX7_save 52 = .ok (.bipush 48, 2) := by decide +kernel
theorem dX7_save_54 : decode cX7_save 54 = .ok (.if_icmp .ge 29, 3) := by decide +kernel
theorem dX7_save_57 : decode cX7_save 57 = .ok (.aload_n 0, 1) := by decide +kernel
theorem dX7_save_58 : decode cX7_save 58 = .ok (.getfield 13, 3) := by decide +kernel
theorem dX7_save_61 : decode cX7_save 61 = .ok (.aload_n 0, 1) := by decide +kernel
theorem dX7_save_62 : decode cX7_save 62 = .ok (.getfield 27, 3) := by decide +kernel
theorem dX7_save_65 : decode cX7_save 65 = .ok (.bipush 48, 2) := by decide +kernel
theorem dX7_save_67 : decode cX7_save 67 = .ok (.imul, 1) := by decide +kernel
theorem dX7_save_68 : decode cX7_save 68 = .ok (.iload_n 1, 1) := by decide +kernel
theorem dX7_save_69 : decode cX7_save 69 = .ok (.iadd, 1) := by decide +kernel
theorem dX7_save_70 : decode cX7_save 70 = .ok (.aload_n 0, 1) := by decide +kernel
theorem dX7_save_71 : decode cX7_save 71 = .ok (.getfield 7, 3) := by decide +kernel
theorem dX7_save_74 : decode cX7_save 74 = .ok (.iload_n 1, 1) := by decide +kernel
theorem dX7_save_75 : decode cX7_save 75 = .ok (.iaload, 1) := by decide +kernel
theorem dX7_save_76 : decode cX7_save 76 = .ok (.iastore, 1) := by decide +kernel
theorem dX7_save_77 : decode cX7_save 77 = .ok (.iinc 1 1, 3) := by decide +kernel
theorem dX7_save_80 : decode cX7_save 80 = .ok (.goto (-29), 3) := by decide +kernel
theorem dX7_save_83 : decode cX7_save 83 = .ok (.aload_n 0, 1) := by decide +kernel
theorem dX7_save_84 : decode cX7_save 84 = .ok (.dup, 1) := by decide +kernel
theorem dX7_save_85 : decode cX7_save 85 = .ok (.getfield 27, 3) := by decide +kernel
theorem dX7_save_88 : decode cX7_save 88 = .ok (.iconst 1, 1) := by decide +kernel
theorem dX7_save_89 : decode cX7_save 89 = .ok (.iadd, 1) := by decide +kernel
theorem dX7_save_90 : decode cX7_save 90 = .ok (.putfield 27, 3) := by decide +kernel
theorem dX7_save_93 : decode cX7_save 93 = .ok (.return_, 1) := by decide +kernel
theorem dX7_undo_0 : decode cX7_undo 0 = .ok (.aload_n 0, 1) := by decide +kernel
theorem dX7_undo_1 : decode cX7_undo 1 = .ok (.iconst 0, 1) := by decide +kernel
theorem dX7_undo_2 : decode cX7_undo 2 = .ok (.putfield 19, 3) := by decide +kernel
theorem dX7_undo_5 : decode cX7_undo 5 = .ok (.aload_n 0, 1) := by decide +kernel
theorem dX7_undo_6 : decode cX7_undo 6 = .ok (.getfield 27, 3) := by decide +kernel
theorem dX7_undo_9 : decode cX7_undo 9 = .ok (.ifCond .ne 9, 3) := by decide +kernel
theorem dX7_undo_12 : decode cX7_undo 12 = .ok (.aload_n 0, 1) := by decide +kernel
theorem dX7_undo_13 : decode cX7_undo 13 = .ok (.iconst 1, 1) := by decide +kernel
theorem dX7_undo_14 : decode cX7_undo 14 = .ok (.invokevirtual 30, 3) := by decide +kernel
theorem dX7_undo_17 : decode cX7_undo 17 = .ok (.ireturn, 1) := by decide +kernel
theorem dX7_undo_18 : decode cX7_undo 18 = .ok (.aload_n 0, 1) := by decide +kernel
theorem dX7_undo_19 : decode cX7_undo 19 = .ok (.dup, 1) := by decide +kernel
theorem dX7_undo_20 : decode cX7_undo 20 = .ok (.getfield 27, 3) := by decide +kernel
theorem dX7_undo_23 : decode cX7_undo 23 = .ok (.iconst 1, 1) := by decide +kernel
theorem dX7_undo_24 : decode cX7_undo 24 = .ok (.isub, 1) := by decide +kernel
theorem dX7_undo_25 : decode cX7_undo 25 = .ok (.putfield 27, 3) := by decide +kernel
theorem dX7_undo_28 : decode cX7_undo 28 = .ok (.iconst 0, 1) := by decide +kernel
theorem dX7_undo_29 : decode cX7_undo 29 = .ok (.istore_n 1, 1) := by decide +kernel
theorem dX7_undo_30 : decode cX7_undo 30 = .ok (.iload_n 1, 1) := by decide +kernel
theorem dX7_undo_31 : decode cX7_undo 31 = .ok (.bipush 48, 2) := by decide +kernel
theorem dX7_undo_33 : decode cX7_undo 33 = .ok (.if_icmp .ge 29, 3) := by decide +kernel
theorem dX7_undo_36 : decode cX7_undo 36 = .ok (.aload_n 0, 1) := by decide +kernel
theorem dX7_undo_37 : decode cX7_undo 37 = .ok (.getfield 7, 3) := by decide +kernel
theorem dX7_undo_40 : decode cX7_undo 40 = .ok (.iload_n 1, 1) := by decide +kernel
theorem dX7_undo_41 : decode cX7_undo 41 = .ok (.aload_n 0, 1) := by decide +kernel
theorem dX7_undo_42 : decode cX7_undo 42 = .ok (.getfield 13, 3) := by decide +kernel
theorem dX7_undo_45 : decode cX7_undo 45 = .ok (.aload_n 0, 1) := by decide +kernel
theorem dX7_undo_46 : decode cX7_undo 46 = .ok (.getfield 27, 3) := by decide +kernel
theorem dX7_undo_49 : decode cX7_undo 49 = .ok (.bipush 48, 2) := by decide +kernel
theorem dX7_undo_51 : decode cX7_undo 51 = .ok (.imul, 1) := by decide +kernel
theorem dX7_undo_52 : decode cX7_undo 52 = .ok (.iload_n 1, 1) := by decide +kernel
theorem dX7_undo_53 : decode cX7_undo 53 = .ok (.iadd, 1) := by decide +kernel
theorem dX7_undo_54 : decode cX7_undo 54 = .ok (.iaload, 1) := by decide +kernel
theorem dX7_undo_55 : decode cX7_undo 55 = .ok (.iastore, 1) := by decide +kernel
theorem dX7_undo_56 : decode cX7_undo 56 = .ok (.iinc 1 1, 3) := by decide +kernel
theorem dX7_undo_59 : decode cX7_undo 59 = .ok (.goto (-29), 3) := by decide +kernel
theorem dX7_undo_62 : decode cX7_undo 62 = .ok (.aload_n 0, 1) := by decide +kernel
theorem dX7_undo_63 : decode cX7_undo 63 = .ok (.getfield 27, 3) := by decide +kernel
theorem dX7_undo_66 : decode cX7_undo 66 = .ok (.ireturn, 1) := by decide +kernel
theorem dX7_savedStates_0 : decode cX7_savedStates 0 = .ok (.aload_n 0, 1) := by decide +kernel
theorem dX7_savedStates_1 : decode cX7_savedStates 1 = .ok (.iconst 0, 1) := by decide +kernel
theorem dX7_savedStates_2 : decode cX7_savedStates 2 = .ok (.putfield 19, 3) := by decide +kernel
theorem dX7_savedStates_5 : decode cX7_savedStates 5 = .ok (.aload_n 0, 1) := by decide +kernel
theorem dX7_savedStates_6 : decode cX7_savedStates 6 = .ok (.getfield 27, 3) := by decide +kernel
theorem dX7_savedStates_9 : decode cX7_savedStates 9 = .ok (.ireturn, 1) := by decide +kernel
theorem dX7_dropOldest_0 : decode cX7_dropOldest 0 = .ok (.aload_n 0, 1) := by decide +kernel
theorem dX7_dropOldest_1 : decode cX7_dropOldest 1 = .ok (.getfield 7, 3) := by decide +kernel
theorem dX7_dropOldest_4 : decode cX7_dropOldest 4 = .ok (.iconst 4, 1) := by decide +kernel
theorem dX7_dropOldest_5 : decode cX7_dropOldest 5 = .ok (.dup2, 1) := by decide +kernel
theorem dX7_dropOldest_6 : decode cX7_dropOldest 6 = .ok (.iaload, 1) := by decide +kernel
theorem dX7_dropOldest_7 : decode cX7_dropOldest 7 = .ok (.iconst 1, 1) := by decide +kernel
theorem dX7_dropOldest_8 : decode cX7_dropOldest 8 = .ok (.isub, 1) := by decide +kernel
theorem dX7_dropOldest_9 : decode cX7_dropOldest 9 = .ok (.iastore, 1) := by decide +kernel
theorem dX7_dropOldest_10 : decode cX7_dropOldest 10 = .ok (.iconst 0, 1) := by decide +kernel
theorem dX7_dropOldest_11 : decode cX7_dropOldest 11 = .ok (.istore_n 1, 1) := by decide +kernel
theorem dX7_dropOldest_12 : decode cX7_dropOldest 12 = .ok (.iload_n 1, 1) := by decide +kernel
theorem dX7_dropOldest_13 : decode cX7_dropOldest 13 = .ok (.iconst 3, 1) := by decide +kernel
theorem dX7_dropOldest_14 : decode cX7_dropOldest 14 = .ok (.aload_n 0, 1) := by decide +kernel
theorem dX7_dropOldest_15 : decode cX7_dropOldest 15 = .ok (.getfield 7, 3) := by decide +kernel
theorem dX7_dropOldest_18 : decode cX7_dropOldest 18 = .ok (.iconst 4, 1) := by decide +kernel
theorem dX7_dropOldest_19 : decode cX7_dropOldest 19 = .ok (.iaload, 1) := by decide +kernel
theorem dX7_dropOldest_20 : decode cX7_dropOldest 20 = .ok (.imul, 1) := by decide +kernel
theorem dX7_dropOldest_21 : decode cX7_dropOldest 21 = .ok (.if_icmp .ge 29, 3) := by decide +kernel
theorem dX7_dropOldest_24 : decode cX7_dropOldest 24 = .ok (.aload_n 0, 1) := by decide +kernel
theorem dX7_dropOldest_25 : decode cX7_dropOldest 25 = .ok (.getfield 7, 3) := by decide +kernel
theorem dX7_dropOldest_28 : decode cX7_dropOldest 28 = .ok (.bipush 6, 2) := by decide +kernel
theorem dX7_dropOldest_30 : decode cX7_dropOldest 30 = .ok (.iload_n 1, 1) := by decide +kernel
theorem dX7_dropOldest_31 : decode cX7_dropOldest 31 = .ok (.iadd, 1) := by decide +kernel
theorem dX7_dropOldest_32 : decode cX7_dropOldest 32 = .ok (.aload_n 0, 1) := by decide +kernel
theorem dX7_dropOldest_33 : decode cX7_dropOldest 33 = .ok (.getfield 7, 3) := by decide +kernel
theorem dX7_dropOldest_36 : decode cX7_dropOldest 36 = .ok (.bipush 6, 2) := by decide +kernel
theorem dX7_dropOldest_38 : decode cX7_dropOldest 38 = .ok (.iload_n 1, 1) := by decide +kernel
theorem dX7_dropOldest_39 : decode cX7_dropOldest 39 = .ok (.iadd, 1) := by decide +kernel
theorem dX7_dropOldest_40 : decode cX7_dropOldest 40 = .ok (.iconst 3, 1) := by decide +kernel
theorem dX7_dropOldest_41 : decode cX7_dropOldest 41 = .ok (.iadd, 1) := by decide +kernel
theorem dX7_dropOldest_42 : decode cX7_dropOldest 42 = .ok (.iaload, 1) := by decide +kernel
theorem dX7_dropOldest_43 : decode cX7_dropOldest 43 = .ok (.iastore, 1) := by decide +kernel
theorem dX7_dropOldest_44 : decode cX7_dropOldest 44 = .ok (.iinc 1 1, 3) := by decide +kernel
theorem dX7_dropOldest_47 : decode cX7_dropOldest 47 = .ok (.goto (-35), 3) := by decide +kernel
theorem dX7_dropOldest_50 : decode cX7_dropOldest 50 = .ok (.return_, 1) := by decide +kernel
theorem dX7_give_0 : decode cX7_give 0 = .ok (.iconst 0, 1) := by decide +kernel
theorem dX7_give_1 : decode cX7_give 1 = .ok (.istore_n 1, 1) := by decide +kernel
theorem dX7_give_2 : decode cX7_give 2 = .ok (.iload_n 1, 1) := by decide +kernel
theorem dX7_give_3 : decode cX7_give 3 = .ok (.iconst 4, 1) := by decide +kernel
theorem dX7_give_4 : decode cX7_give 4 = .ok (.if_icmp .ge 25, 3) := by decide +kernel
theorem dX7_give_7 : decode cX7_give 7 = .ok (.aload_n 0, 1) := by decide +kernel
theorem dX7_give_8 : decode cX7_give 8 = .ok (.iload_n 1, 1) := by decide +kernel
theorem dX7_give_9 : decode cX7_give 9 = .ok (.iconst 3, 1) := by decide +kernel
theorem dX7_give_10 : decode cX7_give 10 = .ok (.invokevirtual 34, 3) := by decide +kernel
theorem dX7_give_13 : decode cX7_give 13 = .ok (.ifCond .ne 10, 3) := by decide +kernel
theorem dX7_give_16 : decode cX7_give 16 = .ok (.aload_n 0, 1) := by decide +kernel
theorem dX7_give_17 : decode cX7_give 17 = .ok (.iload_n 1, 1) := by decide +kernel
theorem dX7_give_18 : decode cX7_give 18 = .ok (.iconst 4, 1) := by decide +kernel
theorem dX7_give_19 : decode cX7_give 19 = .ok (.iconst 1, 1) := by decide +kernel
theorem dX7_give_20 : decode cX7_give 20 = .ok (.invokevirtual 38, 3) := by decide +kernel
theorem dX7_give_23 : decode cX7_give 23 = .ok (.iinc 1 1, 3) := by decide +kernel
theorem dX7_give_26 : decode cX7_give 26 = .ok (.goto (-24), 3) := by decide +kernel
theorem dX7_give_29 : decode cX7_give 29 = .ok (.return_, 1) := by decide +kernel
theorem dX7_costOf_0 : decode cX7_costOf 0 = .ok (.iconst 1, 1) := by decide +kernel
theorem dX7_costOf_1 : decode cX7_costOf 1 = .ok (.aload_n 0, 1) := by decide +kernel
theorem dX7_costOf_2 : decode cX7_costOf 2 = .ok (.iload_n 1, 1) := by decide +kernel
theorem dX7_costOf_3 : decode cX7_costOf 3 = .ok (.iconst 1, 1) := by decide +kernel
theorem dX7_costOf_4 : decode cX7_costOf 4 = .ok (.invokevirtual 42, 3) := by decide +kernel
theorem dX7_costOf_7 : decode cX7_costOf 7 = .ok (.invokestatic 45, 3) := by decide +kernel
theorem dX7_costOf_10 : decode cX7_costOf 10 = .ok (.iadd, 1) := by decide +kernel
theorem dX7_costOf_11 : decode cX7_costOf 11 = .ok (.aload_n 0, 1) := by decide +kernel
theorem dX7_costOf_12 : decode cX7_costOf 12 = .ok (.iload_n 1, 1) := by decide +kernel
theorem dX7_costOf_13 : decode cX7_costOf 13 = .ok (.iconst 2, 1) := by decide +kernel
theorem dX7_costOf_14 : decode cX7_costOf 14 = .ok (.invokevirtual 42, 3) := by decide +kernel
theorem dX7_costOf_17 : decode cX7_costOf 17 = .ok (.invokestatic 45, 3) := by decide +kernel
theorem dX7_costOf_20 : decode cX7_costOf 20 = .ok (.iadd, 1) := by decide +kernel
theorem dX7_costOf_21 : decode cX7_costOf 21 = .ok (.ireturn, 1) := by decide +kernel
theorem dX7_wholeCost_0 : decode cX7_wholeCost 0 = .ok (.iconst 1, 1) := by decide +kernel
theorem dX7_wholeCost_1 : decode cX7_wholeCost 1 = .ok (.aload_n 0, 1) := by decide +kernel
theorem dX7_wholeCost_2 : decode cX7_wholeCost 2 = .ok (.getfield 7, 3) := by decide +kernel
theorem dX7_wholeCost_5 : decode cX7_wholeCost 5 = .ok (.iconst 1, 1) := by decide +kernel
theorem dX7_wholeCost_6 : decode cX7_wholeCost 6 = .ok (.iaload, 1) := by decide +kernel
theorem dX7_wholeCost_7 : decode cX7_wholeCost 7 = .ok (.invokestatic 45, 3) := by decide +kernel
theorem dX7_wholeCost_10 : decode cX7_wholeCost 10 = .ok (.iadd, 1) := by decide +kernel
theorem dX7_wholeCost_11 : decode cX7_wholeCost 11 = .ok (.ireturn, 1) := by decide +kernel
theorem dX7_order_0 : decode cX7_order 0 = .ok (.iload_n 0, 1) := by decide +kernel
theorem dX7_order_1 : decode cX7_order 1 = .ok (.iload_n 1, 1) := by decide +kernel
theorem dX7_order_2 : decode cX7_order 2 = .ok (.isub, 1) := by decide +kernel
theorem dX7_order_3 : decode cX7_order 3 = .ok (.bipush 16, 2) := by decide +kernel
theorem dX7_order_5 : decode cX7_order 5 = .ok (.iadd, 1) := by decide +kernel
theorem dX7_order_6 : decode cX7_order 6 = .ok (.bipush 16, 2) := by decide +kernel
theorem dX7_order_8 : decode cX7_order 8 = .ok (.irem, 1) := by decide +kernel
theorem dX7_order_9 : decode cX7_order 9 = .ok (.istore_n 2, 1) := by decide +kernel
theorem dX7_order_10 : decode cX7_order 10 = .ok (.iload_n 2, 1) := by decide +kernel
theorem dX7_order_11 : decode cX7_order 11 = .ok (.ifCond .ne 7, 3) := by decide +kernel
theorem dX7_order_14 : decode cX7_order 14 = .ok (.iconst 0, 1) := by decide +kernel
theorem dX7_order_15 : decode cX7_order 15 = .ok (.goto 14, 3) := by decide +kernel
theorem dX7_order_18 : decode cX7_order 18 = .ok (.iload_n 2, 1) := by decide +kernel
theorem dX7_order_19 : decode cX7_order 19 = .ok (.bipush 8, 2) := by decide +kernel
theorem dX7_order_21 : decode cX7_order 21 = .ok (.if_icmp .ge 7, 3) := by decide +kernel
theorem dX7_order_24 : decode cX7_order 24 = .ok (.iconst 1, 1) := by decide +kernel
theorem dX7_order_25 : decode cX7_order 25 = .ok (.goto 4, 3) := by decide +kernel
theorem dX7_order_28 : decode cX7_order 28 = .ok (.iconst (-1), 1) := by decide +kernel
theorem dX7_order_29 : decode cX7_order 29 = .ok (.ireturn, 1) := by decide +kernel
theorem dX7_leadsFrom_0 : decode cX7_leadsFrom 0 = .ok (.iconst 0, 1) := by decide +kernel
theorem dX7_leadsFrom_1 : decode cX7_leadsFrom 1 = .ok (.istore_n 2, 1) := by decide +kernel
theorem dX7_leadsFrom_2 : decode cX7_leadsFrom 2 = .ok (.iload_n 2, 1) := by decide +kernel
theorem dX7_leadsFrom_3 : decode cX7_leadsFrom 3 = .ok (.aload_n 0, 1) := by decide +kernel
theorem dX7_leadsFrom_4 : decode cX7_leadsFrom 4 = .ok (.getfield 7, 3) := by decide +kernel
theorem dX7_leadsFrom_7 : decode cX7_leadsFrom 7 = .ok (.iconst 4, 1) := by decide +kernel
theorem dX7_leadsFrom_8 : decode cX7_leadsFrom 8 = .ok (.iaload, 1) := by decide +kernel
theorem dX7_leadsFrom_9 : decode cX7_leadsFrom 9 = .ok (.if_icmp .ge 26, 3) := by decide +kernel
theorem dX7_leadsFrom_12 : decode cX7_leadsFrom 12 = .ok (.aload_n 0, 1) := by decide +kernel
theorem dX7_leadsFrom_13 : decode cX7_leadsFrom 13 = .ok (.iload_n 2, 1) := by decide +kernel
theorem dX7_leadsFrom_14 : decode cX7_leadsFrom 14 = .ok (.iconst 0, 1) := by decide +kernel
theorem dX7_leadsFrom_15 : decode cX7_leadsFrom 15 = .ok (.invokevirtual 42, 3) := by decide +kernel
theorem dX7_leadsFrom_18 : decode cX7_leadsFrom 18 = .ok (.aload_n 0, 1) := by decide +kernel
theorem dX7_leadsFrom_19 : decode cX7_leadsFrom 19 = .ok (.iload_n 1, 1) := by decide +kernel
theorem dX7_leadsFrom_20 : decode cX7_leadsFrom 20 = .ok (.iconst 2, 1) := by decide +kernel
theorem dX7_leadsFrom_21 : decode cX7_leadsFrom 21 = .ok (.invokevirtual 34, 3) := by decide +kernel
theorem dX7_leadsFrom_24 : decode cX7_leadsFrom 24 = .ok (.if_icmp .ne 5, 3) := by decide +kernel
theorem dX7_leadsFrom_27 : decode cX7_leadsFrom 27 = .ok (.iload_n 2, 1) := by decide +kernel
theorem dX7_leadsFrom_28 : decode cX7_leadsFrom 28 = .ok (.ireturn, 1) := by decide +kernel
theorem dX7_leadsFrom_29 : decode cX7_leadsFrom 29 = .ok (.iinc 2 1, 3) := by decide +kernel
theorem dX7_leadsFrom_32 : decode cX7_leadsFrom 32 = .ok (.goto (-30), 3) := by decide +kernel
theorem dX7_leadsFrom_35 : decode cX7_leadsFrom 35 = .ok (.iconst (-1), 1) := by decide +kernel
theorem dX7_leadsFrom_36 : decode cX7_leadsFrom 36 = .ok (.ireturn, 1) := by decide +kernel
theorem dX7_costFrom_0 : decode cX7_costFrom 0 = .ok (.iconst 0, 1) := by decide +kernel
theorem dX7_costFrom_1 : decode cX7_costFrom 1 = .ok (.istore_n 2, 1) := by decide +kernel
theorem dX7_costFrom_2 : decode cX7_costFrom 2 = .ok (.iload_n 1, 1) := by decide +kernel
theorem dX7_costFrom_3 : decode cX7_costFrom 3 = .ok (.istore_n 3, 1) := by decide +kernel
theorem dX7_costFrom_4 : decode cX7_costFrom 4 = .ok (.iload_n 3, 1) := by decide +kernel
theorem dX7_costFrom_5 : decode cX7_costFrom 5 = .ok (.aload_n 0, 1) := by decide +kernel
theorem dX7_costFrom_6 : decode cX7_costFrom 6 = .ok (.getfield 7, 3) := by decide +kernel
theorem dX7_costFrom_9 : decode cX7_costFrom 9 = .ok (.iconst 4, 1) := by decide +kernel
theorem dX7_costFrom_10 : decode cX7_costFrom 10 = .ok (.iaload, 1) := by decide +kernel
theorem dX7_costFrom_11 : decode cX7_costFrom 11 = .ok (.if_icmp .ge 17, 3) := by decide +kernel
theorem dX7_costFrom_14 : decode cX7_costFrom 14 = .ok (.iload_n 2, 1) := by decide +kernel
theorem dX7_costFrom_15 : decode cX7_costFrom 15 = .ok (.aload_n 0, 1) := by decide +kernel
theorem dX7_costFrom_16 : decode cX7_costFrom 16 = .ok (.iload_n 3, 1) := by decide +kernel
theorem dX7_costFrom_17 : decode cX7_costFrom 17 = .ok (.invokevirtual 48, 3) := by decide +kernel
theorem dX7_costFrom_20 : decode cX7_costFrom 20 = .ok (.iadd, 1) := by decide +kernel
theorem dX7_costFrom_21 : decode cX7_costFrom 21 = .ok (.istore_n 2, 1) := by decide +kernel
theorem dX7_costFrom_22 : decode cX7_costFrom 22 = .ok (.iinc 3 1, 3) := by decide +kernel
theorem dX7_costFrom_25 : decode cX7_costFrom 25 = .ok (.goto (-21), 3) := by decide +kernel
theorem dX7_costFrom_28 : decode cX7_costFrom 28 = .ok (.iload_n 2, 1) := by decide +kernel
theorem dX7_costFrom_29 : decode cX7_costFrom 29 = .ok (.ireturn, 1) := by decide +kernel
theorem dX7_answerTo_0 : decode cX7_answerTo 0 = .ok (.aload_n 0, 1) := by decide +kernel
theorem dX7_answerTo_1 : decode cX7_answerTo 1 = .ok (.iload_n 1, 1) := by decide +kernel
theorem dX7_answerTo_2 : decode cX7_answerTo 2 = .ok (.iconst 0, 1) := by decide +kernel
theorem dX7_answerTo_3 : decode cX7_answerTo 3 = .ok (.invokevirtual 34, 3) := by decide +kernel
theorem dX7_answerTo_6 : decode cX7_answerTo 6 = .ok (.ifCond .ne 5, 3) := by decide +kernel
theorem dX7_answerTo_9 : decode cX7_answerTo 9 = .ok (.iconst 2, 1) := by decide +kernel
theorem dX7_answerTo_10 : decode cX7_answerTo 10 = .ok (.ireturn, 1) := by decide +kernel
theorem dX7_answerTo_11 : decode cX7_answerTo 11 = .ok (.aload_n 0, 1) := by decide +kernel
theorem dX7_answerTo_12 : decode cX7_answerTo 12 = .ok (.getfield 7, 3) := by decide +kernel
theorem dX7_answerTo_15 : decode cX7_answerTo 15 = .ok (.iconst 2, 1) := by decide +kernel
theorem dX7_answerTo_16 : decode cX7_answerTo 16 = .ok (.iaload, 1) := by decide +kernel
theorem dX7_answerTo_17 : decode cX7_answerTo 17 = .ok (.aload_n 0, 1) := by decide +kernel
theorem dX7_answerTo_18 : decode cX7_answerTo 18 = .ok (.iload_n 1, 1) := by decide +kernel
theorem dX7_answerTo_19 : decode cX7_answerTo 19 = .ok (.iconst 2, 1) := by decide +kernel
theorem dX7_answerTo_20 : decode cX7_answerTo 20 = .ok (.invokevirtual 34, 3) := by decide +kernel
theorem dX7_answerTo_23 : decode cX7_answerTo 23 = .ok (.invokestatic 51, 3) := by decide +kernel
theorem dX7_answerTo_26 : decode cX7_answerTo 26 = .ok (.istore_n 2, 1) := by decide +kernel
theorem dX7_answerTo_27 : decode cX7_answerTo 27 = .ok (.iload_n 2, 1) := by decide +kernel
theorem dX7_answerTo_28 : decode cX7_answerTo 28 = .ok (.ifCond .gt 13, 3) := by decide +kernel
theorem dX7_answerTo_31 : decode cX7_answerTo 31 = .ok (.iload_n 2, 1) := by decide +kernel
theorem dX7_answerTo_32 : decode cX7_answerTo 32 = .ok (.ifCond .ne 7, 3) := by decide +kernel
theorem dX7_answerTo_35 : decode cX7_answerTo 35 = .ok (.iconst 0, 1) := by decide +kernel
theorem dX7_answerTo_36 : decode cX7_answerTo 36 = .ok (.goto 4, 3) := by decide +kernel
theorem dX7_answerTo_39 : decode cX7_answerTo 39 = .ok (.iconst 3, 1) := by decide +kernel
theorem dX7_answerTo_40 : decode cX7_answerTo 40 = .ok (.ireturn, 1) := by decide +kernel
theorem dX7_answerTo_41 : decode cX7_answerTo 41 = .ok (.aload_n 0, 1) := by decide +kernel
theorem dX7_answerTo_42 : decode cX7_answerTo 42 = .ok (.iload_n 1, 1) := by decide +kernel
theorem dX7_answerTo_43 : decode cX7_answerTo 43 = .ok (.invokevirtual 54, 3) := by decide +kernel
theorem dX7_answerTo_46 : decode cX7_answerTo 46 = .ok (.istore_n 3, 1) := by decide +kernel
theorem dX7_answerTo_47 : decode cX7_answerTo 47 = .ok (.iload_n 3, 1) := by decide +kernel
theorem dX7_answerTo_48 : decode cX7_answerTo 48 = .ok (.iconst (-1), 1) := by decide +kernel
theorem dX7_answerTo_49 : decode cX7_answerTo 49 = .ok (.if_icmp .eq 19, 3) := by decide +kernel
theorem dX7_answerTo_52 : decode cX7_answerTo 52 = .ok (.aload_n 0, 1) := by decide +kernel
theorem dX7_answerTo_53 : decode cX7_answerTo 53 = .ok (.iload_n 3, 1) := by decide +kernel
theorem dX7_answerTo_54 : decode cX7_answerTo 54 = .ok (.invokevirtual 57, 3) := by decide +kernel
theorem dX7_answerTo_57 : decode cX7_answerTo 57 = .ok (.aload_n 0, 1) := by decide +kernel
theorem dX7_answerTo_58 : decode cX7_answerTo 58 = .ok (.invokevirtual 60, 3) := by decide +kernel
theorem dX7_answerTo_61 : decode cX7_answerTo 61 = .ok (.if_icmp .gt 7, 3) := by decide +kernel
theorem dX7_answerTo_64 : decode cX7_answerTo 64 = .ok (.iconst 1, 1) := by decide +kernel
theorem dX7_answerTo_65 : decode cX7_answerTo 65 = .ok (.goto 4, 3) := by decide +kernel
theorem dX7_answerTo_68 : decode cX7_answerTo 68 = .ok (.iconst 2, 1) := by decide +kernel
theorem dX7_answerTo_69 : decode cX7_answerTo 69 = .ok (.ireturn, 1) := by decide +kernel
theorem dX7_costOfAnswer_0 : decode cX7_costOfAnswer 0 = .ok (.aload_n 0, 1) := by decide +kernel
theorem dX7_costOfAnswer_1 : decode cX7_costOfAnswer 1 = .ok (.iload_n 1, 1) := by decide +kernel
theorem dX7_costOfAnswer_2 : decode cX7_costOfAnswer 2 = .ok (.invokevirtual 64, 3) := by decide +kernel
theorem dX7_costOfAnswer_5 : decode cX7_costOfAnswer 5 = .ok (.istore_n 2, 1) := by decide +kernel
theorem dX7_costOfAnswer_6 : decode cX7_costOfAnswer 6 = .ok (.iload_n 2, 1) := by decide +kernel
theorem dX7_costOfAnswer_7 : decode cX7_costOfAnswer 7 = .ok (.iconst 1, 1) := by decide +kernel
theorem dX7_costOfAnswer_8 : decode cX7_costOfAnswer 8 = .ok (.if_icmp .ne 15, 3) := by decide +kernel
theorem dX7_costOfAnswer_11 : decode cX7_costOfAnswer 11 = .ok (.aload_n 0, 1) := by decide +kernel
theorem dX7_costOfAnswer_12 : decode cX7_costOfAnswer 12 = .ok (.aload_n 0, 1) := by decide +kernel
theorem dX7_costOfAnswer_13 : decode cX7_costOfAnswer 13 = .ok (.iload_n 1, 1) := by decide +kernel
theorem dX7_costOfAnswer_14 : decode cX7_costOfAnswer 14 = .ok (.invokevirtual 54, 3) := by decide +kernel
theorem dX7_costOfAnswer_17 : decode cX7_costOfAnswer 17 = .ok (.invokevirtual 57, 3) := by decide +kernel
theorem dX7_costOfAnswer_20 : decode cX7_costOfAnswer 20 = .ok (.goto 16, 3) := by decide +kernel
theorem dX7_costOfAnswer_23 : decode cX7_costOfAnswer 23 = .ok (.iload_n 2, 1) := by decide +kernel
theorem dX7_costOfAnswer_24 : decode cX7_costOfAnswer 24 = .ok (.iconst 2, 1) := by decide +kernel
theorem dX7_costOfAnswer_25 : decode cX7_costOfAnswer 25 = .ok (.if_icmp .ne 10, 3) := by decide +kernel
theorem dX7_costOfAnswer_28 : decode cX7_costOfAnswer 28 = .ok (.aload_n 0, 1) := by decide +kernel
theorem dX7_costOfAnswer_29 : decode cX7_costOfAnswer 29 = .ok (.invokevirtual 60, 3) := by decide +kernel
theorem dX7_costOfAnswer_32 : decode cX7_costOfAnswer 32 = .ok (.goto 4, 3) := by decide +kernel
theorem dX7_costOfAnswer_35 : decode cX7_costOfAnswer 35 = .ok (.iconst 0, 1) := by decide +kernel
theorem dX7_costOfAnswer_36 : decode cX7_costOfAnswer 36 = .ok (.ireturn, 1) := by decide +kernel
theorem dX7_applyAll_0 : decode cX7_applyAll 0 = .ok (.aload_n 0, 1) := by decide +kernel
theorem dX7_applyAll_1 : decode cX7_applyAll 1 = .ok (.iload_n 1, 1) := by decide +kernel
theorem dX7_applyAll_2 : decode cX7_applyAll 2 = .ok (.invokevirtual 54, 3) := by decide +kernel
theorem dX7_applyAll_5 : decode cX7_applyAll 5 = .ok (.istore_n 2, 1) := by decide +kernel
theorem dX7_applyAll_6 : decode cX7_applyAll 6 = .ok (.iload_n 2, 1) := by decide +kernel
theorem dX7_applyAll_7 : decode cX7_applyAll 7 = .ok (.aload_n 0, 1) := by decide +kernel
theorem dX7_applyAll_8 : decode cX7_applyAll 8 = .ok (.getfield 7, 3) := by decide +kernel
theorem dX7_applyAll_11 : decode cX7_applyAll 11 = .ok (.iconst 4, 1) := by decide +kernel
theorem dX7_applyAll_12 : decode cX7_applyAll 12 = .ok (.iaload, 1) := by decide +kernel
theorem dX7_applyAll_13 : decode cX7_applyAll 13 = .ok (.if_icmp .ge 39, 3) := by decide +kernel
theorem dX7_applyAll_16 : decode cX7_applyAll 16 = .ok (.aload_n 0, 1) := by decide +kernel
theorem dX7_applyAll_17 : decode cX7_applyAll 17 = .ok (.iload_n 1, 1) := by decide +kernel
theorem dX7_applyAll_18 : decode cX7_applyAll 18 = .ok (.iconst 1, 1) := by decide +kernel
theorem dX7_applyAll_19 : decode cX7_applyAll 19 = .ok (.invokevirtual 34, 3) := by decide +kernel
theorem dX7_applyAll_22 : decode cX7_applyAll 22 = .ok (.aload_n 0, 1) := by decide +kernel
theorem dX7_applyAll_23 : decode cX7_applyAll 23 = .ok (.iload_n 2, 1) := by decide +kernel
theorem dX7_applyAll_24 : decode cX7_applyAll 24 = .ok (.iconst 1, 1) := by decide +kernel
theorem dX7_applyAll_25 : decode cX7_applyAll 25 = .ok (.invokevirtual 42, 3) := by decide +kernel
theorem dX7_applyAll_28 : decode cX7_applyAll 28 = .ok (.iconst (-1), 1) := by decide +kernel
theorem dX7_applyAll_29 : decode cX7_applyAll 29 = .ok (.ixor, 1) := by decide +kernel
theorem dX7_applyAll_30 : decode cX7_applyAll 30 = .ok (.iand, 1) := by decide +kernel
theorem dX7_applyAll_31 : decode cX7_applyAll 31 = .ok (.aload_n 0, 1) := by decide +kernel
theorem dX7_applyAll_32 : decode cX7_applyAll 32 = .ok (.iload_n 2, 1) := by decide +kernel
theorem dX7_applyAll_33 : decode cX7_applyAll 33 = .ok (.iconst 2, 1) := by decide +kernel
theorem dX7_applyAll_34 : decode cX7_applyAll 34 = .ok (.invokevirtual 42, 3) := by decide +kernel
theorem dX7_applyAll_37 : decode cX7_applyAll 37 = .ok (.ior, 1) := by decide +kernel
theorem dX7_applyAll_38 : decode cX7_applyAll 38 = .ok (.istore_n 3, 1) := by decide +kernel
theorem dX7_applyAll_39 : decode cX7_applyAll 39 = .ok (.aload_n 0, 1) := by decide +kernel
theorem dX7_applyAll_40 : decode cX7_applyAll 40 = .ok (.iload_n 1, 1) := by decide +kernel
theorem dX7_applyAll_41 : decode cX7_applyAll 41 = .ok (.iconst 1, 1) := by decide +kernel
theorem dX7_applyAll_42 : decode cX7_applyAll 42 = .ok (.iload_n 3, 1) := by decide +kernel
theorem dX7_applyAll_43 : decode cX7_applyAll 43 = .ok (.invokevirtual 38, 3) := by decide +kernel
theorem dX7_applyAll_46 : decode cX7_applyAll 46 = .ok (.iinc 2 1, 3) := by decide +kernel
theorem dX7_applyAll_49 : decode cX7_applyAll 49 = .ok (.goto (-43), 3) := by decide +kernel
theorem dX7_applyAll_52 : decode cX7_applyAll 52 = .ok (.return_, 1) := by decide +kernel
theorem dX7_refreshes_0 : decode cX7_refreshes 0 = .ok (.aload_n 0, 1) := by decide +kernel
theorem dX7_refreshes_1 : decode cX7_refreshes 1 = .ok (.iload_n 1, 1) := by decide +kernel
theorem dX7_refreshes_2 : decode cX7_refreshes 2 = .ok (.invokevirtual 64, 3) := by decide +kernel
theorem dX7_refreshes_5 : decode cX7_refreshes 5 = .ok (.istore_n 2, 1) := by decide +kernel
theorem dX7_refreshes_6 : decode cX7_refreshes 6 = .ok (.aload_n 0, 1) := by decide +kernel
theorem dX7_refreshes_7 : decode cX7_refreshes 7 = .ok (.iload_n 1, 1) := by decide +kernel
theorem dX7_refreshes_8 : decode cX7_refreshes 8 = .ok (.invokevirtual 67, 3) := by decide +kernel
theorem dX7_refreshes_11 : decode cX7_refreshes 11 = .ok (.istore_n 3, 1) := by decide +kernel
theorem dX7_refreshes_12 : decode cX7_refreshes 12 = .ok (.aload_n 0, 1) := by decide +kernel
theorem dX7_refreshes_13 : decode cX7_refreshes 13 = .ok (.iload_n 1, 1) := by decide +kernel
theorem dX7_refreshes_14 : decode cX7_refreshes 14 = .ok (.iconst 4, 1) := by decide +kernel
theorem dX7_refreshes_15 : decode cX7_refreshes 15 = .ok (.iconst 0, 1) := by decide +kernel
theorem dX7_refreshes_16 : decode cX7_refreshes 16 = .ok (.invokevirtual 38, 3) := by decide +kernel
theorem dX7_refreshes_19 : decode cX7_refreshes 19 = .ok (.iload_n 2, 1) := by decide +kernel
theorem dX7_refreshes_20 : decode cX7_refreshes 20 = .ok (.ifCond .eq 8, 3) := by decide +kernel
theorem dX7_refreshes_23 : decode cX7_refreshes 23 = .ok (.iload_n 2, 1) := by decide +kernel
theorem dX7_refreshes_24 : decode cX7_refreshes 24 = .ok (.iconst 3, 1) := by decide +kernel
theorem dX7_refreshes_25 : decode cX7_refreshes 25 = .ok (.if_icmp .ne 5, 3) := by decide +kernel
theorem dX7_refreshes_28 : decode cX7_refreshes 28 = .ok (.iload_n 2, 1) := by decide +kernel
theorem dX7_refreshes_29 : decode cX7_refreshes 29 = .ok (.ireturn, 1) := by decide +kernel
theorem dX7_refreshes_30 : decode cX7_refreshes 30 = .ok (.iload_n 2, 1) := by decide +kernel
theorem dX7_refreshes_31 : decode cX7_refreshes 31 = .ok (.iconst 1, 1) := by decide +kernel
theorem dX7_refreshes_32 : decode cX7_refreshes 32 = .ok (.if_icmp .ne 11, 3) := by decide +kernel
theorem dX7_refreshes_35 : decode cX7_refreshes 35 = .ok (.aload_n 0, 1) := by decide +kernel
theorem dX7_refreshes_36 : decode cX7_refreshes 36 = .ok (.iload_n 1, 1) := by decide +kernel
theorem dX7_refreshes_37 : decode cX7_refreshes 37 = .ok (.invokevirtual 70, 3) := by decide +kernel
theorem dX7_refreshes_40 : decode cX7_refreshes 40 = .ok (.goto 15, 3) := by decide +kernel
theorem dX7_refreshes_43 : decode cX7_refreshes 43 = .ok (.aload_n 0, 1) := by decide +kernel
theorem dX7_refreshes_44 : decode cX7_refreshes 44 = .ok (.iload_n 1, 1) := by decide +kernel
theorem dX7_refreshes_45 : decode cX7_refreshes 45 = .ok (.iconst 1, 1) := by decide +kernel
theorem dX7_refreshes_46 : decode cX7_refreshes 46 = .ok (.aload_n 0, 1) := by decide +kernel
theorem dX7_refreshes_47 : decode cX7_refreshes 47 = .ok (.getfield 7, 3) := by decide +kernel
theorem dX7_refreshes_50 : decode cX7_refreshes 50 = .ok (.iconst 1, 1) := by decide +kernel
theorem dX7_refreshes_51 : decode cX7_refreshes 51 = .ok (.iaload, 1) := by decide +kernel
theorem dX7_refreshes_52 : decode cX7_refreshes 52 = .ok (.invokevirtual 38, 3) := by decide +kernel
theorem dX7_refreshes_55 : decode cX7_refreshes 55 = .ok (.aload_n 0, 1) := by decide +kernel
theorem dX7_refreshes_56 : decode cX7_refreshes 56 = .ok (.iload_n 1, 1) := by decide +kernel
theorem dX7_refreshes_57 : decode cX7_refreshes 57 = .ok (.iconst 0, 1) := by decide +kernel
theorem dX7_refreshes_58 : decode cX7_refreshes 58 = .ok (.iconst 1, 1) := by decide +kernel
theorem dX7_refreshes_59 : decode cX7_refreshes 59 = .ok (.invokevirtual 38, 3) := by decide +kernel
theorem dX7_refreshes_62 : decode cX7_refreshes 62 = .ok (.aload_n 0, 1) := by decide +kernel
theorem dX7_refreshes_63 : decode cX7_refreshes 63 = .ok (.iload_n 1, 1) := by decide +kernel
theorem dX7_refreshes_64 : decode cX7_refreshes 64 = .ok (.iconst 2, 1) := by decide +kernel
theorem dX7_refreshes_65 : decode cX7_refreshes 65 = .ok (.aload_n 0, 1) := by decide +kernel
theorem dX7_refreshes_66 : decode cX7_refreshes 66 = .ok (.getfield 7, 3) := by decide +kernel
theorem dX7_refreshes_69 : decode cX7_refreshes 69 = .ok (.iconst 2, 1) := by decide +kernel
theorem dX7_refreshes_70 : decode cX7_refreshes 70 = .ok (.iaload, 1) := by decide +kernel
theorem dX7_refreshes_71 : decode cX7_refreshes 71 = .ok (.invokevirtual 38, 3) := by decide +kernel
theorem dX7_refreshes_74 : decode cX7_refreshes 74 = .ok (.aload_n 0, 1) := by decide +kernel
theorem dX7_refreshes_75 : decode cX7_refreshes 75 = .ok (.iload_n 1, 1) := by decide +kernel
theorem dX7_refreshes_76 : decode cX7_refreshes 76 = .ok (.iconst 5, 1) := by decide +kernel
theorem dX7_refreshes_77 : decode cX7_refreshes 77 = .ok (.aload_n 0, 1) := by decide +kernel
theorem dX7_refreshes_78 : decode cX7_refreshes 78 = .ok (.iload_n 1, 1) := by decide +kernel
theorem dX7_refreshes_79 : decode cX7_refreshes 79 = .ok (.iconst 5, 1) := by decide +kernel
theorem dX7_refreshes_80 : decode cX7_refreshes 80 = .ok (.invokevirtual 34, 3) := by decide +kernel
theorem dX7_refreshes_83 : decode cX7_refreshes 83 = .ok (.iload_n 3, 1) := by decide +kernel
theorem dX7_refreshes_84 : decode cX7_refreshes 84 = .ok (.iadd, 1) := by decide +kernel
theorem dX7_refreshes_85 : decode cX7_refreshes 85 = .ok (.invokevirtual 38, 3) := by decide +kernel
theorem dX7_refreshes_88 : decode cX7_refreshes 88 = .ok (.aload_n 0, 1) := by decide +kernel
theorem dX7_refreshes_89 : decode cX7_refreshes 89 = .ok (.getfield 7, 3) := by decide +kernel
theorem dX7_refreshes_92 : decode cX7_refreshes 92 = .ok (.iconst 5, 1) := by decide +kernel
theorem dX7_refreshes_93 : decode cX7_refreshes 93 = .ok (.dup2, 1) := by decide +kernel
theorem dX7_refreshes_94 : decode cX7_refreshes 94 = .ok (.iaload, 1) := by decide +kernel
theorem dX7_refreshes_95 : decode cX7_refreshes 95 = .ok (.aload_n 0, 1) := by decide +kernel
theorem dX7_refreshes_96 : decode cX7_refreshes 96 = .ok (.invokevirtual 60, 3) := by decide +kernel
theorem dX7_refreshes_99 : decode cX7_refreshes 99 = .ok (.iadd, 1) := by decide +kernel
theorem dX7_refreshes_100 : decode cX7_refreshes 100 = .ok (.iastore, 1) := by decide +kernel
theorem dX7_refreshes_101 : decode cX7_refreshes 101 = .ok (.iload_n 2, 1) := by decide +kernel
theorem dX7_refreshes_102 : decode cX7_refreshes 102 = .ok (.ireturn, 1) := by decide +kernel
theorem dX7_canAdd_0 : decode cX7_canAdd 0 = .ok (.aload_n 0, 1) := by decide +kernel
theorem dX7_canAdd_1 : decode cX7_canAdd 1 = .ok (.getfield 7, 3) := by decide +kernel
theorem dX7_canAdd_4 : decode cX7_canAdd 4 = .ok (.iconst 0, 1) := by decide +kernel
theorem dX7_canAdd_5 : decode cX7_canAdd 5 = .ok (.iaload, 1) := by decide +kernel
theorem dX7_canAdd_6 : decode cX7_canAdd 6 = .ok (.iload_n 1, 1) := by decide +kernel
theorem dX7_canAdd_7 : decode cX7_canAdd 7 = .ok (.ishr, 1) := by decide +kernel
theorem dX7_canAdd_8 : decode cX7_canAdd 8 = .ok (.iconst 1, 1) := by decide +kernel
theorem dX7_canAdd_9 : decode cX7_canAdd 9 = .ok (.iand, 1) := by decide +kernel
theorem dX7_canAdd_10 : decode cX7_canAdd 10 = .ok (.ifCond .ne 7, 3) := by decide +kernel
theorem dX7_canAdd_13 : decode cX7_canAdd 13 = .ok (.iconst 1, 1) := by decide +kernel
theorem dX7_canAdd_14 : decode cX7_canAdd 14 = .ok (.goto 4, 3) := by decide +kernel
theorem dX7_canAdd_17 : decode cX7_canAdd 17 = .ok (.iconst 0, 1) := by decide +kernel
theorem dX7_canAdd_18 : decode cX7_canAdd 18 = .ok (.ireturn, 1) := by decide +kernel
theorem dX7_changeDraft_0 : decode cX7_changeDraft 0 = .ok (.aload_n 0, 1) := by decide +kernel
theorem dX7_changeDraft_1 : decode cX7_changeDraft 1 = .ok (.getfield 7, 3) := by decide +kernel
theorem dX7_changeDraft_4 : decode cX7_changeDraft 4 = .ok (.iconst 0, 1) := by decide +kernel
theorem dX7_changeDraft_5 : decode cX7_changeDraft 5 = .ok (.dup2, 1) := by decide +kernel
theorem dX7_changeDraft_6 : decode cX7_changeDraft 6 = .ok (.iaload, 1) := by decide +kernel
theorem dX7_changeDraft_7 : decode cX7_changeDraft 7 = .ok (.iconst 1, 1) := by decide +kernel
theorem dX7_changeDraft_8 : decode cX7_changeDraft 8 = .ok (.iload_n 1, 1) := by decide +kernel
theorem dX7_changeDraft_9 : decode cX7_changeDraft 9 = .ok (.ishl, 1) := by decide +kernel
theorem dX7_changeDraft_10 : decode cX7_changeDraft 10 = .ok (.ixor, 1) := by decide +kernel
theorem dX7_changeDraft_11 : decode cX7_changeDraft 11 = .ok (.iastore, 1) := by decide +kernel
theorem dX7_changeDraft_12 : decode cX7_changeDraft 12 = .ok (.aload_n 0, 1) := by decide +kernel
theorem dX7_changeDraft_13 : decode cX7_changeDraft 13 = .ok (.getfield 7, 3) := by decide +kernel
theorem dX7_changeDraft_16 : decode cX7_changeDraft 16 = .ok (.iconst 0, 1) := by decide +kernel
theorem dX7_changeDraft_17 : decode cX7_changeDraft 17 = .ok (.iaload, 1) := by decide +kernel
theorem dX7_changeDraft_18 : decode cX7_changeDraft 18 = .ok (.invokestatic 45, 3) := by decide +kernel
theorem dX7_changeDraft_21 : decode cX7_changeDraft 21 = .ok (.ireturn, 1) := by decide +kernel
theorem dX7_canPublish_0 : decode cX7_canPublish 0 = .ok (.aload_n 0, 1) := by decide +kernel
theorem dX7_canPublish_1 : decode cX7_canPublish 1 = .ok (.getfield 7, 3) := by decide +kernel
theorem dX7_canPublish_4 : decode cX7_canPublish 4 = .ok (.iconst 0, 1) := by decide +kernel
theorem dX7_canPublish_5 : decode cX7_canPublish 5 = .ok (.iaload, 1) := by decide +kernel
theorem dX7_canPublish_6 : decode cX7_canPublish 6 = .ok (.aload_n 0, 1) := by decide +kernel
theorem dX7_canPublish_7 : decode cX7_canPublish 7 = .ok (.getfield 7, 3) := by decide +kernel
theorem dX7_canPublish_10 : decode cX7_canPublish 10 = .ok (.iconst 1, 1) := by decide +kernel
theorem dX7_canPublish_11 : decode cX7_canPublish 11 = .ok (.iaload, 1) := by decide +kernel
theorem dX7_canPublish_12 : decode cX7_canPublish 12 = .ok (.if_icmp .eq 7, 3) := by decide +kernel
theorem dX7_canPublish_15 : decode cX7_canPublish 15 = .ok (.iconst 1, 1) := by decide +kernel
theorem dX7_canPublish_16 : decode cX7_canPublish 16 = .ok (.goto 4, 3) := by decide +kernel
theorem dX7_canPublish_19 : decode cX7_canPublish 19 = .ok (.iconst 0, 1) := by decide +kernel
theorem dX7_canPublish_20 : decode cX7_canPublish 20 = .ok (.ireturn, 1) := by decide +kernel
theorem dX7_publishes_0 : decode cX7_publishes 0 = .ok (.aload_n 0, 1) := by decide +kernel
theorem dX7_publishes_1 : decode cX7_publishes 1 = .ok (.getfield 7, 3) := by decide +kernel
theorem dX7_publishes_4 : decode cX7_publishes 4 = .ok (.iconst 4, 1) := by decide +kernel
theorem dX7_publishes_5 : decode cX7_publishes 5 = .ok (.iaload, 1) := by decide +kernel
theorem dX7_publishes_6 : decode cX7_publishes 6 = .ok (.aload_n 0, 1) := by decide +kernel
theorem dX7_publishes_7 : decode cX7_publishes 7 = .ok (.getfield 7, 3) := by decide +kernel
theorem dX7_publishes_10 : decode cX7_publishes 10 = .ok (.iconst 3, 1) := by decide +kernel
theorem dX7_publishes_11 : decode cX7_publishes 11 = .ok (.iaload, 1) := by decide +kernel
theorem dX7_publishes_12 : decode cX7_publishes 12 = .ok (.if_icmp .ne 7, 3) := by decide +kernel
theorem dX7_publishes_15 : decode cX7_publishes 15 = .ok (.aload_n 0, 1) := by decide +kernel
theorem dX7_publishes_16 : decode cX7_publishes 16 = .ok (.invokevirtual 74, 3) := by decide +kernel
theorem dX7_publishes_19 : decode cX7_publishes 19 = .ok (.bipush 6, 2) := by decide +kernel
theorem dX7_publishes_21 : decode cX7_publishes 21 = .ok (.iconst 3, 1) := by decide +kernel
theorem dX7_publishes_22 : decode cX7_publishes 22 = .ok (.aload_n 0, 1) := by decide +kernel
theorem dX7_publishes_23 : decode cX7_publishes 23 = .ok (.getfield 7, 3) := by decide +kernel
theorem dX7_publishes_26 : decode cX7_publishes 26 = .ok (.iconst 4, 1) := by decide +kernel
theorem dX7_publishes_27 : decode cX7_publishes 27 = .ok (.iaload, 1) := by decide +kernel
theorem dX7_publishes_28 : decode cX7_publishes 28 = .ok (.imul, 1) := by decide +kernel
theorem dX7_publishes_29 : decode cX7_publishes 29 = .ok (.iadd, 1) := by decide +kernel
theorem dX7_publishes_30 : decode cX7_publishes 30 = .ok (.istore_n 1, 1) := by decide +kernel
theorem dX7_publishes_31 : decode cX7_publishes 31 = .ok (.aload_n 0, 1) := by decide +kernel
theorem dX7_publishes_32 : decode cX7_publishes 32 = .ok (.getfield 7, 3) := by decide +kernel
theorem dX7_publishes_35 : decode cX7_publishes 35 = .ok (.iload_n 1, 1) := by decide +kernel
theorem dX7_publishes_36 : decode cX7_publishes 36 = .ok (.iconst 0, 1) := by decide +kernel
theorem dX7_publishes_37 : decode cX7_publishes 37 = .ok (.iadd, 1) := by decide +kernel
theorem dX7_publishes_38 : decode cX7_publishes 38 = .ok (.aload_n 0, 1) := by decide +kernel
theorem dX7_publishes_39 : decode cX7_publishes 39 = .ok (.getfield 7, 3) := by decide +kernel
theorem dX7_publishes_42 : decode cX7_publishes 42 = .ok (.iconst 2, 1) := by decide +kernel
theorem dX7_publishes_43 : decode cX7_publishes 43 = .ok (.iaload, 1) := by decide +kernel
theorem dX7_publishes_44 : decode cX7_publishes 44 = .ok (.iastore, 1) := by decide +kernel
theorem dX7_publishes_45 : decode cX7_publishes 45 = .ok (.aload_n 0, 1) := by decide +kernel
theorem dX7_publishes_46 : decode cX7_publishes 46 = .ok (.getfield 7, 3) := by decide +kernel
theorem dX7_publishes_49 : decode cX7_publishes 49 = .ok (.iload_n 1, 1) := by decide +kernel
theorem dX7_publishes_50 : decode cX7_publishes 50 = .ok (.iconst 1, 1) := by decide +kernel
theorem dX7_publishes_51 : decode cX7_publishes 51 = .ok (.iadd, 1) := by decide +kernel
theorem dX7_publishes_52 : decode cX7_publishes 52 = .ok (.aload_n 0, 1) := by decide +kernel
theorem dX7_publishes_53 : decode cX7_publishes 53 = .ok (.getfield 7, 3) := by decide +kernel
theorem dX7_publishes_56 : decode cX7_publishes 56 = .ok (.iconst 1, 1) := by decide +kernel
theorem dX7_publishes_57 : decode cX7_publishes 57 = .ok (.iaload, 1) := by decide +kernel
theorem dX7_publishes_58 : decode cX7_publishes 58 = .ok (.aload_n 0, 1) := by decide +kernel
theorem dX7_publishes_59 : decode cX7_publishes 59 = .ok (.getfield 7, 3) := by decide +kernel
theorem dX7_publishes_62 : decode cX7_publishes 62 = .ok (.iconst 0, 1) := by decide +kernel
theorem dX7_publishes_63 : decode cX7_publishes 63 = .ok (.iaload, 1) := by decide +kernel
theorem dX7_publishes_64 : decode cX7_publishes 64 = .ok (.iconst (-1), 1) := by decide +kernel
theorem dX7_publishes_65 : decode cX7_publishes 65 = .ok (.ixor, 1) := by decide +kernel
theorem dX7_publishes_66 : decode cX7_publishes 66 = .ok (.iand, 1) := by decide +kernel
theorem dX7_publishes_67 : decode cX7_publishes 67 = .ok (.iastore, 1) := by decide +kernel
theorem dX7_publishes_68 : decode cX7_publishes 68 = .ok (.aload_n 0, 1) := by decide +kernel
theorem dX7_publishes_69 : decode cX7_publishes 69 = .ok (.getfield 7, 3) := by decide +kernel
theorem dX7_publishes_72 : decode cX7_publishes 72 = .ok (.iload_n 1, 1) := by decide +kernel
theorem dX7_publishes_73 : decode cX7_publishes 73 = .ok (.iconst 2, 1) := by decide +kernel
theorem dX7_publishes_74 : decode cX7_publishes 74 = .ok (.iadd, 1) := by decide +kernel
theorem dX7_publishes_75 : decode cX7_publishes 75 = .ok (.aload_n 0, 1) := by decide +kernel
theorem dX7_publishes_76 : decode cX7_publishes 76 = .ok (.getfield 7, 3) := by decide +kernel
theorem dX7_publishes_79 : decode cX7_publishes 79 = .ok (.iconst 0, 1) := by decide +kernel
theorem dX7_publishes_80 : decode cX7_publishes 80 = .ok (.iaload, 1) := by decide +kernel
theorem dX7_publishes_81 : decode cX7_publishes 81 = .ok (.aload_n 0, 1) := by decide +kernel
theorem dX7_publishes_82 : decode cX7_publishes 82 = .ok (.getfield 7, 3) := by decide +kernel
theorem dX7_publishes_85 : decode cX7_publishes 85 = .ok (.iconst 1, 1) := by decide +kernel
theorem dX7_publishes_86 : decode cX7_publishes 86 = .ok (.iaload, 1) := by decide +kernel
theorem dX7_publishes_87 : decode cX7_publishes 87 = .ok (.iconst (-1), 1) := by decide +kernel
theorem dX7_publishes_88 : decode cX7_publishes 88 = .ok (.ixor, 1) := by decide +kernel
theorem dX7_publishes_89 : decode cX7_publishes 89 = .ok (.iand, 1) := by decide +kernel
theorem dX7_publishes_90 : decode cX7_publishes 90 = .ok (.iastore, 1) := by decide +kernel
theorem dX7_publishes_91 : decode cX7_publishes 91 = .ok (.aload_n 0, 1) := by decide +kernel
theorem dX7_publishes_92 : decode cX7_publishes 92 = .ok (.getfield 7, 3) := by decide +kernel
theorem dX7_publishes_95 : decode cX7_publishes 95 = .ok (.iconst 4, 1) := by decide +kernel
theorem dX7_publishes_96 : decode cX7_publishes 96 = .ok (.dup2, 1) := by decide +kernel
theorem dX7_publishes_97 : decode cX7_publishes 97 = .ok (.iaload, 1) := by decide +kernel
theorem dX7_publishes_98 : decode cX7_publishes 98 = .ok (.iconst 1, 1) := by decide +kernel
theorem dX7_publishes_99 : decode cX7_publishes 99 = .ok (.iadd, 1) := by decide +kernel
theorem dX7_publishes_100 : decode cX7_publishes 100 = .ok (.iastore, 1) := by decide +kernel
theorem dX7_publishes_101 : decode cX7_publishes 101 = .ok (.aload_n 0, 1) := by decide +kernel
theorem dX7_publishes_102 : decode cX7_publishes 102 = .ok (.getfield 7, 3) := by decide +kernel
theorem dX7_publishes_105 : decode cX7_publishes 105 = .ok (.iconst 1, 1) := by decide +kernel
theorem dX7_publishes_106 : decode cX7_publishes 106 = .ok (.aload_n 0, 1) := by decide +kernel
theorem dX7_publishes_107 : decode cX7_publishes 107 = .ok (.getfield 7, 3) := by decide +kernel
theorem dX7_publishes_110 : decode cX7_publishes 110 = .ok (.iconst 0, 1) := by decide +kernel
theorem dX7_publishes_111 : decode cX7_publishes 111 = .ok (.iaload, 1) := by decide +kernel
theorem dX7_publishes_112 : decode cX7_publishes 112 = .ok (.iastore, 1) := by decide +kernel
theorem dX7_publishes_113 : decode cX7_publishes 113 = .ok (.aload_n 0, 1) := by decide +kernel
theorem dX7_publishes_114 : decode cX7_publishes 114 = .ok (.getfield 7, 3) := by decide +kernel
theorem dX7_publishes_117 : decode cX7_publishes 117 = .ok (.iconst 2, 1) := by decide +kernel
theorem dX7_publishes_118 : decode cX7_publishes 118 = .ok (.aload_n 0, 1) := by decide +kernel
theorem dX7_publishes_119 : decode cX7_publishes 119 = .ok (.getfield 7, 3) := by decide +kernel
theorem dX7_publishes_122 : decode cX7_publishes 122 = .ok (.iconst 2, 1) := by decide +kernel
theorem dX7_publishes_123 : decode cX7_publishes 123 = .ok (.iaload, 1) := by decide +kernel
theorem dX7_publishes_124 : decode cX7_publishes 124 = .ok (.iconst 1, 1) := by decide +kernel
theorem dX7_publishes_125 : decode cX7_publishes 125 = .ok (.iadd, 1) := by decide +kernel
theorem dX7_publishes_126 : decode cX7_publishes 126 = .ok (.bipush 16, 2) := by decide +kernel
theorem dX7_publishes_128 : decode cX7_publishes 128 = .ok (.irem, 1) := by decide +kernel
theorem dX7_publishes_129 : decode cX7_publishes 129 = .ok (.iastore, 1) := by decide +kernel
theorem dX7_publishes_130 : decode cX7_publishes 130 = .ok (.aload_n 0, 1) := by decide +kernel
theorem dX7_publishes_131 : decode cX7_publishes 131 = .ok (.invokevirtual 77, 3) := by decide +kernel
theorem dX7_publishes_134 : decode cX7_publishes 134 = .ok (.aload_n 0, 1) := by decide +kernel
theorem dX7_publishes_135 : decode cX7_publishes 135 = .ok (.getfield 7, 3) := by decide +kernel
theorem dX7_publishes_138 : decode cX7_publishes 138 = .ok (.iconst 2, 1) := by decide +kernel
theorem dX7_publishes_139 : decode cX7_publishes 139 = .ok (.iaload, 1) := by decide +kernel
theorem dX7_publishes_140 : decode cX7_publishes 140 = .ok (.ireturn, 1) := by decide +kernel
theorem dX7_canRenumber_0 : decode cX7_canRenumber 0 = .ok (.iload_n 1, 1) := by decide +kernel
theorem dX7_canRenumber_1 : decode cX7_canRenumber 1 = .ok (.invokestatic 80, 3) := by decide +kernel
theorem dX7_canRenumber_4 : decode cX7_canRenumber 4 = .ok (.ifCond .eq 17, 3) := by decide +kernel
theorem dX7_canRenumber_7 : decode cX7_canRenumber 7 = .ok (.iload_n 1, 1) := by decide +kernel
theorem dX7_canRenumber_8 : decode cX7_canRenumber 8 = .ok (.aload_n 0, 1) := by decide +kernel
theorem dX7_canRenumber_9 : decode cX7_canRenumber 9 = .ok (.getfield 7, 3) := by decide +kernel
theorem dX7_canRenumber_12 : decode cX7_canRenumber 12 = .ok (.iconst 2, 1) := by decide +kernel
theorem dX7_canRenumber_13 : decode cX7_canRenumber 13 = .ok (.iaload, 1) := by decide +kernel
theorem dX7_canRenumber_14 : decode cX7_canRenumber 14 = .ok (.if_icmp .eq 7, 3) := by decide +kernel
theorem dX7_canRenumber_17 : decode cX7_canRenumber 17 = .ok (.iconst 1, 1) := by decide +kernel
theorem dX7_canRenumber_18 : decode cX7_canRenumber 18 = .ok (.goto 4, 3) := by decide +kernel
theorem dX7_canRenumber_21 : decode cX7_canRenumber 21 = .ok (.iconst 0, 1) := by decide +kernel
theorem dX7_canRenumber_22 : decode cX7_canRenumber 22 = .ok (.ireturn, 1) := by decide +kernel
theorem dX7_renumbers_0 : decode cX7_renumbers 0 = .ok (.aload_n 0, 1) := by decide +kernel
theorem dX7_renumbers_1 : decode cX7_renumbers 1 = .ok (.getfield 7, 3) := by decide +kernel
theorem dX7_renumbers_4 : decode cX7_renumbers 4 = .ok (.iconst 2, 1) := by decide +kernel
theorem dX7_renumbers_5 : decode cX7_renumbers 5 = .ok (.iaload, 1) := by decide +kernel
theorem dX7_renumbers_6 : decode cX7_renumbers 6 = .ok (.istore_n 2, 1) := by decide +kernel
theorem dX7_renumbers_7 : decode cX7_renumbers 7 = .ok (.aload_n 0, 1) := by decide +kernel
theorem dX7_renumbers_8 : decode cX7_renumbers 8 = .ok (.getfield 7, 3) := by decide +kernel
theorem dX7_renumbers_11 : decode cX7_renumbers 11 = .ok (.iconst 2, 1) := by decide +kernel
theorem dX7_renumbers_12 : decode cX7_renumbers 12 = .ok (.iload_n 1, 1) := by decide +kernel
theorem dX7_renumbers_13 : decode cX7_renumbers 13 = .ok (.iastore, 1) := by decide +kernel
theorem dX7_renumbers_14 : decode cX7_renumbers 14 = .ok (.aload_n 0, 1) := by decide +kernel
theorem dX7_renumbers_15 : decode cX7_renumbers 15 = .ok (.getfield 7, 3) := by decide +kernel
theorem dX7_renumbers_18 : decode cX7_renumbers 18 = .ok (.iconst 4, 1) := by decide +kernel
theorem dX7_renumbers_19 : decode cX7_renumbers 19 = .ok (.iconst 0, 1) := by decide +kernel
theorem dX7_renumbers_20 : decode cX7_renumbers 20 = .ok (.iastore, 1) := by decide +kernel
theorem dX7_renumbers_21 : decode cX7_renumbers 21 = .ok (.aload_n 0, 1) := by decide +kernel
theorem dX7_renumbers_22 : decode cX7_renumbers 22 = .ok (.invokevirtual 77, 3) := by decide +kernel
theorem dX7_renumbers_25 : decode cX7_renumbers 25 = .ok (.iload_n 2, 1) := by decide +kernel
theorem dX7_renumbers_26 : decode cX7_renumbers 26 = .ok (.ireturn, 1) := by decide +kernel
theorem dX7_sleepers_0 : decode cX7_sleepers 0 = .ok (.iconst 0, 1) := by decide +kernel
theorem dX7_sleepers_1 : decode cX7_sleepers 1 = .ok (.istore_n 1, 1) := by decide +kernel
theorem dX7_sleepers_2 : decode cX7_sleepers 2 = .ok (.iconst 0, 1) := by decide +kernel
theorem dX7_sleepers_3 : decode cX7_sleepers 3 = .ok (.istore_n 2, 1) := by decide +kernel
theorem dX7_sleepers_4 : decode cX7_sleepers 4 = .ok (.iload_n 2, 1) := by decide +kernel
theorem dX7_sleepers_5 : decode cX7_sleepers 5 = .ok (.iconst 4, 1) := by decide +kernel
theorem dX7_sleepers_6 : decode cX7_sleepers 6 = .ok (.if_icmp .ge 18, 3) := by decide +kernel
theorem dX7_sleepers_9 : decode cX7_sleepers 9 = .ok (.iload_n 1, 1) := by decide +kernel
theorem dX7_sleepers_10 : decode cX7_sleepers 10 = .ok (.aload_n 0, 1) := by decide +kernel
theorem dX7_sleepers_11 : decode cX7_sleepers 11 = .ok (.iload_n 2, 1) := by decide +kernel
theorem dX7_sleepers_12 : decode cX7_sleepers 12 = .ok (.iconst 3, 1) := by decide +kernel
theorem dX7_sleepers_13 : decode cX7_sleepers 13 = .ok (.invokevirtual 34, 3) := by decide +kernel
theorem dX7_sleepers_16 : decode cX7_sleepers 16 = .ok (.iadd, 1) := by decide +kernel
theorem dX7_sleepers_17 : decode cX7_sleepers 17 = .ok (.istore_n 1, 1) := by decide +kernel
theorem dX7_sleepers_18 : decode cX7_sleepers 18 = .ok (.iinc 2 1, 3) := by decide +kernel
theorem dX7_sleepers_21 : decode cX7_sleepers 21 = .ok (.goto (-17), 3) := by decide +kernel
theorem dX7_sleepers_24 : decode cX7_sleepers 24 = .ok (.iload_n 1, 1) := by decide +kernel
theorem dX7_sleepers_25 : decode cX7_sleepers 25 = .ok (.ireturn, 1) := by decide +kernel
theorem dX7_turns_0 : decode cX7_turns 0 = .ok (.aload_n 0, 1) := by decide +kernel
theorem dX7_turns_1 : decode cX7_turns 1 = .ok (.iload_n 1, 1) := by decide +kernel
theorem dX7_turns_2 : decode cX7_turns 2 = .ok (.iconst 3, 1) := by decide +kernel
theorem dX7_turns_3 : decode cX7_turns 3 = .ok (.iload_n 2, 1) := by decide +kernel
theorem dX7_turns_4 : decode cX7_turns 4 = .ok (.invokevirtual 38, 3) := by decide +kernel
theorem dX7_turns_7 : decode cX7_turns 7 = .ok (.aload_n 0, 1) := by decide +kernel
theorem dX7_turns_8 : decode cX7_turns 8 = .ok (.invokevirtual 84, 3) := by decide +kernel
theorem dX7_turns_11 : decode cX7_turns 11 = .ok (.ireturn, 1) := by decide +kernel
theorem dX7_add_0 : decode cX7_add 0 = .ok (.aload_n 0, 1) := by decide +kernel
theorem dX7_add_1 : decode cX7_add 1 = .ok (.iconst 0, 1) := by decide +kernel
theorem dX7_add_2 : decode cX7_add 2 = .ok (.putfield 19, 3) := by decide +kernel
theorem dX7_add_5 : decode cX7_add 5 = .ok (.iload_n 1, 1) := by decide +kernel
theorem dX7_add_6 : decode cX7_add 6 = .ok (.invokestatic 87, 3) := by decide +kernel
theorem dX7_add_9 : decode cX7_add 9 = .ok (.ifCond .ne 9, 3) := by decide +kernel
theorem dX7_add_12 : decode cX7_add 12 = .ok (.aload_n 0, 1) := by decide +kernel
theorem dX7_add_13 : decode cX7_add 13 = .ok (.iconst 1, 1) := by decide +kernel
theorem dX7_add_14 : decode cX7_add 14 = .ok (.invokevirtual 30, 3) := by decide +kernel
theorem dX7_add_17 : decode cX7_add 17 = .ok (.ireturn, 1) := by decide +kernel
theorem dX7_add_18 : decode cX7_add 18 = .ok (.aload_n 0, 1) := by decide +kernel
theorem dX7_add_19 : decode cX7_add 19 = .ok (.iload_n 1, 1) := by decide +kernel
theorem dX7_add_20 : decode cX7_add 20 = .ok (.invokevirtual 90, 3) := by decide +kernel
theorem dX7_add_23 : decode cX7_add 23 = .ok (.ifCond .ne 9, 3) := by decide +kernel
theorem dX7_add_26 : decode cX7_add 26 = .ok (.aload_n 0, 1) := by decide +kernel
theorem dX7_add_27 : decode cX7_add 27 = .ok (.iconst 2, 1) := by decide +kernel
theorem dX7_add_28 : decode cX7_add 28 = .ok (.invokevirtual 30, 3) := by decide +kernel
theorem dX7_add_31 : decode cX7_add 31 = .ok (.ireturn, 1) := by decide +kernel
theorem dX7_add_32 : decode cX7_add 32 = .ok (.aload_n 0, 1) := by decide +kernel
theorem dX7_add_33 : decode cX7_add 33 = .ok (.invokevirtual 93, 3) := by decide +kernel
theorem dX7_add_36 : decode cX7_add 36 = .ok (.aload_n 0, 1) := by decide +kernel
theorem dX7_add_37 : decode cX7_add 37 = .ok (.iload_n 1, 1) := by decide +kernel
theorem dX7_add_38 : decode cX7_add 38 = .ok (.invokevirtual 96, 3) := by decide +kernel
theorem dX7_add_41 : decode cX7_add 41 = .ok (.ireturn, 1) := by decide +kernel
theorem dX7_crossOut_0 : decode cX7_crossOut 0 = .ok (.aload_n 0, 1) := by decide +kernel
theorem dX7_crossOut_1 : decode cX7_crossOut 1 = .ok (.iconst 0, 1) := by decide +kernel
theorem dX7_crossOut_2 : decode cX7_crossOut 2 = .ok (.putfield 19, 3) := by decide +kernel
theorem dX7_crossOut_5 : decode cX7_crossOut 5 = .ok (.iload_n 1, 1) := by decide +kernel
theorem dX7_crossOut_6 : decode cX7_crossOut 6 = .ok (.invokestatic 87, 3) := by decide +kernel
theorem dX7_crossOut_9 : decode cX7_crossOut 9 = .ok (.ifCond .ne 9, 3) := by decide +kernel
theorem dX7_crossOut_12 : decode cX7_crossOut 12 = .ok (.aload_n 0, 1) := by decide +kernel
theorem dX7_crossOut_13 : decode cX7_crossOut 13 = .ok (.iconst 1, 1) := by decide +kernel
theorem dX7_crossOut_14 : decode cX7_crossOut 14 = .ok (.invokevirtual 30, 3) := by decide +kernel
theorem dX7_crossOut_17 : decode cX7_crossOut 17 = .ok (.ireturn, 1) := by decide +kernel
theorem dX7_crossOut_18 : decode cX7_crossOut 18 = .ok (.aload_n 0, 1) := by decide +kernel
theorem dX7_crossOut_19 : decode cX7_crossOut 19 = .ok (.iload_n 1, 1) := by decide +kernel
theorem dX7_crossOut_20 : decode cX7_crossOut 20 = .ok (.invokevirtual 90, 3) := by decide +kernel
theorem dX7_crossOut_23 : decode cX7_crossOut 23 = .ok (.ifCond .eq 9, 3) := by decide +kernel
theorem dX7_crossOut_26 : decode cX7_crossOut 26 = .ok (.aload_n 0, 1) := by decide +kernel
theorem dX7_crossOut_27 : decode cX7_crossOut 27 = .ok (.iconst 2, 1) := by decide +kernel
theorem dX7_crossOut_28 : decode cX7_crossOut 28 = .ok (.invokevirtual 30, 3) := by decide +kernel
theorem dX7_crossOut_31 : decode cX7_crossOut 31 = .ok (.ireturn, 1) := by decide +kernel
theorem dX7_crossOut_32 : decode cX7_crossOut 32 = .ok (.aload_n 0, 1) := by decide +kernel
theorem dX7_crossOut_33 : decode cX7_crossOut 33 = .ok (.invokevirtual 93, 3) := by decide +kernel
theorem dX7_crossOut_36 : decode cX7_crossOut 36 = .ok (.aload_n 0, 1) := by decide +kernel
theorem dX7_crossOut_37 : decode cX7_crossOut 37 = .ok (.iload_n 1, 1) := by decide +kernel
theorem dX7_crossOut_38 : decode cX7_crossOut 38 = .ok (.invokevirtual 96, 3) := by decide +kernel
theorem dX7_crossOut_41 : decode cX7_crossOut 41 = .ok (.ireturn, 1) := by decide +kernel
theorem dX7_publish_0 : decode cX7_publish 0 = .ok (.aload_n 0, 1) := by decide +kernel
theorem dX7_publish_1 : decode cX7_publish 1 = .ok (.iconst 0, 1) := by decide +kernel
theorem dX7_publish_2 : decode cX7_publish 2 = .ok (.putfield 19, 3) := by decide +kernel
theorem dX7_publish_5 : decode cX7_publish 5 = .ok (.aload_n 0, 1) := by decide +kernel
theorem dX7_publish_6 : decode cX7_publish 6 = .ok (.invokevirtual 99, 3) := by decide +kernel
theorem dX7_publish_9 : decode cX7_publish 9 = .ok (.ifCond .ne 9, 3) := by decide +kernel
theorem dX7_publish_12 : decode cX7_publish 12 = .ok (.aload_n 0, 1) := by decide +kernel
theorem dX7_publish_13 : decode cX7_publish 13 = .ok (.iconst 1, 1) := by decide +kernel
theorem dX7_publish_14 : decode cX7_publish 14 = .ok (.invokevirtual 30, 3) := by decide +kernel
theorem dX7_publish_17 : decode cX7_publish 17 = .ok (.ireturn, 1) := by decide +kernel
theorem dX7_publish_18 : decode cX7_publish 18 = .ok (.aload_n 0, 1) := by decide +kernel
theorem dX7_publish_19 : decode cX7_publish 19 = .ok (.invokevirtual 93, 3) := by decide +kernel
theorem dX7_publish_22 : decode cX7_publish 22 = .ok (.aload_n 0, 1) := by decide +kernel
theorem dX7_publish_23 : decode cX7_publish 23 = .ok (.invokevirtual 103, 3) := by decide +kernel
theorem dX7_publish_26 : decode cX7_publish 26 = .ok (.ireturn, 1) := by decide +kernel
theorem dX7_renumber_0 : decode cX7_renumber 0 = .ok (.aload_n 0, 1) := by decide +kernel
theorem dX7_renumber_1 : decode cX7_renumber 1 = .ok (.iconst 0, 1) := by decide +kernel
theorem dX7_renumber_2 : decode cX7_renumber 2 = .ok (.putfield 19, 3) := by decide +kernel
theorem dX7_renumber_5 : decode cX7_renumber 5 = .ok (.aload_n 0, 1) := by decide +kernel
theorem dX7_renumber_6 : decode cX7_renumber 6 = .ok (.iload_n 1, 1) := by decide +kernel
theorem dX7_renumber_7 : decode cX7_renumber 7 = .ok (.invokevirtual 106, 3) := by decide +kernel
theorem dX7_renumber_10 : decode cX7_renumber 10 = .ok (.ifCond .ne 9, 3) := by decide +kernel
theorem dX7_renumber_13 : decode cX7_renumber 13 = .ok (.aload_n 0, 1) := by decide +kernel
theorem dX7_renumber_14 : decode cX7_renumber 14 = .ok (.iconst 1, 1) := by decide +kernel
theorem dX7_renumber_15 : decode cX7_renumber 15 = .ok (.invokevirtual 30, 3) := by decide +kernel
theorem dX7_renumber_18 : decode cX7_renumber 18 = .ok (.ireturn, 1) := by decide +kernel
theorem dX7_renumber_19 : decode cX7_renumber 19 = .ok (.aload_n 0, 1) := by decide +kernel
theorem dX7_renumber_20 : decode cX7_renumber 20 = .ok (.invokevirtual 93, 3) := by decide +kernel
theorem dX7_renumber_23 : decode cX7_renumber 23 = .ok (.aload_n 0, 1) := by decide +kernel
theorem dX7_renumber_24 : decode cX7_renumber 24 = .ok (.iload_n 1, 1) := by decide +kernel
theorem dX7_renumber_25 : decode cX7_renumber 25 = .ok (.invokevirtual 109, 3) := by decide +kernel
theorem dX7_renumber_28 : decode cX7_renumber 28 = .ok (.ireturn, 1) := by decide +kernel
theorem dX7_setKeep_0 : decode cX7_setKeep 0 = .ok (.aload_n 0, 1) := by decide +kernel
theorem dX7_setKeep_1 : decode cX7_setKeep 1 = .ok (.iconst 0, 1) := by decide +kernel
theorem dX7_setKeep_2 : decode cX7_setKeep 2 = .ok (.putfield 19, 3) := by decide +kernel
theorem dX7_setKeep_5 : decode cX7_setKeep 5 = .ok (.iload_n 1, 1) := by decide +kernel
theorem dX7_setKeep_6 : decode cX7_setKeep 6 = .ok (.iconst 1, 1) := by decide +kernel
theorem dX7_setKeep_7 : decode cX7_setKeep 7 = .ok (.bipush 6, 2) := by decide +kernel
theorem dX7_setKeep_9 : decode cX7_setKeep 9 = .ok (.invokestatic 23, 3) := by decide +kernel
theorem dX7_setKeep_12 : decode cX7_setKeep 12 = .ok (.ifCond .ne 9, 3) := by decide +kernel
theorem dX7_setKeep_15 : decode cX7_setKeep 15 = .ok (.aload_n 0, 1) := by decide +kernel
theorem dX7_setKeep_16 : decode cX7_setKeep 16 = .ok (.iconst 1, 1) := by decide +kernel
theorem dX7_setKeep_17 : decode cX7_setKeep 17 = .ok (.invokevirtual 30, 3) := by decide +kernel
theorem dX7_setKeep_20 : decode cX7_setKeep 20 = .ok (.ireturn, 1) := by decide +kernel
theorem dX7_setKeep_21 : decode cX7_setKeep 21 = .ok (.aload_n 0, 1) := by decide +kernel
theorem dX7_setKeep_22 : decode cX7_setKeep 22 = .ok (.invokevirtual 93, 3) := by decide +kernel
theorem dX7_setKeep_25 : decode cX7_setKeep 25 = .ok (.aload_n 0, 1) := by decide +kernel
theorem dX7_setKeep_26 : decode cX7_setKeep 26 = .ok (.getfield 7, 3) := by decide +kernel
theorem dX7_setKeep_29 : decode cX7_setKeep 29 = .ok (.iconst 3, 1) := by decide +kernel
theorem dX7_setKeep_30 : decode cX7_setKeep 30 = .ok (.iload_n 1, 1) := by decide +kernel
theorem dX7_setKeep_31 : decode cX7_setKeep 31 = .ok (.iastore, 1) := by decide +kernel
theorem dX7_setKeep_32 : decode cX7_setKeep 32 = .ok (.aload_n 0, 1) := by decide +kernel
theorem dX7_setKeep_33 : decode cX7_setKeep 33 = .ok (.getfield 7, 3) := by decide +kernel
theorem dX7_setKeep_36 : decode cX7_setKeep 36 = .ok (.iconst 4, 1) := by decide +kernel
theorem dX7_setKeep_37 : decode cX7_setKeep 37 = .ok (.iaload, 1) := by decide +kernel
theorem dX7_setKeep_38 : decode cX7_setKeep 38 = .ok (.iload_n 1, 1) := by decide +kernel
theorem dX7_setKeep_39 : decode cX7_setKeep 39 = .ok (.if_icmp .le 10, 3) := by decide +kernel
theorem dX7_setKeep_42 : decode cX7_setKeep 42 = .ok (.aload_n 0, 1) := by decide +kernel
theorem dX7_setKeep_43 : decode cX7_setKeep 43 = .ok (.invokevirtual 74, 3) := by decide +kernel
theorem dX7_setKeep_46 : decode cX7_setKeep 46 = .ok (.goto (-14), 3) := by decide +kernel
theorem dX7_setKeep_49 : decode cX7_setKeep 49 = .ok (.aload_n 0, 1) := by decide +kernel
theorem dX7_setKeep_50 : decode cX7_setKeep 50 = .ok (.getfield 7, 3) := by decide +kernel
theorem dX7_setKeep_53 : decode cX7_setKeep 53 = .ok (.iconst 4, 1) := by decide +kernel
theorem dX7_setKeep_54 : decode cX7_setKeep 54 = .ok (.iaload, 1) := by decide +kernel
theorem dX7_setKeep_55 : decode cX7_setKeep 55 = .ok (.ireturn, 1) := by decide +kernel
theorem dX7_edition_0 : decode cX7_edition 0 = .ok (.aload_n 0, 1) := by decide +kernel
theorem dX7_edition_1 : decode cX7_edition 1 = .ok (.iconst 0, 1) := by decide +kernel
theorem dX7_edition_2 : decode cX7_edition 2 = .ok (.putfield 19, 3) := by decide +kernel
theorem dX7_edition_5 : decode cX7_edition 5 = .ok (.aload_n 0, 1) := by decide +kernel
theorem dX7_edition_6 : decode cX7_edition 6 = .ok (.getfield 7, 3) := by decide +kernel
theorem dX7_edition_9 : decode cX7_edition 9 = .ok (.iconst 2, 1) := by decide +kernel
theorem dX7_edition_10 : decode cX7_edition 10 = .ok (.iaload, 1) := by decide +kernel
theorem dX7_edition_11 : decode cX7_edition 11 = .ok (.ireturn, 1) := by decide +kernel
theorem dX7_draft_0 : decode cX7_draft 0 = .ok (.aload_n 0, 1) := by decide +kernel
theorem dX7_draft_1 : decode cX7_draft 1 = .ok (.iconst 0, 1) := by decide +kernel
theorem dX7_draft_2 : decode cX7_draft 2 = .ok (.putfield 19, 3) := by decide +kernel
theorem dX7_draft_5 : decode cX7_draft 5 = .ok (.aload_n 0, 1) := by decide +kernel
theorem dX7_draft_6 : decode cX7_draft 6 = .ok (.getfield 7, 3) := by decide +kernel
theorem dX7_draft_9 : decode cX7_draft 9 = .ok (.iconst 0, 1) := by decide +kernel
theorem dX7_draft_10 : decode cX7_draft 10 = .ok (.iaload, 1) := by decide +kernel
theorem dX7_draft_11 : decode cX7_draft 11 = .ok (.invokestatic 45, 3) := by decide +kernel
theorem dX7_draft_14 : decode cX7_draft 14 = .ok (.ireturn, 1) := by decide +kernel
theorem dX7_published_0 : decode cX7_published 0 = .ok (.aload_n 0, 1) := by decide +kernel
theorem dX7_published_1 : decode cX7_published 1 = .ok (.iconst 0, 1) := by decide +kernel
theorem dX7_published_2 : decode cX7_published 2 = .ok (.putfield 19, 3) := by decide +kernel
theorem dX7_published_5 : decode cX7_published 5 = .ok (.aload_n 0, 1) := by decide +kernel
theorem dX7_published_6 : decode cX7_published 6 = .ok (.getfield 7, 3) := by decide +kernel
theorem dX7_published_9 : decode cX7_published 9 = .ok (.iconst 1, 1) := by decide +kernel
theorem dX7_published_10 : decode cX7_published 10 = .ok (.iaload, 1) := by decide +kernel
theorem dX7_published_11 : decode cX7_published 11 = .ok (.invokestatic 45, 3) := by decide +kernel
theorem dX7_published_14 : decode cX7_published 14 = .ok (.ireturn, 1) := by decide +kernel
theorem dX7_tellsWhere_0 : decode cX7_tellsWhere 0 = .ok (.aload_n 0, 1) := by decide +kernel
theorem dX7_tellsWhere_1 : decode cX7_tellsWhere 1 = .ok (.getfield 7, 3) := by decide +kernel
theorem dX7_tellsWhere_4 : decode cX7_tellsWhere 4 = .ok (.iconst 0, 1) := by decide +kernel
theorem dX7_tellsWhere_5 : decode cX7_tellsWhere 5 = .ok (.iaload, 1) := by decide +kernel
theorem dX7_tellsWhere_6 : decode cX7_tellsWhere 6 = .ok (.iload_n 1, 1) := by decide +kernel
theorem dX7_tellsWhere_7 : decode cX7_tellsWhere 7 = .ok (.ishr, 1) := by decide +kernel
theorem dX7_tellsWhere_8 : decode cX7_tellsWhere 8 = .ok (.iconst 1, 1) := by decide +kernel
theorem dX7_tellsWhere_9 : decode cX7_tellsWhere 9 = .ok (.iand, 1) := by decide +kernel
theorem dX7_tellsWhere_10 : decode cX7_tellsWhere 10 = .ok (.iconst 2, 1) := by decide +kernel
theorem dX7_tellsWhere_11 : decode cX7_tellsWhere 11 = .ok (.aload_n 0, 1) := by decide +kernel
theorem dX7_tellsWhere_12 : decode cX7_tellsWhere 12 = .ok (.getfield 7, 3) := by decide +kernel
theorem dX7_tellsWhere_15 : decode cX7_tellsWhere 15 = .ok (.iconst 1, 1) := by decide +kernel
theorem dX7_tellsWhere_16 : decode cX7_tellsWhere 16 = .ok (.iaload, 1) := by decide +kernel
theorem dX7_tellsWhere_17 : decode cX7_tellsWhere 17 = .ok (.iload_n 1, 1) := by decide +kernel
theorem dX7_tellsWhere_18 : decode cX7_tellsWhere 18 = .ok (.ishr, 1) := by decide +kernel
theorem dX7_tellsWhere_19 : decode cX7_tellsWhere 19 = .ok (.iconst 1, 1) := by decide +kernel
theorem dX7_tellsWhere_20 : decode cX7_tellsWhere 20 = .ok (.iand, 1) := by decide +kernel
theorem dX7_tellsWhere_21 : decode cX7_tellsWhere 21 = .ok (.imul, 1) := by decide +kernel
theorem dX7_tellsWhere_22 : decode cX7_tellsWhere 22 = .ok (.iadd, 1) := by decide +kernel
theorem dX7_tellsWhere_23 : decode cX7_tellsWhere 23 = .ok (.ireturn, 1) := by decide +kernel
theorem dX7_where_0 : decode cX7_where 0 = .ok (.aload_n 0, 1) := by decide +kernel
theorem dX7_where_1 : decode cX7_where 1 = .ok (.iconst 0, 1) := by decide +kernel
theorem dX7_where_2 : decode cX7_where 2 = .ok (.putfield 19, 3) := by decide +kernel
theorem dX7_where_5 : decode cX7_where 5 = .ok (.iload_n 1, 1) := by decide +kernel
theorem dX7_where_6 : decode cX7_where 6 = .ok (.invokestatic 87, 3) := by decide +kernel
theorem dX7_where_9 : decode cX7_where 9 = .ok (.ifCond .eq 11, 3) := by decide +kernel
theorem dX7_where_12 : decode cX7_where 12 = .ok (.aload_n 0, 1) := by decide +kernel
theorem dX7_where_13 : decode cX7_where 13 = .ok (.iload_n 1, 1) := by decide +kernel
theorem dX7_where_14 : decode cX7_where 14 = .ok (.invokevirtual 112, 3) := by decide +kernel
theorem dX7_where_17 : decode cX7_where 17 = .ok (.goto 8, 3) := by decide +kernel
theorem dX7_where_20 : decode cX7_where 20 = .ok (.aload_n 0, 1) := by decide +kernel
theorem dX7_where_21 : decode cX7_where 21 = .ok (.iconst 1, 1) := by decide +kernel
theorem dX7_where_22 : decode cX7_where 22 = .ok (.invokevirtual 30, 3) := by decide +kernel
theorem dX7_where_25 : decode cX7_where 25 = .ok (.ireturn, 1) := by decide +kernel
theorem dX7_unlike_0 : decode cX7_unlike 0 = .ok (.aload_n 0, 1) := by decide +kernel
theorem dX7_unlike_1 : decode cX7_unlike 1 = .ok (.getfield 7, 3) := by decide +kernel
theorem dX7_unlike_4 : decode cX7_unlike 4 = .ok (.iconst 0, 1) := by decide +kernel
theorem dX7_unlike_5 : decode cX7_unlike 5 = .ok (.iaload, 1) := by decide +kernel
theorem dX7_unlike_6 : decode cX7_unlike 6 = .ok (.aload_n 0, 1) := by decide +kernel
theorem dX7_unlike_7 : decode cX7_unlike 7 = .ok (.getfield 7, 3) := by decide +kernel
theorem dX7_unlike_10 : decode cX7_unlike 10 = .ok (.iconst 1, 1) := by decide +kernel
theorem dX7_unlike_11 : decode cX7_unlike 11 = .ok (.iaload, 1) := by decide +kernel
theorem dX7_unlike_12 : decode cX7_unlike 12 = .ok (.ixor, 1) := by decide +kernel
theorem dX7_unlike_13 : decode cX7_unlike 13 = .ok (.invokestatic 45, 3) := by decide +kernel
theorem dX7_unlike_16 : decode cX7_unlike 16 = .ok (.ireturn, 1) := by decide +kernel
theorem dX7_pending_0 : decode cX7_pending 0 = .ok (.aload_n 0, 1) := by decide +kernel
theorem dX7_pending_1 : decode cX7_pending 1 = .ok (.iconst 0, 1) := by decide +kernel
theorem dX7_pending_2 : decode cX7_pending 2 = .ok (.putfield 19, 3) := by decide +kernel
theorem dX7_pending_5 : decode cX7_pending 5 = .ok (.aload_n 0, 1) := by decide +kernel
theorem dX7_pending_6 : decode cX7_pending 6 = .ok (.invokevirtual 115, 3) := by decide +kernel
theorem dX7_pending_9 : decode cX7_pending 9 = .ok (.ireturn, 1) := by decide +kernel
theorem dX7_kept_0 : decode cX7_kept 0 = .ok (.aload_n 0, 1) := by decide +kernel
theorem dX7_kept_1 : decode cX7_kept 1 = .ok (.iconst 0, 1) := by decide +kernel
theorem dX7_kept_2 : decode cX7_kept 2 = .ok (.putfield 19, 3) := by decide +kernel
theorem dX7_kept_5 : decode cX7_kept 5 = .ok (.aload_n 0, 1) := by decide +kernel
theorem dX7_kept_6 : decode cX7_kept 6 = .ok (.getfield 7, 3) := by decide +kernel
theorem dX7_kept_9 : decode cX7_kept 9 = .ok (.iconst 4, 1) := by decide +kernel
theorem dX7_kept_10 : decode cX7_kept 10 = .ok (.iaload, 1) := by decide +kernel
theorem dX7_kept_11 : decode cX7_kept 11 = .ok (.ireturn, 1) := by decide +kernel
theorem dX7_isDifference_0 : decode cX7_isDifference 0 = .ok (.iload_n 1, 1) := by decide +kernel
theorem dX7_isDifference_1 : decode cX7_isDifference 1 = .ok (.iconst 0, 1) := by decide +kernel
theorem dX7_isDifference_2 : decode cX7_isDifference 2 = .ok (.aload_n 0, 1) := by decide +kernel
theorem dX7_isDifference_3 : decode cX7_isDifference 3 = .ok (.getfield 7, 3) := by decide +kernel
theorem dX7_isDifference_6 : decode cX7_isDifference 6 = .ok (.iconst 4, 1) := by decide +kernel
theorem dX7_isDifference_7 : decode cX7_isDifference 7 = .ok (.iaload, 1) := by decide +kernel
theorem dX7_isDifference_8 : decode cX7_isDifference 8 = .ok (.iconst 1, 1) := by decide +kernel
theorem dX7_isDifference_9 : decode cX7_isDifference 9 = .ok (.isub, 1) := by decide +kernel
theorem dX7_isDifference_10 : decode cX7_isDifference 10 = .ok (.invokestatic 23, 3) := by decide +kernel
theorem dX7_isDifference_13 : decode cX7_isDifference 13 = .ok (.ireturn, 1) := by decide +kernel
theorem dX7_from_0 : decode cX7_from 0 = .ok (.aload_n 0, 1) := by decide +kernel
theorem dX7_from_1 : decode cX7_from 1 = .ok (.iconst 0, 1) := by decide +kernel
theorem dX7_from_2 : decode cX7_from 2 = .ok (.putfield 19, 3) := by decide +kernel
theorem dX7_from_5 : decode cX7_from 5 = .ok (.aload_n 0, 1) := by decide +kernel
theorem dX7_from_6 : decode cX7_from 6 = .ok (.iload_n 1, 1) := by decide +kernel
theorem dX7_from_7 : decode cX7_from 7 = .ok (.invokevirtual 118, 3) := by decide +kernel
theorem dX7_from_10 : decode cX7_from 10 = .ok (.ifCond .eq 12, 3) := by decide +kernel
theorem dX7_from_13 : decode cX7_from 13 = .ok (.aload_n 0, 1) := by decide +kernel
theorem dX7_from_14 : decode cX7_from 14 = .ok (.iload_n 1, 1) := by decide +kernel
theorem dX7_from_15 : decode cX7_from 15 = .ok (.iconst 0, 1) := by decide +kernel
theorem dX7_from_16 : decode cX7_from 16 = .ok (.invokevirtual 42, 3) := by decide +kernel
theorem dX7_from_19 : decode cX7_from 19 = .ok (.goto 8, 3) := by decide +kernel
theorem dX7_from_22 : decode cX7_from 22 = .ok (.aload_n 0, 1) := by decide +kernel
theorem dX7_from_23 : decode cX7_from 23 = .ok (.iconst 1, 1) := by decide +kernel
theorem dX7_from_24 : decode cX7_from 24 = .ok (.invokevirtual 30, 3) := by decide +kernel
theorem dX7_from_27 : decode cX7_from 27 = .ok (.ireturn, 1) := by decide +kernel
theorem dX7_cost_0 : decode cX7_cost 0 = .ok (.aload_n 0, 1) := by decide +kernel
theorem dX7_cost_1 : decode cX7_cost 1 = .ok (.iconst 0, 1) := by decide +kernel
theorem dX7_cost_2 : decode cX7_cost 2 = .ok (.putfield 19, 3) := by decide +kernel
theorem dX7_cost_5 : decode cX7_cost 5 = .ok (.aload_n 0, 1) := by decide +kernel
theorem dX7_cost_6 : decode cX7_cost 6 = .ok (.iload_n 1, 1) := by decide +kernel
theorem dX7_cost_7 : decode cX7_cost 7 = .ok (.invokevirtual 118, 3) := by decide +kernel
theorem dX7_cost_10 : decode cX7_cost 10 = .ok (.ifCond .eq 11, 3) := by decide +kernel
theorem dX7_cost_13 : decode cX7_cost 13 = .ok (.aload_n 0, 1) := by decide +kernel
theorem dX7_cost_14 : decode cX7_cost 14 = .ok (.iload_n 1, 1) := by decide +kernel
theorem dX7_cost_15 : decode cX7_cost 15 = .ok (.invokevirtual 48, 3) := by decide +kernel
theorem dX7_cost_18 : decode cX7_cost 18 = .ok (.goto 8, 3) := by decide +kernel
theorem dX7_cost_21 : decode cX7_cost 21 = .ok (.aload_n 0, 1) := by decide +kernel
theorem dX7_cost_22 : decode cX7_cost 22 = .ok (.iconst 1, 1) := by decide +kernel
theorem dX7_cost_23 : decode cX7_cost 23 = .ok (.invokevirtual 30, 3) := by decide +kernel
theorem dX7_cost_26 : decode cX7_cost 26 = .ok (.ireturn, 1) := by decide +kernel
theorem dX7_compare_0 : decode cX7_compare 0 = .ok (.aload_n 0, 1) := by decide +kernel
theorem dX7_compare_1 : decode cX7_compare 1 = .ok (.iconst 0, 1) := by decide +kernel
theorem dX7_compare_2 : decode cX7_compare 2 = .ok (.putfield 19, 3) := by decide +kernel
theorem dX7_compare_5 : decode cX7_compare 5 = .ok (.iload_n 1, 1) := by decide +kernel
theorem dX7_compare_6 : decode cX7_compare 6 = .ok (.invokestatic 80, 3) := by decide +kernel
theorem dX7_compare_9 : decode cX7_compare 9 = .ok (.ifCond .eq 18, 3) := by decide +kernel
theorem dX7_compare_12 : decode cX7_compare 12 = .ok (.iload_n 2, 1) := by decide +kernel
theorem dX7_compare_13 : decode cX7_compare 13 = .ok (.invokestatic 80, 3) := by decide +kernel
theorem dX7_compare_16 : decode cX7_compare 16 = .ok (.ifCond .eq 11, 3) := by decide +kernel
theorem dX7_compare_19 : decode cX7_compare 19 = .ok (.iload_n 1, 1) := by decide +kernel
theorem dX7_compare_20 : decode cX7_compare 20 = .ok (.iload_n 2, 1) := by decide +kernel
theorem dX7_compare_21 : decode cX7_compare 21 = .ok (.invokestatic 51, 3) := by decide +kernel
theorem dX7_compare_24 : decode cX7_compare 24 = .ok (.goto 8, 3) := by decide +kernel
theorem dX7_compare_27 : decode cX7_compare 27 = .ok (.aload_n 0, 1) := by decide +kernel
theorem dX7_compare_28 : decode cX7_compare 28 = .ok (.iconst 1, 1) := by decide +kernel
theorem dX7_compare_29 : decode cX7_compare 29 = .ok (.invokevirtual 30, 3) := by decide +kernel
theorem dX7_compare_32 : decode cX7_compare 32 = .ok (.ireturn, 1) := by decide +kernel
theorem dX7_refresh_0 : decode cX7_refresh 0 = .ok (.aload_n 0, 1) := by decide +kernel
theorem dX7_refresh_1 : decode cX7_refresh 1 = .ok (.iconst 0, 1) := by decide +kernel
theorem dX7_refresh_2 : decode cX7_refresh 2 = .ok (.putfield 19, 3) := by decide +kernel
theorem dX7_refresh_5 : decode cX7_refresh 5 = .ok (.iload_n 1, 1) := by decide +kernel
theorem dX7_refresh_6 : decode cX7_refresh 6 = .ok (.invokestatic 121, 3) := by decide +kernel
theorem dX7_refresh_9 : decode cX7_refresh 9 = .ok (.ifCond .ne 9, 3) := by decide +kernel
theorem dX7_refresh_12 : decode cX7_refresh 12 = .ok (.aload_n 0, 1) := by decide +kernel
theorem dX7_refresh_13 : decode cX7_refresh 13 = .ok (.iconst 1, 1) := by decide +kernel
theorem dX7_refresh_14 : decode cX7_refresh 14 = .ok (.invokevirtual 30, 3) := by decide +kernel
theorem dX7_refresh_17 : decode cX7_refresh 17 = .ok (.ireturn, 1) := by decide +kernel
theorem dX7_refresh_18 : decode cX7_refresh 18 = .ok (.aload_n 0, 1) := by decide +kernel
theorem dX7_refresh_19 : decode cX7_refresh 19 = .ok (.iload_n 1, 1) := by decide +kernel
theorem dX7_refresh_20 : decode cX7_refresh 20 = .ok (.iconst 3, 1) := by decide +kernel
theorem dX7_refresh_21 : decode cX7_refresh 21 = .ok (.invokevirtual 34, 3) := by decide +kernel
theorem dX7_refresh_24 : decode cX7_refresh 24 = .ok (.iconst 1, 1) := by decide +kernel
theorem dX7_refresh_25 : decode cX7_refresh 25 = .ok (.if_icmp .ne 9, 3) := by decide +kernel
theorem dX7_refresh_28 : decode cX7_refresh 28 = .ok (.aload_n 0, 1) := by decide +kernel
theorem dX7_refresh_29 : decode cX7_refresh 29 = .ok (.iconst 2, 1) := by decide +kernel
theorem dX7_refresh_30 : decode cX7_refresh 30 = .ok (.invokevirtual 30, 3) := by decide +kernel
theorem dX7_refresh_33 : decode cX7_refresh 33 = .ok (.ireturn, 1) := by decide +kernel
theorem dX7_refresh_34 : decode cX7_refresh 34 = .ok (.aload_n 0, 1) := by decide +kernel
theorem dX7_refresh_35 : decode cX7_refresh 35 = .ok (.invokevirtual 93, 3) := by decide +kernel
theorem dX7_refresh_38 : decode cX7_refresh 38 = .ok (.aload_n 0, 1) := by decide +kernel
theorem dX7_refresh_39 : decode cX7_refresh 39 = .ok (.iload_n 1, 1) := by decide +kernel
theorem dX7_refresh_40 : decode cX7_refresh 40 = .ok (.invokevirtual 124, 3) := by decide +kernel
theorem dX7_refresh_43 : decode cX7_refresh 43 = .ok (.ireturn, 1) := by decide +kernel
theorem dX7_refreshAll_0 : decode cX7_refreshAll 0 = .ok (.aload_n 0, 1) := by decide +kernel
theorem dX7_refreshAll_1 : decode cX7_refreshAll 1 = .ok (.iconst 0, 1) := by decide +kernel
theorem dX7_refreshAll_2 : decode cX7_refreshAll 2 = .ok (.putfield 19, 3) := by decide +kernel
theorem dX7_refreshAll_5 : decode cX7_refreshAll 5 = .ok (.aload_n 0, 1) := by decide +kernel
theorem dX7_refreshAll_6 : decode cX7_refreshAll 6 = .ok (.invokevirtual 93, 3) := by decide +kernel
theorem dX7_refreshAll_9 : decode cX7_refreshAll 9 = .ok (.iconst 0, 1) := by decide +kernel
theorem dX7_refreshAll_10 : decode cX7_refreshAll 10 = .ok (.istore_n 1, 1) := by decide +kernel
theorem dX7_refreshAll_11 : decode cX7_refreshAll 11 = .ok (.iconst 0, 1) := by decide +kernel
theorem dX7_refreshAll_12 : decode cX7_refreshAll 12 = .ok (.istore_n 2, 1) := by decide +kernel
theorem dX7_refreshAll_13 : decode cX7_refreshAll 13 = .ok (.iload_n 2, 1) := by decide +kernel
theorem dX7_refreshAll_14 : decode cX7_refreshAll 14 = .ok (.iconst 4, 1) := by decide +kernel
theorem dX7_refreshAll_15 : decode cX7_refreshAll 15 = .ok (.if_icmp .ge 46, 3) := by decide +kernel
theorem dX7_refreshAll_18 : decode cX7_refreshAll 18 = .ok (.aload_n 0, 1) := by decide +kernel
theorem dX7_refreshAll_19 : decode cX7_refreshAll 19 = .ok (.iload_n 2, 1) := by decide +kernel
theorem dX7_refreshAll_20 : decode cX7_refreshAll 20 = .ok (.iconst 3, 1) := by decide +kernel
theorem dX7_refreshAll_21 : decode cX7_refreshAll 21 = .ok (.invokevirtual 34, 3) := by decide +kernel
theorem dX7_refreshAll_24 : decode cX7_refreshAll 24 = .ok (.ifCond .ne 31, 3) := by decide +kernel
theorem dX7_refreshAll_27 : decode cX7_refreshAll 27 = .ok (.aload_n 0, 1) := by decide +kernel
theorem dX7_refreshAll_28 : decode cX7_refreshAll 28 = .ok (.iload_n 2, 1) := by decide +kernel
theorem dX7_refreshAll_29 : decode cX7_refreshAll 29 = .ok (.iconst 4, 1) := by decide +kernel
theorem dX7_refreshAll_30 : decode cX7_refreshAll 30 = .ok (.invokevirtual 34, 3) := by decide +kernel
theorem dX7_refreshAll_33 : decode cX7_refreshAll 33 = .ok (.iconst 1, 1) := by decide +kernel
theorem dX7_refreshAll_34 : decode cX7_refreshAll 34 = .ok (.if_icmp .ne 21, 3) := by decide +kernel
theorem dX7_refreshAll_37 : decode cX7_refreshAll 37 = .ok (.aload_n 0, 1) := by decide +kernel
theorem dX7_refreshAll_38 : decode cX7_refreshAll 38 = .ok (.iload_n 2, 1) := by decide +kernel
theorem dX7_refreshAll_39 : decode cX7_refreshAll 39 = .ok (.invokevirtual 124, 3) := by decide +kernel
theorem dX7_refreshAll_42 : decode cX7_refreshAll 42 = .ok (.istore_n 3, 1) := by decide +kernel
theorem dX7_refreshAll_43 : decode cX7_refreshAll 43 = .ok (.iload_n 1, 1) := by decide +kernel
theorem dX7_refreshAll_44 : decode cX7_refreshAll 44 = .ok (.iload_n 3, 1) := by decide +kernel
theorem dX7_refreshAll_45 : decode cX7_refreshAll 45 = .ok (.ifCond .ge 7, 3) := by decide +kernel
theorem dX7_refreshAll_48 : decode cX7_refreshAll 48 = .ok (.iconst 0, 1) := by decide +kernel
theorem dX7_refreshAll_49 : decode cX7_refreshAll 49 = .ok (.goto 4, 3) := by decide +kernel
theorem dX7_refreshAll_52 : decode cX7_refreshAll 52 = .ok (.iconst 1, 1) := by decide +kernel
theorem dX7_refreshAll_53 : decode cX7_refreshAll 53 = .ok (.iadd, 1) := by decide +kernel
theorem dX7_refreshAll_54 : decode cX7_refreshAll 54 = .ok (.istore_n 1, 1) := by decide +kernel
theorem dX7_refreshAll_55 : decode cX7_refreshAll 55 = .ok (.iinc 2 1, 3) := by decide +kernel
theorem dX7_refreshAll_58 : decode cX7_refreshAll 58 = .ok (.goto (-45), 3) := by decide +kernel
theorem dX7_refreshAll_61 : decode cX7_refreshAll 61 = .ok (.iload_n 1, 1) := by decide +kernel
theorem dX7_refreshAll_62 : decode cX7_refreshAll 62 = .ok (.ireturn, 1) := by decide +kernel
theorem dX7_sleep_0 : decode cX7_sleep 0 = .ok (.aload_n 0, 1) := by decide +kernel
theorem dX7_sleep_1 : decode cX7_sleep 1 = .ok (.iconst 0, 1) := by decide +kernel
theorem dX7_sleep_2 : decode cX7_sleep 2 = .ok (.putfield 19, 3) := by decide +kernel
theorem dX7_sleep_5 : decode cX7_sleep 5 = .ok (.iload_n 1, 1) := by decide +kernel
theorem dX7_sleep_6 : decode cX7_sleep 6 = .ok (.invokestatic 121, 3) := by decide +kernel
theorem dX7_sleep_9 : decode cX7_sleep 9 = .ok (.ifCond .ne 9, 3) := by decide +kernel
theorem dX7_sleep_12 : decode cX7_sleep 12 = .ok (.aload_n 0, 1) := by decide +kernel
theorem dX7_sleep_13 : decode cX7_sleep 13 = .ok (.iconst 1, 1) := by decide +kernel
theorem dX7_sleep_14 : decode cX7_sleep 14 = .ok (.invokevirtual 30, 3) := by decide +kernel
theorem dX7_sleep_17 : decode cX7_sleep 17 = .ok (.ireturn, 1) := by decide +kernel
theorem dX7_sleep_18 : decode cX7_sleep 18 = .ok (.aload_n 0, 1) := by decide +kernel
theorem dX7_sleep_19 : decode cX7_sleep 19 = .ok (.iload_n 1, 1) := by decide +kernel
theorem dX7_sleep_20 : decode cX7_sleep 20 = .ok (.iconst 3, 1) := by decide +kernel
theorem dX7_sleep_21 : decode cX7_sleep 21 = .ok (.invokevirtual 34, 3) := by decide +kernel
theorem dX7_sleep_24 : decode cX7_sleep 24 = .ok (.iconst 1, 1) := by decide +kernel
theorem dX7_sleep_25 : decode cX7_sleep 25 = .ok (.if_icmp .ne 9, 3) := by decide +kernel
theorem dX7_sleep_28 : decode cX7_sleep 28 = .ok (.aload_n 0, 1) := by decide +kernel
theorem dX7_sleep_29 : decode cX7_sleep 29 = .ok (.iconst 2, 1) := by decide +kernel
theorem dX7_sleep_30 : decode cX7_sleep 30 = .ok (.invokevirtual 30, 3) := by decide +kernel
theorem dX7_sleep_33 : decode cX7_sleep 33 = .ok (.ireturn, 1) := by decide +kernel
theorem dX7_sleep_34 : decode cX7_sleep 34 = .ok (.aload_n 0, 1) := by decide +kernel
theorem dX7_sleep_35 : decode cX7_sleep 35 = .ok (.invokevirtual 93, 3) := by decide +kernel
theorem dX7_sleep_38 : decode cX7_sleep 38 = .ok (.aload_n 0, 1) := by decide +kernel
theorem dX7_sleep_39 : decode cX7_sleep 39 = .ok (.iload_n 1, 1) := by decide +kernel
theorem dX7_sleep_40 : decode cX7_sleep 40 = .ok (.iconst 1, 1) := by decide +kernel
theorem dX7_sleep_41 : decode cX7_sleep 41 = .ok (.invokevirtual 127, 3) := by decide +kernel
theorem dX7_sleep_44 : decode cX7_sleep 44 = .ok (.ireturn, 1) := by decide +kernel
theorem dX7_wake_0 : decode cX7_wake 0 = .ok (.aload_n 0, 1) := by decide +kernel
theorem dX7_wake_1 : decode cX7_wake 1 = .ok (.iconst 0, 1) := by decide +kernel
theorem dX7_wake_2 : decode cX7_wake 2 = .ok (.putfield 19, 3) := by decide +kernel
theorem dX7_wake_5 : decode cX7_wake 5 = .ok (.iload_n 1, 1) := by decide +kernel
theorem dX7_wake_6 : decode cX7_wake 6 = .ok (.invokestatic 121, 3) := by decide +kernel
theorem dX7_wake_9 : decode cX7_wake 9 = .ok (.ifCond .ne 9, 3) := by decide +kernel
theorem dX7_wake_12 : decode cX7_wake 12 = .ok (.aload_n 0, 1) := by decide +kernel
theorem dX7_wake_13 : decode cX7_wake 13 = .ok (.iconst 1, 1) := by decide +kernel
theorem dX7_wake_14 : decode cX7_wake 14 = .ok (.invokevirtual 30, 3) := by decide +kernel
theorem dX7_wake_17 : decode cX7_wake 17 = .ok (.ireturn, 1) := by decide +kernel
theorem dX7_wake_18 : decode cX7_wake 18 = .ok (.aload_n 0, 1) := by decide +kernel
theorem dX7_wake_19 : decode cX7_wake 19 = .ok (.iload_n 1, 1) := by decide +kernel
theorem dX7_wake_20 : decode cX7_wake 20 = .ok (.iconst 3, 1) := by decide +kernel
theorem dX7_wake_21 : decode cX7_wake 21 = .ok (.invokevirtual 34, 3) := by decide +kernel
theorem dX7_wake_24 : decode cX7_wake 24 = .ok (.ifCond .ne 9, 3) := by decide +kernel
theorem dX7_wake_27 : decode cX7_wake 27 = .ok (.aload_n 0, 1) := by decide +kernel
theorem dX7_wake_28 : decode cX7_wake 28 = .ok (.iconst 2, 1) := by decide +kernel
theorem dX7_wake_29 : decode cX7_wake 29 = .ok (.invokevirtual 30, 3) := by decide +kernel
theorem dX7_wake_32 : decode cX7_wake 32 = .ok (.ireturn, 1) := by decide +kernel
theorem dX7_wake_33 : decode cX7_wake 33 = .ok (.aload_n 0, 1) := by decide +kernel
theorem dX7_wake_34 : decode cX7_wake 34 = .ok (.invokevirtual 93, 3) := by decide +kernel
theorem dX7_wake_37 : decode cX7_wake 37 = .ok (.aload_n 0, 1) := by decide +kernel
theorem dX7_wake_38 : decode cX7_wake 38 = .ok (.iload_n 1, 1) := by decide +kernel
theorem dX7_wake_39 : decode cX7_wake 39 = .ok (.iconst 0, 1) := by decide +kernel
theorem dX7_wake_40 : decode cX7_wake 40 = .ok (.invokevirtual 127, 3) := by decide +kernel
theorem dX7_wake_43 : decode cX7_wake 43 = .ok (.ireturn, 1) := by decide +kernel
theorem dX7_tellsStreets_0 : decode cX7_tellsStreets 0 = .ok (.aload_n 0, 1) := by decide +kernel
theorem dX7_tellsStreets_1 : decode cX7_tellsStreets 1 = .ok (.iload_n 1, 1) := by decide +kernel
theorem dX7_tellsStreets_2 : decode cX7_tellsStreets 2 = .ok (.iconst 0, 1) := by decide +kernel
theorem dX7_tellsStreets_3 : decode cX7_tellsStreets 3 = .ok (.invokevirtual 34, 3) := by decide +kernel
theorem dX7_tellsStreets_6 : decode cX7_tellsStreets 6 = .ok (.iconst 1, 1) := by decide +kernel
theorem dX7_tellsStreets_7 : decode cX7_tellsStreets 7 = .ok (.if_icmp .ne 15, 3) := by decide +kernel
theorem dX7_tellsStreets_10 : decode cX7_tellsStreets 10 = .ok (.aload_n 0, 1) := by decide +kernel
theorem dX7_tellsStreets_11 : decode cX7_tellsStreets 11 = .ok (.iload_n 1, 1) := by decide +kernel
theorem dX7_tellsStreets_12 : decode cX7_tellsStreets 12 = .ok (.iconst 1, 1) := by decide +kernel
theorem dX7_tellsStreets_13 : decode cX7_tellsStreets 13 = .ok (.invokevirtual 34, 3) := by decide +kernel
theorem dX7_tellsStreets_16 : decode cX7_tellsStreets 16 = .ok (.invokestatic 45, 3) := by decide +kernel
theorem dX7_tellsStreets_19 : decode cX7_tellsStreets 19 = .ok (.goto 4, 3) := by decide +kernel
theorem dX7_tellsStreets_22 : decode cX7_tellsStreets 22 = .ok (.iconst (-1), 1) := by decide +kernel
theorem dX7_tellsStreets_23 : decode cX7_tellsStreets 23 = .ok (.ireturn, 1) := by decide +kernel
theorem dX7_throwAway_0 : decode cX7_throwAway 0 = .ok (.aload_n 0, 1) := by decide +kernel
theorem dX7_throwAway_1 : decode cX7_throwAway 1 = .ok (.iconst 0, 1) := by decide +kernel
theorem dX7_throwAway_2 : decode cX7_throwAway 2 = .ok (.putfield 19, 3) := by decide +kernel
theorem dX7_throwAway_5 : decode cX7_throwAway 5 = .ok (.iload_n 1, 1) := by decide +kernel
theorem dX7_throwAway_6 : decode cX7_throwAway 6 = .ok (.invokestatic 121, 3) := by decide +kernel
theorem dX7_throwAway_9 : decode cX7_throwAway 9 = .ok (.ifCond .ne 9, 3) := by decide +kernel
theorem dX7_throwAway_12 : decode cX7_throwAway 12 = .ok (.aload_n 0, 1) := by decide +kernel
theorem dX7_throwAway_13 : decode cX7_throwAway 13 = .ok (.iconst 1, 1) := by decide +kernel
theorem dX7_throwAway_14 : decode cX7_throwAway 14 = .ok (.invokevirtual 30, 3) := by decide +kernel
theorem dX7_throwAway_17 : decode cX7_throwAway 17 = .ok (.ireturn, 1) := by decide +kernel
theorem dX7_throwAway_18 : decode cX7_throwAway 18 = .ok (.aload_n 0, 1) := by decide +kernel
theorem dX7_throwAway_19 : decode cX7_throwAway 19 = .ok (.invokevirtual 93, 3) := by decide +kernel
theorem dX7_throwAway_22 : decode cX7_throwAway 22 = .ok (.aload_n 0, 1) := by decide +kernel
theorem dX7_throwAway_23 : decode cX7_throwAway 23 = .ok (.iload_n 1, 1) := by decide +kernel
theorem dX7_throwAway_24 : decode cX7_throwAway 24 = .ok (.invokevirtual 130, 3) := by decide +kernel
theorem dX7_throwAway_27 : decode cX7_throwAway 27 = .ok (.istore_n 2, 1) := by decide +kernel
theorem dX7_throwAway_28 : decode cX7_throwAway 28 = .ok (.aload_n 0, 1) := by decide +kernel
theorem dX7_throwAway_29 : decode cX7_throwAway 29 = .ok (.iload_n 1, 1) := by decide +kernel
theorem dX7_throwAway_30 : decode cX7_throwAway 30 = .ok (.iconst 0, 1) := by decide +kernel
theorem dX7_throwAway_31 : decode cX7_throwAway 31 = .ok (.iconst 0, 1) := by decide +kernel
theorem dX7_throwAway_32 : decode cX7_throwAway 32 = .ok (.invokevirtual 38, 3) := by decide +kernel
theorem dX7_throwAway_35 : decode cX7_throwAway 35 = .ok (.aload_n 0, 1) := by decide +kernel
theorem dX7_throwAway_36 : decode cX7_throwAway 36 = .ok (.iload_n 1, 1) := by decide +kernel
theorem dX7_throwAway_37 : decode cX7_throwAway 37 = .ok (.iconst 1, 1) := by decide +kernel
theorem dX7_throwAway_38 : decode cX7_throwAway 38 = .ok (.iconst 0, 1) := by decide +kernel
theorem dX7_throwAway_39 : decode cX7_throwAway 39 = .ok (.invokevirtual 38, 3) := by decide +kernel
theorem dX7_throwAway_42 : decode cX7_throwAway 42 = .ok (.aload_n 0, 1) := by decide +kernel
theorem dX7_throwAway_43 : decode cX7_throwAway 43 = .ok (.iload_n 1, 1) := by decide +kernel
theorem dX7_throwAway_44 : decode cX7_throwAway 44 = .ok (.iconst 2, 1) := by decide +kernel
theorem dX7_throwAway_45 : decode cX7_throwAway 45 = .ok (.iconst 0, 1) := by decide +kernel
theorem dX7_throwAway_46 : decode cX7_throwAway 46 = .ok (.invokevirtual 38, 3) := by decide +kernel
theorem dX7_throwAway_49 : decode cX7_throwAway 49 = .ok (.iload_n 2, 1) := by decide +kernel
theorem dX7_throwAway_50 : decode cX7_throwAway 50 = .ok (.ireturn, 1) := by decide +kernel
theorem dX7_tellsEdition_0 : decode cX7_tellsEdition 0 = .ok (.aload_n 0, 1) := by decide +kernel
theorem dX7_tellsEdition_1 : decode cX7_tellsEdition 1 = .ok (.iload_n 1, 1) := by decide +kernel
theorem dX7_tellsEdition_2 : decode cX7_tellsEdition 2 = .ok (.iconst 0, 1) := by decide +kernel
theorem dX7_tellsEdition_3 : decode cX7_tellsEdition 3 = .ok (.invokevirtual 34, 3) := by decide +kernel
theorem dX7_tellsEdition_6 : decode cX7_tellsEdition 6 = .ok (.iconst 1, 1) := by decide +kernel
theorem dX7_tellsEdition_7 : decode cX7_tellsEdition 7 = .ok (.if_icmp .ne 12, 3) := by decide +kernel
theorem dX7_tellsEdition_10 : decode cX7_tellsEdition 10 = .ok (.aload_n 0, 1) := by decide +kernel
theorem dX7_tellsEdition_11 : decode cX7_tellsEdition 11 = .ok (.iload_n 1, 1) := by decide +kernel
theorem dX7_tellsEdition_12 : decode cX7_tellsEdition 12 = .ok (.iconst 2, 1) := by decide +kernel
theorem dX7_tellsEdition_13 : decode cX7_tellsEdition 13 = .ok (.invokevirtual 34, 3) := by decide +kernel
theorem dX7_tellsEdition_16 : decode cX7_tellsEdition 16 = .ok (.goto 4, 3) := by decide +kernel
theorem dX7_tellsEdition_19 : decode cX7_tellsEdition 19 = .ok (.iconst (-1), 1) := by decide +kernel
theorem dX7_tellsEdition_20 : decode cX7_tellsEdition 20 = .ok (.ireturn, 1) := by decide +kernel
theorem dX7_editionOf_0 : decode cX7_editionOf 0 = .ok (.aload_n 0, 1) := by decide +kernel
theorem dX7_editionOf_1 : decode cX7_editionOf 1 = .ok (.iconst 0, 1) := by decide +kernel
theorem dX7_editionOf_2 : decode cX7_editionOf 2 = .ok (.putfield 19, 3) := by decide +kernel
theorem dX7_editionOf_5 : decode cX7_editionOf 5 = .ok (.iload_n 1, 1) := by decide +kernel
theorem dX7_editionOf_6 : decode cX7_editionOf 6 = .ok (.invokestatic 121, 3) := by decide +kernel
theorem dX7_editionOf_9 : decode cX7_editionOf 9 = .ok (.ifCond .eq 11, 3) := by decide +kernel
theorem dX7_editionOf_12 : decode cX7_editionOf 12 = .ok (.aload_n 0, 1) := by decide +kernel
theorem dX7_editionOf_13 : decode cX7_editionOf 13 = .ok (.iload_n 1, 1) := by decide +kernel
theorem dX7_editionOf_14 : decode cX7_editionOf 14 = .ok (.invokevirtual 133, 3) := by decide +kernel
theorem dX7_editionOf_17 : decode cX7_editionOf 17 = .ok (.goto 8, 3) := by decide +kernel
theorem dX7_editionOf_20 : decode cX7_editionOf 20 = .ok (.aload_n 0, 1) := by decide +kernel
theorem dX7_editionOf_21 : decode cX7_editionOf 21 = .ok (.iconst 1, 1) := by decide +kernel
theorem dX7_editionOf_22 : decode cX7_editionOf 22 = .ok (.invokevirtual 30, 3) := by decide +kernel
theorem dX7_editionOf_25 : decode cX7_editionOf 25 = .ok (.ireturn, 1) := by decide +kernel
theorem dX7_streets_0 : decode cX7_streets 0 = .ok (.aload_n 0, 1) := by decide +kernel
theorem dX7_streets_1 : decode cX7_streets 1 = .ok (.iconst 0, 1) := by decide +kernel
theorem dX7_streets_2 : decode cX7_streets 2 = .ok (.putfield 19, 3) := by decide +kernel
theorem dX7_streets_5 : decode cX7_streets 5 = .ok (.iload_n 1, 1) := by decide +kernel
theorem dX7_streets_6 : decode cX7_streets 6 = .ok (.invokestatic 121, 3) := by decide +kernel
theorem dX7_streets_9 : decode cX7_streets 9 = .ok (.ifCond .eq 11, 3) := by decide +kernel
theorem dX7_streets_12 : decode cX7_streets 12 = .ok (.aload_n 0, 1) := by decide +kernel
theorem dX7_streets_13 : decode cX7_streets 13 = .ok (.iload_n 1, 1) := by decide +kernel
theorem dX7_streets_14 : decode cX7_streets 14 = .ok (.invokevirtual 130, 3) := by decide +kernel
theorem dX7_streets_17 : decode cX7_streets 17 = .ok (.goto 8, 3) := by decide +kernel
theorem dX7_streets_20 : decode cX7_streets 20 = .ok (.aload_n 0, 1) := by decide +kernel
theorem dX7_streets_21 : decode cX7_streets 21 = .ok (.iconst 1, 1) := by decide +kernel
theorem dX7_streets_22 : decode cX7_streets 22 = .ok (.invokevirtual 30, 3) := by decide +kernel
theorem dX7_streets_25 : decode cX7_streets 25 = .ok (.ireturn, 1) := by decide +kernel
theorem dX7_hasStreet_0 : decode cX7_hasStreet 0 = .ok (.aload_n 0, 1) := by decide +kernel
theorem dX7_hasStreet_1 : decode cX7_hasStreet 1 = .ok (.iload_n 1, 1) := by decide +kernel
theorem dX7_hasStreet_2 : decode cX7_hasStreet 2 = .ok (.iconst 1, 1) := by decide +kernel
theorem dX7_hasStreet_3 : decode cX7_hasStreet 3 = .ok (.invokevirtual 34, 3) := by decide +kernel
theorem dX7_hasStreet_6 : decode cX7_hasStreet 6 = .ok (.iload_n 2, 1) := by decide +kernel
theorem dX7_hasStreet_7 : decode cX7_hasStreet 7 = .ok (.ishr, 1) := by decide +kernel
theorem dX7_hasStreet_8 : decode cX7_hasStreet 8 = .ok (.iconst 1, 1) := by decide +kernel
theorem dX7_hasStreet_9 : decode cX7_hasStreet 9 = .ok (.iand, 1) := by decide +kernel
theorem dX7_hasStreet_10 : decode cX7_hasStreet 10 = .ok (.iconst 1, 1) := by decide +kernel
theorem dX7_hasStreet_11 : decode cX7_hasStreet 11 = .ok (.if_icmp .ne 7, 3) := by decide +kernel
theorem dX7_hasStreet_14 : decode cX7_hasStreet 14 = .ok (.iconst 1, 1) := by decide +kernel
theorem dX7_hasStreet_15 : decode cX7_hasStreet 15 = .ok (.goto 4, 3) := by decide +kernel
theorem dX7_hasStreet_18 : decode cX7_hasStreet 18 = .ok (.iconst 0, 1) := by decide +kernel
theorem dX7_hasStreet_19 : decode cX7_hasStreet 19 = .ok (.ireturn, 1) := by decide +kernel
theorem dX7_has_0 : decode cX7_has 0 = .ok (.aload_n 0, 1) := by decide +kernel
theorem dX7_has_1 : decode cX7_has 1 = .ok (.iload_n 1, 1) := by decide +kernel
theorem dX7_has_2 : decode cX7_has 2 = .ok (.invokestatic 121, 3) := by decide +kernel
theorem dX7_has_5 : decode cX7_has 5 = .ok (.ifCond .eq 14, 3) := by decide +kernel
theorem dX7_has_8 : decode cX7_has 8 = .ok (.iload_n 2, 1) := by decide +kernel
theorem dX7_has_9 : decode cX7_has 9 = .ok (.invokestatic 87, 3) := by decide +kernel
theorem dX7_has_12 : decode cX7_has 12 = .ok (.ifCond .eq 7, 3) := by decide +kernel
theorem dX7_has_15 : decode cX7_has 15 = .ok (.iconst 0, 1) := by decide +kernel
theorem dX7_has_16 : decode cX7_has 16 = .ok (.goto 4, 3) := by decide +kernel
theorem dX7_has_19 : decode cX7_has 19 = .ok (.iconst 1, 1) := by decide +kernel
theorem dX7_has_20 : decode cX7_has 20 = .ok (.putfield 19, 3) := by decide +kernel
theorem dX7_has_23 : decode cX7_has 23 = .ok (.aload_n 0, 1) := by decide +kernel
theorem dX7_has_24 : decode cX7_has 24 = .ok (.getfield 19, 3) := by decide +kernel
theorem dX7_has_27 : decode cX7_has 27 = .ok (.ifCond .ne 16, 3) := by decide +kernel
theorem dX7_has_30 : decode cX7_has 30 = .ok (.aload_n 0, 1) := by decide +kernel
theorem dX7_has_31 : decode cX7_has 31 = .ok (.iload_n 1, 1) := by decide +kernel
theorem dX7_has_32 : decode cX7_has 32 = .ok (.iload_n 2, 1) := by decide +kernel
theorem dX7_has_33 : decode cX7_has 33 = .ok (.invokevirtual 136, 3) := by decide +kernel
theorem dX7_has_36 : decode cX7_has 36 = .ok (.ifCond .eq 7, 3) := by decide +kernel
theorem dX7_has_39 : decode cX7_has 39 = .ok (.iconst 1, 1) := by decide +kernel
theorem dX7_has_40 : decode cX7_has 40 = .ok (.goto 4, 3) := by decide +kernel
theorem dX7_has_43 : decode cX7_has 43 = .ok (.iconst 0, 1) := by decide +kernel
theorem dX7_has_44 : decode cX7_has 44 = .ok (.ireturn, 1) := by decide +kernel
theorem dX7_isRight_0 : decode cX7_isRight 0 = .ok (.aload_n 0, 1) := by decide +kernel
theorem dX7_isRight_1 : decode cX7_isRight 1 = .ok (.iload_n 1, 1) := by decide +kernel
theorem dX7_isRight_2 : decode cX7_isRight 2 = .ok (.invokestatic 121, 3) := by decide +kernel
theorem dX7_isRight_5 : decode cX7_isRight 5 = .ok (.ifCond .eq 7, 3) := by decide +kernel
theorem dX7_isRight_8 : decode cX7_isRight 8 = .ok (.iconst 0, 1) := by decide +kernel
theorem dX7_isRight_9 : decode cX7_isRight 9 = .ok (.goto 4, 3) := by decide +kernel
theorem dX7_isRight_12 : decode cX7_isRight 12 = .ok (.iconst 1, 1) := by decide +kernel
theorem dX7_isRight_13 : decode cX7_isRight 13 = .ok (.putfield 19, 3) := by decide +kernel
theorem dX7_isRight_16 : decode cX7_isRight 16 = .ok (.aload_n 0, 1) := by decide +kernel
theorem dX7_isRight_17 : decode cX7_isRight 17 = .ok (.getfield 19, 3) := by decide +kernel
theorem dX7_isRight_20 : decode cX7_isRight 20 = .ok (.ifCond .ne 32, 3) := by decide +kernel
theorem dX7_isRight_23 : decode cX7_isRight 23 = .ok (.aload_n 0, 1) := by decide +kernel
theorem dX7_isRight_24 : decode cX7_isRight 24 = .ok (.iload_n 1, 1) := by decide +kernel
theorem dX7_isRight_25 : decode cX7_isRight 25 = .ok (.iconst 0, 1) := by decide +kernel
theorem dX7_isRight_26 : decode cX7_isRight 26 = .ok (.invokevirtual 34, 3) := by decide +kernel
theorem dX7_isRight_29 : decode cX7_isRight 29 = .ok (.iconst 1, 1) := by decide +kernel
theorem dX7_isRight_30 : decode cX7_isRight 30 = .ok (.if_icmp .ne 22, 3) := by decide +kernel
theorem dX7_isRight_33 : decode cX7_isRight 33 = .ok (.aload_n 0, 1) := by decide +kernel
theorem dX7_isRight_34 : decode cX7_isRight 34 = .ok (.iload_n 1, 1) := by decide +kernel
theorem dX7_isRight_35 : decode cX7_isRight 35 = .ok (.iconst 1, 1) := by decide +kernel
theorem dX7_isRight_36 : decode cX7_isRight 36 = .ok (.invokevirtual 34, 3) := by decide +kernel
theorem dX7_isRight_39 : decode cX7_isRight 39 = .ok (.aload_n 0, 1) := by decide +kernel
theorem dX7_isRight_40 : decode cX7_isRight 40 = .ok (.getfield 7, 3) := by decide +kernel
theorem dX7_isRight_43 : decode cX7_isRight 43 = .ok (.iconst 1, 1) := by decide +kernel
theorem dX7_isRight_44 : decode cX7_isRight 44 = .ok (.iaload, 1) := by decide +kernel
theorem dX7_isRight_45 : decode cX7_isRight 45 = .ok (.if_icmp .ne 7, 3) := by decide +kernel
theorem dX7_isRight_48 : decode cX7_isRight 48 = .ok (.iconst 1, 1) := by decide +kernel
theorem dX7_isRight_49 : decode cX7_isRight 49 = .ok (.goto 4, 3) := by decide +kernel
theorem dX7_isRight_52 : decode cX7_isRight 52 = .ok (.iconst 0, 1) := by decide +kernel
theorem dX7_isRight_53 : decode cX7_isRight 53 = .ok (.ireturn, 1) := by decide +kernel
theorem dX7_tellsAttention_0 : decode cX7_tellsAttention 0 = .ok (.iconst 2, 1) := by decide +kernel
theorem dX7_tellsAttention_1 : decode cX7_tellsAttention 1 = .ok (.aload_n 0, 1) := by decide +kernel
theorem dX7_tellsAttention_2 : decode cX7_tellsAttention 2 = .ok (.iload_n 1, 1) := by decide +kernel
theorem dX7_tellsAttention_3 : decode cX7_tellsAttention 3 = .ok (.iconst 3, 1) := by decide +kernel
theorem dX7_tellsAttention_4 : decode cX7_tellsAttention 4 = .ok (.invokevirtual 34, 3) := by decide +kernel
theorem dX7_tellsAttention_7 : decode cX7_tellsAttention 7 = .ok (.imul, 1) := by decide +kernel
theorem dX7_tellsAttention_8 : decode cX7_tellsAttention 8 = .ok (.aload_n 0, 1) := by decide +kernel
theorem dX7_tellsAttention_9 : decode cX7_tellsAttention 9 = .ok (.iload_n 1, 1) := by decide +kernel
theorem dX7_tellsAttention_10 : decode cX7_tellsAttention 10 = .ok (.iconst 4, 1) := by decide +kernel
theorem dX7_tellsAttention_11 : decode cX7_tellsAttention 11 = .ok (.invokevirtual 34, 3) := by decide +kernel
theorem dX7_tellsAttention_14 : decode cX7_tellsAttention 14 = .ok (.iadd, 1) := by decide +kernel
theorem dX7_tellsAttention_15 : decode cX7_tellsAttention 15 = .ok (.ireturn, 1) := by decide +kernel
theorem dX7_attention_0 : decode cX7_attention 0 = .ok (.aload_n 0, 1) := by decide +kernel
theorem dX7_attention_1 : decode cX7_attention 1 = .ok (.iconst 0, 1) := by decide +kernel
theorem dX7_attention_2 : decode cX7_attention 2 = .ok (.putfield 19, 3) := by decide +kernel
theorem dX7_attention_5 : decode cX7_attention 5 = .ok (.iload_n 1, 1) := by decide +kernel
theorem dX7_attention_6 : decode cX7_attention 6 = .ok (.invokestatic 121, 3) := by decide +kernel
theorem dX7_attention_9 : decode cX7_attention 9 = .ok (.ifCond .eq 11, 3) := by decide +kernel
theorem dX7_attention_12 : decode cX7_attention 12 = .ok (.aload_n 0, 1) := by decide +kernel
theorem dX7_attention_13 : decode cX7_attention 13 = .ok (.iload_n 1, 1) := by decide +kernel
theorem dX7_attention_14 : decode cX7_attention 14 = .ok (.invokevirtual 140, 3) := by decide +kernel
theorem dX7_attention_17 : decode cX7_attention 17 = .ok (.goto 8, 3) := by decide +kernel
theorem dX7_attention_20 : decode cX7_attention 20 = .ok (.aload_n 0, 1) := by decide +kernel
theorem dX7_attention_21 : decode cX7_attention 21 = .ok (.iconst 1, 1) := by decide +kernel
theorem dX7_attention_22 : decode cX7_attention 22 = .ok (.invokevirtual 30, 3) := by decide +kernel
theorem dX7_attention_25 : decode cX7_attention 25 = .ok (.ireturn, 1) := by decide +kernel
theorem dX7_costs_0 : decode cX7_costs 0 = .ok (.aload_n 0, 1) := by decide +kernel
theorem dX7_costs_1 : decode cX7_costs 1 = .ok (.iconst 0, 1) := by decide +kernel
theorem dX7_costs_2 : decode cX7_costs 2 = .ok (.putfield 19, 3) := by decide +kernel
theorem dX7_costs_5 : decode cX7_costs 5 = .ok (.iload_n 1, 1) := by decide +kernel
theorem dX7_costs_6 : decode cX7_costs 6 = .ok (.invokestatic 121, 3) := by decide +kernel
theorem dX7_costs_9 : decode cX7_costs 9 = .ok (.ifCond .eq 12, 3) := by decide +kernel
theorem dX7_costs_12 : decode cX7_costs 12 = .ok (.aload_n 0, 1) := by decide +kernel
theorem dX7_costs_13 : decode cX7_costs 13 = .ok (.iload_n 1, 1) := by decide +kernel
theorem dX7_costs_14 : decode cX7_costs 14 = .ok (.iconst 5, 1) := by decide +kernel
theorem dX7_costs_15 : decode cX7_costs 15 = .ok (.invokevirtual 34, 3) := by decide +kernel
theorem dX7_costs_18 : decode cX7_costs 18 = .ok (.goto 8, 3) := by decide +kernel
theorem dX7_costs_21 : decode cX7_costs 21 = .ok (.aload_n 0, 1) := by decide +kernel
theorem dX7_costs_22 : decode cX7_costs 22 = .ok (.iconst 1, 1) := by decide +kernel
theorem dX7_costs_23 : decode cX7_costs 23 = .ok (.invokevirtual 30, 3) := by decide +kernel
theorem dX7_costs_26 : decode cX7_costs 26 = .ok (.ireturn, 1) := by decide +kernel
theorem dX7_answer_0 : decode cX7_answer 0 = .ok (.aload_n 0, 1) := by decide +kernel
theorem dX7_answer_1 : decode cX7_answer 1 = .ok (.iconst 0, 1) := by decide +kernel
theorem dX7_answer_2 : decode cX7_answer 2 = .ok (.putfield 19, 3) := by decide +kernel
theorem dX7_answer_5 : decode cX7_answer 5 = .ok (.iload_n 1, 1) := by decide +kernel
theorem dX7_answer_6 : decode cX7_answer 6 = .ok (.invokestatic 121, 3) := by decide +kernel
theorem dX7_answer_9 : decode cX7_answer 9 = .ok (.ifCond .eq 11, 3) := by decide +kernel
theorem dX7_answer_12 : decode cX7_answer 12 = .ok (.aload_n 0, 1) := by decide +kernel
theorem dX7_answer_13 : decode cX7_answer 13 = .ok (.iload_n 1, 1) := by decide +kernel
theorem dX7_answer_14 : decode cX7_answer 14 = .ok (.invokevirtual 64, 3) := by decide +kernel
theorem dX7_answer_17 : decode cX7_answer 17 = .ok (.goto 8, 3) := by decide +kernel
theorem dX7_answer_20 : decode cX7_answer 20 = .ok (.aload_n 0, 1) := by decide +kernel
theorem dX7_answer_21 : decode cX7_answer 21 = .ok (.iconst 1, 1) := by decide +kernel
theorem dX7_answer_22 : decode cX7_answer 22 = .ok (.invokevirtual 30, 3) := by decide +kernel
theorem dX7_answer_25 : decode cX7_answer 25 = .ok (.ireturn, 1) := by decide +kernel
theorem dX7_costToCome_0 : decode cX7_costToCome 0 = .ok (.aload_n 0, 1) := by decide +kernel
theorem dX7_costToCome_1 : decode cX7_costToCome 1 = .ok (.iconst 0, 1) := by decide +kernel
theorem dX7_costToCome_2 : decode cX7_costToCome 2 = .ok (.putfield 19, 3) := by decide +kernel
theorem dX7_costToCome_5 : decode cX7_costToCome 5 = .ok (.iload_n 1, 1) := by decide +kernel
theorem dX7_costToCome_6 : decode cX7_costToCome 6 = .ok (.invokestatic 121, 3) := by decide +kernel
theorem dX7_costToCome_9 : decode cX7_costToCome 9 = .ok (.ifCond .eq 11, 3) := by decide +kernel
theorem dX7_costToCome_12 : decode cX7_costToCome 12 = .ok (.aload_n 0, 1) := by decide +kernel
theorem dX7_costToCome_13 : decode cX7_costToCome 13 = .ok (.iload_n 1, 1) := by decide +kernel
theorem dX7_costToCome_14 : decode cX7_costToCome 14 = .ok (.invokevirtual 67, 3) := by decide +kernel
theorem dX7_costToCome_17 : decode cX7_costToCome 17 = .ok (.goto 8, 3) := by decide +kernel
theorem dX7_costToCome_20 : decode cX7_costToCome 20 = .ok (.aload_n 0, 1) := by decide +kernel
theorem dX7_costToCome_21 : decode cX7_costToCome 21 = .ok (.iconst 1, 1) := by decide +kernel
theorem dX7_costToCome_22 : decode cX7_costToCome 22 = .ok (.invokevirtual 30, 3) := by decide +kernel
theorem dX7_costToCome_25 : decode cX7_costToCome 25 = .ok (.ireturn, 1) := by decide +kernel
theorem dX7_tellsWrong_0 : decode cX7_tellsWrong 0 = .ok (.aload_n 0, 1) := by decide +kernel
theorem dX7_tellsWrong_1 : decode cX7_tellsWrong 1 = .ok (.iload_n 1, 1) := by decide +kernel
theorem dX7_tellsWrong_2 : decode cX7_tellsWrong 2 = .ok (.iconst 0, 1) := by decide +kernel
theorem dX7_tellsWrong_3 : decode cX7_tellsWrong 3 = .ok (.invokevirtual 34, 3) := by decide +kernel
theorem dX7_tellsWrong_6 : decode cX7_tellsWrong 6 = .ok (.iconst 1, 1) := by decide +kernel
theorem dX7_tellsWrong_7 : decode cX7_tellsWrong 7 = .ok (.if_icmp .ne 22, 3) := by decide +kernel
theorem dX7_tellsWrong_10 : decode cX7_tellsWrong 10 = .ok (.aload_n 0, 1) := by decide +kernel
theorem dX7_tellsWrong_11 : decode cX7_tellsWrong 11 = .ok (.iload_n 1, 1) := by decide +kernel
theorem dX7_tellsWrong_12 : decode cX7_tellsWrong 12 = .ok (.iconst 1, 1) := by decide +kernel
theorem dX7_tellsWrong_13 : decode cX7_tellsWrong 13 = .ok (.invokevirtual 34, 3) := by decide +kernel
theorem dX7_tellsWrong_16 : decode cX7_tellsWrong 16 = .ok (.aload_n 0, 1) := by decide +kernel
theorem dX7_tellsWrong_17 : decode cX7_tellsWrong 17 = .ok (.getfield 7, 3) := by decide +kernel
theorem dX7_tellsWrong_20 : decode cX7_tellsWrong 20 = .ok (.iconst 1, 1) := by decide +kernel
theorem dX7_tellsWrong_21 : decode cX7_tellsWrong 21 = .ok (.iaload, 1) := by decide +kernel
theorem dX7_tellsWrong_22 : decode cX7_tellsWrong 22 = .ok (.ixor, 1) := by decide +kernel
theorem dX7_tellsWrong_23 : decode cX7_tellsWrong 23 = .ok (.invokestatic 45, 3) := by decide +kernel
theorem dX7_tellsWrong_26 : decode cX7_tellsWrong 26 = .ok (.goto 4, 3) := by decide +kernel
theorem dX7_tellsWrong_29 : decode cX7_tellsWrong 29 = .ok (.iconst (-1), 1) := by decide +kernel
theorem dX7_tellsWrong_30 : decode cX7_tellsWrong 30 = .ok (.ireturn, 1) := by decide +kernel
theorem dX7_wrong_0 : decode cX7_wrong 0 = .ok (.aload_n 0, 1) := by decide +kernel
theorem dX7_wrong_1 : decode cX7_wrong 1 = .ok (.iconst 0, 1) := by decide +kernel
theorem dX7_wrong_2 : decode cX7_wrong 2 = .ok (.putfield 19, 3) := by decide +kernel
theorem dX7_wrong_5 : decode cX7_wrong 5 = .ok (.iload_n 1, 1) := by decide +kernel
theorem dX7_wrong_6 : decode cX7_wrong 6 = .ok (.invokestatic 121, 3) := by decide +kernel
theorem dX7_wrong_9 : decode cX7_wrong 9 = .ok (.ifCond .eq 11, 3) := by decide +kernel
theorem dX7_wrong_12 : decode cX7_wrong 12 = .ok (.aload_n 0, 1) := by decide +kernel
theorem dX7_wrong_13 : decode cX7_wrong 13 = .ok (.iload_n 1, 1) := by decide +kernel
theorem dX7_wrong_14 : decode cX7_wrong 14 = .ok (.invokevirtual 143, 3) := by decide +kernel
theorem dX7_wrong_17 : decode cX7_wrong 17 = .ok (.goto 8, 3) := by decide +kernel
theorem dX7_wrong_20 : decode cX7_wrong 20 = .ok (.aload_n 0, 1) := by decide +kernel
theorem dX7_wrong_21 : decode cX7_wrong 21 = .ok (.iconst 1, 1) := by decide +kernel
theorem dX7_wrong_22 : decode cX7_wrong 22 = .ok (.invokevirtual 30, 3) := by decide +kernel
theorem dX7_wrong_25 : decode cX7_wrong 25 = .ok (.ireturn, 1) := by decide +kernel
theorem dX7_share_0 : decode cX7_share 0 = .ok (.aload_n 0, 1) := by decide +kernel
theorem dX7_share_1 : decode cX7_share 1 = .ok (.iconst 0, 1) := by decide +kernel
theorem dX7_share_2 : decode cX7_share 2 = .ok (.iconst 5, 1) := by decide +kernel
theorem dX7_share_3 : decode cX7_share 3 = .ok (.invokevirtual 34, 3) := by decide +kernel
theorem dX7_share_6 : decode cX7_share 6 = .ok (.aload_n 0, 1) := by decide +kernel
theorem dX7_share_7 : decode cX7_share 7 = .ok (.iconst 1, 1) := by decide +kernel
theorem dX7_share_8 : decode cX7_share 8 = .ok (.iconst 5, 1) := by decide +kernel
theorem dX7_share_9 : decode cX7_share 9 = .ok (.invokevirtual 34, 3) := by decide +kernel
theorem dX7_share_12 : decode cX7_share 12 = .ok (.iadd, 1) := by decide +kernel
theorem dX7_share_13 : decode cX7_share 13 = .ok (.aload_n 0, 1) := by decide +kernel
theorem dX7_share_14 : decode cX7_share 14 = .ok (.iconst 2, 1) := by decide +kernel
theorem dX7_share_15 : decode cX7_share 15 = .ok (.iconst 5, 1) := by decide +kernel
theorem dX7_share_16 : decode cX7_share 16 = .ok (.invokevirtual 34, 3) := by decide +kernel
theorem dX7_share_19 : decode cX7_share 19 = .ok (.iadd, 1) := by decide +kernel
theorem dX7_share_20 : decode cX7_share 20 = .ok (.aload_n 0, 1) := by decide +kernel
theorem dX7_share_21 : decode cX7_share 21 = .ok (.iconst 3, 1) := by decide +kernel
theorem dX7_share_22 : decode cX7_share 22 = .ok (.iconst 5, 1) := by decide +kernel
theorem dX7_share_23 : decode cX7_share 23 = .ok (.invokevirtual 34, 3) := by decide +kernel
theorem dX7_share_26 : decode cX7_share 26 = .ok (.iadd, 1) := by decide +kernel
theorem dX7_share_27 : decode cX7_share 27 = .ok (.istore_n 1, 1) := by decide +kernel
theorem dX7_share_28 : decode cX7_share 28 = .ok (.iload_n 1, 1) := by decide +kernel
theorem dX7_share_29 : decode cX7_share 29 = .ok (.ifCond .ne 7, 3) := by decide +kernel
theorem dX7_share_32 : decode cX7_share 32 = .ok (.dconst 0, 1) := by decide +kernel
theorem dX7_share_33 : decode cX7_share 33 = .ok (.goto 15, 3) := by decide +kernel
theorem dX7_share_36 : decode cX7_share 36 = .ok (.dconst 1, 1) := by decide +kernel
theorem dX7_share_37 : decode cX7_share 37 = .ok (.iload_n 1, 1) := by decide +kernel
theorem dX7_share_38 : decode cX7_share 38 = .ok (.i2d, 1) := by decide +kernel
theorem dX7_share_39 : decode cX7_share 39 = .ok (.aload_n 0, 1) := by decide +kernel
theorem dX7_share_40 : decode cX7_share 40 = .ok (.getfield 7, 3) := by decide +kernel
theorem dX7_share_43 : decode cX7_share 43 = .ok (.iconst 5, 1) := by decide +kernel
theorem dX7_share_44 : decode cX7_share 44 = .ok (.iaload, 1) := by decide +kernel
theorem dX7_share_45 : decode cX7_share 45 = .ok (.i2d, 1) := by decide +kernel
theorem dX7_share_46 : decode cX7_share 46 = .ok (.ddiv, 1) := by decide +kernel
theorem dX7_share_47 : decode cX7_share 47 = .ok (.dsub, 1) := by decide +kernel
theorem dX7_share_48 : decode cX7_share 48 = .ok (.dreturn, 1) := by decide +kernel
theorem dX7_savedShare_0 : decode cX7_savedShare 0 = .ok (.aload_n 0, 1) := by decide +kernel
theorem dX7_savedShare_1 : decode cX7_savedShare 1 = .ok (.iconst 0, 1) := by decide +kernel
theorem dX7_savedShare_2 : decode cX7_savedShare 2 = .ok (.putfield 19, 3) := by decide +kernel
theorem dX7_savedShare_5 : decode cX7_savedShare 5 = .ok (.aload_n 0, 1) := by decide +kernel
theorem dX7_savedShare_6 : decode cX7_savedShare 6 = .ok (.invokevirtual 146, 3) := by decide +kernel
theorem dX7_savedShare_9 : decode cX7_savedShare 9 = .ok (.dreturn, 1) := by decide +kernel
theorem dX7_append_0 : decode cX7_append 0 = .ok (.aload_n 0, 1) := by decide +kernel
theorem dX7_append_1 : decode cX7_append 1 = .ok (.iconst 0, 1) := by decide +kernel
theorem dX7_append_2 : decode cX7_append 2 = .ok (.putfield 19, 3) := by decide +kernel
theorem dX7_append_5 : decode cX7_append 5 = .ok (.iload_n 1, 1) := by decide +kernel
theorem dX7_append_6 : decode cX7_append 6 = .ok (.bipush 33, 2) := by decide +kernel
theorem dX7_append_8 : decode cX7_append 8 = .ok (.bipush 126, 2) := by decide +kernel
theorem dX7_append_10 : decode cX7_append 10 = .ok (.invokestatic 23, 3) := by decide +kernel
theorem dX7_append_13 : decode cX7_append 13 = .ok (.ifCond .ne 9, 3) := by decide +kernel
theorem dX7_append_16 : decode cX7_append 16 = .ok (.aload_n 0, 1) := by decide +kernel
theorem dX7_append_17 : decode cX7_append 17 = .ok (.iconst 1, 1) := by decide +kernel
theorem dX7_append_18 : decode cX7_append 18 = .ok (.invokevirtual 30, 3) := by decide +kernel
theorem dX7_append_21 : decode cX7_append 21 = .ok (.ireturn, 1) := by decide +kernel
theorem dX7_append_22 : decode cX7_append 22 = .ok (.aload_n 0, 1) := by decide +kernel
theorem dX7_append_23 : decode cX7_append 23 = .ok (.getfield 150, 3) := by decide +kernel
theorem dX7_append_26 : decode cX7_append 26 = .ok (.bipush 60, 2) := by decide +kernel
theorem dX7_append_28 : decode cX7_append 28 = .ok (.if_icmp .ne 9, 3) := by decide +kernel
theorem dX7_append_31 : decode cX7_append 31 = .ok (.aload_n 0, 1) := by decide +kernel
theorem dX7_append_32 : decode cX7_append 32 = .ok (.iconst 2, 1) := by decide +kernel
theorem dX7_append_33 : decode cX7_append 33 = .ok (.invokevirtual 30, 3) := by decide +kernel
theorem dX7_append_36 : decode cX7_append 36 = .ok (.ireturn, 1) := by decide +kernel
theorem dX7_append_37 : decode cX7_append 37 = .ok (.aload_n 0, 1) := by decide +kernel
theorem dX7_append_38 : decode cX7_append 38 = .ok (.getfield 16, 3) := by decide +kernel
theorem dX7_append_41 : decode cX7_append 41 = .ok (.aload_n 0, 1) := by decide +kernel
theorem dX7_append_42 : decode cX7_append 42 = .ok (.getfield 150, 3) := by decide +kernel
theorem dX7_append_45 : decode cX7_append 45 = .ok (.iload_n 1, 1) := by decide +kernel
theorem dX7_append_46 : decode cX7_append 46 = .ok (.iastore, 1) := by decide +kernel
theorem dX7_append_47 : decode cX7_append 47 = .ok (.aload_n 0, 1) := by decide +kernel
theorem dX7_append_48 : decode cX7_append 48 = .ok (.dup, 1) := by decide +kernel
theorem dX7_append_49 : decode cX7_append 49 = .ok (.getfield 150, 3) := by decide +kernel
theorem dX7_append_52 : decode cX7_append 52 = .ok (.iconst 1, 1) := by decide +kernel
theorem dX7_append_53 : decode cX7_append 53 = .ok (.iadd, 1) := by decide +kernel
theorem dX7_append_54 : decode cX7_append 54 = .ok (.putfield 150, 3) := by decide +kernel
theorem dX7_append_57 : decode cX7_append 57 = .ok (.aload_n 0, 1) := by decide +kernel
theorem dX7_append_58 : decode cX7_append 58 = .ok (.getfield 150, 3) := by decide +kernel
theorem dX7_append_61 : decode cX7_append 61 = .ok (.ireturn, 1) := by decide +kernel
theorem dX7_clearText_0 : decode cX7_clearText 0 = .ok (.aload_n 0, 1) := by decide +kernel
theorem dX7_clearText_1 : decode cX7_clearText 1 = .ok (.iconst 0, 1) := by decide +kernel
theorem dX7_clearText_2 : decode cX7_clearText 2 = .ok (.putfield 19, 3) := by decide +kernel
theorem dX7_clearText_5 : decode cX7_clearText 5 = .ok (.aload_n 0, 1) := by decide +kernel
theorem dX7_clearText_6 : decode cX7_clearText 6 = .ok (.getfield 150, 3) := by decide +kernel
theorem dX7_clearText_9 : decode cX7_clearText 9 = .ok (.istore_n 1, 1) := by decide +kernel
theorem dX7_clearText_10 : decode cX7_clearText 10 = .ok (.aload_n 0, 1) := by decide +kernel
theorem dX7_clearText_11 : decode cX7_clearText 11 = .ok (.iconst 0, 1) := by decide +kernel
theorem dX7_clearText_12 : decode cX7_clearText 12 = .ok (.putfield 150, 3) := by decide +kernel
theorem dX7_clearText_15 : decode cX7_clearText 15 = .ok (.iload_n 1, 1) := by decide +kernel
theorem dX7_clearText_16 : decode cX7_clearText 16 = .ok (.ireturn, 1) := by decide +kernel
theorem dX7_next_0 : decode cX7_next 0 = .ok (.aload_n 0, 1) := by decide +kernel
theorem dX7_next_1 : decode cX7_next 1 = .ok (.getfield 153, 3) := by decide +kernel
theorem dX7_next_4 : decode cX7_next 4 = .ok (.aload_n 0, 1) := by decide +kernel
theorem dX7_next_5 : decode cX7_next 5 = .ok (.getfield 150, 3) := by decide +kernel
theorem dX7_next_8 : decode cX7_next 8 = .ok (.if_icmp .ge 15, 3) := by decide +kernel
theorem dX7_next_11 : decode cX7_next 11 = .ok (.aload_n 0, 1) := by decide +kernel
theorem dX7_next_12 : decode cX7_next 12 = .ok (.getfield 16, 3) := by decide +kernel
theorem dX7_next_15 : decode cX7_next 15 = .ok (.aload_n 0, 1) := by decide +kernel
theorem dX7_next_16 : decode cX7_next 16 = .ok (.getfield 153, 3) := by decide +kernel
theorem dX7_next_19 : decode cX7_next 19 = .ok (.iaload, 1) := by decide +kernel
theorem dX7_next_20 : decode cX7_next 20 = .ok (.goto 4, 3) := by decide +kernel
theorem dX7_next_23 : decode cX7_next 23 = .ok (.iconst 0, 1) := by decide +kernel
theorem dX7_next_24 : decode cX7_next 24 = .ok (.ireturn, 1) := by decide +kernel
theorem dX7_readsNumber_0 : decode cX7_readsNumber 0 = .ok (.aload_n 0, 1) := by decide +kernel
theorem dX7_readsNumber_1 : decode cX7_readsNumber 1 = .ok (.aload_n 0, 1) := by decide +kernel
theorem dX7_readsNumber_2 : decode cX7_readsNumber 2 = .ok (.invokevirtual 156, 3) := by decide +kernel
theorem dX7_readsNumber_5 : decode cX7_readsNumber 5 = .ok (.bipush 48, 2) := by decide +kernel
theorem dX7_readsNumber_7 : decode cX7_readsNumber 7 = .ok (.isub, 1) := by decide +kernel
theorem dX7_readsNumber_8 : decode cX7_readsNumber 8 = .ok (.putfield 159, 3) := by decide +kernel
theorem dX7_readsNumber_11 : decode cX7_readsNumber 11 = .ok (.aload_n 0, 1) := by decide +kernel
theorem dX7_readsNumber_12 : decode cX7_readsNumber 12 = .ok (.getfield 159, 3) := by decide +kernel
theorem dX7_readsNumber_15 : decode cX7_readsNumber 15 = .ok (.iconst 0, 1) := by decide +kernel
theorem dX7_readsNumber_16 : decode cX7_readsNumber 16 = .ok (.bipush 9, 2) := by decide +kernel
theorem dX7_readsNumber_18 : decode cX7_readsNumber 18 = .ok (.invokestatic 23, 3) := by decide +kernel
theorem dX7_readsNumber_21 : decode cX7_readsNumber 21 = .ok (.ifCond .eq 11, 3) := by decide +kernel
theorem dX7_readsNumber_24 : decode cX7_readsNumber 24 = .ok (.aload_n 0, 1) := by decide +kernel
theorem dX7_readsNumber_25 : decode cX7_readsNumber 25 = .ok (.getfield 159, 3) := by decide +kernel
theorem dX7_readsNumber_28 : decode cX7_readsNumber 28 = .ok (.iload_n 1, 1) := by decide +kernel
theorem dX7_readsNumber_29 : decode cX7_readsNumber 29 = .ok (.if_icmp .le 5, 3) := by decide +kernel
theorem dX7_readsNumber_32 : decode cX7_readsNumber 32 = .ok (.iconst 0, 1) := by decide +kernel
theorem dX7_readsNumber_33 : decode cX7_readsNumber 33 = .ok (.ireturn, 1) := by decide +kernel
theorem dX7_readsNumber_34 : decode cX7_readsNumber 34 = .ok (.aload_n 0, 1) := by decide +kernel
theorem dX7_readsNumber_35 : decode cX7_readsNumber 35 = .ok (.dup, 1) := by decide +kernel
theorem dX7_readsNumber_36 : decode cX7_readsNumber 36 = .ok (.getfield 153, 3) := by decide +kernel
theorem dX7_readsNumber_39 : decode cX7_readsNumber 39 = .ok (.iconst 1, 1) := by decide +kernel
theorem dX7_readsNumber_40 : decode cX7_readsNumber 40 = .ok (.iadd, 1) := by decide +kernel
theorem dX7_readsNumber_41 : decode cX7_readsNumber 41 = .ok (.putfield 153, 3) := by decide +kernel
theorem dX7_readsNumber_44 : decode cX7_readsNumber 44 = .ok (.aload_n 0, 1) := by decide +kernel
theorem dX7_readsNumber_45 : decode cX7_readsNumber 45 = .ok (.invokevirtual 156, 3) := by decide +kernel
theorem dX7_readsNumber_48 : decode cX7_readsNumber 48 = .ok (.bipush 48, 2) := by decide +kernel
theorem dX7_readsNumber_50 : decode cX7_readsNumber 50 = .ok (.isub, 1) := by decide +kernel
theorem dX7_readsNumber_51 : decode cX7_readsNumber 51 = .ok (.istore_n 2, 1) := by decide +kernel
theorem dX7_readsNumber_52 : decode cX7_readsNumber 52 = .ok (.aload_n 0, 1) := by decide +kernel
theorem dX7_readsNumber_53 : decode cX7_readsNumber 53 = .ok (.getfield 159, 3) := by decide +kernel
theorem dX7_readsNumber_56 : decode cX7_readsNumber 56 = .ok (.ifCond .le 49, 3) := by decide +kernel
theorem dX7_readsNumber_59 : decode cX7_readsNumber 59 = .ok (.iload_n 2, 1) := by decide +kernel
theorem dX7_readsNumber_60 : decode cX7_readsNumber 60 = .ok (.iconst 0, 1) := by decide +kernel
theorem dX7_readsNumber_61 : decode cX7_readsNumber 61 = .ok (.bipush 9, 2) := by decide +kernel
theorem dX7_readsNumber_63 : decode cX7_readsNumber 63 = .ok (.invokestatic 23, 3) := by decide +kernel
theorem dX7_readsNumber_66 : decode cX7_readsNumber 66 = .ok (.ifCond .eq 39, 3) := by decide +kernel
theorem dX7_readsNumber_69 : decode cX7_readsNumber 69 = .ok (.bipush 10, 2) := by decide +kernel
theorem dX7_readsNumber_71 : decode cX7_readsNumber 71 = .ok (.aload_n 0, 1) := by decide +kernel
theorem dX7_readsNumber_72 : decode cX7_readsNumber 72 = .ok (.getfield 159, 3) := by decide +kernel
theorem dX7_readsNumber_75 : decode cX7_readsNumber 75 = .ok (.imul, 1) := by decide +kernel
theorem dX7_readsNumber_76 : decode cX7_readsNumber 76 = .ok (.iload_n 2, 1) := by decide +kernel
theorem dX7_readsNumber_77 : decode cX7_readsNumber 77 = .ok (.iadd, 1) := by decide +kernel
theorem dX7_readsNumber_78 : decode cX7_readsNumber 78 = .ok (.iload_n 1, 1) := by decide +kernel
theorem dX7_readsNumber_79 : decode cX7_readsNumber 79 = .ok (.if_icmp .gt 26, 3) := by decide +kernel
theorem dX7_readsNumber_82 : decode cX7_readsNumber 82 = .ok (.aload_n 0, 1) := by decide +kernel
theorem dX7_readsNumber_83 : decode cX7_readsNumber 83 = .ok (.bipush 10, 2) := by decide +kernel
theorem dX7_readsNumber_85 : decode cX7_readsNumber 85 = .ok (.aload_n 0, 1) := by decide +kernel
theorem dX7_readsNumber_86 : decode cX7_readsNumber 86 = .ok (.getfield 159, 3) := by decide +kernel
theorem dX7_readsNumber_89 : decode cX7_readsNumber 89 = .ok (.imul, 1) := by decide +kernel
theorem dX7_readsNumber_90 : decode cX7_readsNumber 90 = .ok (.iload_n 2, 1) := by decide +kernel
theorem dX7_readsNumber_91 : decode cX7_readsNumber 91 = .ok (.iadd, 1) := by decide +kernel
theorem dX7_readsNumber_92 : decode cX7_readsNumber 92 = .ok (.putfield 159, 3) := by decide +kernel
theorem dX7_readsNumber_95 : decode cX7_readsNumber 95 = .ok (.aload_n 0, 1) := by decide +kernel
theorem dX7_readsNumber_96 : decode cX7_readsNumber 96 = .ok (.dup, 1) := by decide +kernel
theorem dX7_readsNumber_97 : decode cX7_readsNumber 97 = .ok (.getfield 153, 3) := by decide +kernel
theorem dX7_readsNumber_100 : decode cX7_readsNumber 100 = .ok (.iconst 1, 1) := by decide +kernel
theorem dX7_readsNumber_101 : decode cX7_readsNumber 101 = .ok (.iadd, 1) := by decide +kernel
theorem dX7_readsNumber_102 : decode cX7_readsNumber 102 = .ok (.putfield 153, 3) := by decide +kernel
theorem dX7_readsNumber_105 : decode cX7_readsNumber 105 = .ok (.iconst 1, 1) := by decide +kernel
theorem dX7_readsNumber_106 : decode cX7_readsNumber 106 = .ok (.ireturn, 1) := by decide +kernel
theorem dX7_readsOrder_0 : decode cX7_readsOrder 0 = .ok (.aload_n 0, 1) := by decide +kernel
theorem dX7_readsOrder_1 : decode cX7_readsOrder 1 = .ok (.aload_n 0, 1) := by decide +kernel
theorem dX7_readsOrder_2 : decode cX7_readsOrder 2 = .ok (.invokevirtual 156, 3) := by decide +kernel
theorem dX7_readsOrder_5 : decode cX7_readsOrder 5 = .ok (.putfield 162, 3) := by decide +kernel
theorem dX7_readsOrder_8 : decode cX7_readsOrder 8 = .ok (.aload_n 0, 1) := by decide +kernel
theorem dX7_readsOrder_9 : decode cX7_readsOrder 9 = .ok (.getfield 162, 3) := by decide +kernel
theorem dX7_readsOrder_12 : decode cX7_readsOrder 12 = .ok (.lookupswitch 130 #[(43, 68), (45, 68), (110, 85), (112, 118), (114, 102), (115, 102), (119, 102)], 68) := by decide +kernel
theorem dX7_readsOrder_80 : decode cX7_readsOrder 80 = .ok (.aload_n 0, 1) := by decide +kernel
theorem dX7_readsOrder_81 : decode cX7_readsOrder 81 = .ok (.dup, 1) := by decide +kernel
theorem dX7_readsOrder_82 : decode cX7_readsOrder 82 = .ok (.getfield 153, 3) := by decide +kernel
theorem dX7_readsOrder_85 : decode cX7_readsOrder 85 = .ok (.iconst 1, 1) := by decide +kernel
theorem dX7_readsOrder_86 : decode cX7_readsOrder 86 = .ok (.iadd, 1) := by decide +kernel
theorem dX7_readsOrder_87 : decode cX7_readsOrder 87 = .ok (.putfield 153, 3) := by decide +kernel
theorem dX7_readsOrder_90 : decode cX7_readsOrder 90 = .ok (.aload_n 0, 1) := by decide +kernel
theorem dX7_readsOrder_91 : decode cX7_readsOrder 91 = .ok (.bipush 29, 2) := by decide +kernel
theorem dX7_readsOrder_93 : decode cX7_readsOrder 93 = .ok (.invokevirtual 165, 3) := by decide +kernel
theorem dX7_readsOrder_96 : decode cX7_readsOrder 96 = .ok (.ireturn, 1) := by decide +kernel
theorem dX7_readsOrder_97 : decode cX7_readsOrder 97 = .ok (.aload_n 0, 1) := by decide +kernel
theorem dX7_readsOrder_98 : decode cX7_readsOrder 98 = .ok (.dup, 1) := by decide +kernel
theorem dX7_readsOrder_99 : decode cX7_readsOrder 99 = .ok (.getfield 153, 3) := by decide +kernel
theorem dX7_readsOrder_102 : decode cX7_readsOrder 102 = .ok (.iconst 1, 1) := by decide +kernel
theorem dX7_readsOrder_103 : decode cX7_readsOrder 103 = .ok (.iadd, 1) := by decide +kernel
theorem dX7_readsOrder_104 : decode cX7_readsOrder 104 = .ok (.putfield 153, 3) := by decide +kernel
theorem dX7_readsOrder_107 : decode cX7_readsOrder 107 = .ok (.aload_n 0, 1) := by decide +kernel
theorem dX7_readsOrder_108 : decode cX7_readsOrder 108 = .ok (.bipush 15, 2) := by decide +kernel
theorem dX7_readsOrder_110 : decode cX7_readsOrder 110 = .ok (.invokevirtual 165, 3) := by decide +kernel
theorem dX7_readsOrder_113 : decode cX7_readsOrder 113 = .ok (.ireturn, 1) := by decide +kernel
theorem dX7_readsOrder_114 : decode cX7_readsOrder 114 = .ok (.aload_n 0, 1) := by decide +kernel
theorem dX7_readsOrder_115 : decode cX7_readsOrder 115 = .ok (.dup, 1) := by decide +kernel
theorem dX7_readsOrder_116 : decode cX7_readsOrder 116 = .ok (.getfield 153, 3) := by decide +kernel
theorem dX7_readsOrder_119 : decode cX7_readsOrder 119 = .ok (.iconst 1, 1) := by decide +kernel
theorem dX7_readsOrder_120 : decode cX7_readsOrder 120 = .ok (.iadd, 1) := by decide +kernel
theorem dX7_readsOrder_121 : decode cX7_readsOrder 121 = .ok (.putfield 153, 3) := by decide +kernel
theorem dX7_readsOrder_124 : decode cX7_readsOrder 124 = .ok (.aload_n 0, 1) := by decide +kernel
theorem dX7_readsOrder_125 : decode cX7_readsOrder 125 = .ok (.iconst 3, 1) := by decide +kernel
theorem dX7_readsOrder_126 : decode cX7_readsOrder 126 = .ok (.invokevirtual 165, 3) := by decide +kernel
theorem dX7_readsOrder_129 : decode cX7_readsOrder 129 = .ok (.ireturn, 1) := by decide +kernel
theorem dX7_readsOrder_130 : decode cX7_readsOrder 130 = .ok (.aload_n 0, 1) := by decide +kernel
theorem dX7_readsOrder_131 : decode cX7_readsOrder 131 = .ok (.dup, 1) := by decide +kernel
theorem dX7_readsOrder_132 : decode cX7_readsOrder 132 = .ok (.getfield 153, 3) := by decide +kernel
theorem dX7_readsOrder_135 : decode cX7_readsOrder 135 = .ok (.iconst 1, 1) := by decide +kernel
theorem dX7_readsOrder_136 : decode cX7_readsOrder 136 = .ok (.iadd, 1) := by decide +kernel
theorem dX7_readsOrder_137 : decode cX7_readsOrder 137 = .ok (.putfield 153, 3) := by decide +kernel
theorem dX7_readsOrder_140 : decode cX7_readsOrder 140 = .ok (.iconst 1, 1) := by decide +kernel
theorem dX7_readsOrder_141 : decode cX7_readsOrder 141 = .ok (.ireturn, 1) := by decide +kernel
theorem dX7_readsOrder_142 : decode cX7_readsOrder 142 = .ok (.iconst 0, 1) := by decide +kernel
theorem dX7_readsOrder_143 : decode cX7_readsOrder 143 = .ok (.ireturn, 1) := by decide +kernel
theorem dX7_findError_0 : decode cX7_findError 0 = .ok (.aload_n 0, 1) := by decide +kernel
theorem dX7_findError_1 : decode cX7_findError 1 = .ok (.iconst 0, 1) := by decide +kernel
theorem dX7_findError_2 : decode cX7_findError 2 = .ok (.putfield 153, 3) := by decide +kernel
theorem dX7_findError_5 : decode cX7_findError 5 = .ok (.aload_n 0, 1) := by decide +kernel
theorem dX7_findError_6 : decode cX7_findError 6 = .ok (.invokevirtual 168, 3) := by decide +kernel
theorem dX7_findError_9 : decode cX7_findError 9 = .ok (.ifCond .eq 43, 3) := by decide +kernel
theorem dX7_findError_12 : decode cX7_findError 12 = .ok (.aload_n 0, 1) := by decide +kernel
theorem dX7_findError_13 : decode cX7_findError 13 = .ok (.getfield 153, 3) := by decide +kernel
theorem dX7_findError_16 : decode cX7_findError 16 = .ok (.aload_n 0, 1) := by decide +kernel
theorem dX7_findError_17 : decode cX7_findError 17 = .ok (.getfield 150, 3) := by decide +kernel
theorem dX7_findError_20 : decode cX7_findError 20 = .ok (.if_icmp .ne 5, 3) := by decide +kernel
theorem dX7_findError_23 : decode cX7_findError 23 = .ok (.iconst (-1), 1) := by decide +kernel
theorem dX7_findError_24 : decode cX7_findError 24 = .ok (.ireturn, 1) := by decide +kernel
theorem dX7_findError_25 : decode cX7_findError 25 = .ok (.aload_n 0, 1) := by decide +kernel
theorem dX7_findError_26 : decode cX7_findError 26 = .ok (.invokevirtual 156, 3) := by decide +kernel
theorem dX7_findError_29 : decode cX7_findError 29 = .ok (.bipush 59, 2) := by decide +kernel
theorem dX7_findError_31 : decode cX7_findError 31 = .ok (.if_icmp .eq 8, 3) := by decide +kernel
theorem dX7_findError_34 : decode cX7_findError 34 = .ok (.aload_n 0, 1) := by decide +kernel
theorem dX7_findError_35 : decode cX7_findError 35 = .ok (.getfield 153, 3) := by decide +kernel
theorem dX7_findError_38 : decode cX7_findError 38 = .ok (.ireturn, 1) := by decide +kernel
theorem dX7_findError_39 : decode cX7_findError 39 = .ok (.aload_n 0, 1) := by decide +kernel
theorem dX7_findError_40 : decode cX7_findError 40 = .ok (.dup, 1) := by decide +kernel
theorem dX7_findError_41 : decode cX7_findError 41 = .ok (.getfield 153, 3) := by decide +kernel
theorem dX7_findError_44 : decode cX7_findError 44 = .ok (.iconst 1, 1) := by decide +kernel
theorem dX7_findError_45 : decode cX7_findError 45 = .ok (.iadd, 1) := by decide +kernel
theorem dX7_findError_46 : decode cX7_findError 46 = .ok (.putfield 153, 3) := by decide +kernel
theorem dX7_findError_49 : decode cX7_findError 49 = .ok (.goto (-44), 3) := by decide +kernel
theorem dX7_findError_52 : decode cX7_findError 52 = .ok (.aload_n 0, 1) := by decide +kernel
theorem dX7_findError_53 : decode cX7_findError 53 = .ok (.getfield 153, 3) := by decide +kernel
theorem dX7_findError_56 : decode cX7_findError 56 = .ok (.ireturn, 1) := by decide +kernel
theorem dX7_firstError_0 : decode cX7_firstError 0 = .ok (.aload_n 0, 1) := by decide +kernel
theorem dX7_firstError_1 : decode cX7_firstError 1 = .ok (.iconst 0, 1) := by decide +kernel
theorem dX7_firstError_2 : decode cX7_firstError 2 = .ok (.putfield 19, 3) := by decide +kernel
theorem dX7_firstError_5 : decode cX7_firstError 5 = .ok (.aload_n 0, 1) := by decide +kernel
theorem dX7_firstError_6 : decode cX7_firstError 6 = .ok (.invokevirtual 171, 3) := by decide +kernel
theorem dX7_firstError_9 : decode cX7_firstError 9 = .ok (.istore_n 1, 1) := by decide +kernel
theorem dX7_firstError_10 : decode cX7_firstError 10 = .ok (.iload_n 1, 1) := by decide +kernel
theorem dX7_firstError_11 : decode cX7_firstError 11 = .ok (.iconst (-1), 1) := by decide +kernel
theorem dX7_firstError_12 : decode cX7_firstError 12 = .ok (.if_icmp .ne 10, 3) := by decide +kernel
theorem dX7_firstError_15 : decode cX7_firstError 15 = .ok (.aload_n 0, 1) := by decide +kernel
theorem dX7_firstError_16 : decode cX7_firstError 16 = .ok (.getfield 150, 3) := by decide +kernel
theorem dX7_firstError_19 : decode cX7_firstError 19 = .ok (.goto 4, 3) := by decide +kernel
theorem dX7_firstError_22 : decode cX7_firstError 22 = .ok (.iload_n 1, 1) := by decide +kernel
theorem dX7_firstError_23 : decode cX7_firstError 23 = .ok (.ireturn, 1) := by decide +kernel
theorem dX7_canDo_0 : decode cX7_canDo 0 = .ok (.aload_n 0, 1) := by decide +kernel
theorem dX7_canDo_1 : decode cX7_canDo 1 = .ok (.getfield 162, 3) := by decide +kernel
theorem dX7_canDo_4 : decode cX7_canDo 4 = .ok (.lookupswitch 84 #[(43, 44), (45, 53), (110, 75), (112, 70)], 44) := by decide +kernel
theorem dX7_canDo_48 : decode cX7_canDo 48 = .ok (.aload_n 0, 1) := by decide +kernel
theorem dX7_canDo_49 : decode cX7_canDo 49 = .ok (.aload_n 0, 1) := by decide +kernel
theorem dX7_canDo_50 : decode cX7_canDo 50 = .ok (.getfield 159, 3) := by decide +kernel
theorem dX7_canDo_53 : decode cX7_canDo 53 = .ok (.invokevirtual 90, 3) := by decide +kernel
theorem dX7_canDo_56 : decode cX7_canDo 56 = .ok (.ireturn, 1) := by decide +kernel
theorem dX7_canDo_57 : decode cX7_canDo 57 = .ok (.aload_n 0, 1) := by decide +kernel
theorem dX7_canDo_58 : decode cX7_canDo 58 = .ok (.aload_n 0, 1) := by decide +kernel
theorem dX7_canDo_59 : decode cX7_canDo 59 = .ok (.getfield 159, 3) := by decide +kernel
theorem dX7_canDo_62 : decode cX7_canDo 62 = .ok (.invokevirtual 90, 3) := by decide +kernel
theorem dX7_canDo_65 : decode cX7_canDo 65 = .ok (.ifCond .ne 7, 3) := by decide +kernel
theorem dX7_canDo_68 : decode cX7_canDo 68 = .ok (.iconst 1, 1) := by decide +kernel
theorem dX7_canDo_69 : decode cX7_canDo 69 = .ok (.goto 4, 3) := by decide +kernel
theorem dX7_canDo_72 : decode cX7_canDo 72 = .ok (.iconst 0, 1) := by decide +kernel
theorem dX7_canDo_73 : decode cX7_canDo 73 = .ok (.ireturn, 1) := by decide +kernel
theorem dX7_canDo_74 : decode cX7_canDo 74 = .ok (.aload_n 0, 1) := by decide +kernel
theorem dX7_canDo_75 : decode cX7_canDo 75 = .ok (.invokevirtual 99, 3) := by decide +kernel
theorem dX7_canDo_78 : decode cX7_canDo 78 = .ok (.ireturn, 1) := by decide +kernel
theorem dX7_canDo_79 : decode cX7_canDo 79 = .ok (.aload_n 0, 1) := by decide +kernel
theorem dX7_canDo_80 : decode cX7_canDo 80 = .ok (.aload_n 0, 1) := by decide +kernel
theorem dX7_canDo_81 : decode cX7_canDo 81 = .ok (.getfield 159, 3) := by decide +kernel
theorem dX7_canDo_84 : decode cX7_canDo 84 = .ok (.invokevirtual 106, 3) := by decide +kernel
theorem dX7_canDo_87 : decode cX7_canDo 87 = .ok (.ireturn, 1) := by decide +kernel
theorem dX7_canDo_88 : decode cX7_canDo 88 = .ok (.aload_n 0, 1) := by decide +kernel
theorem dX7_canDo_89 : decode cX7_canDo 89 = .ok (.aload_n 0, 1) := by decide +kernel
theorem dX7_canDo_90 : decode cX7_canDo 90 = .ok (.getfield 159, 3) := by decide +kernel
theorem dX7_canDo_93 : decode cX7_canDo 93 = .ok (.iconst 3, 1) := by decide +kernel
theorem dX7_canDo_94 : decode cX7_canDo 94 = .ok (.invokevirtual 34, 3) := by decide +kernel
theorem dX7_canDo_97 : decode cX7_canDo 97 = .ok (.aload_n 0, 1) := by decide +kernel
theorem dX7_canDo_98 : decode cX7_canDo 98 = .ok (.getfield 162, 3) := by decide +kernel
theorem dX7_canDo_101 : decode cX7_canDo 101 = .ok (.bipush 119, 2) := by decide +kernel
theorem dX7_canDo_103 : decode cX7_canDo 103 = .ok (.if_icmp .ne 7, 3) := by decide +kernel
theorem dX7_canDo_106 : decode cX7_canDo 106 = .ok (.iconst 1, 1) := by decide +kernel
theorem dX7_canDo_107 : decode cX7_canDo 107 = .ok (.goto 4, 3) := by decide +kernel
theorem dX7_canDo_110 : decode cX7_canDo 110 = .ok (.iconst 0, 1) := by decide +kernel
theorem dX7_canDo_111 : decode cX7_canDo 111 = .ok (.if_icmp .ne 7, 3) := by decide +kernel
theorem dX7_canDo_114 : decode cX7_canDo 114 = .ok (.iconst 1, 1) := by decide +kernel
theorem dX7_canDo_115 : decode cX7_canDo 115 = .ok (.goto 4, 3) := by decide +kernel
theorem dX7_canDo_118 : decode cX7_canDo 118 = .ok (.iconst 0, 1) := by decide +kernel
theorem dX7_canDo_119 : decode cX7_canDo 119 = .ok (.ireturn, 1) := by decide +kernel
theorem dX7_doOrder_0 : decode cX7_doOrder 0 = .ok (.aload_n 0, 1) := by decide +kernel
theorem dX7_doOrder_1 : decode cX7_doOrder 1 = .ok (.getfield 162, 3) := by decide +kernel
theorem dX7_doOrder_4 : decode cX7_doOrder 4 = .ok (.lookupswitch 84 #[(43, 52), (45, 52), (110, 66), (112, 61), (114, 75)], 52) := by decide +kernel
theorem dX7_doOrder_56 : decode cX7_doOrder 56 = .ok (.aload_n 0, 1) := by decide +kernel
theorem dX7_doOrder_57 : decode cX7_doOrder 57 = .ok (.aload_n 0, 1) := by decide +kernel
theorem dX7_doOrder_58 : decode cX7_doOrder 58 = .ok (.getfield 159, 3) := by decide +kernel
theorem dX7_doOrder_61 : decode cX7_doOrder 61 = .ok (.invokevirtual 96, 3) := by decide +kernel
theorem dX7_doOrder_64 : decode cX7_doOrder 64 = .ok (.ireturn, 1) := by decide +kernel
theorem dX7_doOrder_65 : decode cX7_doOrder 65 = .ok (.aload_n 0, 1) := by decide +kernel
theorem dX7_doOrder_66 : decode cX7_doOrder 66 = .ok (.invokevirtual 103, 3) := by decide +kernel
theorem dX7_doOrder_69 : decode cX7_doOrder 69 = .ok (.ireturn, 1) := by decide +kernel
theorem dX7_doOrder_70 : decode cX7_doOrder 70 = .ok (.aload_n 0, 1) := by decide +kernel
theorem dX7_doOrder_71 : decode cX7_doOrder 71 = .ok (.aload_n 0, 1) := by decide +kernel
theorem dX7_doOrder_72 : decode cX7_doOrder 72 = .ok (.getfield 159, 3) := by decide +kernel
theorem dX7_doOrder_75 : decode cX7_doOrder 75 = .ok (.invokevirtual 109, 3) := by decide +kernel
theorem dX7_doOrder_78 : decode cX7_doOrder 78 = .ok (.ireturn, 1) := by decide +kernel
theorem dX7_doOrder_79 : decode cX7_doOrder 79 = .ok (.aload_n 0, 1) := by decide +kernel
theorem dX7_doOrder_80 : decode cX7_doOrder 80 = .ok (.aload_n 0, 1) := by decide +kernel
theorem dX7_doOrder_81 : decode cX7_doOrder 81 = .ok (.getfield 159, 3) := by decide +kernel
theorem dX7_doOrder_84 : decode cX7_doOrder 84 = .ok (.invokevirtual 124, 3) := by decide +kernel
theorem dX7_doOrder_87 : decode cX7_doOrder 87 = .ok (.ireturn, 1) := by decide +kernel
theorem dX7_doOrder_88 : decode cX7_doOrder 88 = .ok (.aload_n 0, 1) := by decide +kernel
theorem dX7_doOrder_89 : decode cX7_doOrder 89 = .ok (.aload_n 0, 1) := by decide +kernel
theorem dX7_doOrder_90 : decode cX7_doOrder 90 = .ok (.getfield 159, 3) := by decide +kernel
theorem dX7_doOrder_93 : decode cX7_doOrder 93 = .ok (.aload_n 0, 1) := by decide +kernel
theorem dX7_doOrder_94 : decode cX7_doOrder 94 = .ok (.getfield 162, 3) := by decide +kernel
theorem dX7_doOrder_97 : decode cX7_doOrder 97 = .ok (.bipush 115, 2) := by decide +kernel
theorem dX7_doOrder_99 : decode cX7_doOrder 99 = .ok (.if_icmp .ne 7, 3) := by decide +kernel
theorem dX7_doOrder_102 : decode cX7_doOrder 102 = .ok (.iconst 1, 1) := by decide +kernel
theorem dX7_doOrder_103 : decode cX7_doOrder 103 = .ok (.goto 4, 3) := by decide +kernel
theorem dX7_doOrder_106 : decode cX7_doOrder 106 = .ok (.iconst 0, 1) := by decide +kernel
theorem dX7_doOrder_107 : decode cX7_doOrder 107 = .ok (.invokevirtual 127, 3) := by decide +kernel
theorem dX7_doOrder_110 : decode cX7_doOrder 110 = .ok (.ireturn, 1) := by decide +kernel
theorem dX7_run_0 : decode cX7_run 0 = .ok (.aload_n 0, 1) := by decide +kernel
theorem dX7_run_1 : decode cX7_run 1 = .ok (.iconst 0, 1) := by decide +kernel
theorem dX7_run_2 : decode cX7_run 2 = .ok (.putfield 19, 3) := by decide +kernel
theorem dX7_run_5 : decode cX7_run 5 = .ok (.aload_n 0, 1) := by decide +kernel
theorem dX7_run_6 : decode cX7_run 6 = .ok (.invokevirtual 171, 3) := by decide +kernel
theorem dX7_run_9 : decode cX7_run 9 = .ok (.iconst (-1), 1) := by decide +kernel
theorem dX7_run_10 : decode cX7_run 10 = .ok (.if_icmp .eq 9, 3) := by decide +kernel
theorem dX7_run_13 : decode cX7_run 13 = .ok (.aload_n 0, 1) := by decide +kernel
theorem dX7_run_14 : decode cX7_run 14 = .ok (.iconst 1, 1) := by decide +kernel
theorem dX7_run_15 : decode cX7_run 15 = .ok (.invokevirtual 30, 3) := by decide +kernel
theorem dX7_run_18 : decode cX7_run 18 = .ok (.ireturn, 1) := by decide +kernel
theorem dX7_run_19 : decode cX7_run 19 = .ok (.aload_n 0, 1) := by decide +kernel
theorem dX7_run_20 : decode cX7_run 20 = .ok (.invokevirtual 93, 3) := by decide +kernel
theorem dX7_run_23 : decode cX7_run 23 = .ok (.aload_n 0, 1) := by decide +kernel
theorem dX7_run_24 : decode cX7_run 24 = .ok (.iconst 0, 1) := by decide +kernel
theorem dX7_run_25 : decode cX7_run 25 = .ok (.putfield 153, 3) := by decide +kernel
theorem dX7_run_28 : decode cX7_run 28 = .ok (.iconst 0, 1) := by decide +kernel
theorem dX7_run_29 : decode cX7_run 29 = .ok (.istore_n 1, 1) := by decide +kernel
theorem dX7_run_30 : decode cX7_run 30 = .ok (.iconst 1, 1) := by decide +kernel
theorem dX7_run_31 : decode cX7_run 31 = .ok (.istore_n 2, 1) := by decide +kernel
theorem dX7_run_32 : decode cX7_run 32 = .ok (.iload_n 2, 1) := by decide +kernel
theorem dX7_run_33 : decode cX7_run 33 = .ok (.ifCond .eq 66, 3) := by decide +kernel
theorem dX7_run_36 : decode cX7_run 36 = .ok (.aload_n 0, 1) := by decide +kernel
theorem dX7_run_37 : decode cX7_run 37 = .ok (.getfield 153, 3) := by decide +kernel
theorem dX7_run_40 : decode cX7_run 40 = .ok (.aload_n 0, 1) := by decide +kernel
theorem dX7_run_41 : decode cX7_run 41 = .ok (.getfield 150, 3) := by decide +kernel
theorem dX7_run_44 : decode cX7_run 44 = .ok (.if_icmp .ge 55, 3) := by decide +kernel
theorem dX7_run_47 : decode cX7_run 47 = .ok (.aload_n 0, 1) := by decide +kernel
theorem dX7_run_48 : decode cX7_run 48 = .ok (.invokevirtual 168, 3) := by decide +kernel
theorem dX7_run_51 : decode cX7_run 51 = .ok (.ifCond .eq 21, 3) := by decide +kernel
theorem dX7_run_54 : decode cX7_run 54 = .ok (.aload_n 0, 1) := by decide +kernel
theorem dX7_run_55 : decode cX7_run 55 = .ok (.invokevirtual 174, 3) := by decide +kernel
theorem dX7_run_58 : decode cX7_run 58 = .ok (.ifCond .eq 14, 3) := by decide +kernel
theorem dX7_run_61 : decode cX7_run 61 = .ok (.aload_n 0, 1) := by decide +kernel
theorem dX7_run_62 : decode cX7_run 62 = .ok (.invokevirtual 177, 3) := by decide +kernel
theorem dX7_run_65 : decode cX7_run 65 = .ok (.ifCond .lt 7, 3) := by decide +kernel
theorem dX7_run_68 : decode cX7_run 68 = .ok (.iconst 1, 1) := by decide +kernel
theorem dX7_run_69 : decode cX7_run 69 = .ok (.goto 4, 3) := by decide +kernel
theorem dX7_run_72 : decode cX7_run 72 = .ok (.iconst 0, 1) := by decide +kernel
theorem dX7_run_73 : decode cX7_run 73 = .ok (.istore_n 2, 1) := by decide +kernel
theorem dX7_run_74 : decode cX7_run 74 = .ok (.iload_n 1, 1) := by decide +kernel
theorem dX7_run_75 : decode cX7_run 75 = .ok (.iload_n 2, 1) := by decide +kernel
theorem dX7_run_76 : decode cX7_run 76 = .ok (.ifCond .eq 7, 3) := by decide +kernel
theorem dX7_run_79 : decode cX7_run 79 = .ok (.iconst 1, 1) := by decide +kernel
theorem dX7_run_80 : decode cX7_run 80 = .ok (.goto 4, 3) := by decide +kernel
theorem dX7_run_83 : decode cX7_run 83 = .ok (.iconst 0, 1) := by decide +kernel
theorem dX7_run_84 : decode cX7_run 84 = .ok (.iadd, 1) := by decide +kernel
theorem dX7_run_85 : decode cX7_run 85 = .ok (.istore_n 1, 1) := by decide +kernel
theorem dX7_run_86 : decode cX7_run 86 = .ok (.aload_n 0, 1) := by decide +kernel
theorem dX7_run_87 : decode cX7_run 87 = .ok (.dup, 1) := by decide +kernel
theorem dX7_run_88 : decode cX7_run 88 = .ok (.getfield 153, 3) := by decide +kernel
theorem dX7_run_91 : decode cX7_run 91 = .ok (.iconst 1, 1) := by decide +kernel
theorem dX7_run_92 : decode cX7_run 92 = .ok (.iadd, 1) := by decide +kernel
theorem dX7_run_93 : decode cX7_run 93 = .ok (.putfield 153, 3) := by decide +kernel
theorem dX7_run_96 : decode cX7_run 96 = .ok (.goto (-64), 3) := by decide +kernel
theorem dX7_run_99 : decode cX7_run 99 = .ok (.aload_n 0, 1) := by decide +kernel
theorem dX7_run_100 : decode cX7_run 100 = .ok (.iconst 0, 1) := by decide +kernel
theorem dX7_run_101 : decode cX7_run 101 = .ok (.putfield 150, 3) := by decide +kernel
theorem dX7_run_104 : decode cX7_run 104 = .ok (.iload_n 1, 1) := by decide +kernel
theorem dX7_run_105 : decode cX7_run 105 = .ok (.ireturn, 1) := by decide +kernel
theorem dX7_mix_0 : decode cX7_mix 0 = .ok (.aload_n 0, 1) := by decide +kernel
theorem dX7_mix_1 : decode cX7_mix 1 = .ok (.ldc2_w 180, 3) := by decide +kernel
theorem dX7_mix_4 : decode cX7_mix 4 = .ok (.aload_n 0, 1) := by decide +kernel
theorem dX7_mix_5 : decode cX7_mix 5 = .ok (.getfield 182, 3) := by decide +kernel
theorem dX7_mix_8 : decode cX7_mix 8 = .ok (.lmul, 1) := by decide +kernel
theorem dX7_mix_9 : decode cX7_mix 9 = .ok (.lload_n 1, 1) := by decide +kernel
theorem dX7_mix_10 : decode cX7_mix 10 = .ok (.ladd, 1) := by decide +kernel
theorem dX7_mix_11 : decode cX7_mix 11 = .ok (.putfield 182, 3) := by decide +kernel
theorem dX7_mix_14 : decode cX7_mix 14 = .ok (.return_, 1) := by decide +kernel
theorem dX7_mixFollower_0 : decode cX7_mixFollower 0 = .ok (.aload_n 0, 1) := by decide +kernel
theorem dX7_mixFollower_1 : decode cX7_mixFollower 1 = .ok (.aload_n 0, 1) := by decide +kernel
theorem dX7_mixFollower_2 : decode cX7_mixFollower 2 = .ok (.iload_n 1, 1) := by decide +kernel
theorem dX7_mixFollower_3 : decode cX7_mixFollower 3 = .ok (.invokevirtual 133, 3) := by decide +kernel
theorem dX7_mixFollower_6 : decode cX7_mixFollower 6 = .ok (.i2l, 1) := by decide +kernel
theorem dX7_mixFollower_7 : decode cX7_mixFollower 7 = .ok (.invokevirtual 186, 3) := by decide +kernel
theorem dX7_mixFollower_10 : decode cX7_mixFollower 10 = .ok (.aload_n 0, 1) := by decide +kernel
theorem dX7_mixFollower_11 : decode cX7_mixFollower 11 = .ok (.aload_n 0, 1) := by decide +kernel
theorem dX7_mixFollower_12 : decode cX7_mixFollower 12 = .ok (.iload_n 1, 1) := by decide +kernel
theorem dX7_mixFollower_13 : decode cX7_mixFollower 13 = .ok (.invokevirtual 130, 3) := by decide +kernel
theorem dX7_mixFollower_16 : decode cX7_mixFollower 16 = .ok (.i2l, 1) := by decide +kernel
theorem dX7_mixFollower_17 : decode cX7_mixFollower 17 = .ok (.invokevirtual 186, 3) := by decide +kernel
theorem dX7_mixFollower_20 : decode cX7_mixFollower 20 = .ok (.aload_n 0, 1) := by decide +kernel
theorem dX7_mixFollower_21 : decode cX7_mixFollower 21 = .ok (.aload_n 0, 1) := by decide +kernel
theorem dX7_mixFollower_22 : decode cX7_mixFollower 22 = .ok (.iload_n 1, 1) := by decide +kernel
theorem dX7_mixFollower_23 : decode cX7_mixFollower 23 = .ok (.invokevirtual 140, 3) := by decide +kernel
theorem dX7_mixFollower_26 : decode cX7_mixFollower 26 = .ok (.i2l, 1) := by decide +kernel
theorem dX7_mixFollower_27 : decode cX7_mixFollower 27 = .ok (.invokevirtual 186, 3) := by decide +kernel
theorem dX7_mixFollower_30 : decode cX7_mixFollower 30 = .ok (.aload_n 0, 1) := by decide +kernel
theorem dX7_mixFollower_31 : decode cX7_mixFollower 31 = .ok (.aload_n 0, 1) := by decide +kernel
theorem dX7_mixFollower_32 : decode cX7_mixFollower 32 = .ok (.iload_n 1, 1) := by decide +kernel
theorem dX7_mixFollower_33 : decode cX7_mixFollower 33 = .ok (.iconst 5, 1) := by decide +kernel
theorem dX7_mixFollower_34 : decode cX7_mixFollower 34 = .ok (.invokevirtual 34, 3) := by decide +kernel
theorem dX7_mixFollower_37 : decode cX7_mixFollower 37 = .ok (.i2l, 1) := by decide +kernel
theorem dX7_mixFollower_38 : decode cX7_mixFollower 38 = .ok (.invokevirtual 186, 3) := by decide +kernel
theorem dX7_mixFollower_41 : decode cX7_mixFollower 41 = .ok (.aload_n 0, 1) := by decide +kernel
theorem dX7_mixFollower_42 : decode cX7_mixFollower 42 = .ok (.aload_n 0, 1) := by decide +kernel
theorem dX7_mixFollower_43 : decode cX7_mixFollower 43 = .ok (.iload_n 1, 1) := by decide +kernel
theorem dX7_mixFollower_44 : decode cX7_mixFollower 44 = .ok (.invokevirtual 64, 3) := by decide +kernel
theorem dX7_mixFollower_47 : decode cX7_mixFollower 47 = .ok (.i2l, 1) := by decide +kernel
theorem dX7_mixFollower_48 : decode cX7_mixFollower 48 = .ok (.invokevirtual 186, 3) := by decide +kernel
theorem dX7_mixFollower_51 : decode cX7_mixFollower 51 = .ok (.aload_n 0, 1) := by decide +kernel
theorem dX7_mixFollower_52 : decode cX7_mixFollower 52 = .ok (.aload_n 0, 1) := by decide +kernel
theorem dX7_mixFollower_53 : decode cX7_mixFollower 53 = .ok (.iload_n 1, 1) := by decide +kernel
theorem dX7_mixFollower_54 : decode cX7_mixFollower 54 = .ok (.invokevirtual 67, 3) := by decide +kernel
theorem dX7_mixFollower_57 : decode cX7_mixFollower 57 = .ok (.i2l, 1) := by decide +kernel
theorem dX7_mixFollower_58 : decode cX7_mixFollower 58 = .ok (.invokevirtual 186, 3) := by decide +kernel
theorem dX7_mixFollower_61 : decode cX7_mixFollower 61 = .ok (.aload_n 0, 1) := by decide +kernel
theorem dX7_mixFollower_62 : decode cX7_mixFollower 62 = .ok (.aload_n 0, 1) := by decide +kernel
theorem dX7_mixFollower_63 : decode cX7_mixFollower 63 = .ok (.iload_n 1, 1) := by decide +kernel
theorem dX7_mixFollower_64 : decode cX7_mixFollower 64 = .ok (.invokevirtual 143, 3) := by decide +kernel
theorem dX7_mixFollower_67 : decode cX7_mixFollower 67 = .ok (.i2l, 1) := by decide +kernel
theorem dX7_mixFollower_68 : decode cX7_mixFollower 68 = .ok (.invokevirtual 186, 3) := by decide +kernel
theorem dX7_mixFollower_71 : decode cX7_mixFollower 71 = .ok (.return_, 1) := by decide +kernel
theorem dX7_digest_0 : decode cX7_digest 0 = .ok (.aload_n 0, 1) := by decide +kernel
theorem dX7_digest_1 : decode cX7_digest 1 = .ok (.iconst 0, 1) := by decide +kernel
theorem dX7_digest_2 : decode cX7_digest 2 = .ok (.putfield 19, 3) := by decide +kernel
theorem dX7_digest_5 : decode cX7_digest 5 = .ok (.aload_n 0, 1) := by decide +kernel
theorem dX7_digest_6 : decode cX7_digest 6 = .ok (.ldc2_w 190, 3) := by decide +kernel
theorem dX7_digest_9 : decode cX7_digest 9 = .ok (.putfield 182, 3) := by decide +kernel
theorem dX7_digest_12 : decode cX7_digest 12 = .ok (.aload_n 0, 1) := by decide +kernel
theorem dX7_digest_13 : decode cX7_digest 13 = .ok (.aload_n 0, 1) := by decide +kernel
theorem dX7_digest_14 : decode cX7_digest 14 = .ok (.getfield 7, 3) := by decide +kernel
theorem dX7_digest_17 : decode cX7_digest 17 = .ok (.iconst 2, 1) := by decide +kernel
theorem dX7_digest_18 : decode cX7_digest 18 = .ok (.iaload, 1) := by decide +kernel
theorem dX7_digest_19 : decode cX7_digest 19 = .ok (.i2l, 1) := by decide +kernel
theorem dX7_digest_20 : decode cX7_digest 20 = .ok (.invokevirtual 186, 3) := by decide +kernel
theorem dX7_digest_23 : decode cX7_digest 23 = .ok (.aload_n 0, 1) := by decide +kernel
theorem dX7_digest_24 : decode cX7_digest 24 = .ok (.aload_n 0, 1) := by decide +kernel
theorem dX7_digest_25 : decode cX7_digest 25 = .ok (.getfield 7, 3) := by decide +kernel
theorem dX7_digest_28 : decode cX7_digest 28 = .ok (.iconst 0, 1) := by decide +kernel
theorem dX7_digest_29 : decode cX7_digest 29 = .ok (.iaload, 1) := by decide +kernel
theorem dX7_digest_30 : decode cX7_digest 30 = .ok (.invokestatic 45, 3) := by decide +kernel
theorem dX7_digest_33 : decode cX7_digest 33 = .ok (.i2l, 1) := by decide +kernel
theorem dX7_digest_34 : decode cX7_digest 34 = .ok (.invokevirtual 186, 3) := by decide +kernel
theorem dX7_digest_37 : decode cX7_digest 37 = .ok (.aload_n 0, 1) := by decide +kernel
theorem dX7_digest_38 : decode cX7_digest 38 = .ok (.aload_n 0, 1) := by decide +kernel
theorem dX7_digest_39 : decode cX7_digest 39 = .ok (.getfield 7, 3) := by decide +kernel
theorem dX7_digest_42 : decode cX7_digest 42 = .ok (.iconst 1, 1) := by decide +kernel
theorem dX7_digest_43 : decode cX7_digest 43 = .ok (.iaload, 1) := by decide +kernel
theorem dX7_digest_44 : decode cX7_digest 44 = .ok (.invokestatic 45, 3) := by decide +kernel
theorem dX7_digest_47 : decode cX7_digest 47 = .ok (.i2l, 1) := by decide +kernel
theorem dX7_digest_48 : decode cX7_digest 48 = .ok (.invokevirtual 186, 3) := by decide +kernel
theorem dX7_digest_51 : decode cX7_digest 51 = .ok (.aload_n 0, 1) := by decide +kernel
theorem dX7_digest_52 : decode cX7_digest 52 = .ok (.aload_n 0, 1) := by decide +kernel
theorem dX7_digest_53 : decode cX7_digest 53 = .ok (.invokevirtual 115, 3) := by decide +kernel
theorem dX7_digest_56 : decode cX7_digest 56 = .ok (.i2l, 1) := by decide +kernel
theorem dX7_digest_57 : decode cX7_digest 57 = .ok (.invokevirtual 186, 3) := by decide +kernel
theorem dX7_digest_60 : decode cX7_digest 60 = .ok (.aload_n 0, 1) := by decide +kernel
theorem dX7_digest_61 : decode cX7_digest 61 = .ok (.aload_n 0, 1) := by decide +kernel
theorem dX7_digest_62 : decode cX7_digest 62 = .ok (.getfield 7, 3) := by decide +kernel
theorem dX7_digest_65 : decode cX7_digest 65 = .ok (.iconst 4, 1) := by decide +kernel
theorem dX7_digest_66 : decode cX7_digest 66 = .ok (.iaload, 1) := by decide +kernel
theorem dX7_digest_67 : decode cX7_digest 67 = .ok (.i2l, 1) := by decide +kernel
theorem dX7_digest_68 : decode cX7_digest 68 = .ok (.invokevirtual 186, 3) := by decide +kernel
theorem dX7_digest_71 : decode cX7_digest 71 = .ok (.iconst 0, 1) := by decide +kernel
theorem dX7_digest_72 : decode cX7_digest 72 = .ok (.istore_n 1, 1) := by decide +kernel
theorem dX7_digest_73 : decode cX7_digest 73 = .ok (.iload_n 1, 1) := by decide +kernel
theorem dX7_digest_74 : decode cX7_digest 74 = .ok (.aload_n 0, 1) := by decide +kernel
theorem dX7_digest_75 : decode cX7_digest 75 = .ok (.getfield 7, 3) := by decide +kernel
theorem dX7_digest_78 : decode cX7_digest 78 = .ok (.iconst 4, 1) := by decide +kernel
theorem dX7_digest_79 : decode cX7_digest 79 = .ok (.iaload, 1) := by decide +kernel
theorem dX7_digest_80 : decode cX7_digest 80 = .ok (.if_icmp .ge 30, 3) := by decide +kernel
theorem dX7_digest_83 : decode cX7_digest 83 = .ok (.aload_n 0, 1) := by decide +kernel
theorem dX7_digest_84 : decode cX7_digest 84 = .ok (.aload_n 0, 1) := by decide +kernel
theorem dX7_digest_85 : decode cX7_digest 85 = .ok (.iload_n 1, 1) := by decide +kernel
theorem dX7_digest_86 : decode cX7_digest 86 = .ok (.iconst 0, 1) := by decide +kernel
theorem dX7_digest_87 : decode cX7_digest 87 = .ok (.invokevirtual 42, 3) := by decide +kernel
theorem dX7_digest_90 : decode cX7_digest 90 = .ok (.i2l, 1) := by decide +kernel
theorem dX7_digest_91 : decode cX7_digest 91 = .ok (.invokevirtual 186, 3) := by decide +kernel
theorem dX7_digest_94 : decode cX7_digest 94 = .ok (.aload_n 0, 1) := by decide +kernel
theorem dX7_digest_95 : decode cX7_digest 95 = .ok (.aload_n 0, 1) := by decide +kernel
theorem dX7_digest_96 : decode cX7_digest 96 = .ok (.iload_n 1, 1) := by decide +kernel
theorem dX7_digest_97 : decode cX7_digest 97 = .ok (.invokevirtual 48, 3) := by decide +kernel
theorem dX7_digest_100 : decode cX7_digest 100 = .ok (.i2l, 1) := by decide +kernel
theorem dX7_digest_101 : decode cX7_digest 101 = .ok (.invokevirtual 186, 3) := by decide +kernel
theorem dX7_digest_104 : decode cX7_digest 104 = .ok (.iinc 1 1, 3) := by decide +kernel
theorem dX7_digest_107 : decode cX7_digest 107 = .ok (.goto (-34), 3) := by decide +kernel
theorem dX7_digest_110 : decode cX7_digest 110 = .ok (.iconst 0, 1) := by decide +kernel
theorem dX7_digest_111 : decode cX7_digest 111 = .ok (.istore_n 1, 1) := by decide +kernel
theorem dX7_digest_112 : decode cX7_digest 112 = .ok (.iload_n 1, 1) := by decide +kernel
theorem dX7_digest_113 : decode cX7_digest 113 = .ok (.iconst 4, 1) := by decide +kernel
theorem dX7_digest_114 : decode cX7_digest 114 = .ok (.if_icmp .ge 14, 3) := by decide +kernel
theorem dX7_digest_117 : decode cX7_digest 117 = .ok (.aload_n 0, 1) := by decide +kernel
theorem dX7_digest_118 : decode cX7_digest 118 = .ok (.iload_n 1, 1) := by decide +kernel
theorem dX7_digest_119 : decode cX7_digest 119 = .ok (.invokevirtual 192, 3) := by decide +kernel
theorem dX7_digest_122 : decode cX7_digest 122 = .ok (.iinc 1 1, 3) := by decide +kernel
theorem dX7_digest_125 : decode cX7_digest 125 = .ok (.goto (-13), 3) := by decide +kernel
theorem dX7_digest_128 : decode cX7_digest 128 = .ok (.iconst 0, 1) := by decide +kernel
theorem dX7_digest_129 : decode cX7_digest 129 = .ok (.istore_n 1, 1) := by decide +kernel
theorem dX7_digest_130 : decode cX7_digest 130 = .ok (.iload_n 1, 1) := by decide +kernel
theorem dX7_digest_131 : decode cX7_digest 131 = .ok (.bipush 30, 2) := by decide +kernel
theorem dX7_digest_133 : decode cX7_digest 133 = .ok (.if_icmp .ge 50, 3) := by decide +kernel
theorem dX7_digest_136 : decode cX7_digest 136 = .ok (.aload_n 0, 1) := by decide +kernel
theorem dX7_digest_137 : decode cX7_digest 137 = .ok (.aload_n 0, 1) := by decide +kernel
theorem dX7_digest_138 : decode cX7_digest 138 = .ok (.iload_n 1, 1) := by decide +kernel
theorem dX7_digest_139 : decode cX7_digest 139 = .ok (.invokevirtual 112, 3) := by decide +kernel
theorem dX7_digest_142 : decode cX7_digest 142 = .ok (.i2l, 1) := by decide +kernel
theorem dX7_digest_143 : decode cX7_digest 143 = .ok (.invokevirtual 186, 3) := by decide +kernel
theorem dX7_digest_146 : decode cX7_digest 146 = .ok (.iconst 0, 1) := by decide +kernel
theorem dX7_digest_147 : decode cX7_digest 147 = .ok (.istore_n 2, 1) := by decide +kernel
theorem dX7_digest_148 : decode cX7_digest 148 = .ok (.iload_n 2, 1) := by decide +kernel
theorem dX7_digest_149 : decode cX7_digest 149 = .ok (.iconst 4, 1) := by decide +kernel
theorem dX7_digest_150 : decode cX7_digest 150 = .ok (.if_icmp .ge 27, 3) := by decide +kernel
theorem dX7_digest_153 : decode cX7_digest 153 = .ok (.aload_n 0, 1) := by decide +kernel
theorem dX7_digest_154 : decode cX7_digest 154 = .ok (.aload_n 0, 1) := by decide +kernel
theorem dX7_digest_155 : decode cX7_digest 155 = .ok (.iload_n 2, 1) := by decide +kernel
theorem dX7_digest_156 : decode cX7_digest 156 = .ok (.iload_n 1, 1) := by decide +kernel
theorem dX7_digest_157 : decode cX7_digest 157 = .ok (.invokevirtual 136, 3) := by decide +kernel
theorem dX7_digest_160 : decode cX7_digest 160 = .ok (.ifCond .eq 7, 3) := by decide +kernel
theorem dX7_digest_163 : decode cX7_digest 163 = .ok (.lconst 1, 1) := by decide +kernel
theorem dX7_digest_164 : decode cX7_digest 164 = .ok (.goto 4, 3) := by decide +kernel
theorem dX7_digest_167 : decode cX7_digest 167 = .ok (.lconst 0, 1) := by decide +kernel
theorem dX7_digest_168 : decode cX7_digest 168 = .ok (.invokevirtual 186, 3) := by decide +kernel
theorem dX7_digest_171 : decode cX7_digest 171 = .ok (.iinc 2 1, 3) := by decide +kernel
theorem dX7_digest_174 : decode cX7_digest 174 = .ok (.goto (-26), 3) := by decide +kernel
theorem dX7_digest_177 : decode cX7_digest 177 = .ok (.iinc 1 1, 3) := by decide +kernel
theorem dX7_digest_180 : decode cX7_digest 180 = .ok (.goto (-50), 3) := by decide +kernel
theorem dX7_digest_183 : decode cX7_digest 183 = .ok (.aload_n 0, 1) := by decide +kernel
theorem dX7_digest_184 : decode cX7_digest 184 = .ok (.getfield 182, 3) := by decide +kernel
theorem dX7_digest_187 : decode cX7_digest 187 = .ok (.lreturn, 1) := by decide +kernel
end
section
theorem dL_add_0 : decode cL_add 0 = .ok (.aload_n 2, 1) := by decide +kernel
theorem dL_add_1 : decode cL_add 1 = .ok (.iconst 0, 1) := by decide +kernel
theorem dL_add_2 : decode cL_add 2 = .ok (.aload_n 0, 1) := by decide +kernel
theorem dL_add_3 : decode cL_add 3 = .ok (.iload_n 1, 1) := by decide +kernel
theorem dL_add_4 : decode cL_add 4 = .ok (.invokevirtual 7, 3) := by decide +kernel
theorem dL_add_7 : decode cL_add 7 = .ok (.i2l, 1) := by decide +kernel
theorem dL_add_8 : decode cL_add 8 = .ok (.lastore, 1) := by decide +kernel
theorem dL_add_9 : decode cL_add 9 = .ok (.goto 9, 3) := by decide +kernel
theorem dL_add_12 : decode cL_add 12 = .ok (.astore_n 3, 1) := by decide +kernel
theorem dL_add_13 : decode cL_add 13 = .ok (.iconst 1, 1) := by decide +kernel
theorem dL_add_14 : decode cL_add 14 = .ok (.ireturn, 1) := by decide +kernel
theorem dL_add_15 : decode cL_add 15 = .ok (.astore_n 3, 1) := by decide +kernel
theorem dL_add_16 : decode cL_add 16 = .ok (.iconst 2, 1) := by decide +kernel
theorem dL_add_17 : decode cL_add 17 = .ok (.ireturn, 1) := by decide +kernel
theorem dL_add_18 : decode cL_add 18 = .ok (.iconst 0, 1) := by decide +kernel
theorem dL_add_19 : decode cL_add 19 = .ok (.ireturn, 1) := by decide +kernel
theorem dL_crossOut_0 : decode cL_crossOut 0 = .ok (.aload_n 2, 1) := by decide +kernel
theorem dL_crossOut_1 : decode cL_crossOut 1 = .ok (.iconst 0, 1) := by decide +kernel
theorem dL_crossOut_2 : decode cL_crossOut 2 = .ok (.aload_n 0, 1) := by decide +kernel
theorem dL_crossOut_3 : decode cL_crossOut 3 = .ok (.iload_n 1, 1) := by decide +kernel
theorem dL_crossOut_4 : decode cL_crossOut 4 = .ok (.invokevirtual 17, 3) := by decide +kernel
theorem dL_crossOut_7 : decode cL_crossOut 7 = .ok (.i2l, 1) := by decide +kernel
theorem dL_crossOut_8 : decode cL_crossOut 8 = .ok (.lastore, 1) := by decide +kernel
theorem dL_crossOut_9 : decode cL_crossOut 9 = .ok (.goto 9, 3) := by decide +kernel
theorem dL_crossOut_12 : decode cL_crossOut 12 = .ok (.astore_n 3, 1) := by decide +kernel
theorem dL_crossOut_13 : decode cL_crossOut 13 = .ok (.iconst 1, 1) := by decide +kernel
theorem dL_crossOut_14 : decode cL_crossOut 14 = .ok (.ireturn, 1) := by decide +kernel
theorem dL_crossOut_15 : decode cL_crossOut 15 = .ok (.astore_n 3, 1) := by decide +kernel
theorem dL_crossOut_16 : decode cL_crossOut 16 = .ok (.iconst 2, 1) := by decide +kernel
theorem dL_crossOut_17 : decode cL_crossOut 17 = .ok (.ireturn, 1) := by decide +kernel
theorem dL_crossOut_18 : decode cL_crossOut 18 = .ok (.iconst 0, 1) := by decide +kernel
theorem dL_crossOut_19 : decode cL_crossOut 19 = .ok (.ireturn, 1) := by decide +kernel
theorem dL_publish_0 : decode cL_publish 0 = .ok (.aload_n 1, 1) := by decide +kernel
theorem dL_publish_1 : decode cL_publish 1 = .ok (.iconst 0, 1) := by decide +kernel
theorem dL_publish_2 : decode cL_publish 2 = .ok (.aload_n 0, 1) := by decide +kernel
theorem dL_publish_3 : decode cL_publish 3 = .ok (.invokevirtual 20, 3) := by decide +kernel
theorem dL_publish_6 : decode cL_publish 6 = .ok (.i2l, 1) := by decide +kernel
theorem dL_publish_7 : decode cL_publish 7 = .ok (.lastore, 1) := by decide +kernel
theorem dL_publish_8 : decode cL_publish 8 = .ok (.goto 6, 3) := by decide +kernel
theorem dL_publish_11 : decode cL_publish 11 = .ok (.astore_n 2, 1) := by decide +kernel
theorem dL_publish_12 : decode cL_publish 12 = .ok (.iconst 1, 1) := by decide +kernel
theorem dL_publish_13 : decode cL_publish 13 = .ok (.ireturn, 1) := by decide +kernel
theorem dL_publish_14 : decode cL_publish 14 = .ok (.iconst 0, 1) := by decide +kernel
theorem dL_publish_15 : decode cL_publish 15 = .ok (.ireturn, 1) := by decide +kernel
theorem dL_renumber_0 : decode cL_renumber 0 = .ok (.aload_n 2, 1) := by decide +kernel
theorem dL_renumber_1 : decode cL_renumber 1 = .ok (.iconst 0, 1) := by decide +kernel
theorem dL_renumber_2 : decode cL_renumber 2 = .ok (.aload_n 0, 1) := by decide +kernel
theorem dL_renumber_3 : decode cL_renumber 3 = .ok (.iload_n 1, 1) := by decide +kernel
theorem dL_renumber_4 : decode cL_renumber 4 = .ok (.invokevirtual 24, 3) := by decide +kernel
theorem dL_renumber_7 : decode cL_renumber 7 = .ok (.i2l, 1) := by decide +kernel
theorem dL_renumber_8 : decode cL_renumber 8 = .ok (.lastore, 1) := by decide +kernel
theorem dL_renumber_9 : decode cL_renumber 9 = .ok (.goto 6, 3) := by decide +kernel
theorem dL_renumber_12 : decode cL_renumber 12 = .ok (.astore_n 3, 1) := by decide +kernel
theorem dL_renumber_13 : decode cL_renumber 13 = .ok (.iconst 1, 1) := by decide +kernel
theorem dL_renumber_14 : decode cL_renumber 14 = .ok (.ireturn, 1) := by decide +kernel
theorem dL_renumber_15 : decode cL_renumber 15 = .ok (.iconst 0, 1) := by decide +kernel
theorem dL_renumber_16 : decode cL_renumber 16 = .ok (.ireturn, 1) := by decide +kernel
theorem dL_setKeep_0 : decode cL_setKeep 0 = .ok (.aload_n 2, 1) := by decide +kernel
theorem dL_setKeep_1 : decode cL_setKeep 1 = .ok (.iconst 0, 1) := by decide +kernel
theorem dL_setKeep_2 : decode cL_setKeep 2 = .ok (.aload_n 0, 1) := by decide +kernel
theorem dL_setKeep_3 : decode cL_setKeep 3 = .ok (.iload_n 1, 1) := by decide +kernel
theorem dL_setKeep_4 : decode cL_setKeep 4 = .ok (.invokevirtual 29, 3) := by decide +kernel
theorem dL_setKeep_7 : decode cL_setKeep 7 = .ok (.i2l, 1) := by decide +kernel
theorem dL_setKeep_8 : decode cL_setKeep 8 = .ok (.lastore, 1) := by decide +kernel
theorem dL_setKeep_9 : decode cL_setKeep 9 = .ok (.goto 6, 3) := by decide +kernel
theorem dL_setKeep_12 : decode cL_setKeep 12 = .ok (.astore_n 3, 1) := by decide +kernel
theorem dL_setKeep_13 : decode cL_setKeep 13 = .ok (.iconst 1, 1) := by decide +kernel
theorem dL_setKeep_14 : decode cL_setKeep 14 = .ok (.ireturn, 1) := by decide +kernel
theorem dL_setKeep_15 : decode cL_setKeep 15 = .ok (.iconst 0, 1) := by decide +kernel
theorem dL_setKeep_16 : decode cL_setKeep 16 = .ok (.ireturn, 1) := by decide +kernel
theorem dL_where_0 : decode cL_where 0 = .ok (.aload_n 2, 1) := by decide +kernel
theorem dL_where_1 : decode cL_where 1 = .ok (.iconst 0, 1) := by decide +kernel
theorem dL_where_2 : decode cL_where 2 = .ok (.aload_n 0, 1) := by decide +kernel
theorem dL_where_3 : decode cL_where 3 = .ok (.iload_n 1, 1) := by decide +kernel
theorem dL_where_4 : decode cL_where 4 = .ok (.invokevirtual 32, 3) := by decide +kernel
theorem dL_where_7 : decode cL_where 7 = .ok (.i2l, 1) := by decide +kernel
theorem dL_where_8 : decode cL_where 8 = .ok (.lastore, 1) := by decide +kernel
theorem dL_where_9 : decode cL_where 9 = .ok (.goto 6, 3) := by decide +kernel
theorem dL_where_12 : decode cL_where 12 = .ok (.astore_n 3, 1) := by decide +kernel
theorem dL_where_13 : decode cL_where 13 = .ok (.iconst 1, 1) := by decide +kernel
theorem dL_where_14 : decode cL_where 14 = .ok (.ireturn, 1) := by decide +kernel
theorem dL_where_15 : decode cL_where 15 = .ok (.iconst 0, 1) := by decide +kernel
theorem dL_where_16 : decode cL_where 16 = .ok (.ireturn, 1) := by decide +kernel
theorem dL_from_0 : decode cL_from 0 = .ok (.aload_n 2, 1) := by decide +kernel
theorem dL_from_1 : decode cL_from 1 = .ok (.iconst 0, 1) := by decide +kernel
theorem dL_from_2 : decode cL_from 2 = .ok (.aload_n 0, 1) := by decide +kernel
theorem dL_from_3 : decode cL_from 3 = .ok (.iload_n 1, 1) := by decide +kernel
theorem dL_from_4 : decode cL_from 4 = .ok (.invokevirtual 35, 3) := by decide +kernel
theorem dL_from_7 : decode cL_from 7 = .ok (.i2l, 1) := by decide +kernel
theorem dL_from_8 : decode cL_from 8 = .ok (.lastore, 1) := by decide +kernel
theorem dL_from_9 : decode cL_from 9 = .ok (.goto 6, 3) := by decide +kernel
theorem dL_from_12 : decode cL_from 12 = .ok (.astore_n 3, 1) := by decide +kernel
theorem dL_from_13 : decode cL_from 13 = .ok (.iconst 1, 1) := by decide +kernel
theorem dL_from_14 : decode cL_from 14 = .ok (.ireturn, 1) := by decide +kernel
theorem dL_from_15 : decode cL_from 15 = .ok (.iconst 0, 1) := by decide +kernel
theorem dL_from_16 : decode cL_from 16 = .ok (.ireturn, 1) := by decide +kernel
theorem dL_cost_0 : decode cL_cost 0 = .ok (.aload_n 2, 1) := by decide +kernel
theorem dL_cost_1 : decode cL_cost 1 = .ok (.iconst 0, 1) := by decide +kernel
theorem dL_cost_2 : decode cL_cost 2 = .ok (.aload_n 0, 1) := by decide +kernel
theorem dL_cost_3 : decode cL_cost 3 = .ok (.iload_n 1, 1) := by decide +kernel
theorem dL_cost_4 : decode cL_cost 4 = .ok (.invokevirtual 38, 3) := by decide +kernel
theorem dL_cost_7 : decode cL_cost 7 = .ok (.i2l, 1) := by decide +kernel
theorem dL_cost_8 : decode cL_cost 8 = .ok (.lastore, 1) := by decide +kernel
theorem dL_cost_9 : decode cL_cost 9 = .ok (.goto 6, 3) := by decide +kernel
theorem dL_cost_12 : decode cL_cost 12 = .ok (.astore_n 3, 1) := by decide +kernel
theorem dL_cost_13 : decode cL_cost 13 = .ok (.iconst 1, 1) := by decide +kernel
theorem dL_cost_14 : decode cL_cost 14 = .ok (.ireturn, 1) := by decide +kernel
theorem dL_cost_15 : decode cL_cost 15 = .ok (.iconst 0, 1) := by decide +kernel
theorem dL_cost_16 : decode cL_cost 16 = .ok (.ireturn, 1) := by decide +kernel
theorem dL_compare_0 : decode cL_compare 0 = .ok (.aload_n 3, 1) := by decide +kernel
theorem dL_compare_1 : decode cL_compare 1 = .ok (.iconst 0, 1) := by decide +kernel
theorem dL_compare_2 : decode cL_compare 2 = .ok (.aload_n 0, 1) := by decide +kernel
theorem dL_compare_3 : decode cL_compare 3 = .ok (.iload_n 1, 1) := by decide +kernel
theorem dL_compare_4 : decode cL_compare 4 = .ok (.iload_n 2, 1) := by decide +kernel
theorem dL_compare_5 : decode cL_compare 5 = .ok (.invokevirtual 41, 3) := by decide +kernel
theorem dL_compare_8 : decode cL_compare 8 = .ok (.i2l, 1) := by decide +kernel
theorem dL_compare_9 : decode cL_compare 9 = .ok (.lastore, 1) := by decide +kernel
theorem dL_compare_10 : decode cL_compare 10 = .ok (.goto 7, 3) := by decide +kernel
theorem dL_compare_13 : decode cL_compare 13 = .ok (.astore 4, 2) := by decide +kernel
theorem dL_compare_15 : decode cL_compare 15 = .ok (.iconst 1, 1) := by decide +kernel
theorem dL_compare_16 : decode cL_compare 16 = .ok (.ireturn, 1) := by decide +kernel
theorem dL_compare_17 : decode cL_compare 17 = .ok (.iconst 0, 1) := by decide +kernel
theorem dL_compare_18 : decode cL_compare 18 = .ok (.ireturn, 1) := by decide +kernel
theorem dL_refresh_0 : decode cL_refresh 0 = .ok (.aload_n 2, 1) := by decide +kernel
theorem dL_refresh_1 : decode cL_refresh 1 = .ok (.iconst 0, 1) := by decide +kernel
theorem dL_refresh_2 : decode cL_refresh 2 = .ok (.aload_n 0, 1) := by decide +kernel
theorem dL_refresh_3 : decode cL_refresh 3 = .ok (.iload_n 1, 1) := by decide +kernel
theorem dL_refresh_4 : decode cL_refresh 4 = .ok (.invokevirtual 45, 3) := by decide +kernel
theorem dL_refresh_7 : decode cL_refresh 7 = .ok (.i2l, 1) := by decide +kernel
theorem dL_refresh_8 : decode cL_refresh 8 = .ok (.lastore, 1) := by decide +kernel
theorem dL_refresh_9 : decode cL_refresh 9 = .ok (.goto 9, 3) := by decide +kernel
theorem dL_refresh_12 : decode cL_refresh 12 = .ok (.astore_n 3, 1) := by decide +kernel
theorem dL_refresh_13 : decode cL_refresh 13 = .ok (.iconst 1, 1) := by decide +kernel
theorem dL_refresh_14 : decode cL_refresh 14 = .ok (.ireturn, 1) := by decide +kernel
theorem dL_refresh_15 : decode cL_refresh 15 = .ok (.astore_n 3, 1) := by decide +kernel
theorem dL_refresh_16 : decode cL_refresh 16 = .ok (.iconst 2, 1) := by decide +kernel
theorem dL_refresh_17 : decode cL_refresh 17 = .ok (.ireturn, 1) := by decide +kernel
theorem dL_refresh_18 : decode cL_refresh 18 = .ok (.iconst 0, 1) := by decide +kernel
theorem dL_refresh_19 : decode cL_refresh 19 = .ok (.ireturn, 1) := by decide +kernel
theorem dL_sleep_0 : decode cL_sleep 0 = .ok (.aload_n 2, 1) := by decide +kernel
theorem dL_sleep_1 : decode cL_sleep 1 = .ok (.iconst 0, 1) := by decide +kernel
theorem dL_sleep_2 : decode cL_sleep 2 = .ok (.aload_n 0, 1) := by decide +kernel
theorem dL_sleep_3 : decode cL_sleep 3 = .ok (.iload_n 1, 1) := by decide +kernel
theorem dL_sleep_4 : decode cL_sleep 4 = .ok (.invokevirtual 48, 3) := by decide +kernel
theorem dL_sleep_7 : decode cL_sleep 7 = .ok (.i2l, 1) := by decide +kernel
theorem dL_sleep_8 : decode cL_sleep 8 = .ok (.lastore, 1) := by decide +kernel
theorem dL_sleep_9 : decode cL_sleep 9 = .ok (.goto 9, 3) := by decide +kernel
theorem dL_sleep_12 : decode cL_sleep 12 = .ok (.astore_n 3, 1) := by decide +kernel
theorem dL_sleep_13 : decode cL_sleep 13 = .ok (.iconst 1, 1) := by decide +kernel
theorem dL_sleep_14 : decode cL_sleep 14 = .ok (.ireturn, 1) := by decide +kernel
theorem dL_sleep_15 : decode cL_sleep 15 = .ok (.astore_n 3, 1) := by decide +kernel
theorem dL_sleep_16 : decode cL_sleep 16 = .ok (.iconst 2, 1) := by decide +kernel
theorem dL_sleep_17 : decode cL_sleep 17 = .ok (.ireturn, 1) := by decide +kernel
theorem dL_sleep_18 : decode cL_sleep 18 = .ok (.iconst 0, 1) := by decide +kernel
theorem dL_sleep_19 : decode cL_sleep 19 = .ok (.ireturn, 1) := by decide +kernel
theorem dL_wake_0 : decode cL_wake 0 = .ok (.aload_n 2, 1) := by decide +kernel
theorem dL_wake_1 : decode cL_wake 1 = .ok (.iconst 0, 1) := by decide +kernel
theorem dL_wake_2 : decode cL_wake 2 = .ok (.aload_n 0, 1) := by decide +kernel
theorem dL_wake_3 : decode cL_wake 3 = .ok (.iload_n 1, 1) := by decide +kernel
theorem dL_wake_4 : decode cL_wake 4 = .ok (.invokevirtual 51, 3) := by decide +kernel
theorem dL_wake_7 : decode cL_wake 7 = .ok (.i2l, 1) := by decide +kernel
theorem dL_wake_8 : decode cL_wake 8 = .ok (.lastore, 1) := by decide +kernel
theorem dL_wake_9 : decode cL_wake 9 = .ok (.goto 9, 3) := by decide +kernel
theorem dL_wake_12 : decode cL_wake 12 = .ok (.astore_n 3, 1) := by decide +kernel
theorem dL_wake_13 : decode cL_wake 13 = .ok (.iconst 1, 1) := by decide +kernel
theorem dL_wake_14 : decode cL_wake 14 = .ok (.ireturn, 1) := by decide +kernel
theorem dL_wake_15 : decode cL_wake 15 = .ok (.astore_n 3, 1) := by decide +kernel
theorem dL_wake_16 : decode cL_wake 16 = .ok (.iconst 2, 1) := by decide +kernel
theorem dL_wake_17 : decode cL_wake 17 = .ok (.ireturn, 1) := by decide +kernel
theorem dL_wake_18 : decode cL_wake 18 = .ok (.iconst 0, 1) := by decide +kernel
theorem dL_wake_19 : decode cL_wake 19 = .ok (.ireturn, 1) := by decide +kernel
theorem dL_throwAway_0 : decode cL_throwAway 0 = .ok (.aload_n 2, 1) := by decide +kernel
theorem dL_throwAway_1 : decode cL_throwAway 1 = .ok (.iconst 0, 1) := by decide +kernel
theorem dL_throwAway_2 : decode cL_throwAway 2 = .ok (.aload_n 0, 1) := by decide +kernel
theorem dL_throwAway_3 : decode cL_throwAway 3 = .ok (.iload_n 1, 1) := by decide +kernel
theorem dL_throwAway_4 : decode cL_throwAway 4 = .ok (.invokevirtual 54, 3) := by decide +kernel
theorem dL_throwAway_7 : decode cL_throwAway 7 = .ok (.i2l, 1) := by decide +kernel
theorem dL_throwAway_8 : decode cL_throwAway 8 = .ok (.lastore, 1) := by decide +kernel
theorem dL_throwAway_9 : decode cL_throwAway 9 = .ok (.goto 6, 3) := by decide +kernel
theorem dL_throwAway_12 : decode cL_throwAway 12 = .ok (.astore_n 3, 1) := by decide +kernel
theorem dL_throwAway_13 : decode cL_throwAway 13 = .ok (.iconst 1, 1) := by decide +kernel
theorem dL_throwAway_14 : decode cL_throwAway 14 = .ok (.ireturn, 1) := by decide +kernel
theorem dL_throwAway_15 : decode cL_throwAway 15 = .ok (.iconst 0, 1) := by decide +kernel
theorem dL_throwAway_16 : decode cL_throwAway 16 = .ok (.ireturn, 1) := by decide +kernel
theorem dL_editionOf_0 : decode cL_editionOf 0 = .ok (.aload_n 2, 1) := by decide +kernel
theorem dL_editionOf_1 : decode cL_editionOf 1 = .ok (.iconst 0, 1) := by decide +kernel
theorem dL_editionOf_2 : decode cL_editionOf 2 = .ok (.aload_n 0, 1) := by decide +kernel
theorem dL_editionOf_3 : decode cL_editionOf 3 = .ok (.iload_n 1, 1) := by decide +kernel
theorem dL_editionOf_4 : decode cL_editionOf 4 = .ok (.invokevirtual 57, 3) := by decide +kernel
theorem dL_editionOf_7 : decode cL_editionOf 7 = .ok (.i2l, 1) := by decide +kernel
theorem dL_editionOf_8 : decode cL_editionOf 8 = .ok (.lastore, 1) := by decide +kernel
theorem dL_editionOf_9 : decode cL_editionOf 9 = .ok (.goto 6, 3) := by decide +kernel
theorem dL_editionOf_12 : decode cL_editionOf 12 = .ok (.astore_n 3, 1) := by decide +kernel
theorem dL_editionOf_13 : decode cL_editionOf 13 = .ok (.iconst 1, 1) := by decide +kernel
theorem dL_editionOf_14 : decode cL_editionOf 14 = .ok (.ireturn, 1) := by decide +kernel
theorem dL_editionOf_15 : decode cL_editionOf 15 = .ok (.iconst 0, 1) := by decide +kernel
theorem dL_editionOf_16 : decode cL_editionOf 16 = .ok (.ireturn, 1) := by decide +kernel
theorem dL_streets_0 : decode cL_streets 0 = .ok (.aload_n 2, 1) := by decide +kernel
theorem dL_streets_1 : decode cL_streets 1 = .ok (.iconst 0, 1) := by decide +kernel
theorem dL_streets_2 : decode cL_streets 2 = .ok (.aload_n 0, 1) := by decide +kernel
theorem dL_streets_3 : decode cL_streets 3 = .ok (.iload_n 1, 1) := by decide +kernel
theorem dL_streets_4 : decode cL_streets 4 = .ok (.invokevirtual 60, 3) := by decide +kernel
theorem dL_streets_7 : decode cL_streets 7 = .ok (.i2l, 1) := by decide +kernel
theorem dL_streets_8 : decode cL_streets 8 = .ok (.lastore, 1) := by decide +kernel
theorem dL_streets_9 : decode cL_streets 9 = .ok (.goto 6, 3) := by decide +kernel
theorem dL_streets_12 : decode cL_streets 12 = .ok (.astore_n 3, 1) := by decide +kernel
theorem dL_streets_13 : decode cL_streets 13 = .ok (.iconst 1, 1) := by decide +kernel
theorem dL_streets_14 : decode cL_streets 14 = .ok (.ireturn, 1) := by decide +kernel
theorem dL_streets_15 : decode cL_streets 15 = .ok (.iconst 0, 1) := by decide +kernel
theorem dL_streets_16 : decode cL_streets 16 = .ok (.ireturn, 1) := by decide +kernel
theorem dL_has_0 : decode cL_has 0 = .ok (.aload_n 3, 1) := by decide +kernel
theorem dL_has_1 : decode cL_has 1 = .ok (.iconst 0, 1) := by decide +kernel
theorem dL_has_2 : decode cL_has 2 = .ok (.aload_n 0, 1) := by decide +kernel
theorem dL_has_3 : decode cL_has 3 = .ok (.iload_n 1, 1) := by decide +kernel
theorem dL_has_4 : decode cL_has 4 = .ok (.iload_n 2, 1) := by decide +kernel
theorem dL_has_5 : decode cL_has 5 = .ok (.invokevirtual 63, 3) := by decide +kernel
theorem dL_has_8 : decode cL_has 8 = .ok (.ifCond .eq 7, 3) := by decide +kernel
theorem dL_has_11 : decode cL_has 11 = .ok (.lconst 1, 1) := by decide +kernel
theorem dL_has_12 : decode cL_has 12 = .ok (.goto 4, 3) := by decide +kernel
theorem dL_has_15 : decode cL_has 15 = .ok (.lconst 0, 1) := by decide +kernel
theorem dL_has_16 : decode cL_has 16 = .ok (.lastore, 1) := by decide +kernel
theorem dL_has_17 : decode cL_has 17 = .ok (.goto 7, 3) := by decide +kernel
theorem dL_has_20 : decode cL_has 20 = .ok (.astore 4, 2) := by decide +kernel
theorem dL_has_22 : decode cL_has 22 = .ok (.iconst 1, 1) := by decide +kernel
theorem dL_has_23 : decode cL_has 23 = .ok (.ireturn, 1) := by decide +kernel
theorem dL_has_24 : decode cL_has 24 = .ok (.iconst 0, 1) := by decide +kernel
theorem dL_has_25 : decode cL_has 25 = .ok (.ireturn, 1) := by decide +kernel
theorem dL_isRight_0 : decode cL_isRight 0 = .ok (.aload_n 2, 1) := by decide +kernel
theorem dL_isRight_1 : decode cL_isRight 1 = .ok (.iconst 0, 1) := by decide +kernel
theorem dL_isRight_2 : decode cL_isRight 2 = .ok (.aload_n 0, 1) := by decide +kernel
theorem dL_isRight_3 : decode cL_isRight 3 = .ok (.iload_n 1, 1) := by decide +kernel
theorem dL_isRight_4 : decode cL_isRight 4 = .ok (.invokevirtual 67, 3) := by decide +kernel
theorem dL_isRight_7 : decode cL_isRight 7 = .ok (.ifCond .eq 7, 3) := by decide +kernel
theorem dL_isRight_10 : decode cL_isRight 10 = .ok (.lconst 1, 1) := by decide +kernel
theorem dL_isRight_11 : decode cL_isRight 11 = .ok (.goto 4, 3) := by decide +kernel
theorem dL_isRight_14 : decode cL_isRight 14 = .ok (.lconst 0, 1) := by decide +kernel
theorem dL_isRight_15 : decode cL_isRight 15 = .ok (.lastore, 1) := by decide +kernel
theorem dL_isRight_16 : decode cL_isRight 16 = .ok (.goto 6, 3) := by decide +kernel
theorem dL_isRight_19 : decode cL_isRight 19 = .ok (.astore_n 3, 1) := by decide +kernel
theorem dL_isRight_20 : decode cL_isRight 20 = .ok (.iconst 1, 1) := by decide +kernel
theorem dL_isRight_21 : decode cL_isRight 21 = .ok (.ireturn, 1) := by decide +kernel
theorem dL_isRight_22 : decode cL_isRight 22 = .ok (.iconst 0, 1) := by decide +kernel
theorem dL_isRight_23 : decode cL_isRight 23 = .ok (.ireturn, 1) := by decide +kernel
theorem dL_attention_0 : decode cL_attention 0 = .ok (.aload_n 2, 1) := by decide +kernel
theorem dL_attention_1 : decode cL_attention 1 = .ok (.iconst 0, 1) := by decide +kernel
theorem dL_attention_2 : decode cL_attention 2 = .ok (.aload_n 0, 1) := by decide +kernel
theorem dL_attention_3 : decode cL_attention 3 = .ok (.iload_n 1, 1) := by decide +kernel
theorem dL_attention_4 : decode cL_attention 4 = .ok (.invokevirtual 71, 3) := by decide +kernel
theorem dL_attention_7 : decode cL_attention 7 = .ok (.i2l, 1) := by decide +kernel
theorem dL_attention_8 : decode cL_attention 8 = .ok (.lastore, 1) := by decide +kernel
theorem dL_attention_9 : decode cL_attention 9 = .ok (.goto 6, 3) := by decide +kernel
theorem dL_attention_12 : decode cL_attention 12 = .ok (.astore_n 3, 1) := by decide +kernel
theorem dL_attention_13 : decode cL_attention 13 = .ok (.iconst 1, 1) := by decide +kernel
theorem dL_attention_14 : decode cL_attention 14 = .ok (.ireturn, 1) := by decide +kernel
theorem dL_attention_15 : decode cL_attention 15 = .ok (.iconst 0, 1) := by decide +kernel
theorem dL_attention_16 : decode cL_attention 16 = .ok (.ireturn, 1) := by decide +kernel
theorem dL_costs_0 : decode cL_costs 0 = .ok (.aload_n 2, 1) := by decide +kernel
theorem dL_costs_1 : decode cL_costs 1 = .ok (.iconst 0, 1) := by decide +kernel
theorem dL_costs_2 : decode cL_costs 2 = .ok (.aload_n 0, 1) := by decide +kernel
theorem dL_costs_3 : decode cL_costs 3 = .ok (.iload_n 1, 1) := by decide +kernel
theorem dL_costs_4 : decode cL_costs 4 = .ok (.invokevirtual 74, 3) := by decide +kernel
theorem dL_costs_7 : decode cL_costs 7 = .ok (.i2l, 1) := by decide +kernel
theorem dL_costs_8 : decode cL_costs 8 = .ok (.lastore, 1) := by decide +kernel
theorem dL_costs_9 : decode cL_costs 9 = .ok (.goto 6, 3) := by decide +kernel
theorem dL_costs_12 : decode cL_costs 12 = .ok (.astore_n 3, 1) := by decide +kernel
theorem dL_costs_13 : decode cL_costs 13 = .ok (.iconst 1, 1) := by decide +kernel
theorem dL_costs_14 : decode cL_costs 14 = .ok (.ireturn, 1) := by decide +kernel
theorem dL_costs_15 : decode cL_costs 15 = .ok (.iconst 0, 1) := by decide +kernel
theorem dL_costs_16 : decode cL_costs 16 = .ok (.ireturn, 1) := by decide +kernel
theorem dL_answer_0 : decode cL_answer 0 = .ok (.aload_n 2, 1) := by decide +kernel
theorem dL_answer_1 : decode cL_answer 1 = .ok (.iconst 0, 1) := by decide +kernel
theorem dL_answer_2 : decode cL_answer 2 = .ok (.aload_n 0, 1) := by decide +kernel
theorem dL_answer_3 : decode cL_answer 3 = .ok (.iload_n 1, 1) := by decide +kernel
theorem dL_answer_4 : decode cL_answer 4 = .ok (.invokevirtual 77, 3) := by decide +kernel
theorem dL_answer_7 : decode cL_answer 7 = .ok (.i2l, 1) := by decide +kernel
theorem dL_answer_8 : decode cL_answer 8 = .ok (.lastore, 1) := by decide +kernel
theorem dL_answer_9 : decode cL_answer 9 = .ok (.goto 6, 3) := by decide +kernel
theorem dL_answer_12 : decode cL_answer 12 = .ok (.astore_n 3, 1) := by decide +kernel
theorem dL_answer_13 : decode cL_answer 13 = .ok (.iconst 1, 1) := by decide +kernel
theorem dL_answer_14 : decode cL_answer 14 = .ok (.ireturn, 1) := by decide +kernel
theorem dL_answer_15 : decode cL_answer 15 = .ok (.iconst 0, 1) := by decide +kernel
theorem dL_answer_16 : decode cL_answer 16 = .ok (.ireturn, 1) := by decide +kernel
theorem dL_costToCome_0 : decode cL_costToCome 0 = .ok (.aload_n 2, 1) := by decide +kernel
theorem dL_costToCome_1 : decode cL_costToCome 1 = .ok (.iconst 0, 1) := by decide +kernel
theorem dL_costToCome_2 : decode cL_costToCome 2 = .ok (.aload_n 0, 1) := by decide +kernel
theorem dL_costToCome_3 : decode cL_costToCome 3 = .ok (.iload_n 1, 1) := by decide +kernel
theorem dL_costToCome_4 : decode cL_costToCome 4 = .ok (.invokevirtual 80, 3) := by decide +kernel
theorem dL_costToCome_7 : decode cL_costToCome 7 = .ok (.i2l, 1) := by decide +kernel
theorem dL_costToCome_8 : decode cL_costToCome 8 = .ok (.lastore, 1) := by decide +kernel
theorem dL_costToCome_9 : decode cL_costToCome 9 = .ok (.goto 6, 3) := by decide +kernel
theorem dL_costToCome_12 : decode cL_costToCome 12 = .ok (.astore_n 3, 1) := by decide +kernel
theorem dL_costToCome_13 : decode cL_costToCome 13 = .ok (.iconst 1, 1) := by decide +kernel
theorem dL_costToCome_14 : decode cL_costToCome 14 = .ok (.ireturn, 1) := by decide +kernel
theorem dL_costToCome_15 : decode cL_costToCome 15 = .ok (.iconst 0, 1) := by decide +kernel
theorem dL_costToCome_16 : decode cL_costToCome 16 = .ok (.ireturn, 1) := by decide +kernel
theorem dL_wrong_0 : decode cL_wrong 0 = .ok (.aload_n 2, 1) := by decide +kernel
theorem dL_wrong_1 : decode cL_wrong 1 = .ok (.iconst 0, 1) := by decide +kernel
theorem dL_wrong_2 : decode cL_wrong 2 = .ok (.aload_n 0, 1) := by decide +kernel
theorem dL_wrong_3 : decode cL_wrong 3 = .ok (.iload_n 1, 1) := by decide +kernel
theorem dL_wrong_4 : decode cL_wrong 4 = .ok (.invokevirtual 83, 3) := by decide +kernel
theorem dL_wrong_7 : decode cL_wrong 7 = .ok (.i2l, 1) := by decide +kernel
theorem dL_wrong_8 : decode cL_wrong 8 = .ok (.lastore, 1) := by decide +kernel
theorem dL_wrong_9 : decode cL_wrong 9 = .ok (.goto 6, 3) := by decide +kernel
theorem dL_wrong_12 : decode cL_wrong 12 = .ok (.astore_n 3, 1) := by decide +kernel
theorem dL_wrong_13 : decode cL_wrong 13 = .ok (.iconst 1, 1) := by decide +kernel
theorem dL_wrong_14 : decode cL_wrong 14 = .ok (.ireturn, 1) := by decide +kernel
theorem dL_wrong_15 : decode cL_wrong 15 = .ok (.iconst 0, 1) := by decide +kernel
theorem dL_wrong_16 : decode cL_wrong 16 = .ok (.ireturn, 1) := by decide +kernel
theorem dL_append_0 : decode cL_append 0 = .ok (.aload_n 2, 1) := by decide +kernel
theorem dL_append_1 : decode cL_append 1 = .ok (.iconst 0, 1) := by decide +kernel
theorem dL_append_2 : decode cL_append 2 = .ok (.aload_n 0, 1) := by decide +kernel
theorem dL_append_3 : decode cL_append 3 = .ok (.iload_n 1, 1) := by decide +kernel
theorem dL_append_4 : decode cL_append 4 = .ok (.invokevirtual 86, 3) := by decide +kernel
theorem dL_append_7 : decode cL_append 7 = .ok (.i2l, 1) := by decide +kernel
theorem dL_append_8 : decode cL_append 8 = .ok (.lastore, 1) := by decide +kernel
theorem dL_append_9 : decode cL_append 9 = .ok (.goto 9, 3) := by decide +kernel
theorem dL_append_12 : decode cL_append 12 = .ok (.astore_n 3, 1) := by decide +kernel
theorem dL_append_13 : decode cL_append 13 = .ok (.iconst 1, 1) := by decide +kernel
theorem dL_append_14 : decode cL_append 14 = .ok (.ireturn, 1) := by decide +kernel
theorem dL_append_15 : decode cL_append 15 = .ok (.astore_n 3, 1) := by decide +kernel
theorem dL_append_16 : decode cL_append 16 = .ok (.iconst 2, 1) := by decide +kernel
theorem dL_append_17 : decode cL_append 17 = .ok (.ireturn, 1) := by decide +kernel
theorem dL_append_18 : decode cL_append 18 = .ok (.iconst 0, 1) := by decide +kernel
theorem dL_append_19 : decode cL_append 19 = .ok (.ireturn, 1) := by decide +kernel
theorem dL_run_0 : decode cL_run 0 = .ok (.aload_n 1, 1) := by decide +kernel
theorem dL_run_1 : decode cL_run 1 = .ok (.iconst 0, 1) := by decide +kernel
theorem dL_run_2 : decode cL_run 2 = .ok (.aload_n 0, 1) := by decide +kernel
theorem dL_run_3 : decode cL_run 3 = .ok (.invokevirtual 89, 3) := by decide +kernel
theorem dL_run_6 : decode cL_run 6 = .ok (.i2l, 1) := by decide +kernel
theorem dL_run_7 : decode cL_run 7 = .ok (.lastore, 1) := by decide +kernel
theorem dL_run_8 : decode cL_run 8 = .ok (.goto 6, 3) := by decide +kernel
theorem dL_run_11 : decode cL_run 11 = .ok (.astore_n 2, 1) := by decide +kernel
theorem dL_run_12 : decode cL_run 12 = .ok (.iconst 1, 1) := by decide +kernel
theorem dL_run_13 : decode cL_run 13 = .ok (.ireturn, 1) := by decide +kernel
theorem dL_run_14 : decode cL_run 14 = .ok (.iconst 0, 1) := by decide +kernel
theorem dL_run_15 : decode cL_run 15 = .ok (.ireturn, 1) := by decide +kernel
theorem dL_undo_0 : decode cL_undo 0 = .ok (.aload_n 1, 1) := by decide +kernel
theorem dL_undo_1 : decode cL_undo 1 = .ok (.iconst 0, 1) := by decide +kernel
theorem dL_undo_2 : decode cL_undo 2 = .ok (.aload_n 0, 1) := by decide +kernel
theorem dL_undo_3 : decode cL_undo 3 = .ok (.invokevirtual 92, 3) := by decide +kernel
theorem dL_undo_6 : decode cL_undo 6 = .ok (.i2l, 1) := by decide +kernel
theorem dL_undo_7 : decode cL_undo 7 = .ok (.lastore, 1) := by decide +kernel
theorem dL_undo_8 : decode cL_undo 8 = .ok (.goto 6, 3) := by decide +kernel
theorem dL_undo_11 : decode cL_undo 11 = .ok (.astore_n 2, 1) := by decide +kernel
theorem dL_undo_12 : decode cL_undo 12 = .ok (.iconst 1, 1) := by decide +kernel
theorem dL_undo_13 : decode cL_undo 13 = .ok (.ireturn, 1) := by decide +kernel
theorem dL_undo_14 : decode cL_undo 14 = .ok (.iconst 0, 1) := by decide +kernel
theorem dL_undo_15 : decode cL_undo 15 = .ok (.ireturn, 1) := by decide +kernel
theorem dL_law_0 : decode cL_law 0 = .ok (.new 8, 3) := by decide +kernel
theorem dL_law_3 : decode cL_law 3 = .ok (.dup, 1) := by decide +kernel
theorem dL_law_4 : decode cL_law 4 = .ok (.invokespecial 95, 3) := by decide +kernel
theorem dL_law_7 : decode cL_law 7 = .ok (.astore_n 1, 1) := by decide +kernel
theorem dL_law_8 : decode cL_law 8 = .ok (.new 96, 3) := by decide +kernel
theorem dL_law_11 : decode cL_law 11 = .ok (.dup, 1) := by decide +kernel
theorem dL_law_12 : decode cL_law 12 = .ok (.invokespecial 98, 3) := by decide +kernel
theorem dL_law_15 : decode cL_law 15 = .ok (.astore_n 2, 1) := by decide +kernel
theorem dL_law_16 : decode cL_law 16 = .ok (.iconst 1, 1) := by decide +kernel
theorem dL_law_17 : decode cL_law 17 = .ok (.newarray .long, 2) := by decide +kernel
theorem dL_law_19 : decode cL_law 19 = .ok (.astore_n 3, 1) := by decide +kernel
theorem dL_law_20 : decode cL_law 20 = .ok (.iconst 0, 1) := by decide +kernel
theorem dL_law_21 : decode cL_law 21 = .ok (.istore 4, 2) := by decide +kernel
theorem dL_law_23 : decode cL_law 23 = .ok (.iload 4, 2) := by decide +kernel
theorem dL_law_25 : decode cL_law 25 = .ok (.aload_n 0, 1) := by decide +kernel
theorem dL_law_26 : decode cL_law 26 = .ok (.arraylength, 1) := by decide +kernel
theorem dL_law_27 : decode cL_law 27 = .ok (.iconst 3, 1) := by decide +kernel
theorem dL_law_28 : decode cL_law 28 = .ok (.isub, 1) := by decide +kernel
theorem dL_law_29 : decode cL_law 29 = .ok (.if_icmp .gt 1747, 3) := by decide +kernel
theorem dL_law_32 : decode cL_law 32 = .ok (.aload_n 0, 1) := by decide +kernel
theorem dL_law_33 : decode cL_law 33 = .ok (.iload 4, 2) := by decide +kernel
theorem dL_law_35 : decode cL_law 35 = .ok (.iaload, 1) := by decide +kernel
theorem dL_law_36 : decode cL_law 36 = .ok (.bipush 63, 2) := by decide +kernel
theorem dL_law_38 : decode cL_law 38 = .ok (.iand, 1) := by decide +kernel
theorem dL_law_39 : decode cL_law 39 = .ok (.tableswitch 1731 0 35 #[157, 213, 269, 313, 369, 425, 438, 451, 464, 520, 533, 546, 602, 658, 726, 782, 795, 851, 907, 963, 1019, 1075, 1150, 1213, 1269, 1325, 1381, 1437, 1493, 1534, 1590, 1603, 1616, 1660, 1704, 1717], 157) := by decide +kernel
theorem dL_law_196 : decode cL_law 196 = .ok (.aload_n 1, 1) := by decide +kernel
theorem dL_law_197 : decode cL_law 197 = .ok (.aload_n 0, 1) := by decide +kernel
theorem dL_law_198 : decode cL_law 198 = .ok (.iload 4, 2) := by decide +kernel
theorem dL_law_200 : decode cL_law 200 = .ok (.iconst 1, 1) := by decide +kernel
theorem dL_law_201 : decode cL_law 201 = .ok (.iadd, 1) := by decide +kernel
theorem dL_law_202 : decode cL_law 202 = .ok (.iaload, 1) := by decide +kernel
theorem dL_law_203 : decode cL_law 203 = .ok (.aload_n 3, 1) := by decide +kernel
theorem dL_law_204 : decode cL_law 204 = .ok (.invokestatic 99, 3) := by decide +kernel
theorem dL_law_207 : decode cL_law 207 = .ok (.istore 5, 2) := by decide +kernel
theorem dL_law_209 : decode cL_law 209 = .ok (.aload_n 2, 1) := by decide +kernel
theorem dL_law_210 : decode cL_law 210 = .ok (.aload_n 0, 1) := by decide +kernel
theorem dL_law_211 : decode cL_law 211 = .ok (.iload 4, 2) := by decide +kernel
theorem dL_law_213 : decode cL_law 213 = .ok (.iconst 1, 1) := by decide +kernel
theorem dL_law_214 : decode cL_law 214 = .ok (.iadd, 1) := by decide +kernel
theorem dL_law_215 : decode cL_law 215 = .ok (.iaload, 1) := by decide +kernel
theorem dL_law_216 : decode cL_law 216 = .ok (.invokevirtual 104, 3) := by decide +kernel
theorem dL_law_219 : decode cL_law 219 = .ok (.istore 6, 2) := by decide +kernel
theorem dL_law_221 : decode cL_law 221 = .ok (.aload_n 2, 1) := by decide +kernel
theorem dL_law_222 : decode cL_law 222 = .ok (.invokevirtual 105, 3) := by decide +kernel
theorem dL_law_225 : decode cL_law 225 = .ok (.iload 5, 2) := by decide +kernel
theorem dL_law_227 : decode cL_law 227 = .ok (.if_icmp .eq 5, 3) := by decide +kernel
theorem dL_law_230 : decode cL_law 230 = .ok (.iconst 0, 1) := by decide +kernel
theorem dL_law_231 : decode cL_law 231 = .ok (.ireturn, 1) := by decide +kernel
theorem dL_law_232 : decode cL_law 232 = .ok (.iload 5, 2) := by decide +kernel
theorem dL_law_234 : decode cL_law 234 = .ok (.ifCond .ne 15, 3) := by decide +kernel
theorem dL_law_237 : decode cL_law 237 = .ok (.aload_n 3, 1) := by decide +kernel
theorem dL_law_238 : decode cL_law 238 = .ok (.iconst 0, 1) := by decide +kernel
theorem dL_law_239 : decode cL_law 239 = .ok (.laload, 1) := by decide +kernel
theorem dL_law_240 : decode cL_law 240 = .ok (.iload 6, 2) := by decide +kernel
theorem dL_law_242 : decode cL_law 242 = .ok (.i2l, 1) := by decide +kernel
theorem dL_law_243 : decode cL_law 243 = .ok (.lcmp, 1) := by decide +kernel
theorem dL_law_244 : decode cL_law 244 = .ok (.ifCond .eq 5, 3) := by decide +kernel
theorem dL_law_247 : decode cL_law 247 = .ok (.iconst 0, 1) := by decide +kernel
theorem dL_law_248 : decode cL_law 248 = .ok (.ireturn, 1) := by decide +kernel
theorem dL_law_249 : decode cL_law 249 = .ok (.goto 1521, 3) := by decide +kernel
theorem dL_law_252 : decode cL_law 252 = .ok (.aload_n 1, 1) := by decide +kernel
theorem dL_law_253 : decode cL_law 253 = .ok (.aload_n 0, 1) := by decide +kernel
theorem dL_law_254 : decode cL_law 254 = .ok (.iload 4, 2) := by decide +kernel
theorem dL_law_256 : decode cL_law 256 = .ok (.iconst 1, 1) := by decide +kernel
theorem dL_law_257 : decode cL_law 257 = .ok (.iadd, 1) := by decide +kernel
theorem dL_law_258 : decode cL_law 258 = .ok (.iaload, 1) := by decide +kernel
theorem dL_law_259 : decode cL_law 259 = .ok (.aload_n 3, 1) := by decide +kernel
theorem dL_law_260 : decode cL_law 260 = .ok (.invokestatic 108, 3) := by decide +kernel
theorem dL_law_263 : decode cL_law 263 = .ok (.istore 5, 2) := by decide +kernel
theorem dL_law_265 : decode cL_law 265 = .ok (.aload_n 2, 1) := by decide +kernel
theorem dL_law_266 : decode cL_law 266 = .ok (.aload_n 0, 1) := by decide +kernel
theorem dL_law_267 : decode cL_law 267 = .ok (.iload 4, 2) := by decide +kernel
theorem dL_law_269 : decode cL_law 269 = .ok (.iconst 1, 1) := by decide +kernel
theorem dL_law_270 : decode cL_law 270 = .ok (.iadd, 1) := by decide +kernel
theorem dL_law_271 : decode cL_law 271 = .ok (.iaload, 1) := by decide +kernel
theorem dL_law_272 : decode cL_law 272 = .ok (.invokevirtual 110, 3) := by decide +kernel
theorem dL_law_275 : decode cL_law 275 = .ok (.istore 6, 2) := by decide +kernel
theorem dL_law_277 : decode cL_law 277 = .ok (.aload_n 2, 1) := by decide +kernel
theorem dL_law_278 : decode cL_law 278 = .ok (.invokevirtual 105, 3) := by decide +kernel
theorem dL_law_281 : decode cL_law 281 = .ok (.iload 5, 2) := by decide +kernel
theorem dL_law_283 : decode cL_law 283 = .ok (.if_icmp .eq 5, 3) := by decide +kernel
theorem dL_law_286 : decode cL_law 286 = .ok (.iconst 0, 1) := by decide +kernel
theorem dL_law_287 : decode cL_law 287 = .ok (.ireturn, 1) := by decide +kernel
theorem dL_law_288 : decode cL_law 288 = .ok (.iload 5, 2) := by decide +kernel
theorem dL_law_290 : decode cL_law 290 = .ok (.ifCond .ne 15, 3) := by decide +kernel
theorem dL_law_293 : decode cL_law 293 = .ok (.aload_n 3, 1) := by decide +kernel
theorem dL_law_294 : decode cL_law 294 = .ok (.iconst 0, 1) := by decide +kernel
theorem dL_law_295 : decode cL_law 295 = .ok (.laload, 1) := by decide +kernel
theorem dL_law_296 : decode cL_law 296 = .ok (.iload 6, 2) := by decide +kernel
theorem dL_law_298 : decode cL_law 298 = .ok (.i2l, 1) := by decide +kernel
theorem dL_law_299 : decode cL_law 299 = .ok (.lcmp, 1) := by decide +kernel
theorem dL_law_300 : decode cL_law 300 = .ok (.ifCond .eq 5, 3) := by decide +kernel
theorem dL_law_303 : decode cL_law 303 = .ok (.iconst 0, 1) := by decide +kernel
theorem dL_law_304 : decode cL_law 304 = .ok (.ireturn, 1) := by decide +kernel
theorem dL_law_305 : decode cL_law 305 = .ok (.goto 1465, 3) := by decide +kernel
theorem dL_law_308 : decode cL_law 308 = .ok (.aload_n 1, 1) := by decide +kernel
theorem dL_law_309 : decode cL_law 309 = .ok (.aload_n 3, 1) := by decide +kernel
theorem dL_law_310 : decode cL_law 310 = .ok (.invokestatic 111, 3) := by decide +kernel
theorem dL_law_313 : decode cL_law 313 = .ok (.istore 5, 2) := by decide +kernel
theorem dL_law_315 : decode cL_law 315 = .ok (.aload_n 2, 1) := by decide +kernel
theorem dL_law_316 : decode cL_law 316 = .ok (.invokevirtual 114, 3) := by decide +kernel
theorem dL_law_319 : decode cL_law 319 = .ok (.istore 6, 2) := by decide +kernel
theorem dL_law_321 : decode cL_law 321 = .ok (.aload_n 2, 1) := by decide +kernel
theorem dL_law_322 : decode cL_law 322 = .ok (.invokevirtual 105, 3) := by decide +kernel
theorem dL_law_325 : decode cL_law 325 = .ok (.iload 5, 2) := by decide +kernel
theorem dL_law_327 : decode cL_law 327 = .ok (.if_icmp .eq 5, 3) := by decide +kernel
theorem dL_law_330 : decode cL_law 330 = .ok (.iconst 0, 1) := by decide +kernel
theorem dL_law_331 : decode cL_law 331 = .ok (.ireturn, 1) := by decide +kernel
theorem dL_law_332 : decode cL_law 332 = .ok (.iload 5, 2) := by decide +kernel
theorem dL_law_334 : decode cL_law 334 = .ok (.ifCond .ne 15, 3) := by decide +kernel
theorem dL_law_337 : decode cL_law 337 = .ok (.aload_n 3, 1) := by decide +kernel
theorem dL_law_338 : decode cL_law 338 = .ok (.iconst 0, 1) := by decide +kernel
theorem dL_law_339 : decode cL_law 339 = .ok (.laload, 1) := by decide +kernel
theorem dL_law_340 : decode cL_law 340 = .ok (.iload 6, 2) := by decide +kernel
theorem dL_law_342 : decode cL_law 342 = .ok (.i2l, 1) := by decide +kernel
theorem dL_law_343 : decode cL_law 343 = .ok (.lcmp, 1) := by decide +kernel
theorem dL_law_344 : decode cL_law 344 = .ok (.ifCond .eq 5, 3) := by decide +kernel
theorem dL_law_347 : decode cL_law 347 = .ok (.iconst 0, 1) := by decide +kernel
theorem dL_law_348 : decode cL_law 348 = .ok (.ireturn, 1) := by decide +kernel
theorem dL_law_349 : decode cL_law 349 = .ok (.goto 1421, 3) := by decide +kernel
theorem dL_law_352 : decode cL_law 352 = .ok (.aload_n 1, 1) := by decide +kernel
theorem dL_law_353 : decode cL_law 353 = .ok (.aload_n 0, 1) := by decide +kernel
theorem dL_law_354 : decode cL_law 354 = .ok (.iload 4, 2) := by decide +kernel
theorem dL_law_356 : decode cL_law 356 = .ok (.iconst 1, 1) := by decide +kernel
theorem dL_law_357 : decode cL_law 357 = .ok (.iadd, 1) := by decide +kernel
theorem dL_law_358 : decode cL_law 358 = .ok (.iaload, 1) := by decide +kernel
theorem dL_law_359 : decode cL_law 359 = .ok (.aload_n 3, 1) := by decide +kernel
theorem dL_law_360 : decode cL_law 360 = .ok (.invokestatic 115, 3) := by decide +kernel
theorem dL_law_363 : decode cL_law 363 = .ok (.istore 5, 2) := by decide +kernel
theorem dL_law_365 : decode cL_law 365 = .ok (.aload_n 2, 1) := by decide +kernel
theorem dL_law_366 : decode cL_law 366 = .ok (.aload_n 0, 1) := by decide +kernel
theorem dL_law_367 : decode cL_law 367 = .ok (.iload 4, 2) := by decide +kernel
theorem dL_law_369 : decode cL_law 369 = .ok (.iconst 1, 1) := by decide +kernel
theorem dL_law_370 : decode cL_law 370 = .ok (.iadd, 1) := by decide +kernel
theorem dL_law_371 : decode cL_law 371 = .ok (.iaload, 1) := by decide +kernel
theorem dL_law_372 : decode cL_law 372 = .ok (.invokevirtual 117, 3) := by decide +kernel
theorem dL_law_375 : decode cL_law 375 = .ok (.istore 6, 2) := by decide +kernel
theorem dL_law_377 : decode cL_law 377 = .ok (.aload_n 2, 1) := by decide +kernel
theorem dL_law_378 : decode cL_law 378 = .ok (.invokevirtual 105, 3) := by decide +kernel
theorem dL_law_381 : decode cL_law 381 = .ok (.iload 5, 2) := by decide +kernel
theorem dL_law_383 : decode cL_law 383 = .ok (.if_icmp .eq 5, 3) := by decide +kernel
theorem dL_law_386 : decode cL_law 386 = .ok (.iconst 0, 1) := by decide +kernel
theorem dL_law_387 : decode cL_law 387 = .ok (.ireturn, 1) := by decide +kernel
theorem dL_law_388 : decode cL_law 388 = .ok (.iload 5, 2) := by decide +kernel
theorem dL_law_390 : decode cL_law 390 = .ok (.ifCond .ne 15, 3) := by decide +kernel
theorem dL_law_393 : decode cL_law 393 = .ok (.aload_n 3, 1) := by decide +kernel
theorem dL_law_394 : decode cL_law 394 = .ok (.iconst 0, 1) := by decide +kernel
theorem dL_law_395 : decode cL_law 395 = .ok (.laload, 1) := by decide +kernel
theorem dL_law_396 : decode cL_law 396 = .ok (.iload 6, 2) := by decide +kernel
theorem dL_law_398 : decode cL_law 398 = .ok (.i2l, 1) := by decide +kernel
theorem dL_law_399 : decode cL_law 399 = .ok (.lcmp, 1) := by decide +kernel
theorem dL_law_400 : decode cL_law 400 = .ok (.ifCond .eq 5, 3) := by decide +kernel
theorem dL_law_403 : decode cL_law 403 = .ok (.iconst 0, 1) := by decide +kernel
theorem dL_law_404 : decode cL_law 404 = .ok (.ireturn, 1) := by decide +kernel
theorem dL_law_405 : decode cL_law 405 = .ok (.goto 1365, 3) := by decide +kernel
theorem dL_law_408 : decode cL_law 408 = .ok (.aload_n 1, 1) := by decide +kernel
theorem dL_law_409 : decode cL_law 409 = .ok (.aload_n 0, 1) := by decide +kernel
theorem dL_law_410 : decode cL_law 410 = .ok (.iload 4, 2) := by decide +kernel
theorem dL_law_412 : decode cL_law 412 = .ok (.iconst 1, 1) := by decide +kernel
theorem dL_law_413 : decode cL_law 413 = .ok (.iadd, 1) := by decide +kernel
theorem dL_law_414 : decode cL_law 414 = .ok (.iaload, 1) := by decide +kernel
theorem dL_law_415 : decode cL_law 415 = .ok (.aload_n 3, 1) := by decide +kernel
theorem dL_law_416 : decode cL_law 416 = .ok (.invokestatic 118, 3) := by decide +kernel
theorem dL_law_419 : decode cL_law 419 = .ok (.istore 5, 2) := by decide +kernel
theorem dL_law_421 : decode cL_law 421 = .ok (.aload_n 2, 1) := by decide +kernel
theorem dL_law_422 : decode cL_law 422 = .ok (.aload_n 0, 1) := by decide +kernel
theorem dL_law_423 : decode cL_law 423 = .ok (.iload 4, 2) := by decide +kernel
theorem dL_law_425 : decode cL_law 425 = .ok (.iconst 1, 1) := by decide +kernel
theorem dL_law_426 : decode cL_law 426 = .ok (.iadd, 1) := by decide +kernel
theorem dL_law_427 : decode cL_law 427 = .ok (.iaload, 1) := by decide +kernel
theorem dL_law_428 : decode cL_law 428 = .ok (.invokevirtual 120, 3) := by decide +kernel
theorem dL_law_431 : decode cL_law 431 = .ok (.istore 6, 2) := by decide +kernel
theorem dL_law_433 : decode cL_law 433 = .ok (.aload_n 2, 1) := by decide +kernel
theorem dL_law_434 : decode cL_law 434 = .ok (.invokevirtual 105, 3) := by decide +kernel
theorem dL_law_437 : decode cL_law 437 = .ok (.iload 5, 2) := by decide +kernel
theorem dL_law_439 : decode cL_law 439 = .ok (.if_icmp .eq 5, 3) := by decide +kernel
theorem dL_law_442 : decode cL_law 442 = .ok (.iconst 0, 1) := by decide +kernel
theorem dL_law_443 : decode cL_law 443 = .ok (.ireturn, 1) := by decide +kernel
theorem dL_law_444 : decode cL_law 444 = .ok (.iload 5, 2) := by decide +kernel
theorem dL_law_446 : decode cL_law 446 = .ok (.ifCond .ne 15, 3) := by decide +kernel
theorem dL_law_449 : decode cL_law 449 = .ok (.aload_n 3, 1) := by decide +kernel
theorem dL_law_450 : decode cL_law 450 = .ok (.iconst 0, 1) := by decide +kernel
theorem dL_law_451 : decode cL_law 451 = .ok (.laload, 1) := by decide +kernel
theorem dL_law_452 : decode cL_law 452 = .ok (.iload 6, 2) := by decide +kernel
theorem dL_law_454 : decode cL_law 454 = .ok (.i2l, 1) := by decide +kernel
theorem dL_law_455 : decode cL_law 455 = .ok (.lcmp, 1) := by decide +kernel
theorem dL_law_456 : decode cL_law 456 = .ok (.ifCond .eq 5, 3) := by decide +kernel
theorem dL_law_459 : decode cL_law 459 = .ok (.iconst 0, 1) := by decide +kernel
theorem dL_law_460 : decode cL_law 460 = .ok (.ireturn, 1) := by decide +kernel
theorem dL_law_461 : decode cL_law 461 = .ok (.goto 1309, 3) := by decide +kernel
theorem dL_law_464 : decode cL_law 464 = .ok (.aload_n 1, 1) := by decide +kernel
theorem dL_law_465 : decode cL_law 465 = .ok (.invokevirtual 121, 3) := by decide +kernel
theorem dL_law_468 : decode cL_law 468 = .ok (.aload_n 2, 1) := by decide +kernel
theorem dL_law_469 : decode cL_law 469 = .ok (.invokevirtual 124, 3) := by decide +kernel
theorem dL_law_472 : decode cL_law 472 = .ok (.if_icmp .eq 1298, 3) := by decide +kernel
theorem dL_law_475 : decode cL_law 475 = .ok (.iconst 0, 1) := by decide +kernel
theorem dL_law_476 : decode cL_law 476 = .ok (.ireturn, 1) := by decide +kernel
theorem dL_law_477 : decode cL_law 477 = .ok (.aload_n 1, 1) := by decide +kernel
theorem dL_law_478 : decode cL_law 478 = .ok (.invokevirtual 125, 3) := by decide +kernel
theorem dL_law_481 : decode cL_law 481 = .ok (.aload_n 2, 1) := by decide +kernel
theorem dL_law_482 : decode cL_law 482 = .ok (.invokevirtual 128, 3) := by decide +kernel
theorem dL_law_485 : decode cL_law 485 = .ok (.if_icmp .eq 1285, 3) := by decide +kernel
theorem dL_law_488 : decode cL_law 488 = .ok (.iconst 0, 1) := by decide +kernel
theorem dL_law_489 : decode cL_law 489 = .ok (.ireturn, 1) := by decide +kernel
theorem dL_law_490 : decode cL_law 490 = .ok (.aload_n 1, 1) := by decide +kernel
theorem dL_law_491 : decode cL_law 491 = .ok (.invokevirtual 129, 3) := by decide +kernel
theorem dL_law_494 : decode cL_law 494 = .ok (.aload_n 2, 1) := by decide +kernel
theorem dL_law_495 : decode cL_law 495 = .ok (.invokevirtual 132, 3) := by decide +kernel
theorem dL_law_498 : decode cL_law 498 = .ok (.if_icmp .eq 1272, 3) := by decide +kernel
theorem dL_law_501 : decode cL_law 501 = .ok (.iconst 0, 1) := by decide +kernel
theorem dL_law_502 : decode cL_law 502 = .ok (.ireturn, 1) := by decide +kernel
theorem dL_law_503 : decode cL_law 503 = .ok (.aload_n 1, 1) := by decide +kernel
theorem dL_law_504 : decode cL_law 504 = .ok (.aload_n 0, 1) := by decide +kernel
theorem dL_law_505 : decode cL_law 505 = .ok (.iload 4, 2) := by decide +kernel
theorem dL_law_507 : decode cL_law 507 = .ok (.iconst 1, 1) := by decide +kernel
theorem dL_law_508 : decode cL_law 508 = .ok (.iadd, 1) := by decide +kernel
theorem dL_law_509 : decode cL_law 509 = .ok (.iaload, 1) := by decide +kernel
theorem dL_law_510 : decode cL_law 510 = .ok (.aload_n 3, 1) := by decide +kernel
theorem dL_law_511 : decode cL_law 511 = .ok (.invokestatic 133, 3) := by decide +kernel
theorem dL_law_514 : decode cL_law 514 = .ok (.istore 5, 2) := by decide +kernel
theorem dL_law_516 : decode cL_law 516 = .ok (.aload_n 2, 1) := by decide +kernel
theorem dL_law_517 : decode cL_law 517 = .ok (.aload_n 0, 1) := by decide +kernel
theorem dL_law_518 : decode cL_law 518 = .ok (.iload 4, 2) := by decide +kernel
theorem dL_law_520 : decode cL_law 520 = .ok (.iconst 1, 1) := by decide +kernel
theorem dL_law_521 : decode cL_law 521 = .ok (.iadd, 1) := by decide +kernel
theorem dL_law_522 : decode cL_law 522 = .ok (.iaload, 1) := by decide +kernel
theorem dL_law_523 : decode cL_law 523 = .ok (.invokevirtual 135, 3) := by decide +kernel
theorem dL_law_526 : decode cL_law 526 = .ok (.istore 6, 2) := by decide +kernel
theorem dL_law_528 : decode cL_law 528 = .ok (.aload_n 2, 1) := by decide +kernel
theorem dL_law_529 : decode cL_law 529 = .ok (.invokevirtual 105, 3) := by decide +kernel
theorem dL_law_532 : decode cL_law 532 = .ok (.iload 5, 2) := by decide +kernel
theorem dL_law_534 : decode cL_law 534 = .ok (.if_icmp .eq 5, 3) := by decide +kernel
theorem dL_law_537 : decode cL_law 537 = .ok (.iconst 0, 1) := by decide +kernel
theorem dL_law_538 : decode cL_law 538 = .ok (.ireturn, 1) := by decide +kernel
theorem dL_law_539 : decode cL_law 539 = .ok (.iload 5, 2) := by decide +kernel
theorem dL_law_541 : decode cL_law 541 = .ok (.ifCond .ne 15, 3) := by decide +kernel
theorem dL_law_544 : decode cL_law 544 = .ok (.aload_n 3, 1) := by decide +kernel
theorem dL_law_545 : decode cL_law 545 = .ok (.iconst 0, 1) := by decide +kernel
theorem dL_law_546 : decode cL_law 546 = .ok (.laload, 1) := by decide +kernel
theorem dL_law_547 : decode cL_law 547 = .ok (.iload 6, 2) := by decide +kernel
theorem dL_law_549 : decode cL_law 549 = .ok (.i2l, 1) := by decide +kernel
theorem dL_law_550 : decode cL_law 550 = .ok (.lcmp, 1) := by decide +kernel
theorem dL_law_551 : decode cL_law 551 = .ok (.ifCond .eq 5, 3) := by decide +kernel
theorem dL_law_554 : decode cL_law 554 = .ok (.iconst 0, 1) := by decide +kernel
theorem dL_law_555 : decode cL_law 555 = .ok (.ireturn, 1) := by decide +kernel
theorem dL_law_556 : decode cL_law 556 = .ok (.goto 1214, 3) := by decide +kernel
theorem dL_law_559 : decode cL_law 559 = .ok (.aload_n 1, 1) := by decide +kernel
theorem dL_law_560 : decode cL_law 560 = .ok (.invokevirtual 136, 3) := by decide +kernel
theorem dL_law_563 : decode cL_law 563 = .ok (.aload_n 2, 1) := by decide +kernel
theorem dL_law_564 : decode cL_law 564 = .ok (.invokevirtual 139, 3) := by decide +kernel
theorem dL_law_567 : decode cL_law 567 = .ok (.if_icmp .eq 1203, 3) := by decide +kernel
theorem dL_law_570 : decode cL_law 570 = .ok (.iconst 0, 1) := by decide +kernel
theorem dL_law_571 : decode cL_law 571 = .ok (.ireturn, 1) := by decide +kernel
theorem dL_law_572 : decode cL_law 572 = .ok (.aload_n 1, 1) := by decide +kernel
theorem dL_law_573 : decode cL_law 573 = .ok (.invokevirtual 140, 3) := by decide +kernel
theorem dL_law_576 : decode cL_law 576 = .ok (.aload_n 2, 1) := by decide +kernel
theorem dL_law_577 : decode cL_law 577 = .ok (.invokevirtual 143, 3) := by decide +kernel
theorem dL_law_580 : decode cL_law 580 = .ok (.if_icmp .eq 1190, 3) := by decide +kernel
theorem dL_law_583 : decode cL_law 583 = .ok (.iconst 0, 1) := by decide +kernel
theorem dL_law_584 : decode cL_law 584 = .ok (.ireturn, 1) := by decide +kernel
theorem dL_law_585 : decode cL_law 585 = .ok (.aload_n 1, 1) := by decide +kernel
theorem dL_law_586 : decode cL_law 586 = .ok (.aload_n 0, 1) := by decide +kernel
theorem dL_law_587 : decode cL_law 587 = .ok (.iload 4, 2) := by decide +kernel
theorem dL_law_589 : decode cL_law 589 = .ok (.iconst 1, 1) := by decide +kernel
theorem dL_law_590 : decode cL_law 590 = .ok (.iadd, 1) := by decide +kernel
theorem dL_law_591 : decode cL_law 591 = .ok (.iaload, 1) := by decide +kernel
theorem dL_law_592 : decode cL_law 592 = .ok (.aload_n 3, 1) := by decide +kernel
theorem dL_law_593 : decode cL_law 593 = .ok (.invokestatic 144, 3) := by decide +kernel
theorem dL_law_596 : decode cL_law 596 = .ok (.istore 5, 2) := by decide +kernel
theorem dL_law_598 : decode cL_law 598 = .ok (.aload_n 2, 1) := by decide +kernel
theorem dL_law_599 : decode cL_law 599 = .ok (.aload_n 0, 1) := by decide +kernel
theorem dL_law_600 : decode cL_law 600 = .ok (.iload 4, 2) := by decide +kernel
theorem dL_law_602 : decode cL_law 602 = .ok (.iconst 1, 1) := by decide +kernel
theorem dL_law_603 : decode cL_law 603 = .ok (.iadd, 1) := by decide +kernel
theorem dL_law_604 : decode cL_law 604 = .ok (.iaload, 1) := by decide +kernel
theorem dL_law_605 : decode cL_law 605 = .ok (.invokevirtual 146, 3) := by decide +kernel
theorem dL_law_608 : decode cL_law 608 = .ok (.istore 6, 2) := by decide +kernel
theorem dL_law_610 : decode cL_law 610 = .ok (.aload_n 2, 1) := by decide +kernel
theorem dL_law_611 : decode cL_law 611 = .ok (.invokevirtual 105, 3) := by decide +kernel
theorem dL_law_614 : decode cL_law 614 = .ok (.iload 5, 2) := by decide +kernel
theorem dL_law_616 : decode cL_law 616 = .ok (.if_icmp .eq 5, 3) := by decide +kernel
theorem dL_law_619 : decode cL_law 619 = .ok (.iconst 0, 1) := by decide +kernel
theorem dL_law_620 : decode cL_law 620 = .ok (.ireturn, 1) := by decide +kernel
theorem dL_law_621 : decode cL_law 621 = .ok (.iload 5, 2) := by decide +kernel
theorem dL_law_623 : decode cL_law 623 = .ok (.ifCond .ne 15, 3) := by decide +kernel
theorem dL_law_626 : decode cL_law 626 = .ok (.aload_n 3, 1) := by decide +kernel
theorem dL_law_627 : decode cL_law 627 = .ok (.iconst 0, 1) := by decide +kernel
theorem dL_law_628 : decode cL_law 628 = .ok (.laload, 1) := by decide +kernel
theorem dL_law_629 : decode cL_law 629 = .ok (.iload 6, 2) := by decide +kernel
theorem dL_law_631 : decode cL_law 631 = .ok (.i2l, 1) := by decide +kernel
theorem dL_law_632 : decode cL_law 632 = .ok (.lcmp, 1) := by decide +kernel
theorem dL_law_633 : decode cL_law 633 = .ok (.ifCond .eq 5, 3) := by decide +kernel
theorem dL_law_636 : decode cL_law 636 = .ok (.iconst 0, 1) := by decide +kernel
theorem dL_law_637 : decode cL_law 637 = .ok (.ireturn, 1) := by decide +kernel
theorem dL_law_638 : decode cL_law 638 = .ok (.goto 1132, 3) := by decide +kernel
theorem dL_law_641 : decode cL_law 641 = .ok (.aload_n 1, 1) := by decide +kernel
theorem dL_law_642 : decode cL_law 642 = .ok (.aload_n 0, 1) := by decide +kernel
theorem dL_law_643 : decode cL_law 643 = .ok (.iload 4, 2) := by decide +kernel
theorem dL_law_645 : decode cL_law 645 = .ok (.iconst 1, 1) := by decide +kernel
theorem dL_law_646 : decode cL_law 646 = .ok (.iadd, 1) := by decide +kernel
theorem dL_law_647 : decode cL_law 647 = .ok (.iaload, 1) := by decide +kernel
theorem dL_law_648 : decode cL_law 648 = .ok (.aload_n 3, 1) := by decide +kernel
theorem dL_law_649 : decode cL_law 649 = .ok (.invokestatic 147, 3) := by decide +kernel
theorem dL_law_652 : decode cL_law 652 = .ok (.istore 5, 2) := by decide +kernel
theorem dL_law_654 : decode cL_law 654 = .ok (.aload_n 2, 1) := by decide +kernel
theorem dL_law_655 : decode cL_law 655 = .ok (.aload_n 0, 1) := by decide +kernel
theorem dL_law_656 : decode cL_law 656 = .ok (.iload 4, 2) := by decide +kernel
theorem dL_law_658 : decode cL_law 658 = .ok (.iconst 1, 1) := by decide +kernel
theorem dL_law_659 : decode cL_law 659 = .ok (.iadd, 1) := by decide +kernel
theorem dL_law_660 : decode cL_law 660 = .ok (.iaload, 1) := by decide +kernel
theorem dL_law_661 : decode cL_law 661 = .ok (.invokevirtual 149, 3) := by decide +kernel
theorem dL_law_664 : decode cL_law 664 = .ok (.istore 6, 2) := by decide +kernel
theorem dL_law_666 : decode cL_law 666 = .ok (.aload_n 2, 1) := by decide +kernel
theorem dL_law_667 : decode cL_law 667 = .ok (.invokevirtual 105, 3) := by decide +kernel
theorem dL_law_670 : decode cL_law 670 = .ok (.iload 5, 2) := by decide +kernel
theorem dL_law_672 : decode cL_law 672 = .ok (.if_icmp .eq 5, 3) := by decide +kernel
theorem dL_law_675 : decode cL_law 675 = .ok (.iconst 0, 1) := by decide +kernel
theorem dL_law_676 : decode cL_law 676 = .ok (.ireturn, 1) := by decide +kernel
theorem dL_law_677 : decode cL_law 677 = .ok (.iload 5, 2) := by decide +kernel
theorem dL_law_679 : decode cL_law 679 = .ok (.ifCond .ne 15, 3) := by decide +kernel
theorem dL_law_682 : decode cL_law 682 = .ok (.aload_n 3, 1) := by decide +kernel
theorem dL_law_683 : decode cL_law 683 = .ok (.iconst 0, 1) := by decide +kernel
theorem dL_law_684 : decode cL_law 684 = .ok (.laload, 1) := by decide +kernel
theorem dL_law_685 : decode cL_law 685 = .ok (.iload 6, 2) := by decide +kernel
theorem dL_law_687 : decode cL_law 687 = .ok (.i2l, 1) := by decide +kernel
theorem dL_law_688 : decode cL_law 688 = .ok (.lcmp, 1) := by decide +kernel
theorem dL_law_689 : decode cL_law 689 = .ok (.ifCond .eq 5, 3) := by decide +kernel
theorem dL_law_692 : decode cL_law 692 = .ok (.iconst 0, 1) := by decide +kernel
theorem dL_law_693 : decode cL_law 693 = .ok (.ireturn, 1) := by decide +kernel
theorem dL_law_694 : decode cL_law 694 = .ok (.goto 1076, 3) := by decide +kernel
theorem dL_law_697 : decode cL_law 697 = .ok (.aload_n 1, 1) := by decide +kernel
theorem dL_law_698 : decode cL_law 698 = .ok (.aload_n 0, 1) := by decide +kernel
theorem dL_law_699 : decode cL_law 699 = .ok (.iload 4, 2) := by decide +kernel
theorem dL_law_701 : decode cL_law 701 = .ok (.iconst 1, 1) := by decide +kernel
theorem dL_law_702 : decode cL_law 702 = .ok (.iadd, 1) := by decide +kernel
theorem dL_law_703 : decode cL_law 703 = .ok (.iaload, 1) := by decide +kernel
theorem dL_law_704 : decode cL_law 704 = .ok (.aload_n 0, 1) := by decide +kernel
theorem dL_law_705 : decode cL_law 705 = .ok (.iload 4, 2) := by decide +kernel
theorem dL_law_707 : decode cL_law 707 = .ok (.iconst 2, 1) := by decide +kernel
theorem dL_law_708 : decode cL_law 708 = .ok (.iadd, 1) := by decide +kernel
theorem dL_law_709 : decode cL_law 709 = .ok (.iaload, 1) := by decide +kernel
theorem dL_law_710 : decode cL_law 710 = .ok (.aload_n 3, 1) := by decide +kernel
theorem dL_law_711 : decode cL_law 711 = .ok (.invokestatic 150, 3) := by decide +kernel
theorem dL_law_714 : decode cL_law 714 = .ok (.istore 5, 2) := by decide +kernel
theorem dL_law_716 : decode cL_law 716 = .ok (.aload_n 2, 1) := by decide +kernel
theorem dL_law_717 : decode cL_law 717 = .ok (.aload_n 0, 1) := by decide +kernel
theorem dL_law_718 : decode cL_law 718 = .ok (.iload 4, 2) := by decide +kernel
theorem dL_law_720 : decode cL_law 720 = .ok (.iconst 1, 1) := by decide +kernel
theorem dL_law_721 : decode cL_law 721 = .ok (.iadd, 1) := by decide +kernel
theorem dL_law_722 : decode cL_law 722 = .ok (.iaload, 1) := by decide +kernel
theorem dL_law_723 : decode cL_law 723 = .ok (.aload_n 0, 1) := by decide +kernel
theorem dL_law_724 : decode cL_law 724 = .ok (.iload 4, 2) := by decide +kernel
theorem dL_law_726 : decode cL_law 726 = .ok (.iconst 2, 1) := by decide +kernel
theorem dL_law_727 : decode cL_law 727 = .ok (.iadd, 1) := by decide +kernel
theorem dL_law_728 : decode cL_law 728 = .ok (.iaload, 1) := by decide +kernel
theorem dL_law_729 : decode cL_law 729 = .ok (.invokevirtual 153, 3) := by decide +kernel
theorem dL_law_732 : decode cL_law 732 = .ok (.istore 6, 2) := by decide +kernel
theorem dL_law_734 : decode cL_law 734 = .ok (.aload_n 2, 1) := by decide +kernel
theorem dL_law_735 : decode cL_law 735 = .ok (.invokevirtual 105, 3) := by decide +kernel
theorem dL_law_738 : decode cL_law 738 = .ok (.iload 5, 2) := by decide +kernel
theorem dL_law_740 : decode cL_law 740 = .ok (.if_icmp .eq 5, 3) := by decide +kernel
theorem dL_law_743 : decode cL_law 743 = .ok (.iconst 0, 1) := by decide +kernel
theorem dL_law_744 : decode cL_law 744 = .ok (.ireturn, 1) := by decide +kernel
theorem dL_law_745 : decode cL_law 745 = .ok (.iload 5, 2) := by decide +kernel
theorem dL_law_747 : decode cL_law 747 = .ok (.ifCond .ne 15, 3) := by decide +kernel
theorem dL_law_750 : decode cL_law 750 = .ok (.aload_n 3, 1) := by decide +kernel
theorem dL_law_751 : decode cL_law 751 = .ok (.iconst 0, 1) := by decide +kernel
theorem dL_law_752 : decode cL_law 752 = .ok (.laload, 1) := by decide +kernel
theorem dL_law_753 : decode cL_law 753 = .ok (.iload 6, 2) := by decide +kernel
theorem dL_law_755 : decode cL_law 755 = .ok (.i2l, 1) := by decide +kernel
theorem dL_law_756 : decode cL_law 756 = .ok (.lcmp, 1) := by decide +kernel
theorem dL_law_757 : decode cL_law 757 = .ok (.ifCond .eq 5, 3) := by decide +kernel
theorem dL_law_760 : decode cL_law 760 = .ok (.iconst 0, 1) := by decide +kernel
theorem dL_law_761 : decode cL_law 761 = .ok (.ireturn, 1) := by decide +kernel
theorem dL_law_762 : decode cL_law 762 = .ok (.goto 1008, 3) := by decide +kernel
theorem dL_law_765 : decode cL_law 765 = .ok (.aload_n 1, 1) := by decide +kernel
theorem dL_law_766 : decode cL_law 766 = .ok (.aload_n 0, 1) := by decide +kernel
theorem dL_law_767 : decode cL_law 767 = .ok (.iload 4, 2) := by decide +kernel
theorem dL_law_769 : decode cL_law 769 = .ok (.iconst 1, 1) := by decide +kernel
theorem dL_law_770 : decode cL_law 770 = .ok (.iadd, 1) := by decide +kernel
theorem dL_law_771 : decode cL_law 771 = .ok (.iaload, 1) := by decide +kernel
theorem dL_law_772 : decode cL_law 772 = .ok (.aload_n 3, 1) := by decide +kernel
theorem dL_law_773 : decode cL_law 773 = .ok (.invokestatic 154, 3) := by decide +kernel
theorem dL_law_776 : decode cL_law 776 = .ok (.istore 5, 2) := by decide +kernel
theorem dL_law_778 : decode cL_law 778 = .ok (.aload_n 2, 1) := by decide +kernel
theorem dL_law_779 : decode cL_law 779 = .ok (.aload_n 0, 1) := by decide +kernel
theorem dL_law_780 : decode cL_law 780 = .ok (.iload 4, 2) := by decide +kernel
theorem dL_law_782 : decode cL_law 782 = .ok (.iconst 1, 1) := by decide +kernel
theorem dL_law_783 : decode cL_law 783 = .ok (.iadd, 1) := by decide +kernel
theorem dL_law_784 : decode cL_law 784 = .ok (.iaload, 1) := by decide +kernel
theorem dL_law_785 : decode cL_law 785 = .ok (.invokevirtual 156, 3) := by decide +kernel
theorem dL_law_788 : decode cL_law 788 = .ok (.istore 6, 2) := by decide +kernel
theorem dL_law_790 : decode cL_law 790 = .ok (.aload_n 2, 1) := by decide +kernel
theorem dL_law_791 : decode cL_law 791 = .ok (.invokevirtual 105, 3) := by decide +kernel
theorem dL_law_794 : decode cL_law 794 = .ok (.iload 5, 2) := by decide +kernel
theorem dL_law_796 : decode cL_law 796 = .ok (.if_icmp .eq 5, 3) := by decide +kernel
theorem dL_law_799 : decode cL_law 799 = .ok (.iconst 0, 1) := by decide +kernel
theorem dL_law_800 : decode cL_law 800 = .ok (.ireturn, 1) := by decide +kernel
theorem dL_law_801 : decode cL_law 801 = .ok (.iload 5, 2) := by decide +kernel
theorem dL_law_803 : decode cL_law 803 = .ok (.ifCond .ne 15, 3) := by decide +kernel
theorem dL_law_806 : decode cL_law 806 = .ok (.aload_n 3, 1) := by decide +kernel
theorem dL_law_807 : decode cL_law 807 = .ok (.iconst 0, 1) := by decide +kernel
theorem dL_law_808 : decode cL_law 808 = .ok (.laload, 1) := by decide +kernel
theorem dL_law_809 : decode cL_law 809 = .ok (.iload 6, 2) := by decide +kernel
theorem dL_law_811 : decode cL_law 811 = .ok (.i2l, 1) := by decide +kernel
theorem dL_law_812 : decode cL_law 812 = .ok (.lcmp, 1) := by decide +kernel
theorem dL_law_813 : decode cL_law 813 = .ok (.ifCond .eq 5, 3) := by decide +kernel
theorem dL_law_816 : decode cL_law 816 = .ok (.iconst 0, 1) := by decide +kernel
theorem dL_law_817 : decode cL_law 817 = .ok (.ireturn, 1) := by decide +kernel
theorem dL_law_818 : decode cL_law 818 = .ok (.goto 952, 3) := by decide +kernel
theorem dL_law_821 : decode cL_law 821 = .ok (.aload_n 1, 1) := by decide +kernel
theorem dL_law_822 : decode cL_law 822 = .ok (.invokevirtual 157, 3) := by decide +kernel
theorem dL_law_825 : decode cL_law 825 = .ok (.aload_n 2, 1) := by decide +kernel
theorem dL_law_826 : decode cL_law 826 = .ok (.invokevirtual 160, 3) := by decide +kernel
theorem dL_law_829 : decode cL_law 829 = .ok (.if_icmp .eq 941, 3) := by decide +kernel
theorem dL_law_832 : decode cL_law 832 = .ok (.iconst 0, 1) := by decide +kernel
theorem dL_law_833 : decode cL_law 833 = .ok (.ireturn, 1) := by decide +kernel
theorem dL_law_834 : decode cL_law 834 = .ok (.aload_n 1, 1) := by decide +kernel
theorem dL_law_835 : decode cL_law 835 = .ok (.aload_n 0, 1) := by decide +kernel
theorem dL_law_836 : decode cL_law 836 = .ok (.iload 4, 2) := by decide +kernel
theorem dL_law_838 : decode cL_law 838 = .ok (.iconst 1, 1) := by decide +kernel
theorem dL_law_839 : decode cL_law 839 = .ok (.iadd, 1) := by decide +kernel
theorem dL_law_840 : decode cL_law 840 = .ok (.iaload, 1) := by decide +kernel
theorem dL_law_841 : decode cL_law 841 = .ok (.aload_n 3, 1) := by decide +kernel
theorem dL_law_842 : decode cL_law 842 = .ok (.invokestatic 161, 3) := by decide +kernel
theorem dL_law_845 : decode cL_law 845 = .ok (.istore 5, 2) := by decide +kernel
theorem dL_law_847 : decode cL_law 847 = .ok (.aload_n 2, 1) := by decide +kernel
theorem dL_law_848 : decode cL_law 848 = .ok (.aload_n 0, 1) := by decide +kernel
theorem dL_law_849 : decode cL_law 849 = .ok (.iload 4, 2) := by decide +kernel
theorem dL_law_851 : decode cL_law 851 = .ok (.iconst 1, 1) := by decide +kernel
theorem dL_law_852 : decode cL_law 852 = .ok (.iadd, 1) := by decide +kernel
theorem dL_law_853 : decode cL_law 853 = .ok (.iaload, 1) := by decide +kernel
theorem dL_law_854 : decode cL_law 854 = .ok (.invokevirtual 163, 3) := by decide +kernel
theorem dL_law_857 : decode cL_law 857 = .ok (.istore 6, 2) := by decide +kernel
theorem dL_law_859 : decode cL_law 859 = .ok (.aload_n 2, 1) := by decide +kernel
theorem dL_law_860 : decode cL_law 860 = .ok (.invokevirtual 105, 3) := by decide +kernel
theorem dL_law_863 : decode cL_law 863 = .ok (.iload 5, 2) := by decide +kernel
theorem dL_law_865 : decode cL_law 865 = .ok (.if_icmp .eq 5, 3) := by decide +kernel
theorem dL_law_868 : decode cL_law 868 = .ok (.iconst 0, 1) := by decide +kernel
theorem dL_law_869 : decode cL_law 869 = .ok (.ireturn, 1) := by decide +kernel
theorem dL_law_870 : decode cL_law 870 = .ok (.iload 5, 2) := by decide +kernel
theorem dL_law_872 : decode cL_law 872 = .ok (.ifCond .ne 15, 3) := by decide +kernel
theorem dL_law_875 : decode cL_law 875 = .ok (.aload_n 3, 1) := by decide +kernel
theorem dL_law_876 : decode cL_law 876 = .ok (.iconst 0, 1) := by decide +kernel
theorem dL_law_877 : decode cL_law 877 = .ok (.laload, 1) := by decide +kernel
theorem dL_law_878 : decode cL_law 878 = .ok (.iload 6, 2) := by decide +kernel
theorem dL_law_880 : decode cL_law 880 = .ok (.i2l, 1) := by decide +kernel
theorem dL_law_881 : decode cL_law 881 = .ok (.lcmp, 1) := by decide +kernel
theorem dL_law_882 : decode cL_law 882 = .ok (.ifCond .eq 5, 3) := by decide +kernel
theorem dL_law_885 : decode cL_law 885 = .ok (.iconst 0, 1) := by decide +kernel
theorem dL_law_886 : decode cL_law 886 = .ok (.ireturn, 1) := by decide +kernel
theorem dL_law_887 : decode cL_law 887 = .ok (.goto 883, 3) := by decide +kernel
theorem dL_law_890 : decode cL_law 890 = .ok (.aload_n 1, 1) := by decide +kernel
theorem dL_law_891 : decode cL_law 891 = .ok (.aload_n 0, 1) := by decide +kernel
theorem dL_law_892 : decode cL_law 892 = .ok (.iload 4, 2) := by decide +kernel
theorem dL_law_894 : decode cL_law 894 = .ok (.iconst 1, 1) := by decide +kernel
theorem dL_law_895 : decode cL_law 895 = .ok (.iadd, 1) := by decide +kernel
theorem dL_law_896 : decode cL_law 896 = .ok (.iaload, 1) := by decide +kernel
theorem dL_law_897 : decode cL_law 897 = .ok (.aload_n 3, 1) := by decide +kernel
theorem dL_law_898 : decode cL_law 898 = .ok (.invokestatic 164, 3) := by decide +kernel
theorem dL_law_901 : decode cL_law 901 = .ok (.istore 5, 2) := by decide +kernel
theorem dL_law_903 : decode cL_law 903 = .ok (.aload_n 2, 1) := by decide +kernel
theorem dL_law_904 : decode cL_law 904 = .ok (.aload_n 0, 1) := by decide +kernel
theorem dL_law_905 : decode cL_law 905 = .ok (.iload 4, 2) := by decide +kernel
theorem dL_law_907 : decode cL_law 907 = .ok (.iconst 1, 1) := by decide +kernel
theorem dL_law_908 : decode cL_law 908 = .ok (.iadd, 1) := by decide +kernel
theorem dL_law_909 : decode cL_law 909 = .ok (.iaload, 1) := by decide +kernel
theorem dL_law_910 : decode cL_law 910 = .ok (.invokevirtual 166, 3) := by decide +kernel
theorem dL_law_913 : decode cL_law 913 = .ok (.istore 6, 2) := by decide +kernel
theorem dL_law_915 : decode cL_law 915 = .ok (.aload_n 2, 1) := by decide +kernel
theorem dL_law_916 : decode cL_law 916 = .ok (.invokevirtual 105, 3) := by decide +kernel
theorem dL_law_919 : decode cL_law 919 = .ok (.iload 5, 2) := by decide +kernel
theorem dL_law_921 : decode cL_law 921 = .ok (.if_icmp .eq 5, 3) := by decide +kernel
theorem dL_law_924 : decode cL_law 924 = .ok (.iconst 0, 1) := by decide +kernel
theorem dL_law_925 : decode cL_law 925 = .ok (.ireturn, 1) := by decide +kernel
theorem dL_law_926 : decode cL_law 926 = .ok (.iload 5, 2) := by decide +kernel
theorem dL_law_928 : decode cL_law 928 = .ok (.ifCond .ne 15, 3) := by decide +kernel
theorem dL_law_931 : decode cL_law 931 = .ok (.aload_n 3, 1) := by decide +kernel
theorem dL_law_932 : decode cL_law 932 = .ok (.iconst 0, 1) := by decide +kernel
theorem dL_law_933 : decode cL_law 933 = .ok (.laload, 1) := by decide +kernel
theorem dL_law_934 : decode cL_law 934 = .ok (.iload 6, 2) := by decide +kernel
theorem dL_law_936 : decode cL_law 936 = .ok (.i2l, 1) := by decide +kernel
theorem dL_law_937 : decode cL_law 937 = .ok (.lcmp, 1) := by decide +kernel
theorem dL_law_938 : decode cL_law 938 = .ok (.ifCond .eq 5, 3) := by decide +kernel
theorem dL_law_941 : decode cL_law 941 = .ok (.iconst 0, 1) := by decide +kernel
theorem dL_law_942 : decode cL_law 942 = .ok (.ireturn, 1) := by decide +kernel
theorem dL_law_943 : decode cL_law 943 = .ok (.goto 827, 3) := by decide +kernel
theorem dL_law_946 : decode cL_law 946 = .ok (.aload_n 1, 1) := by decide +kernel
theorem dL_law_947 : decode cL_law 947 = .ok (.aload_n 0, 1) := by decide +kernel
theorem dL_law_948 : decode cL_law 948 = .ok (.iload 4, 2) := by decide +kernel
theorem dL_law_950 : decode cL_law 950 = .ok (.iconst 1, 1) := by decide +kernel
theorem dL_law_951 : decode cL_law 951 = .ok (.iadd, 1) := by decide +kernel
theorem dL_law_952 : decode cL_law 952 = .ok (.iaload, 1) := by decide +kernel
theorem dL_law_953 : decode cL_law 953 = .ok (.aload_n 3, 1) := by decide +kernel
theorem dL_law_954 : decode cL_law 954 = .ok (.invokestatic 167, 3) := by decide +kernel
theorem dL_law_957 : decode cL_law 957 = .ok (.istore 5, 2) := by decide +kernel
theorem dL_law_959 : decode cL_law 959 = .ok (.aload_n 2, 1) := by decide +kernel
theorem dL_law_960 : decode cL_law 960 = .ok (.aload_n 0, 1) := by decide +kernel
theorem dL_law_961 : decode cL_law 961 = .ok (.iload 4, 2) := by decide +kernel
theorem dL_law_963 : decode cL_law 963 = .ok (.iconst 1, 1) := by decide +kernel
theorem dL_law_964 : decode cL_law 964 = .ok (.iadd, 1) := by decide +kernel
theorem dL_law_965 : decode cL_law 965 = .ok (.iaload, 1) := by decide +kernel
theorem dL_law_966 : decode cL_law 966 = .ok (.invokevirtual 169, 3) := by decide +kernel
theorem dL_law_969 : decode cL_law 969 = .ok (.istore 6, 2) := by decide +kernel
theorem dL_law_971 : decode cL_law 971 = .ok (.aload_n 2, 1) := by decide +kernel
theorem dL_law_972 : decode cL_law 972 = .ok (.invokevirtual 105, 3) := by decide +kernel
theorem dL_law_975 : decode cL_law 975 = .ok (.iload 5, 2) := by decide +kernel
theorem dL_law_977 : decode cL_law 977 = .ok (.if_icmp .eq 5, 3) := by decide +kernel
theorem dL_law_980 : decode cL_law 980 = .ok (.iconst 0, 1) := by decide +kernel
theorem dL_law_981 : decode cL_law 981 = .ok (.ireturn, 1) := by decide +kernel
theorem dL_law_982 : decode cL_law 982 = .ok (.iload 5, 2) := by decide +kernel
theorem dL_law_984 : decode cL_law 984 = .ok (.ifCond .ne 15, 3) := by decide +kernel
theorem dL_law_987 : decode cL_law 987 = .ok (.aload_n 3, 1) := by decide +kernel
theorem dL_law_988 : decode cL_law 988 = .ok (.iconst 0, 1) := by decide +kernel
theorem dL_law_989 : decode cL_law 989 = .ok (.laload, 1) := by decide +kernel
theorem dL_law_990 : decode cL_law 990 = .ok (.iload 6, 2) := by decide +kernel
theorem dL_law_992 : decode cL_law 992 = .ok (.i2l, 1) := by decide +kernel
theorem dL_law_993 : decode cL_law 993 = .ok (.lcmp, 1) := by decide +kernel
theorem dL_law_994 : decode cL_law 994 = .ok (.ifCond .eq 5, 3) := by decide +kernel
theorem dL_law_997 : decode cL_law 997 = .ok (.iconst 0, 1) := by decide +kernel
theorem dL_law_998 : decode cL_law 998 = .ok (.ireturn, 1) := by decide +kernel
theorem dL_law_999 : decode cL_law 999 = .ok (.goto 771, 3) := by decide +kernel
theorem dL_law_1002 : decode cL_law 1002 = .ok (.aload_n 1, 1) := by decide +kernel
theorem dL_law_1003 : decode cL_law 1003 = .ok (.aload_n 0, 1) := by decide +kernel
theorem dL_law_1004 : decode cL_law 1004 = .ok (.iload 4, 2) := by decide +kernel
theorem dL_law_1006 : decode cL_law 1006 = .ok (.iconst 1, 1) := by decide +kernel
theorem dL_law_1007 : decode cL_law 1007 = .ok (.iadd, 1) := by decide +kernel
theorem dL_law_1008 : decode cL_law 1008 = .ok (.iaload, 1) := by decide +kernel
theorem dL_law_1009 : decode cL_law 1009 = .ok (.aload_n 3, 1) := by decide +kernel
theorem dL_law_1010 : decode cL_law 1010 = .ok (.invokestatic 170, 3) := by decide +kernel
theorem dL_law_1013 : decode cL_law 1013 = .ok (.istore 5, 2) := by decide +kernel
theorem dL_law_1015 : decode cL_law 1015 = .ok (.aload_n 2, 1) := by decide +kernel
theorem dL_law_1016 : decode cL_law 1016 = .ok (.aload_n 0, 1) := by decide +kernel
theorem dL_law_1017 : decode cL_law 1017 = .ok (.iload 4, 2) := by decide +kernel
theorem dL_law_1019 : decode cL_law 1019 = .ok (.iconst 1, 1) := by decide +kernel
theorem dL_law_1020 : decode cL_law 1020 = .ok (.iadd, 1) := by decide +kernel
theorem dL_law_1021 : decode cL_law 1021 = .ok (.iaload, 1) := by decide +kernel
theorem dL_law_1022 : decode cL_law 1022 = .ok (.invokevirtual 172, 3) := by decide +kernel
theorem dL_law_1025 : decode cL_law 1025 = .ok (.istore 6, 2) := by decide +kernel
theorem dL_law_1027 : decode cL_law 1027 = .ok (.aload_n 2, 1) := by decide +kernel
theorem dL_law_1028 : decode cL_law 1028 = .ok (.invokevirtual 105, 3) := by decide +kernel
theorem dL_law_1031 : decode cL_law 1031 = .ok (.iload 5, 2) := by decide +kernel
theorem dL_law_1033 : decode cL_law 1033 = .ok (.if_icmp .eq 5, 3) := by decide +kernel
theorem dL_law_1036 : decode cL_law 1036 = .ok (.iconst 0, 1) := by decide +kernel
theorem dL_law_1037 : decode cL_law 1037 = .ok (.ireturn, 1) := by decide +kernel
theorem dL_law_1038 : decode cL_law 1038 = .ok (.iload 5, 2) := by decide +kernel
theorem dL_law_1040 : decode cL_law 1040 = .ok (.ifCond .ne 15, 3) := by decide +kernel
theorem dL_law_1043 : decode cL_law 1043 = .ok (.aload_n 3, 1) := by decide +kernel
theorem dL_law_1044 : decode cL_law 1044 = .ok (.iconst 0, 1) := by decide +kernel
theorem dL_law_1045 : decode cL_law 1045 = .ok (.laload, 1) := by decide +kernel
theorem dL_law_1046 : decode cL_law 1046 = .ok (.iload 6, 2) := by decide +kernel
theorem dL_law_1048 : decode cL_law 1048 = .ok (.i2l, 1) := by decide +kernel
theorem dL_law_1049 : decode cL_law 1049 = .ok (.lcmp, 1) := by decide +kernel
theorem dL_law_1050 : decode cL_law 1050 = .ok (.ifCond .eq 5, 3) := by decide +kernel
theorem dL_law_1053 : decode cL_law 1053 = .ok (.iconst 0, 1) := by decide +kernel
theorem dL_law_1054 : decode cL_law 1054 = .ok (.ireturn, 1) := by decide +kernel
theorem dL_law_1055 : decode cL_law 1055 = .ok (.goto 715, 3) := by decide +kernel
theorem dL_law_1058 : decode cL_law 1058 = .ok (.aload_n 1, 1) := by decide +kernel
theorem dL_law_1059 : decode cL_law 1059 = .ok (.aload_n 0, 1) := by decide +kernel
theorem dL_law_1060 : decode cL_law 1060 = .ok (.iload 4, 2) := by decide +kernel
theorem dL_law_1062 : decode cL_law 1062 = .ok (.iconst 1, 1) := by decide +kernel
theorem dL_law_1063 : decode cL_law 1063 = .ok (.iadd, 1) := by decide +kernel
theorem dL_law_1064 : decode cL_law 1064 = .ok (.iaload, 1) := by decide +kernel
theorem dL_law_1065 : decode cL_law 1065 = .ok (.aload_n 3, 1) := by decide +kernel
theorem dL_law_1066 : decode cL_law 1066 = .ok (.invokestatic 173, 3) := by decide +kernel
theorem dL_law_1069 : decode cL_law 1069 = .ok (.istore 5, 2) := by decide +kernel
theorem dL_law_1071 : decode cL_law 1071 = .ok (.aload_n 2, 1) := by decide +kernel
theorem dL_law_1072 : decode cL_law 1072 = .ok (.aload_n 0, 1) := by decide +kernel
theorem dL_law_1073 : decode cL_law 1073 = .ok (.iload 4, 2) := by decide +kernel
theorem dL_law_1075 : decode cL_law 1075 = .ok (.iconst 1, 1) := by decide +kernel
theorem dL_law_1076 : decode cL_law 1076 = .ok (.iadd, 1) := by decide +kernel
theorem dL_law_1077 : decode cL_law 1077 = .ok (.iaload, 1) := by decide +kernel
theorem dL_law_1078 : decode cL_law 1078 = .ok (.invokevirtual 175, 3) := by decide +kernel
theorem dL_law_1081 : decode cL_law 1081 = .ok (.istore 6, 2) := by decide +kernel
theorem dL_law_1083 : decode cL_law 1083 = .ok (.aload_n 2, 1) := by decide +kernel
theorem dL_law_1084 : decode cL_law 1084 = .ok (.invokevirtual 105, 3) := by decide +kernel
theorem dL_law_1087 : decode cL_law 1087 = .ok (.iload 5, 2) := by decide +kernel
theorem dL_law_1089 : decode cL_law 1089 = .ok (.if_icmp .eq 5, 3) := by decide +kernel
theorem dL_law_1092 : decode cL_law 1092 = .ok (.iconst 0, 1) := by decide +kernel
theorem dL_law_1093 : decode cL_law 1093 = .ok (.ireturn, 1) := by decide +kernel
theorem dL_law_1094 : decode cL_law 1094 = .ok (.iload 5, 2) := by decide +kernel
theorem dL_law_1096 : decode cL_law 1096 = .ok (.ifCond .ne 15, 3) := by decide +kernel
theorem dL_law_1099 : decode cL_law 1099 = .ok (.aload_n 3, 1) := by decide +kernel
theorem dL_law_1100 : decode cL_law 1100 = .ok (.iconst 0, 1) := by decide +kernel
theorem dL_law_1101 : decode cL_law 1101 = .ok (.laload, 1) := by decide +kernel
theorem dL_law_1102 : decode cL_law 1102 = .ok (.iload 6, 2) := by decide +kernel
theorem dL_law_1104 : decode cL_law 1104 = .ok (.i2l, 1) := by decide +kernel
theorem dL_law_1105 : decode cL_law 1105 = .ok (.lcmp, 1) := by decide +kernel
theorem dL_law_1106 : decode cL_law 1106 = .ok (.ifCond .eq 5, 3) := by decide +kernel
theorem dL_law_1109 : decode cL_law 1109 = .ok (.iconst 0, 1) := by decide +kernel
theorem dL_law_1110 : decode cL_law 1110 = .ok (.ireturn, 1) := by decide +kernel
theorem dL_law_1111 : decode cL_law 1111 = .ok (.goto 659, 3) := by decide +kernel
theorem dL_law_1114 : decode cL_law 1114 = .ok (.aload_n 1, 1) := by decide +kernel
theorem dL_law_1115 : decode cL_law 1115 = .ok (.aload_n 0, 1) := by decide +kernel
theorem dL_law_1116 : decode cL_law 1116 = .ok (.iload 4, 2) := by decide +kernel
theorem dL_law_1118 : decode cL_law 1118 = .ok (.iconst 1, 1) := by decide +kernel
theorem dL_law_1119 : decode cL_law 1119 = .ok (.iadd, 1) := by decide +kernel
theorem dL_law_1120 : decode cL_law 1120 = .ok (.iaload, 1) := by decide +kernel
theorem dL_law_1121 : decode cL_law 1121 = .ok (.aload_n 0, 1) := by decide +kernel
theorem dL_law_1122 : decode cL_law 1122 = .ok (.iload 4, 2) := by decide +kernel
theorem dL_law_1124 : decode cL_law 1124 = .ok (.iconst 2, 1) := by decide +kernel
theorem dL_law_1125 : decode cL_law 1125 = .ok (.iadd, 1) := by decide +kernel
theorem dL_law_1126 : decode cL_law 1126 = .ok (.iaload, 1) := by decide +kernel
theorem dL_law_1127 : decode cL_law 1127 = .ok (.aload_n 3, 1) := by decide +kernel
theorem dL_law_1128 : decode cL_law 1128 = .ok (.invokestatic 176, 3) := by decide +kernel
theorem dL_law_1131 : decode cL_law 1131 = .ok (.istore 5, 2) := by decide +kernel
theorem dL_law_1133 : decode cL_law 1133 = .ok (.aload_n 2, 1) := by decide +kernel
theorem dL_law_1134 : decode cL_law 1134 = .ok (.aload_n 0, 1) := by decide +kernel
theorem dL_law_1135 : decode cL_law 1135 = .ok (.iload 4, 2) := by decide +kernel
theorem dL_law_1137 : decode cL_law 1137 = .ok (.iconst 1, 1) := by decide +kernel
theorem dL_law_1138 : decode cL_law 1138 = .ok (.iadd, 1) := by decide +kernel
theorem dL_law_1139 : decode cL_law 1139 = .ok (.iaload, 1) := by decide +kernel
theorem dL_law_1140 : decode cL_law 1140 = .ok (.aload_n 0, 1) := by decide +kernel
theorem dL_law_1141 : decode cL_law 1141 = .ok (.iload 4, 2) := by decide +kernel
theorem dL_law_1143 : decode cL_law 1143 = .ok (.iconst 2, 1) := by decide +kernel
theorem dL_law_1144 : decode cL_law 1144 = .ok (.iadd, 1) := by decide +kernel
theorem dL_law_1145 : decode cL_law 1145 = .ok (.iaload, 1) := by decide +kernel
theorem dL_law_1146 : decode cL_law 1146 = .ok (.invokevirtual 178, 3) := by decide +kernel
theorem dL_law_1149 : decode cL_law 1149 = .ok (.istore 6, 2) := by decide +kernel
theorem dL_law_1151 : decode cL_law 1151 = .ok (.aload_n 2, 1) := by decide +kernel
theorem dL_law_1152 : decode cL_law 1152 = .ok (.invokevirtual 105, 3) := by decide +kernel
theorem dL_law_1155 : decode cL_law 1155 = .ok (.iload 5, 2) := by decide +kernel
theorem dL_law_1157 : decode cL_law 1157 = .ok (.if_icmp .eq 5, 3) := by decide +kernel
theorem dL_law_1160 : decode cL_law 1160 = .ok (.iconst 0, 1) := by decide +kernel
theorem dL_law_1161 : decode cL_law 1161 = .ok (.ireturn, 1) := by decide +kernel
theorem dL_law_1162 : decode cL_law 1162 = .ok (.iload 5, 2) := by decide +kernel
theorem dL_law_1164 : decode cL_law 1164 = .ok (.ifCond .ne 22, 3) := by decide +kernel
theorem dL_law_1167 : decode cL_law 1167 = .ok (.aload_n 3, 1) := by decide +kernel
theorem dL_law_1168 : decode cL_law 1168 = .ok (.iconst 0, 1) := by decide +kernel
theorem dL_law_1169 : decode cL_law 1169 = .ok (.laload, 1) := by decide +kernel
theorem dL_law_1170 : decode cL_law 1170 = .ok (.iload 6, 2) := by decide +kernel
theorem dL_law_1172 : decode cL_law 1172 = .ok (.ifCond .eq 7, 3) := by decide +kernel
theorem dL_law_1175 : decode cL_law 1175 = .ok (.lconst 1, 1) := by decide +kernel
theorem dL_law_1176 : decode cL_law 1176 = .ok (.goto 4, 3) := by decide +kernel
theorem dL_law_1179 : decode cL_law 1179 = .ok (.lconst 0, 1) := by decide +kernel
theorem dL_law_1180 : decode cL_law 1180 = .ok (.lcmp, 1) := by decide +kernel
theorem dL_law_1181 : decode cL_law 1181 = .ok (.ifCond .eq 5, 3) := by decide +kernel
theorem dL_law_1184 : decode cL_law 1184 = .ok (.iconst 0, 1) := by decide +kernel
theorem dL_law_1185 : decode cL_law 1185 = .ok (.ireturn, 1) := by decide +kernel
theorem dL_law_1186 : decode cL_law 1186 = .ok (.goto 584, 3) := by decide +kernel
theorem dL_law_1189 : decode cL_law 1189 = .ok (.aload_n 1, 1) := by decide +kernel
theorem dL_law_1190 : decode cL_law 1190 = .ok (.aload_n 0, 1) := by decide +kernel
theorem dL_law_1191 : decode cL_law 1191 = .ok (.iload 4, 2) := by decide +kernel
theorem dL_law_1193 : decode cL_law 1193 = .ok (.iconst 1, 1) := by decide +kernel
theorem dL_law_1194 : decode cL_law 1194 = .ok (.iadd, 1) := by decide +kernel
theorem dL_law_1195 : decode cL_law 1195 = .ok (.iaload, 1) := by decide +kernel
theorem dL_law_1196 : decode cL_law 1196 = .ok (.aload_n 3, 1) := by decide +kernel
theorem dL_law_1197 : decode cL_law 1197 = .ok (.invokestatic 179, 3) := by decide +kernel
theorem dL_law_1200 : decode cL_law 1200 = .ok (.istore 5, 2) := by decide +kernel
theorem dL_law_1202 : decode cL_law 1202 = .ok (.aload_n 2, 1) := by decide +kernel
theorem dL_law_1203 : decode cL_law 1203 = .ok (.aload_n 0, 1) := by decide +kernel
theorem dL_law_1204 : decode cL_law 1204 = .ok (.iload 4, 2) := by decide +kernel
theorem dL_law_1206 : decode cL_law 1206 = .ok (.iconst 1, 1) := by decide +kernel
theorem dL_law_1207 : decode cL_law 1207 = .ok (.iadd, 1) := by decide +kernel
theorem dL_law_1208 : decode cL_law 1208 = .ok (.iaload, 1) := by decide +kernel
theorem dL_law_1209 : decode cL_law 1209 = .ok (.invokevirtual 181, 3) := by decide +kernel
theorem dL_law_1212 : decode cL_law 1212 = .ok (.istore 6, 2) := by decide +kernel
theorem dL_law_1214 : decode cL_law 1214 = .ok (.aload_n 2, 1) := by decide +kernel
theorem dL_law_1215 : decode cL_law 1215 = .ok (.invokevirtual 105, 3) := by decide +kernel
theorem dL_law_1218 : decode cL_law 1218 = .ok (.iload 5, 2) := by decide +kernel
theorem dL_law_1220 : decode cL_law 1220 = .ok (.if_icmp .eq 5, 3) := by decide +kernel
theorem dL_law_1223 : decode cL_law 1223 = .ok (.iconst 0, 1) := by decide +kernel
theorem dL_law_1224 : decode cL_law 1224 = .ok (.ireturn, 1) := by decide +kernel
theorem dL_law_1225 : decode cL_law 1225 = .ok (.iload 5, 2) := by decide +kernel
theorem dL_law_1227 : decode cL_law 1227 = .ok (.ifCond .ne 22, 3) := by decide +kernel
theorem dL_law_1230 : decode cL_law 1230 = .ok (.aload_n 3, 1) := by decide +kernel
theorem dL_law_1231 : decode cL_law 1231 = .ok (.iconst 0, 1) := by decide +kernel
theorem dL_law_1232 : decode cL_law 1232 = .ok (.laload, 1) := by decide +kernel
theorem dL_law_1233 : decode cL_law 1233 = .ok (.iload 6, 2) := by decide +kernel
theorem dL_law_1235 : decode cL_law 1235 = .ok (.ifCond .eq 7, 3) := by decide +kernel
theorem dL_law_1238 : decode cL_law 1238 = .ok (.lconst 1, 1) := by decide +kernel
theorem dL_law_1239 : decode cL_law 1239 = .ok (.goto 4, 3) := by decide +kernel
theorem dL_law_1242 : decode cL_law 1242 = .ok (.lconst 0, 1) := by decide +kernel
theorem dL_law_1243 : decode cL_law 1243 = .ok (.lcmp, 1) := by decide +kernel
theorem dL_law_1244 : decode cL_law 1244 = .ok (.ifCond .eq 5, 3) := by decide +kernel
theorem dL_law_1247 : decode cL_law 1247 = .ok (.iconst 0, 1) := by decide +kernel
theorem dL_law_1248 : decode cL_law 1248 = .ok (.ireturn, 1) := by decide +kernel
theorem dL_law_1249 : decode cL_law 1249 = .ok (.goto 521, 3) := by decide +kernel
theorem dL_law_1252 : decode cL_law 1252 = .ok (.aload_n 1, 1) := by decide +kernel
theorem dL_law_1253 : decode cL_law 1253 = .ok (.aload_n 0, 1) := by decide +kernel
theorem dL_law_1254 : decode cL_law 1254 = .ok (.iload 4, 2) := by decide +kernel
theorem dL_law_1256 : decode cL_law 1256 = .ok (.iconst 1, 1) := by decide +kernel
theorem dL_law_1257 : decode cL_law 1257 = .ok (.iadd, 1) := by decide +kernel
theorem dL_law_1258 : decode cL_law 1258 = .ok (.iaload, 1) := by decide +kernel
theorem dL_law_1259 : decode cL_law 1259 = .ok (.aload_n 3, 1) := by decide +kernel
theorem dL_law_1260 : decode cL_law 1260 = .ok (.invokestatic 182, 3) := by decide +kernel
theorem dL_law_1263 : decode cL_law 1263 = .ok (.istore 5, 2) := by decide +kernel
theorem dL_law_1265 : decode cL_law 1265 = .ok (.aload_n 2, 1) := by decide +kernel
theorem dL_law_1266 : decode cL_law 1266 = .ok (.aload_n 0, 1) := by decide +kernel
theorem dL_law_1267 : decode cL_law 1267 = .ok (.iload 4, 2) := by decide +kernel
theorem dL_law_1269 : decode cL_law 1269 = .ok (.iconst 1, 1) := by decide +kernel
theorem dL_law_1270 : decode cL_law 1270 = .ok (.iadd, 1) := by decide +kernel
theorem dL_law_1271 : decode cL_law 1271 = .ok (.iaload, 1) := by decide +kernel
theorem dL_law_1272 : decode cL_law 1272 = .ok (.invokevirtual 184, 3) := by decide +kernel
theorem dL_law_1275 : decode cL_law 1275 = .ok (.istore 6, 2) := by decide +kernel
theorem dL_law_1277 : decode cL_law 1277 = .ok (.aload_n 2, 1) := by decide +kernel
theorem dL_law_1278 : decode cL_law 1278 = .ok (.invokevirtual 105, 3) := by decide +kernel
theorem dL_law_1281 : decode cL_law 1281 = .ok (.iload 5, 2) := by decide +kernel
theorem dL_law_1283 : decode cL_law 1283 = .ok (.if_icmp .eq 5, 3) := by decide +kernel
theorem dL_law_1286 : decode cL_law 1286 = .ok (.iconst 0, 1) := by decide +kernel
theorem dL_law_1287 : decode cL_law 1287 = .ok (.ireturn, 1) := by decide +kernel
theorem dL_law_1288 : decode cL_law 1288 = .ok (.iload 5, 2) := by decide +kernel
theorem dL_law_1290 : decode cL_law 1290 = .ok (.ifCond .ne 15, 3) := by decide +kernel
theorem dL_law_1293 : decode cL_law 1293 = .ok (.aload_n 3, 1) := by decide +kernel
theorem dL_law_1294 : decode cL_law 1294 = .ok (.iconst 0, 1) := by decide +kernel
theorem dL_law_1295 : decode cL_law 1295 = .ok (.laload, 1) := by decide +kernel
theorem dL_law_1296 : decode cL_law 1296 = .ok (.iload 6, 2) := by decide +kernel
theorem dL_law_1298 : decode cL_law 1298 = .ok (.i2l, 1) := by decide +kernel
theorem dL_law_1299 : decode cL_law 1299 = .ok (.lcmp, 1) := by decide +kernel
theorem dL_law_1300 : decode cL_law 1300 = .ok (.ifCond .eq 5, 3) := by decide +kernel
theorem dL_law_1303 : decode cL_law 1303 = .ok (.iconst 0, 1) := by decide +kernel
theorem dL_law_1304 : decode cL_law 1304 = .ok (.ireturn, 1) := by decide +kernel
theorem dL_law_1305 : decode cL_law 1305 = .ok (.goto 465, 3) := by decide +kernel
theorem dL_law_1308 : decode cL_law 1308 = .ok (.aload_n 1, 1) := by decide +kernel
theorem dL_law_1309 : decode cL_law 1309 = .ok (.aload_n 0, 1) := by decide +kernel
theorem dL_law_1310 : decode cL_law 1310 = .ok (.iload 4, 2) := by decide +kernel
theorem dL_law_1312 : decode cL_law 1312 = .ok (.iconst 1, 1) := by decide +kernel
theorem dL_law_1313 : decode cL_law 1313 = .ok (.iadd, 1) := by decide +kernel
theorem dL_law_1314 : decode cL_law 1314 = .ok (.iaload, 1) := by decide +kernel
theorem dL_law_1315 : decode cL_law 1315 = .ok (.aload_n 3, 1) := by decide +kernel
theorem dL_law_1316 : decode cL_law 1316 = .ok (.invokestatic 185, 3) := by decide +kernel
theorem dL_law_1319 : decode cL_law 1319 = .ok (.istore 5, 2) := by decide +kernel
theorem dL_law_1321 : decode cL_law 1321 = .ok (.aload_n 2, 1) := by decide +kernel
theorem dL_law_1322 : decode cL_law 1322 = .ok (.aload_n 0, 1) := by decide +kernel
theorem dL_law_1323 : decode cL_law 1323 = .ok (.iload 4, 2) := by decide +kernel
theorem dL_law_1325 : decode cL_law 1325 = .ok (.iconst 1, 1) := by decide +kernel
theorem dL_law_1326 : decode cL_law 1326 = .ok (.iadd, 1) := by decide +kernel
theorem dL_law_1327 : decode cL_law 1327 = .ok (.iaload, 1) := by decide +kernel
theorem dL_law_1328 : decode cL_law 1328 = .ok (.invokevirtual 187, 3) := by decide +kernel
theorem dL_law_1331 : decode cL_law 1331 = .ok (.istore 6, 2) := by decide +kernel
theorem dL_law_1333 : decode cL_law 1333 = .ok (.aload_n 2, 1) := by decide +kernel
theorem dL_law_1334 : decode cL_law 1334 = .ok (.invokevirtual 105, 3) := by decide +kernel
theorem dL_law_1337 : decode cL_law 1337 = .ok (.iload 5, 2) := by decide +kernel
theorem dL_law_1339 : decode cL_law 1339 = .ok (.if_icmp .eq 5, 3) := by decide +kernel
theorem dL_law_1342 : decode cL_law 1342 = .ok (.iconst 0, 1) := by decide +kernel
theorem dL_law_1343 : decode cL_law 1343 = .ok (.ireturn, 1) := by decide +kernel
theorem dL_law_1344 : decode cL_law 1344 = .ok (.iload 5, 2) := by decide +kernel
theorem dL_law_1346 : decode cL_law 1346 = .ok (.ifCond .ne 15, 3) := by decide +kernel
theorem dL_law_1349 : decode cL_law 1349 = .ok (.aload_n 3, 1) := by decide +kernel
theorem dL_law_1350 : decode cL_law 1350 = .ok (.iconst 0, 1) := by decide +kernel
theorem dL_law_1351 : decode cL_law 1351 = .ok (.laload, 1) := by decide +kernel
theorem dL_law_1352 : decode cL_law 1352 = .ok (.iload 6, 2) := by decide +kernel
theorem dL_law_1354 : decode cL_law 1354 = .ok (.i2l, 1) := by decide +kernel
theorem dL_law_1355 : decode cL_law 1355 = .ok (.lcmp, 1) := by decide +kernel
theorem dL_law_1356 : decode cL_law 1356 = .ok (.ifCond .eq 5, 3) := by decide +kernel
theorem dL_law_1359 : decode cL_law 1359 = .ok (.iconst 0, 1) := by decide +kernel
theorem dL_law_1360 : decode cL_law 1360 = .ok (.ireturn, 1) := by decide +kernel
theorem dL_law_1361 : decode cL_law 1361 = .ok (.goto 409, 3) := by decide +kernel
theorem dL_law_1364 : decode cL_law 1364 = .ok (.aload_n 1, 1) := by decide +kernel
theorem dL_law_1365 : decode cL_law 1365 = .ok (.aload_n 0, 1) := by decide +kernel
theorem dL_law_1366 : decode cL_law 1366 = .ok (.iload 4, 2) := by decide +kernel
theorem dL_law_1368 : decode cL_law 1368 = .ok (.iconst 1, 1) := by decide +kernel
theorem dL_law_1369 : decode cL_law 1369 = .ok (.iadd, 1) := by decide +kernel
theorem dL_law_1370 : decode cL_law 1370 = .ok (.iaload, 1) := by decide +kernel
theorem dL_law_1371 : decode cL_law 1371 = .ok (.aload_n 3, 1) := by decide +kernel
theorem dL_law_1372 : decode cL_law 1372 = .ok (.invokestatic 188, 3) := by decide +kernel
theorem dL_law_1375 : decode cL_law 1375 = .ok (.istore 5, 2) := by decide +kernel
theorem dL_law_1377 : decode cL_law 1377 = .ok (.aload_n 2, 1) := by decide +kernel
theorem dL_law_1378 : decode cL_law 1378 = .ok (.aload_n 0, 1) := by decide +kernel
theorem dL_law_1379 : decode cL_law 1379 = .ok (.iload 4, 2) := by decide +kernel
theorem dL_law_1381 : decode cL_law 1381 = .ok (.iconst 1, 1) := by decide +kernel
theorem dL_law_1382 : decode cL_law 1382 = .ok (.iadd, 1) := by decide +kernel
theorem dL_law_1383 : decode cL_law 1383 = .ok (.iaload, 1) := by decide +kernel
theorem dL_law_1384 : decode cL_law 1384 = .ok (.invokevirtual 190, 3) := by decide +kernel
theorem dL_law_1387 : decode cL_law 1387 = .ok (.istore 6, 2) := by decide +kernel
theorem dL_law_1389 : decode cL_law 1389 = .ok (.aload_n 2, 1) := by decide +kernel
theorem dL_law_1390 : decode cL_law 1390 = .ok (.invokevirtual 105, 3) := by decide +kernel
theorem dL_law_1393 : decode cL_law 1393 = .ok (.iload 5, 2) := by decide +kernel
theorem dL_law_1395 : decode cL_law 1395 = .ok (.if_icmp .eq 5, 3) := by decide +kernel
theorem dL_law_1398 : decode cL_law 1398 = .ok (.iconst 0, 1) := by decide +kernel
theorem dL_law_1399 : decode cL_law 1399 = .ok (.ireturn, 1) := by decide +kernel
theorem dL_law_1400 : decode cL_law 1400 = .ok (.iload 5, 2) := by decide +kernel
theorem dL_law_1402 : decode cL_law 1402 = .ok (.ifCond .ne 15, 3) := by decide +kernel
theorem dL_law_1405 : decode cL_law 1405 = .ok (.aload_n 3, 1) := by decide +kernel
theorem dL_law_1406 : decode cL_law 1406 = .ok (.iconst 0, 1) := by decide +kernel
theorem dL_law_1407 : decode cL_law 1407 = .ok (.laload, 1) := by decide +kernel
theorem dL_law_1408 : decode cL_law 1408 = .ok (.iload 6, 2) := by decide +kernel
theorem dL_law_1410 : decode cL_law 1410 = .ok (.i2l, 1) := by decide +kernel
theorem dL_law_1411 : decode cL_law 1411 = .ok (.lcmp, 1) := by decide +kernel
theorem dL_law_1412 : decode cL_law 1412 = .ok (.ifCond .eq 5, 3) := by decide +kernel
theorem dL_law_1415 : decode cL_law 1415 = .ok (.iconst 0, 1) := by decide +kernel
theorem dL_law_1416 : decode cL_law 1416 = .ok (.ireturn, 1) := by decide +kernel
theorem dL_law_1417 : decode cL_law 1417 = .ok (.goto 353, 3) := by decide +kernel
theorem dL_law_1420 : decode cL_law 1420 = .ok (.aload_n 1, 1) := by decide +kernel
theorem dL_law_1421 : decode cL_law 1421 = .ok (.aload_n 0, 1) := by decide +kernel
theorem dL_law_1422 : decode cL_law 1422 = .ok (.iload 4, 2) := by decide +kernel
theorem dL_law_1424 : decode cL_law 1424 = .ok (.iconst 1, 1) := by decide +kernel
theorem dL_law_1425 : decode cL_law 1425 = .ok (.iadd, 1) := by decide +kernel
theorem dL_law_1426 : decode cL_law 1426 = .ok (.iaload, 1) := by decide +kernel
theorem dL_law_1427 : decode cL_law 1427 = .ok (.aload_n 3, 1) := by decide +kernel
theorem dL_law_1428 : decode cL_law 1428 = .ok (.invokestatic 191, 3) := by decide +kernel
theorem dL_law_1431 : decode cL_law 1431 = .ok (.istore 5, 2) := by decide +kernel
theorem dL_law_1433 : decode cL_law 1433 = .ok (.aload_n 2, 1) := by decide +kernel
theorem dL_law_1434 : decode cL_law 1434 = .ok (.aload_n 0, 1) := by decide +kernel
theorem dL_law_1435 : decode cL_law 1435 = .ok (.iload 4, 2) := by decide +kernel
theorem dL_law_1437 : decode cL_law 1437 = .ok (.iconst 1, 1) := by decide +kernel
theorem dL_law_1438 : decode cL_law 1438 = .ok (.iadd, 1) := by decide +kernel
theorem dL_law_1439 : decode cL_law 1439 = .ok (.iaload, 1) := by decide +kernel
theorem dL_law_1440 : decode cL_law 1440 = .ok (.invokevirtual 193, 3) := by decide +kernel
theorem dL_law_1443 : decode cL_law 1443 = .ok (.istore 6, 2) := by decide +kernel
theorem dL_law_1445 : decode cL_law 1445 = .ok (.aload_n 2, 1) := by decide +kernel
theorem dL_law_1446 : decode cL_law 1446 = .ok (.invokevirtual 105, 3) := by decide +kernel
theorem dL_law_1449 : decode cL_law 1449 = .ok (.iload 5, 2) := by decide +kernel
theorem dL_law_1451 : decode cL_law 1451 = .ok (.if_icmp .eq 5, 3) := by decide +kernel
theorem dL_law_1454 : decode cL_law 1454 = .ok (.iconst 0, 1) := by decide +kernel
theorem dL_law_1455 : decode cL_law 1455 = .ok (.ireturn, 1) := by decide +kernel
theorem dL_law_1456 : decode cL_law 1456 = .ok (.iload 5, 2) := by decide +kernel
theorem dL_law_1458 : decode cL_law 1458 = .ok (.ifCond .ne 15, 3) := by decide +kernel
theorem dL_law_1461 : decode cL_law 1461 = .ok (.aload_n 3, 1) := by decide +kernel
theorem dL_law_1462 : decode cL_law 1462 = .ok (.iconst 0, 1) := by decide +kernel
theorem dL_law_1463 : decode cL_law 1463 = .ok (.laload, 1) := by decide +kernel
theorem dL_law_1464 : decode cL_law 1464 = .ok (.iload 6, 2) := by decide +kernel
theorem dL_law_1466 : decode cL_law 1466 = .ok (.i2l, 1) := by decide +kernel
theorem dL_law_1467 : decode cL_law 1467 = .ok (.lcmp, 1) := by decide +kernel
theorem dL_law_1468 : decode cL_law 1468 = .ok (.ifCond .eq 5, 3) := by decide +kernel
theorem dL_law_1471 : decode cL_law 1471 = .ok (.iconst 0, 1) := by decide +kernel
theorem dL_law_1472 : decode cL_law 1472 = .ok (.ireturn, 1) := by decide +kernel
theorem dL_law_1473 : decode cL_law 1473 = .ok (.goto 297, 3) := by decide +kernel
theorem dL_law_1476 : decode cL_law 1476 = .ok (.aload_n 1, 1) := by decide +kernel
theorem dL_law_1477 : decode cL_law 1477 = .ok (.aload_n 0, 1) := by decide +kernel
theorem dL_law_1478 : decode cL_law 1478 = .ok (.iload 4, 2) := by decide +kernel
theorem dL_law_1480 : decode cL_law 1480 = .ok (.iconst 1, 1) := by decide +kernel
theorem dL_law_1481 : decode cL_law 1481 = .ok (.iadd, 1) := by decide +kernel
theorem dL_law_1482 : decode cL_law 1482 = .ok (.iaload, 1) := by decide +kernel
theorem dL_law_1483 : decode cL_law 1483 = .ok (.aload_n 3, 1) := by decide +kernel
theorem dL_law_1484 : decode cL_law 1484 = .ok (.invokestatic 194, 3) := by decide +kernel
theorem dL_law_1487 : decode cL_law 1487 = .ok (.istore 5, 2) := by decide +kernel
theorem dL_law_1489 : decode cL_law 1489 = .ok (.aload_n 2, 1) := by decide +kernel
theorem dL_law_1490 : decode cL_law 1490 = .ok (.aload_n 0, 1) := by decide +kernel
theorem dL_law_1491 : decode cL_law 1491 = .ok (.iload 4, 2) := by decide +kernel
theorem dL_law_1493 : decode cL_law 1493 = .ok (.iconst 1, 1) := by decide +kernel
theorem dL_law_1494 : decode cL_law 1494 = .ok (.iadd, 1) := by decide +kernel
theorem dL_law_1495 : decode cL_law 1495 = .ok (.iaload, 1) := by decide +kernel
theorem dL_law_1496 : decode cL_law 1496 = .ok (.invokevirtual 196, 3) := by decide +kernel
theorem dL_law_1499 : decode cL_law 1499 = .ok (.istore 6, 2) := by decide +kernel
theorem dL_law_1501 : decode cL_law 1501 = .ok (.aload_n 2, 1) := by decide +kernel
theorem dL_law_1502 : decode cL_law 1502 = .ok (.invokevirtual 105, 3) := by decide +kernel
theorem dL_law_1505 : decode cL_law 1505 = .ok (.iload 5, 2) := by decide +kernel
theorem dL_law_1507 : decode cL_law 1507 = .ok (.if_icmp .eq 5, 3) := by decide +kernel
theorem dL_law_1510 : decode cL_law 1510 = .ok (.iconst 0, 1) := by decide +kernel
theorem dL_law_1511 : decode cL_law 1511 = .ok (.ireturn, 1) := by decide +kernel
theorem dL_law_1512 : decode cL_law 1512 = .ok (.iload 5, 2) := by decide +kernel
theorem dL_law_1514 : decode cL_law 1514 = .ok (.ifCond .ne 15, 3) := by decide +kernel
theorem dL_law_1517 : decode cL_law 1517 = .ok (.aload_n 3, 1) := by decide +kernel
theorem dL_law_1518 : decode cL_law 1518 = .ok (.iconst 0, 1) := by decide +kernel
theorem dL_law_1519 : decode cL_law 1519 = .ok (.laload, 1) := by decide +kernel
theorem dL_law_1520 : decode cL_law 1520 = .ok (.iload 6, 2) := by decide +kernel
theorem dL_law_1522 : decode cL_law 1522 = .ok (.i2l, 1) := by decide +kernel
theorem dL_law_1523 : decode cL_law 1523 = .ok (.lcmp, 1) := by decide +kernel
theorem dL_law_1524 : decode cL_law 1524 = .ok (.ifCond .eq 5, 3) := by decide +kernel
theorem dL_law_1527 : decode cL_law 1527 = .ok (.iconst 0, 1) := by decide +kernel
theorem dL_law_1528 : decode cL_law 1528 = .ok (.ireturn, 1) := by decide +kernel
theorem dL_law_1529 : decode cL_law 1529 = .ok (.goto 241, 3) := by decide +kernel
theorem dL_law_1532 : decode cL_law 1532 = .ok (.aload_n 1, 1) := by decide +kernel
theorem dL_law_1533 : decode cL_law 1533 = .ok (.invokevirtual 197, 3) := by decide +kernel
theorem dL_law_1536 : decode cL_law 1536 = .ok (.dstore 5, 2) := by decide +kernel
theorem dL_law_1538 : decode cL_law 1538 = .ok (.aload_n 2, 1) := by decide +kernel
theorem dL_law_1539 : decode cL_law 1539 = .ok (.invokevirtual 201, 3) := by decide +kernel
theorem dL_law_1542 : decode cL_law 1542 = .ok (.dstore 7, 2) := by decide +kernel
theorem dL_law_1544 : decode cL_law 1544 = .ok (.dload 5, 2) := by decide +kernel
theorem dL_law_1546 : decode cL_law 1546 = .ok (.dload 7, 2) := by decide +kernel
theorem dL_law_1548 : decode cL_law 1548 = .ok (.dcmp .l, 1) := by decide +kernel
theorem dL_law_1549 : decode cL_law 1549 = .ok (.ifCond .eq 21, 3) := by decide +kernel
theorem dL_law_1552 : decode cL_law 1552 = .ok (.dload 5, 2) := by decide +kernel
theorem dL_law_1554 : decode cL_law 1554 = .ok (.dload 5, 2) := by decide +kernel
theorem dL_law_1556 : decode cL_law 1556 = .ok (.dcmp .l, 1) := by decide +kernel
theorem dL_law_1557 : decode cL_law 1557 = .ok (.ifCond .eq 11, 3) := by decide +kernel
theorem dL_law_1560 : decode cL_law 1560 = .ok (.dload 7, 2) := by decide +kernel
theorem dL_law_1562 : decode cL_law 1562 = .ok (.dload 7, 2) := by decide +kernel
theorem dL_law_1564 : decode cL_law 1564 = .ok (.dcmp .l, 1) := by decide +kernel
theorem dL_law_1565 : decode cL_law 1565 = .ok (.ifCond .ne 5, 3) := by decide +kernel
theorem dL_law_1568 : decode cL_law 1568 = .ok (.iconst 0, 1) := by decide +kernel
theorem dL_law_1569 : decode cL_law 1569 = .ok (.ireturn, 1) := by decide +kernel
theorem dL_law_1570 : decode cL_law 1570 = .ok (.goto 200, 3) := by decide +kernel
theorem dL_law_1573 : decode cL_law 1573 = .ok (.aload_n 1, 1) := by decide +kernel
theorem dL_law_1574 : decode cL_law 1574 = .ok (.aload_n 0, 1) := by decide +kernel
theorem dL_law_1575 : decode cL_law 1575 = .ok (.iload 4, 2) := by decide +kernel
theorem dL_law_1577 : decode cL_law 1577 = .ok (.iconst 1, 1) := by decide +kernel
theorem dL_law_1578 : decode cL_law 1578 = .ok (.iadd, 1) := by decide +kernel
theorem dL_law_1579 : decode cL_law 1579 = .ok (.iaload, 1) := by decide +kernel
theorem dL_law_1580 : decode cL_law 1580 = .ok (.aload_n 3, 1) := by decide +kernel
theorem dL_law_1581 : decode cL_law 1581 = .ok (.invokestatic 202, 3) := by decide +kernel
theorem dL_law_1584 : decode cL_law 1584 = .ok (.istore 5, 2) := by decide +kernel
theorem dL_law_1586 : decode cL_law 1586 = .ok (.aload_n 2, 1) := by decide +kernel
theorem dL_law_1587 : decode cL_law 1587 = .ok (.aload_n 0, 1) := by decide +kernel
theorem dL_law_1588 : decode cL_law 1588 = .ok (.iload 4, 2) := by decide +kernel
theorem dL_law_1590 : decode cL_law 1590 = .ok (.iconst 1, 1) := by decide +kernel
theorem dL_law_1591 : decode cL_law 1591 = .ok (.iadd, 1) := by decide +kernel
theorem dL_law_1592 : decode cL_law 1592 = .ok (.iaload, 1) := by decide +kernel
theorem dL_law_1593 : decode cL_law 1593 = .ok (.invokevirtual 204, 3) := by decide +kernel
theorem dL_law_1596 : decode cL_law 1596 = .ok (.istore 6, 2) := by decide +kernel
theorem dL_law_1598 : decode cL_law 1598 = .ok (.aload_n 2, 1) := by decide +kernel
theorem dL_law_1599 : decode cL_law 1599 = .ok (.invokevirtual 105, 3) := by decide +kernel
theorem dL_law_1602 : decode cL_law 1602 = .ok (.iload 5, 2) := by decide +kernel
theorem dL_law_1604 : decode cL_law 1604 = .ok (.if_icmp .eq 5, 3) := by decide +kernel
theorem dL_law_1607 : decode cL_law 1607 = .ok (.iconst 0, 1) := by decide +kernel
theorem dL_law_1608 : decode cL_law 1608 = .ok (.ireturn, 1) := by decide +kernel
theorem dL_law_1609 : decode cL_law 1609 = .ok (.iload 5, 2) := by decide +kernel
theorem dL_law_1611 : decode cL_law 1611 = .ok (.ifCond .ne 15, 3) := by decide +kernel
theorem dL_law_1614 : decode cL_law 1614 = .ok (.aload_n 3, 1) := by decide +kernel
theorem dL_law_1615 : decode cL_law 1615 = .ok (.iconst 0, 1) := by decide +kernel
theorem dL_law_1616 : decode cL_law 1616 = .ok (.laload, 1) := by decide +kernel
theorem dL_law_1617 : decode cL_law 1617 = .ok (.iload 6, 2) := by decide +kernel
theorem dL_law_1619 : decode cL_law 1619 = .ok (.i2l, 1) := by decide +kernel
theorem dL_law_1620 : decode cL_law 1620 = .ok (.lcmp, 1) := by decide +kernel
theorem dL_law_1621 : decode cL_law 1621 = .ok (.ifCond .eq 5, 3) := by decide +kernel
theorem dL_law_1624 : decode cL_law 1624 = .ok (.iconst 0, 1) := by decide +kernel
theorem dL_law_1625 : decode cL_law 1625 = .ok (.ireturn, 1) := by decide +kernel
theorem dL_law_1626 : decode cL_law 1626 = .ok (.goto 144, 3) := by decide +kernel
theorem dL_law_1629 : decode cL_law 1629 = .ok (.aload_n 1, 1) := by decide +kernel
theorem dL_law_1630 : decode cL_law 1630 = .ok (.invokevirtual 205, 3) := by decide +kernel
theorem dL_law_1633 : decode cL_law 1633 = .ok (.aload_n 2, 1) := by decide +kernel
theorem dL_law_1634 : decode cL_law 1634 = .ok (.invokevirtual 208, 3) := by decide +kernel
theorem dL_law_1637 : decode cL_law 1637 = .ok (.if_icmp .eq 133, 3) := by decide +kernel
theorem dL_law_1640 : decode cL_law 1640 = .ok (.iconst 0, 1) := by decide +kernel
theorem dL_law_1641 : decode cL_law 1641 = .ok (.ireturn, 1) := by decide +kernel
theorem dL_law_1642 : decode cL_law 1642 = .ok (.aload_n 1, 1) := by decide +kernel
theorem dL_law_1643 : decode cL_law 1643 = .ok (.invokevirtual 209, 3) := by decide +kernel
theorem dL_law_1646 : decode cL_law 1646 = .ok (.aload_n 2, 1) := by decide +kernel
theorem dL_law_1647 : decode cL_law 1647 = .ok (.invokevirtual 212, 3) := by decide +kernel
theorem dL_law_1650 : decode cL_law 1650 = .ok (.if_icmp .eq 120, 3) := by decide +kernel
theorem dL_law_1653 : decode cL_law 1653 = .ok (.iconst 0, 1) := by decide +kernel
theorem dL_law_1654 : decode cL_law 1654 = .ok (.ireturn, 1) := by decide +kernel
theorem dL_law_1655 : decode cL_law 1655 = .ok (.aload_n 1, 1) := by decide +kernel
theorem dL_law_1656 : decode cL_law 1656 = .ok (.aload_n 3, 1) := by decide +kernel
theorem dL_law_1657 : decode cL_law 1657 = .ok (.invokestatic 213, 3) := by decide +kernel
theorem dL_law_1660 : decode cL_law 1660 = .ok (.istore 5, 2) := by decide +kernel
theorem dL_law_1662 : decode cL_law 1662 = .ok (.aload_n 2, 1) := by decide +kernel
theorem dL_law_1663 : decode cL_law 1663 = .ok (.invokevirtual 215, 3) := by decide +kernel
theorem dL_law_1666 : decode cL_law 1666 = .ok (.istore 6, 2) := by decide +kernel
theorem dL_law_1668 : decode cL_law 1668 = .ok (.aload_n 2, 1) := by decide +kernel
theorem dL_law_1669 : decode cL_law 1669 = .ok (.invokevirtual 105, 3) := by decide +kernel
theorem dL_law_1672 : decode cL_law 1672 = .ok (.iload 5, 2) := by decide +kernel
theorem dL_law_1674 : decode cL_law 1674 = .ok (.if_icmp .eq 5, 3) := by decide +kernel
theorem dL_law_1677 : decode cL_law 1677 = .ok (.iconst 0, 1) := by decide +kernel
theorem dL_law_1678 : decode cL_law 1678 = .ok (.ireturn, 1) := by decide +kernel
theorem dL_law_1679 : decode cL_law 1679 = .ok (.iload 5, 2) := by decide +kernel
theorem dL_law_1681 : decode cL_law 1681 = .ok (.ifCond .ne 15, 3) := by decide +kernel
theorem dL_law_1684 : decode cL_law 1684 = .ok (.aload_n 3, 1) := by decide +kernel
theorem dL_law_1685 : decode cL_law 1685 = .ok (.iconst 0, 1) := by decide +kernel
theorem dL_law_1686 : decode cL_law 1686 = .ok (.laload, 1) := by decide +kernel
theorem dL_law_1687 : decode cL_law 1687 = .ok (.iload 6, 2) := by decide +kernel
theorem dL_law_1689 : decode cL_law 1689 = .ok (.i2l, 1) := by decide +kernel
theorem dL_law_1690 : decode cL_law 1690 = .ok (.lcmp, 1) := by decide +kernel
theorem dL_law_1691 : decode cL_law 1691 = .ok (.ifCond .eq 5, 3) := by decide +kernel
theorem dL_law_1694 : decode cL_law 1694 = .ok (.iconst 0, 1) := by decide +kernel
theorem dL_law_1695 : decode cL_law 1695 = .ok (.ireturn, 1) := by decide +kernel
theorem dL_law_1696 : decode cL_law 1696 = .ok (.goto 74, 3) := by decide +kernel
theorem dL_law_1699 : decode cL_law 1699 = .ok (.aload_n 1, 1) := by decide +kernel
theorem dL_law_1700 : decode cL_law 1700 = .ok (.aload_n 3, 1) := by decide +kernel
theorem dL_law_1701 : decode cL_law 1701 = .ok (.invokestatic 216, 3) := by decide +kernel
theorem dL_law_1704 : decode cL_law 1704 = .ok (.istore 5, 2) := by decide +kernel
theorem dL_law_1706 : decode cL_law 1706 = .ok (.aload_n 2, 1) := by decide +kernel
theorem dL_law_1707 : decode cL_law 1707 = .ok (.invokevirtual 218, 3) := by decide +kernel
theorem dL_law_1710 : decode cL_law 1710 = .ok (.istore 6, 2) := by decide +kernel
theorem dL_law_1712 : decode cL_law 1712 = .ok (.aload_n 2, 1) := by decide +kernel
theorem dL_law_1713 : decode cL_law 1713 = .ok (.invokevirtual 105, 3) := by decide +kernel
theorem dL_law_1716 : decode cL_law 1716 = .ok (.iload 5, 2) := by decide +kernel
theorem dL_law_1718 : decode cL_law 1718 = .ok (.if_icmp .eq 5, 3) := by decide +kernel
theorem dL_law_1721 : decode cL_law 1721 = .ok (.iconst 0, 1) := by decide +kernel
theorem dL_law_1722 : decode cL_law 1722 = .ok (.ireturn, 1) := by decide +kernel
theorem dL_law_1723 : decode cL_law 1723 = .ok (.iload 5, 2) := by decide +kernel
theorem dL_law_1725 : decode cL_law 1725 = .ok (.ifCond .ne 15, 3) := by decide +kernel
theorem dL_law_1728 : decode cL_law 1728 = .ok (.aload_n 3, 1) := by decide +kernel
theorem dL_law_1729 : decode cL_law 1729 = .ok (.iconst 0, 1) := by decide +kernel
theorem dL_law_1730 : decode cL_law 1730 = .ok (.laload, 1) := by decide +kernel
theorem dL_law_1731 : decode cL_law 1731 = .ok (.iload 6, 2) := by decide +kernel
theorem dL_law_1733 : decode cL_law 1733 = .ok (.i2l, 1) := by decide +kernel
theorem dL_law_1734 : decode cL_law 1734 = .ok (.lcmp, 1) := by decide +kernel
theorem dL_law_1735 : decode cL_law 1735 = .ok (.ifCond .eq 5, 3) := by decide +kernel
theorem dL_law_1738 : decode cL_law 1738 = .ok (.iconst 0, 1) := by decide +kernel
theorem dL_law_1739 : decode cL_law 1739 = .ok (.ireturn, 1) := by decide +kernel
theorem dL_law_1740 : decode cL_law 1740 = .ok (.goto 30, 3) := by decide +kernel
theorem dL_law_1743 : decode cL_law 1743 = .ok (.aload_n 1, 1) := by decide +kernel
theorem dL_law_1744 : decode cL_law 1744 = .ok (.invokevirtual 219, 3) := by decide +kernel
theorem dL_law_1747 : decode cL_law 1747 = .ok (.aload_n 2, 1) := by decide +kernel
theorem dL_law_1748 : decode cL_law 1748 = .ok (.invokevirtual 222, 3) := by decide +kernel
theorem dL_law_1751 : decode cL_law 1751 = .ok (.if_icmp .eq 19, 3) := by decide +kernel
theorem dL_law_1754 : decode cL_law 1754 = .ok (.iconst 0, 1) := by decide +kernel
theorem dL_law_1755 : decode cL_law 1755 = .ok (.ireturn, 1) := by decide +kernel
theorem dL_law_1756 : decode cL_law 1756 = .ok (.aload_n 1, 1) := by decide +kernel
theorem dL_law_1757 : decode cL_law 1757 = .ok (.invokevirtual 223, 3) := by decide +kernel
theorem dL_law_1760 : decode cL_law 1760 = .ok (.aload_n 2, 1) := by decide +kernel
theorem dL_law_1761 : decode cL_law 1761 = .ok (.invokevirtual 227, 3) := by decide +kernel
theorem dL_law_1764 : decode cL_law 1764 = .ok (.lcmp, 1) := by decide +kernel
theorem dL_law_1765 : decode cL_law 1765 = .ok (.ifCond .eq 5, 3) := by decide +kernel
theorem dL_law_1768 : decode cL_law 1768 = .ok (.iconst 0, 1) := by decide +kernel
theorem dL_law_1769 : decode cL_law 1769 = .ok (.ireturn, 1) := by decide +kernel
theorem dL_law_1770 : decode cL_law 1770 = .ok (.iinc 4 3, 3) := by decide +kernel
theorem dL_law_1773 : decode cL_law 1773 = .ok (.goto (-1750), 3) := by decide +kernel
theorem dL_law_1776 : decode cL_law 1776 = .ok (.iconst 1, 1) := by decide +kernel
theorem dL_law_1777 : decode cL_law 1777 = .ok (.ireturn, 1) := by decide +kernel
end
section
/-! ===== the abstract world, and the judgement V over it ===== -/
abbrev G0 : Type := Launch × (Nat × Nat × Nat × (Nat → Int32)) × va_G × (ClassId × ClassId × ClassId × ClassId)
abbrev gl (g : G0) : Launch := g.1
abbrev gB (g : G0) : Nat := g.2.1.1
abbrev gb (g : G0) : Nat := g.2.1.2.1
abbrev gL (g : G0) : Nat := g.2.1.2.2.1
abbrev gx (g : G0) : Nat → Int32 := g.2.1.2.2.2
abbrev gD (g : G0) : va_G := g.2.2.1
abbrev gcI (g : G0) : ClassId := g.2.2.2.1
abbrev gcJ (g : G0) : ClassId := g.2.2.2.2.1
abbrev gcS (g : G0) : ClassId := g.2.2.2.2.2.1
abbrev gcF (g : G0) : ClassId := g.2.2.2.2.2.2
/-- the place 999 is the script; every other place is an offset from the heap's size at the law's entry -/
def ad (g : G0) (k : Nat) : Nat := if k = 999 then gb g else gB g + k
def cv (g : G0) (v : Value) : Value := match v with
  | .ref k => .ref (ad g k)
  | v => v
abbrev Wd : Type := Nat × (Nat → Nat × Nat) × (Nat → Nat → Int32) × (Nat → Nat → Int64) × (Nat → Nat → Option Nat)
abbrev wN (w : Wd) : Nat := w.1
abbrev wS (w : Wd) : Nat → Nat × Nat := w.2.1
abbrev wI (w : Wd) : Nat → Nat → Int32 := w.2.2.1
abbrev wJ (w : Wd) : Nat → Nat → Int64 := w.2.2.2.1
abbrev wR (w : Wd) : Nat → Nat → Option Nat := w.2.2.2.2
def up2 {α : Type} (f : Nat → Nat → α) (k i : Nat) (v : α) : Nat → Nat → α := fun a b => if a = k ∧ b = i then v else f a b
abbrev sI (w : Wd) (k i : Nat) (v : Int32) : Wd := (wN w, wS w, up2 (wI w) k i v, wJ w, wR w)
abbrev sJ (w : Wd) (k i : Nat) (v : Int64) : Wd := (wN w, wS w, wI w, up2 (wJ w) k i v, wR w)
abbrev sR (w : Wd) (k i : Nat) (v : Option Nat) : Wd := (wN w, wS w, wI w, wJ w, up2 (wR w) k i v)
def tX (c : Nat) : Nat → FieldType := match c with
  | 0 => tyX0
  | 1 => tyX1
  | 2 => tyX2
  | 3 => tyX3
  | 4 => tyX4
  | 5 => tyX5
  | 6 => tyX6
  | _ => tyX7
def nX (c : Nat) : Nat := match c with
  | 0 => 6
  | 1 => 7
  | 2 => 2
  | 3 => 4
  | 4 => 3
  | 5 => 2
  | 6 => 3
  | _ => 10
def TX (c : Nat) : u_T := match c with
  | 0 => TX0
  | 1 => TX1
  | 2 => TX2
  | 3 => TX3
  | 4 => TX4
  | 5 => TX5
  | 6 => TX6
  | _ => TX7
def RX (c : Nat) : String := match c with
  | 0 => RX0
  | 1 => RX1
  | 2 => RX2
  | 3 => RX3
  | 4 => RX4
  | 5 => RX5
  | 6 => RX6
  | _ => RX7
def fv (g : G0) (w : Wd) (k f : Nat) (t : FieldType) : Value := match t with
  | .long => .long (wJ w k f)
  | .object _ => va_rf ((wR w k f).map (ad g))
  | .array _ => va_rf ((wR w k f).map (ad g))
  | _ => .int (wI w k f)
def ce (g : G0) (w : Wd) (k : Nat) : va_E :=
  if (wS w k).1 = 10 then .inl (gcI g, (wS w k).2, .inl (wI w k))
  else if (wS w k).1 = 11 then .inl (gcJ g, (wS w k).2, .inr (.inl (wJ w k)))
  else if (wS w k).1 = 12 then .inl (gcS g, (wS w k).2, .inr (.inr (.inr (.inr (fun i => (wR w k i).map (ad g))))))
  else if (wS w k).1 = 13 then .inl (gcF g, (wS w k).2, .inr (.inr (.inr (.inr (fun i => (wR w k i).map (ad g))))))
  else .inr ((wS w k).1, (List.range (nX (wS w k).1)).map (fun f => fv g w k f (tX (wS w k).1 f)))
def wl (g : G0) (w : Wd) : va_W := (List.range (wN w)).map (fun k => (ad g k, ce g w k))
theorem wl_at {g : G0} {w : Wd} {k : Nat} (h : k < wN w) : (wl g w)[k]? = some (ad g k, ce g w k) := by
  unfold wl
  rw [List.getElem?_map, List.getElem?_range h]; rfl
theorem wl_len (g : G0) (w : Wd) : (wl g w).length = wN w := by unfold wl; simp
theorem wl_set {g : G0} {w w' : Wd} {k : Nat} (hn : wN w' = wN w) (hk : k < wN w) (ho : ∀ j, j ≠ k → ce g w' j = ce g w j) : (wl g w).set k (ad g k, ce g w' k) = wl g w' := by
  refine List.ext_getElem? fun j => ?_
  rcases Nat.lt_or_ge j (wN w) with hj | hj
  · rw [wl_at (w := w') (by omega)]
    by_cases h : j = k
    · subst h
      rw [List.getElem?_set_self (by rw [wl_len]; exact hk)]
    · rw [List.getElem?_set_ne (fun z => h z.symm), wl_at hj, ho j h]
  · rw [List.getElem?_eq_none (by rw [List.length_set, wl_len]; exact hj), List.getElem?_eq_none (by rw [wl_len, hn]; exact hj)]
theorem wl_push {g : G0} {w w' : Wd} (hn : wN w' = wN w + 1) (ho : ∀ j, j < wN w → ce g w' j = ce g w j) : wl g w ++ [(ad g (wN w), ce g w' (wN w))] = wl g w' := by
  unfold wl
  rw [hn, List.range_succ, List.map_append]
  congr 1
  refine List.map_congr_left fun j hj => ?_
  rw [ho j (List.mem_range.mp hj)]
theorem ad_lt {g : G0} {k : Nat} (h : k < 999) : ad g k = gB g + k := if_neg (by omega)
abbrev gA (g : G0) : Nat → Prop := fun q => gB g ≤ q
theorem wl_D {g : G0} {w : Wd} (h : wN w ≤ 900) : va_D (gA g) (wl g w) := by
  have key : ∀ (i : Nat) (p : Nat × va_E), (wl g w)[i]? = some p → i < wN w ∧ p.1 = gB g + i := by
    intro i p hi
    have hl : i < wN w := by rw [← wl_len g w]; exact (List.getElem?_eq_some_iff.mp hi).1
    rw [wl_at hl] at hi
    cases hi
    exact ⟨hl, ad_lt (by omega)⟩
  refine ⟨fun i j p q hi hj e => ?_, fun k q hk => ?_⟩
  · have a := key i p hi
    have b := key j q hj
    omega
  · have a := key k q hk
    show gB g ≤ q.1
    omega
/-- the world w stands in the heap H -/
def Hd (g : G0) (w : Wd) (H : Heap) : Prop := va_P (gD g) vwCl (wl g w) H ∧ wN w ≤ 900 ∧ gB g + wN w ≤ H.size
abbrev gT (g : G0) : List (ClassId × FieldType) := [(gcI g, .int), (gcJ g, .long), (gcS g, .object RX5), (gcF g, .object RX1)]
def isNest (w : Cond) : Bool := match w with
  | .fieldLinkNest _ _ _ _ _ _ => true
  | .methodLinkNest _ _ _ _ => true
  | _ => false
def okW (w : Cond) : Bool := goodWord w || isNest w
def TW : List Cond := lw_tbl.filter okW
/-- the String constants of the class: owner, place -/
def strs : List (String × Nat × String) := [("StreetEditions", 266, "there is no such street"), ("StreetEditions", 46, "the street is in the draft"), ("StreetEditions", 65, "the street is not in the draft"), ("StreetEditions", 74, "the draft is the published list"), ("StreetEditions", 87, "the edition is out of range or the present one"), ("StreetEditions", 93, "the count is out of range"), ("StreetEditions", 269, "there is no such difference"), ("StreetEditions", 142, "an edition number is out of range"), ("StreetEditions", 274, "there is no such follower"), ("StreetEditions", 276, "the follower is asleep"), ("StreetEditions", 172, "the follower is awake"), ("StreetEditions", 208, "the code is out of range"), ("StreetEditions", 213, "the buffer is full"), ("StreetEditions", 227, "the buffer is not a complete order text"), ("StreetEditions", 234, "no state is saved")]
def ncs : List (String × String) := [("java/lang/IllegalStateException", "java/lang/IndexOutOfBoundsException"), ("java/lang/IllegalStateException", "java/lang/IllegalArgumentException")]
/-- what the walk knows of the tables and of the cells that are not its own -/
def En (g : G0) (s : State) (H : Heap) : Prop :=
  va_K (gD g) vwCl (gT g) s ∧ (∀ w ∈ TW, ∀ a : Array Value, w.before a s = true) ∧ (∀ q ∈ strs, ∃ sa : Nat, vk_R q.1 q.2.1 q.2.2 sa s) ∧ (∀ q ∈ ncs, va_Nc q.1 q.2 s) ∧
  vx_Zq Bundle.tN "UNASSIGNED_STACK" Bundle.steD (gA g) s H ∧ vx_Zq Bundle.tN "SUPPRESSED_SENTINEL" Bundle.listD (gA g) s H ∧ va_X (gb g) (gL g) (gx g) s H ∧ gb g < gB g ∧ gB g ≤ H.size ∧ (gl g).stackTraces = false
theorem En.moved {g : G0} {s U : State} {H : Heap} (hW : s.WarmedH U.vm) (h : En g s H) : En g U H := by
  obtain ⟨h1, h2, h3, h4, h5, h6, h7, h8⟩ := h
  refine ⟨va_K.moved hW.alike h1, fun w hw a => ?_, fun q hq => ?_, fun q hq => va_Nc.moved hW.alike (h4 q hq), vx_Zq.moved hW.alike h5, vx_Zq.moved hW.alike h6, va_X.moved hW.alike h7, h8⟩
  · have h9 := h2 w hw #[]
    have ho : okW w = true := (List.mem_filter.mp hw).2
    unfold okW at ho
    rw [Bool.or_eq_true] at ho
    rcases ho with ho | ho
    · exact word_at hW (good_of_word ho) h9
    · cases w <;> simp only [isNest] at ho <;> first | cases ho | skip
      · exact va_Nw.use rfl (va_Nw.warmM hW h9)
      · exact va_Nw.use rfl (va_Nw.warmF hW h9)
  · obtain ⟨sa, h9⟩ := h3 q hq
    exact ⟨sa, vk_R.warm hW h9⟩
theorem En.kept {g : G0} {s : State} {H H1 : Heap} (h : En g s H) (hz : H.size ≤ H1.size) (hq : ∀ a : Nat, a < H.size → ¬ gA g a → H1[a]? = H[a]?) : En g s H1 := by
  obtain ⟨h1, h2, h3, h4, h5, h6, h7, h8, h9, h10⟩ := h
  exact ⟨h1, h2, h3, h4, h5.kept hq, h6.kept hq, h7.kept (hq _ (by omega) (by show ¬ gB g ≤ gb g; omega)), h8, Nat.le_trans h9 hz, h10⟩
theorem Hd.P {g : G0} {w : Wd} {H : Heap} (h : Hd g w H) : va_P (gD g) vwCl (wl g w) H := h.1
theorem Hd.D {g : G0} {w : Wd} {H : Heap} (h : Hd g w H) : va_D (gA g) (wl g w) := wl_D h.2.1
/-- a method: name, code, locals, result, handlers -/
abbrev M0 : Type := MethodName × ByteArray × Nat × Option FieldType × List (Nat × Nat × Nat × Nat)
abbrev M0.nm (M : M0) : MethodName := M.1
abbrev M0.co (M : M0) : ByteArray := M.2.1
abbrev M0.ml (M : M0) : Nat := M.2.2.1
abbrev M0.rt (M : M0) : Option FieldType := M.2.2.2.1
abbrev M0.hh (M : M0) : List (Nat × Nat × Nat × Nat) := M.2.2.2.2
def Am (g : G0) (M : M0) (p : Program) (s : State) (m : MethodId) (meth : Method) (c : Code) : Prop :=
  p.tables.exec = Jvm.exec ∧ c.code = M.co ∧ c.maxLocals = M.ml ∧ meth.sig.returnType = M.rt ∧ s.vm.findClass M.nm.cls = some m.cls ∧ meth.locks = false ∧ meth.name = M.nm.name ∧ c.exceptionTable.toList = tableOf M.hh ∧ En g s s.heap
def lcl (g : G0) : Nat → List (Option Value) → List (Nat × Value)
  | _, [] => []
  | i, none :: t => lcl g (i + 1) t
  | i, some v :: t => (i, cv g v) :: lcl g (i + 1) t
def At0 (g : G0) (M : M0) (op : Bool) (w : Wd) (s : State) (H : Heap) (locs : List Loc) (cells slots mc ms kc ks : Nat) (ls : Array Slot) (L : List (Option Value)) : Prop :=
  lv_has ls M.ml (lcl g 0 L) ∧ Hd g w H ∧ (op = true → H.size = gB g + wN w) ∧ va_S (gA g) s.heap H locs ∧ cells + kc ≤ mc ∧ slots + ks ≤ ms
abbrev K0 : Type := List Frame → Array Value → State → Nat → Nat → State → Prop
/-- from here the method M comes to K; d frames, kc cells, ks slots are left to it -/
def V (g : G0) (M : M0) (d kc ks : Nat) (op : Bool) (K : K0) (pc : Nat) (L : List (Option Value)) (S : List Value) (w : Wd) : Prop :=
  ∀ (p : Program) (e : Env) (s : State) (m : MethodId) (args : Array Value) (below : List Frame) (meth : Method) (c : Code) (H : Heap) (locs : List Loc) (cells slots : Nat) (ls : Array Slot) (mc ms : Nat),
    Am g M p s m meth c → At0 g M op w s H locs cells slots mc ms kc ks ls L →
    W p (gl g) e { frames := d, cells := mc, slots := ms, locals := 36 * d } s m args below meth c H locs cells slots (K below args s mc ms) (F0 m pc ls (S.map (cv g)))
abbrev Res : Type := Option Value ⊕ String
def QcR (g : G0) (op : Bool) (P : Res → Wd → Prop) : Array Value → State → Outcome → State → Prop := fun _ st o t =>
  ∃ (v : Option Value) (w' : Wd), o = .returned (v.map (cv g)) ∧ P (.inl v) w' ∧ Hd g w' t.heap ∧ (op = true → t.heap.size = gB g + wN w') ∧ va_F (gA g) st t
def XcR (g : G0) (P : Res → Wd → Prop) : String → State → State → Prop := fun E st t => ∃ w' : Wd, P (.inr E) w' ∧ Hd g w' t.heap ∧ va_F (gA g) st t
def Kp (g : G0) (op : Bool) (P : Res → Wd → Prop) : K0 := fun below args s mc ms => vx_MQ below (QcR g op P) (XcR g P) args s mc ms (gA g)
def ini : List Value → List (Option Value)
  | [] => []
  | .long x :: t => some (.long x) :: none :: ini t
  | .double x :: t => some (.double x) :: none :: ini t
  | v :: t => some v :: ini t
def PcR (g : G0) (op : Bool) (args : List Value) (w : Wd) : Array Value → State → Prop := fun a U => a = (args.map (cv g)).toArray ∧ En g U U.heap ∧ Hd g w U.heap ∧ (op = true → U.heap.size = gB g + wN w)
theorem PcR.blind (g : G0) (op : Bool) (args : List Value) (w : Wd) : FrameBlind (PcR g op args w) := by
  intro a U f mk h
  obtain ⟨h1, h2, h3, h4⟩ := h
  exact ⟨h1, En.moved (s := U) (U := U.calling f mk a) (State.WarmedH.refl U) h2, h3, h4⟩
theorem cv_cat (g : G0) (v : Value) : (cv g v).category = v.category := by cases v <;> rfl
theorem lcl_args (g : G0) : ∀ (args : List Value) (i : Nat) (n : Nat), lcl g i (ini args ++ List.replicate n none) = lv_args i (args.map (cv g)) := by
  have rep : ∀ (n i : Nat), lcl g i (List.replicate n none) = [] := by
    intro n
    induction n with
    | zero => intro i; rfl
    | succ n ih => intro i; rw [List.replicate_succ]; exact ih (i + 1)
  intro args
  induction args with
  | nil => intro i n; exact rep n i
  | cons v t ih =>
    intro i n
    cases v <;> simp [ini, lcl, lv_args, cv, Value.category, ih]
end
section
section RULES
variable {g : G0} {M : M0} {d kc ks : Nat} {op : Bool} {K : K0} {pc : Nat} {L : List (Option Value)} {S : List Value} {w : Wd}
theorem V_iconst {n : Int} {v : Int32} (hv : Int32.ofInt n = v) (hd : decode M.co pc = .ok (.iconst n, 1)) (kk : V g M d kc ks op K (pc + 1) L (.int v :: S) w) : V g M d kc ks op K pc L S w := by
  intro p e s m args below meth c H locs cells slots ls mc ms A Z
  obtain ⟨hx, hb, hml, hr, hown, hlk, hnm, htb, hE⟩ := id A
  obtain ⟨hl, hH, hop, hS, hkc, hks⟩ := id Z
  exact lv_iconst hx hb hd hv (kk p e s m args below meth c H locs cells slots ls mc ms A Z)
theorem V_bipush {n : Int} {v : Int32} (hv : (Int8.ofInt n).toInt32 = v) (hd : decode M.co pc = .ok (.bipush n, 2)) (kk : V g M d kc ks op K (pc + 2) L (.int v :: S) w) : V g M d kc ks op K pc L S w := by
  intro p e s m args below meth c H locs cells slots ls mc ms A Z
  obtain ⟨hx, hb, hml, hr, hown, hlk, hnm, htb, hE⟩ := id A
  obtain ⟨hl, hH, hop, hS, hkc, hks⟩ := id Z
  exact lv_bipush hx hb hd hv (kk p e s m args below meth c H locs cells slots ls mc ms A Z)
theorem V_sipush {n : Int} {v : Int32} (hv : (Int16.ofInt n).toInt32 = v) (hd : decode M.co pc = .ok (.sipush n, 3)) (kk : V g M d kc ks op K (pc + 3) L (.int v :: S) w) : V g M d kc ks op K pc L S w := by
  intro p e s m args below meth c H locs cells slots ls mc ms A Z
  obtain ⟨hx, hb, hml, hr, hown, hlk, hnm, htb, hE⟩ := id A
  obtain ⟨hl, hH, hop, hS, hkc, hks⟩ := id Z
  exact lv_sipush hx hb hd hv (kk p e s m args below meth c H locs cells slots ls mc ms A Z)
theorem V_lconst {n : Fin 2} {v : Int64} (hv : Int64.ofNat (n : Nat) = v) (hd : decode M.co pc = .ok (.lconst n, 1)) (kk : V g M d kc ks op K (pc + 1) L (.long v :: S) w) : V g M d kc ks op K pc L S w := by
  intro p e s m args below meth c H locs cells slots ls mc ms A Z
  obtain ⟨hx, hb, hml, hr, hown, hlk, hnm, htb, hE⟩ := id A
  obtain ⟨hl, hH, hop, hS, hkc, hks⟩ := id Z
  exact lv_lconst hx hb hd hv (kk p e s m args below meth c H locs cells slots ls mc ms A Z)
theorem V_dconst0  (hd : decode M.co pc = .ok (.dconst 0, 1)) (kk : V g M d kc ks op K (pc + 1) L (.double 0 :: S) w) : V g M d kc ks op K pc L S w := by
  intro p e s m args below meth c H locs cells slots ls mc ms A Z
  obtain ⟨hx, hb, hml, hr, hown, hlk, hnm, htb, hE⟩ := id A
  obtain ⟨hl, hH, hop, hS, hkc, hks⟩ := id Z
  exact lv_dconst0 hx hb hd (kk p e s m args below meth c H locs cells slots ls mc ms A Z)
theorem V_dconst1  (hd : decode M.co pc = .ok (.dconst 1, 1)) (kk : V g M d kc ks op K (pc + 1) L (.double 4607182418800017408 :: S) w) : V g M d kc ks op K pc L S w := by
  intro p e s m args below meth c H locs cells slots ls mc ms A Z
  obtain ⟨hx, hb, hml, hr, hown, hlk, hnm, htb, hE⟩ := id A
  obtain ⟨hl, hH, hop, hS, hkc, hks⟩ := id Z
  exact lv_dconst1 hx hb hd (kk p e s m args below meth c H locs cells slots ls mc ms A Z)
theorem V_iadd {x y : Int32} (hd : decode M.co pc = .ok (.iadd, 1)) (kk : V g M d kc ks op K (pc + 1) L (.int (x + y) :: S) w) : V g M d kc ks op K pc L (.int y :: .int x :: S) w := by
  intro p e s m args below meth c H locs cells slots ls mc ms A Z
  obtain ⟨hx, hb, hml, hr, hown, hlk, hnm, htb, hE⟩ := id A
  obtain ⟨hl, hH, hop, hS, hkc, hks⟩ := id Z
  exact lv_iadd hx hb hd (kk p e s m args below meth c H locs cells slots ls mc ms A Z)
theorem V_isub {x y : Int32} (hd : decode M.co pc = .ok (.isub, 1)) (kk : V g M d kc ks op K (pc + 1) L (.int (x - y) :: S) w) : V g M d kc ks op K pc L (.int y :: .int x :: S) w := by
  intro p e s m args below meth c H locs cells slots ls mc ms A Z
  obtain ⟨hx, hb, hml, hr, hown, hlk, hnm, htb, hE⟩ := id A
  obtain ⟨hl, hH, hop, hS, hkc, hks⟩ := id Z
  exact lv_isub hx hb hd (kk p e s m args below meth c H locs cells slots ls mc ms A Z)
theorem V_imul {x y : Int32} (hd : decode M.co pc = .ok (.imul, 1)) (kk : V g M d kc ks op K (pc + 1) L (.int (x * y) :: S) w) : V g M d kc ks op K pc L (.int y :: .int x :: S) w := by
  intro p e s m args below meth c H locs cells slots ls mc ms A Z
  obtain ⟨hx, hb, hml, hr, hown, hlk, hnm, htb, hE⟩ := id A
  obtain ⟨hl, hH, hop, hS, hkc, hks⟩ := id Z
  exact lv_imul hx hb hd (kk p e s m args below meth c H locs cells slots ls mc ms A Z)
theorem V_iand {x y : Int32} (hd : decode M.co pc = .ok (.iand, 1)) (kk : V g M d kc ks op K (pc + 1) L (.int (x &&& y) :: S) w) : V g M d kc ks op K pc L (.int y :: .int x :: S) w := by
  intro p e s m args below meth c H locs cells slots ls mc ms A Z
  obtain ⟨hx, hb, hml, hr, hown, hlk, hnm, htb, hE⟩ := id A
  obtain ⟨hl, hH, hop, hS, hkc, hks⟩ := id Z
  exact lv_iand hx hb hd (kk p e s m args below meth c H locs cells slots ls mc ms A Z)
theorem V_ior {x y : Int32} (hd : decode M.co pc = .ok (.ior, 1)) (kk : V g M d kc ks op K (pc + 1) L (.int (x ||| y) :: S) w) : V g M d kc ks op K pc L (.int y :: .int x :: S) w := by
  intro p e s m args below meth c H locs cells slots ls mc ms A Z
  obtain ⟨hx, hb, hml, hr, hown, hlk, hnm, htb, hE⟩ := id A
  obtain ⟨hl, hH, hop, hS, hkc, hks⟩ := id Z
  exact lv_ior hx hb hd (kk p e s m args below meth c H locs cells slots ls mc ms A Z)
theorem V_ixor {x y : Int32} (hd : decode M.co pc = .ok (.ixor, 1)) (kk : V g M d kc ks op K (pc + 1) L (.int (x ^^^ y) :: S) w) : V g M d kc ks op K pc L (.int y :: .int x :: S) w := by
  intro p e s m args below meth c H locs cells slots ls mc ms A Z
  obtain ⟨hx, hb, hml, hr, hown, hlk, hnm, htb, hE⟩ := id A
  obtain ⟨hl, hH, hop, hS, hkc, hks⟩ := id Z
  exact lv_ixor hx hb hd (kk p e s m args below meth c H locs cells slots ls mc ms A Z)
theorem V_irem {x y : Int32} (hne : ¬ y = 0) (hd : decode M.co pc = .ok (.irem, 1)) (kk : V g M d kc ks op K (pc + 1) L (.int (x - x / y * y) :: S) w) : V g M d kc ks op K pc L (.int y :: .int x :: S) w := by
  intro p e s m args below meth c H locs cells slots ls mc ms A Z
  obtain ⟨hx, hb, hml, hr, hown, hlk, hnm, htb, hE⟩ := id A
  obtain ⟨hl, hH, hop, hS, hkc, hks⟩ := id Z
  exact lv_irem hx hb hd hne (kk p e s m args below meth c H locs cells slots ls mc ms A Z)
theorem V_ishl {x y : Int32} (hd : decode M.co pc = .ok (.ishl, 1)) (kk : V g M d kc ks op K (pc + 1) L (.int (x <<< (y &&& 31)) :: S) w) : V g M d kc ks op K pc L (.int y :: .int x :: S) w := by
  intro p e s m args below meth c H locs cells slots ls mc ms A Z
  obtain ⟨hx, hb, hml, hr, hown, hlk, hnm, htb, hE⟩ := id A
  obtain ⟨hl, hH, hop, hS, hkc, hks⟩ := id Z
  exact lv_ishl hx hb hd (kk p e s m args below meth c H locs cells slots ls mc ms A Z)
theorem V_ishr {x y : Int32} (hd : decode M.co pc = .ok (.ishr, 1)) (kk : V g M d kc ks op K (pc + 1) L (.int (x >>> (y &&& 31)) :: S) w) : V g M d kc ks op K pc L (.int y :: .int x :: S) w := by
  intro p e s m args below meth c H locs cells slots ls mc ms A Z
  obtain ⟨hx, hb, hml, hr, hown, hlk, hnm, htb, hE⟩ := id A
  obtain ⟨hl, hH, hop, hS, hkc, hks⟩ := id Z
  exact lv_ishr hx hb hd (kk p e s m args below meth c H locs cells slots ls mc ms A Z)
theorem V_iushr {x y : Int32} (hd : decode M.co pc = .ok (.iushr, 1)) (kk : V g M d kc ks op K (pc + 1) L (.int ((x.toUInt32 >>> (y.toUInt32 &&& Int32.toUInt32 31)).toInt32) :: S) w) : V g M d kc ks op K pc L (.int y :: .int x :: S) w := by
  intro p e s m args below meth c H locs cells slots ls mc ms A Z
  obtain ⟨hx, hb, hml, hr, hown, hlk, hnm, htb, hE⟩ := id A
  obtain ⟨hl, hH, hop, hS, hkc, hks⟩ := id Z
  exact lv_iushr hx hb hd rfl (kk p e s m args below meth c H locs cells slots ls mc ms A Z)
theorem V_ladd {x y : Int64} (hd : decode M.co pc = .ok (.ladd, 1)) (kk : V g M d kc ks op K (pc + 1) L (.long (x + y) :: S) w) : V g M d kc ks op K pc L (.long y :: .long x :: S) w := by
  intro p e s m args below meth c H locs cells slots ls mc ms A Z
  obtain ⟨hx, hb, hml, hr, hown, hlk, hnm, htb, hE⟩ := id A
  obtain ⟨hl, hH, hop, hS, hkc, hks⟩ := id Z
  exact lv_ladd hx hb hd (kk p e s m args below meth c H locs cells slots ls mc ms A Z)
theorem V_lmul {x y : Int64} (hd : decode M.co pc = .ok (.lmul, 1)) (kk : V g M d kc ks op K (pc + 1) L (.long (x * y) :: S) w) : V g M d kc ks op K pc L (.long y :: .long x :: S) w := by
  intro p e s m args below meth c H locs cells slots ls mc ms A Z
  obtain ⟨hx, hb, hml, hr, hown, hlk, hnm, htb, hE⟩ := id A
  obtain ⟨hl, hH, hop, hS, hkc, hks⟩ := id Z
  exact lv_lmul hx hb hd (kk p e s m args below meth c H locs cells slots ls mc ms A Z)
theorem V_i2l {x : Int32} (hd : decode M.co pc = .ok (.i2l, 1)) (kk : V g M d kc ks op K (pc + 1) L (.long x.toInt64 :: S) w) : V g M d kc ks op K pc L (.int x :: S) w := by
  intro p e s m args below meth c H locs cells slots ls mc ms A Z
  obtain ⟨hx, hb, hml, hr, hown, hlk, hnm, htb, hE⟩ := id A
  obtain ⟨hl, hH, hop, hS, hkc, hks⟩ := id Z
  exact lv_i2l hx hb hd rfl (kk p e s m args below meth c H locs cells slots ls mc ms A Z)
theorem V_lcmp {x y : Int64} (hd : decode M.co pc = .ok (.lcmp, 1)) (kk : V g M d kc ks op K (pc + 1) L (.int (lg_cmp x y) :: S) w) : V g M d kc ks op K pc L (.long y :: .long x :: S) w := by
  intro p e s m args below meth c H locs cells slots ls mc ms A Z
  obtain ⟨hx, hb, hml, hr, hown, hlk, hnm, htb, hE⟩ := id A
  obtain ⟨hl, hH, hop, hS, hkc, hks⟩ := id Z
  exact W.lcmp hx hb hd (kk p e s m args below meth c H locs cells slots ls mc ms A Z)
theorem V_i2d {x : Int32} (hd : decode M.co pc = .ok (.i2d, 1)) (kk : V g M d kc ks op K (pc + 1) L (.double (FP.i2d x) :: S) w) : V g M d kc ks op K pc L (.int x :: S) w := by
  intro p e s m args below meth c H locs cells slots ls mc ms A Z
  obtain ⟨hx, hb, hml, hr, hown, hlk, hnm, htb, hE⟩ := id A
  obtain ⟨hl, hH, hop, hS, hkc, hks⟩ := id Z
  exact lv_i2d hx hb hd (kk p e s m args below meth c H locs cells slots ls mc ms A Z)
theorem V_dsub {x y : UInt64} (hne : vf_n64 (FP.dsub x y)) (hd : decode M.co pc = .ok (.dsub, 1)) (kk : V g M d kc ks op K (pc + 1) L (.double (FP.dsub x y) :: S) w) : V g M d kc ks op K pc L (.double y :: .double x :: S) w := by
  intro p e s m args below meth c H locs cells slots ls mc ms A Z
  obtain ⟨hx, hb, hml, hr, hown, hlk, hnm, htb, hE⟩ := id A
  obtain ⟨hl, hH, hop, hS, hkc, hks⟩ := id Z
  exact lv_dsub hx hb hd hne (kk p e s m args below meth c H locs cells slots ls mc ms A Z)
theorem V_ddiv {x y : UInt64} (hne : vf_n64 (FP.ddiv x y)) (hd : decode M.co pc = .ok (.ddiv, 1)) (kk : V g M d kc ks op K (pc + 1) L (.double (FP.ddiv x y) :: S) w) : V g M d kc ks op K pc L (.double y :: .double x :: S) w := by
  intro p e s m args below meth c H locs cells slots ls mc ms A Z
  obtain ⟨hx, hb, hml, hr, hown, hlk, hnm, htb, hE⟩ := id A
  obtain ⟨hl, hH, hop, hS, hkc, hks⟩ := id Z
  exact lv_ddiv hx hb hd hne (kk p e s m args below meth c H locs cells slots ls mc ms A Z)
theorem V_dcmp {x y : UInt64} {o : CmpOp} (hd : decode M.co pc = .ok (.dcmp o, 1)) (kk : V g M d kc ks op K (pc + 1) L (.int (Op.cmpValue (FP.dcmp x y) o) :: S) w) : V g M d kc ks op K pc L (.double y :: .double x :: S) w := by
  intro p e s m args below meth c H locs cells slots ls mc ms A Z
  obtain ⟨hx, hb, hml, hr, hown, hlk, hnm, htb, hE⟩ := id A
  obtain ⟨hl, hH, hop, hS, hkc, hks⟩ := id Z
  exact lv_dcmp hx hb hd (kk p e s m args below meth c H locs cells slots ls mc ms A Z)
theorem V_dup {v : Value} (hv : v.category = 1) (hd : decode M.co pc = .ok (.dup, 1)) (kk : V g M d kc ks op K (pc + 1) L (v :: v :: S) w) : V g M d kc ks op K pc L (v :: S) w := by
  intro p e s m args below meth c H locs cells slots ls mc ms A Z
  obtain ⟨hx, hb, hml, hr, hown, hlk, hnm, htb, hE⟩ := id A
  obtain ⟨hl, hH, hop, hS, hkc, hks⟩ := id Z
  exact lv_dup hx hb hd (by rw [cv_cat]; exact hv) (kk p e s m args below meth c H locs cells slots ls mc ms A Z)
theorem V_pop {v : Value} (hv : v.category = 1) (hd : decode M.co pc = .ok (.pop, 1)) (kk : V g M d kc ks op K (pc + 1) L S w) : V g M d kc ks op K pc L (v :: S) w := by
  intro p e s m args below meth c H locs cells slots ls mc ms A Z
  obtain ⟨hx, hb, hml, hr, hown, hlk, hnm, htb, hE⟩ := id A
  obtain ⟨hl, hH, hop, hS, hkc, hks⟩ := id Z
  exact lv_pop hx hb hd (by rw [cv_cat]; exact hv) (kk p e s m args below meth c H locs cells slots ls mc ms A Z)
theorem V_dup2 {v u : Value} (hv : v.category = 1) (hu : u.category = 1) (hd : decode M.co pc = .ok (.dup2, 1)) (kk : V g M d kc ks op K (pc + 1) L (v :: u :: v :: u :: S) w) : V g M d kc ks op K pc L (v :: u :: S) w := by
  intro p e s m args below meth c H locs cells slots ls mc ms A Z
  obtain ⟨hx, hb, hml, hr, hown, hlk, hnm, htb, hE⟩ := id A
  obtain ⟨hl, hH, hop, hS, hkc, hks⟩ := id Z
  exact lv_dup2_11 hx hb hd (by rw [cv_cat]; exact hv) (by rw [cv_cat]; exact hu) (kk p e s m args below meth c H locs cells slots ls mc ms A Z)
theorem V_goto {off : Int} {tgt : Nat} (hd : decode M.co pc = .ok (.goto off, 3)) (ht : (pc : Int) + off = (tgt : Int)) (kk : V g M d kc ks op K tgt L S w) : V g M d kc ks op K pc L S w := by
  intro p e s m args below meth c H locs cells slots ls mc ms A Z
  obtain ⟨hx, hb, hml, hr, hown, hlk, hnm, htb, hE⟩ := id A
  obtain ⟨hl, hH, hop, hS, hkc, hks⟩ := id Z
  exact lv_goto hx hb hd ht (kk p e s m args below meth c H locs cells slots ls mc ms A Z)
theorem V_if_eq {x y : Int32} {off : Int} {tgt : Nat} (hd : decode M.co pc = .ok (.ifCond .eq off, 3)) (ht : (pc : Int) + off = (tgt : Int)) (kt : x = 0 → V g M d kc ks op K tgt L S w) (kf : ¬ x = 0 → V g M d kc ks op K (pc + 3) L S w) : V g M d kc ks op K pc L (.int x :: S) w := by
  intro p e s m args below meth c H locs cells slots ls mc ms A Z
  obtain ⟨hx, hb, hml, hr, hown, hlk, hnm, htb, hE⟩ := id A
  obtain ⟨hl, hH, hop, hS, hkc, hks⟩ := id Z
  exact lv_if_eq hx hb hd ht (fun h => kt h p e s m args below meth c H locs cells slots ls mc ms A Z) (fun h => kf h p e s m args below meth c H locs cells slots ls mc ms A Z)
theorem V_if_ne {x y : Int32} {off : Int} {tgt : Nat} (hd : decode M.co pc = .ok (.ifCond .ne off, 3)) (ht : (pc : Int) + off = (tgt : Int)) (kt : ¬ x = 0 → V g M d kc ks op K tgt L S w) (kf : x = 0 → V g M d kc ks op K (pc + 3) L S w) : V g M d kc ks op K pc L (.int x :: S) w := by
  intro p e s m args below meth c H locs cells slots ls mc ms A Z
  obtain ⟨hx, hb, hml, hr, hown, hlk, hnm, htb, hE⟩ := id A
  obtain ⟨hl, hH, hop, hS, hkc, hks⟩ := id Z
  exact lv_if_ne hx hb hd ht (fun h => kt h p e s m args below meth c H locs cells slots ls mc ms A Z) (fun h => kf h p e s m args below meth c H locs cells slots ls mc ms A Z)
theorem V_if_lt {x y : Int32} {off : Int} {tgt : Nat} (hd : decode M.co pc = .ok (.ifCond .lt off, 3)) (ht : (pc : Int) + off = (tgt : Int)) (kt : x < 0 → V g M d kc ks op K tgt L S w) (kf : ¬ x < 0 → V g M d kc ks op K (pc + 3) L S w) : V g M d kc ks op K pc L (.int x :: S) w := by
  intro p e s m args below meth c H locs cells slots ls mc ms A Z
  obtain ⟨hx, hb, hml, hr, hown, hlk, hnm, htb, hE⟩ := id A
  obtain ⟨hl, hH, hop, hS, hkc, hks⟩ := id Z
  exact lv_if_lt hx hb hd ht (fun h => kt h p e s m args below meth c H locs cells slots ls mc ms A Z) (fun h => kf h p e s m args below meth c H locs cells slots ls mc ms A Z)
theorem V_if_ge {x y : Int32} {off : Int} {tgt : Nat} (hd : decode M.co pc = .ok (.ifCond .ge off, 3)) (ht : (pc : Int) + off = (tgt : Int)) (kt : 0 ≤ x → V g M d kc ks op K tgt L S w) (kf : ¬ 0 ≤ x → V g M d kc ks op K (pc + 3) L S w) : V g M d kc ks op K pc L (.int x :: S) w := by
  intro p e s m args below meth c H locs cells slots ls mc ms A Z
  obtain ⟨hx, hb, hml, hr, hown, hlk, hnm, htb, hE⟩ := id A
  obtain ⟨hl, hH, hop, hS, hkc, hks⟩ := id Z
  exact lv_if_ge hx hb hd ht (fun h => kt h p e s m args below meth c H locs cells slots ls mc ms A Z) (fun h => kf h p e s m args below meth c H locs cells slots ls mc ms A Z)
theorem V_if_gt {x y : Int32} {off : Int} {tgt : Nat} (hd : decode M.co pc = .ok (.ifCond .gt off, 3)) (ht : (pc : Int) + off = (tgt : Int)) (kt : 0 < x → V g M d kc ks op K tgt L S w) (kf : ¬ 0 < x → V g M d kc ks op K (pc + 3) L S w) : V g M d kc ks op K pc L (.int x :: S) w := by
  intro p e s m args below meth c H locs cells slots ls mc ms A Z
  obtain ⟨hx, hb, hml, hr, hown, hlk, hnm, htb, hE⟩ := id A
  obtain ⟨hl, hH, hop, hS, hkc, hks⟩ := id Z
  exact lv_if_gt hx hb hd ht (fun h => kt h p e s m args below meth c H locs cells slots ls mc ms A Z) (fun h => kf h p e s m args below meth c H locs cells slots ls mc ms A Z)
theorem V_if_le {x y : Int32} {off : Int} {tgt : Nat} (hd : decode M.co pc = .ok (.ifCond .le off, 3)) (ht : (pc : Int) + off = (tgt : Int)) (kt : x ≤ 0 → V g M d kc ks op K tgt L S w) (kf : ¬ x ≤ 0 → V g M d kc ks op K (pc + 3) L S w) : V g M d kc ks op K pc L (.int x :: S) w := by
  intro p e s m args below meth c H locs cells slots ls mc ms A Z
  obtain ⟨hx, hb, hml, hr, hown, hlk, hnm, htb, hE⟩ := id A
  obtain ⟨hl, hH, hop, hS, hkc, hks⟩ := id Z
  exact lv_if_le hx hb hd ht (fun h => kt h p e s m args below meth c H locs cells slots ls mc ms A Z) (fun h => kf h p e s m args below meth c H locs cells slots ls mc ms A Z)
theorem V_icmp_eq {x y : Int32} {off : Int} {tgt : Nat} (hd : decode M.co pc = .ok (.if_icmp .eq off, 3)) (ht : (pc : Int) + off = (tgt : Int)) (kt : x = y → V g M d kc ks op K tgt L S w) (kf : ¬ x = y → V g M d kc ks op K (pc + 3) L S w) : V g M d kc ks op K pc L (.int y :: .int x :: S) w := by
  intro p e s m args below meth c H locs cells slots ls mc ms A Z
  obtain ⟨hx, hb, hml, hr, hown, hlk, hnm, htb, hE⟩ := id A
  obtain ⟨hl, hH, hop, hS, hkc, hks⟩ := id Z
  exact lv_icmp_eq hx hb hd ht (fun h => kt h p e s m args below meth c H locs cells slots ls mc ms A Z) (fun h => kf h p e s m args below meth c H locs cells slots ls mc ms A Z)
theorem V_icmp_ne {x y : Int32} {off : Int} {tgt : Nat} (hd : decode M.co pc = .ok (.if_icmp .ne off, 3)) (ht : (pc : Int) + off = (tgt : Int)) (kt : ¬ x = y → V g M d kc ks op K tgt L S w) (kf : x = y → V g M d kc ks op K (pc + 3) L S w) : V g M d kc ks op K pc L (.int y :: .int x :: S) w := by
  intro p e s m args below meth c H locs cells slots ls mc ms A Z
  obtain ⟨hx, hb, hml, hr, hown, hlk, hnm, htb, hE⟩ := id A
  obtain ⟨hl, hH, hop, hS, hkc, hks⟩ := id Z
  exact lv_icmp_ne hx hb hd ht (fun h => kt h p e s m args below meth c H locs cells slots ls mc ms A Z) (fun h => kf h p e s m args below meth c H locs cells slots ls mc ms A Z)
theorem V_icmp_lt {x y : Int32} {off : Int} {tgt : Nat} (hd : decode M.co pc = .ok (.if_icmp .lt off, 3)) (ht : (pc : Int) + off = (tgt : Int)) (kt : x < y → V g M d kc ks op K tgt L S w) (kf : ¬ x < y → V g M d kc ks op K (pc + 3) L S w) : V g M d kc ks op K pc L (.int y :: .int x :: S) w := by
  intro p e s m args below meth c H locs cells slots ls mc ms A Z
  obtain ⟨hx, hb, hml, hr, hown, hlk, hnm, htb, hE⟩ := id A
  obtain ⟨hl, hH, hop, hS, hkc, hks⟩ := id Z
  exact lv_icmp_lt hx hb hd ht (fun h => kt h p e s m args below meth c H locs cells slots ls mc ms A Z) (fun h => kf h p e s m args below meth c H locs cells slots ls mc ms A Z)
theorem V_icmp_ge {x y : Int32} {off : Int} {tgt : Nat} (hd : decode M.co pc = .ok (.if_icmp .ge off, 3)) (ht : (pc : Int) + off = (tgt : Int)) (kt : y ≤ x → V g M d kc ks op K tgt L S w) (kf : ¬ y ≤ x → V g M d kc ks op K (pc + 3) L S w) : V g M d kc ks op K pc L (.int y :: .int x :: S) w := by
  intro p e s m args below meth c H locs cells slots ls mc ms A Z
  obtain ⟨hx, hb, hml, hr, hown, hlk, hnm, htb, hE⟩ := id A
  obtain ⟨hl, hH, hop, hS, hkc, hks⟩ := id Z
  exact lv_icmp_ge hx hb hd ht (fun h => kt h p e s m args below meth c H locs cells slots ls mc ms A Z) (fun h => kf h p e s m args below meth c H locs cells slots ls mc ms A Z)
theorem V_icmp_gt {x y : Int32} {off : Int} {tgt : Nat} (hd : decode M.co pc = .ok (.if_icmp .gt off, 3)) (ht : (pc : Int) + off = (tgt : Int)) (kt : y < x → V g M d kc ks op K tgt L S w) (kf : ¬ y < x → V g M d kc ks op K (pc + 3) L S w) : V g M d kc ks op K pc L (.int y :: .int x :: S) w := by
  intro p e s m args below meth c H locs cells slots ls mc ms A Z
  obtain ⟨hx, hb, hml, hr, hown, hlk, hnm, htb, hE⟩ := id A
  obtain ⟨hl, hH, hop, hS, hkc, hks⟩ := id Z
  exact lv_icmp_gt hx hb hd ht (fun h => kt h p e s m args below meth c H locs cells slots ls mc ms A Z) (fun h => kf h p e s m args below meth c H locs cells slots ls mc ms A Z)
theorem V_icmp_le {x y : Int32} {off : Int} {tgt : Nat} (hd : decode M.co pc = .ok (.if_icmp .le off, 3)) (ht : (pc : Int) + off = (tgt : Int)) (kt : x ≤ y → V g M d kc ks op K tgt L S w) (kf : ¬ x ≤ y → V g M d kc ks op K (pc + 3) L S w) : V g M d kc ks op K pc L (.int y :: .int x :: S) w := by
  intro p e s m args below meth c H locs cells slots ls mc ms A Z
  obtain ⟨hx, hb, hml, hr, hown, hlk, hnm, htb, hE⟩ := id A
  obtain ⟨hl, hH, hop, hS, hkc, hks⟩ := id Z
  exact lv_icmp_le hx hb hd ht (fun h => kt h p e s m args below meth c H locs cells slots ls mc ms A Z) (fun h => kf h p e s m args below meth c H locs cells slots ls mc ms A Z)
def nth : List (Option Value) → Nat → Option Value
  | [], _ => none
  | a :: _, 0 => a
  | _ :: t, n + 1 => nth t n
theorem lcl_mem {g : G0} : ∀ (L : List (Option Value)) (i j : Nat) (v : Value), nth L j = some v → (i + j, cv g v) ∈ lcl g i L := by
  intro L
  induction L with
  | nil => intro i j v h; cases h
  | cons a t ih =>
    intro i j v h
    cases j with
    | zero =>
      have h : a = some v := h
      subst h
      exact List.mem_cons_self
    | succ j =>
      have h : nth t j = some v := h
      have h2 := ih (i + 1) j v h
      rw [show i + 1 + j = i + (j + 1) by omega] at h2
      cases a with
      | none => exact h2
      | some a => exact List.mem_cons_of_mem _ h2
theorem lcl_at {g : G0} {ls : Array Slot} {n : Nat} {L : List (Option Value)} (h : lv_has ls n (lcl g 0 L)) {j : Nat} {v : Value} (hv : nth L j = some v) : ls[j]? = some (.val (cv g v)) := by
  have h2 := h.2.2 _ (lcl_mem (g := g) L 0 j v hv)
  simpa using h2
def sv : List (Option Value) → Nat → Option Value → List (Option Value)
  | [], _, _ => []
  | _ :: t, 0, v => v :: t
  | a :: t, n + 1, v => a :: sv t n v
/-- no value of two slots stands at the place ahead -/
def c1 : List (Option Value) → Nat → Bool
  | [], _ => true
  | some (.long _) :: _, 1 => false
  | some (.double _) :: _, 1 => false
  | _ :: t, n + 1 => c1 t n
  | _, 0 => true
theorem lcl_ge {g : G0} : ∀ (L : List (Option Value)) (i : Nat) (q : Nat × Value), q ∈ lcl g i L → i ≤ q.1 := by
  intro L
  induction L with
  | nil => intro i q h; cases h
  | cons a t ih =>
    intro i q h
    cases a with
    | none => have := ih (i + 1) q h; omega
    | some a =>
      rcases List.mem_cons.mp h with rfl | h
      · exact Nat.le_refl _
      · have := ih (i + 1) q h; omega
theorem lcl_sv {g : G0} : ∀ (L : List (Option Value)) (i j : Nat) (v : Value), c1 L j = true → ∀ q ∈ lcl g i (sv L j (some v)), q = (i + j, cv g v) ∨ (q ∈ lcl g i L ∧ q.1 ≠ i + j ∧ ¬ (q.1 + 1 = i + j ∧ q.2.category = 2)) := by
  intro L
  induction L with
  | nil => intro i j v _ q h; cases h
  | cons a t ih =>
    intro i j v hc q h
    cases j with
    | zero =>
      have h : q ∈ (i, cv g v) :: lcl g (i + 1) t := h
      rcases List.mem_cons.mp h with h7 | h7
      · exact Or.inl h7
      · have h3 := lcl_ge t (i + 1) q h7
        refine Or.inr ⟨?_, by omega, fun z => by omega⟩
        cases a with
        | none => exact h7
        | some a => exact List.mem_cons_of_mem _ h7
    | succ j =>
      have hc2 : c1 t j = true := by
        cases j with
        | zero =>
          cases t with
          | nil => rfl
          | cons b t => cases b with
            | none => rfl
            | some b => cases b <;> rfl
        | succ j => cases a with
          | none => exact hc
          | some a => cases a <;> exact hc
      have key : ∀ q ∈ lcl g (i + 1) (sv t j (some v)), q = (i + (j + 1), cv g v) ∨ (q ∈ lcl g (i + 1) t ∧ q.1 ≠ i + (j + 1) ∧ ¬ (q.1 + 1 = i + (j + 1) ∧ q.2.category = 2)) := by
        intro q hq
        have := ih (i + 1) j v hc2 q hq
        rw [show i + 1 + j = i + (j + 1) by omega] at this
        exact this
      cases a with
      | none => exact key q h
      | some a =>
        have h : q ∈ (i, cv g a) :: lcl g (i + 1) (sv t j (some v)) := h
        rcases List.mem_cons.mp h with rfl | h
        · refine Or.inr ⟨List.mem_cons_self, by show i ≠ i + (j + 1); omega, fun z => ?_⟩
          have hj : j = 0 := by have := z.1; omega
          subst hj
          have h5 := z.2
          have h5 : (cv g a).category = 2 := h5
          rw [cv_cat] at h5
          cases a <;> first | cases hc | (simp [Value.category] at h5)
        · rcases key q h with h | ⟨h1, h2⟩
          · exact Or.inl h
          · exact Or.inr ⟨List.mem_cons_of_mem _ h1, h2⟩
theorem lcl_st1 {g : G0} {ls : Array Slot} {n : Nat} {L : List (Option Value)} {j : Nat} {v : Value} (hc : c1 L j = true) (h : lv_has ls n ((j, cv g v) :: (lcl g 0 L).filter (fun q => !(q.1 == j) && !(q.1 + 1 == j && q.2.category == 2)))) : lv_has ls n (lcl g 0 (sv L j (some v))) := by
  refine ⟨h.1, h.2.1, fun q hq => h.2.2 q ?_⟩
  have h2 := lcl_sv L 0 j v hc q hq
  rw [Nat.zero_add] at h2
  rcases h2 with h2 | ⟨h2, h3, h4⟩
  · rw [h2]; exact List.mem_cons_self
  · refine List.mem_cons_of_mem _ (List.mem_filter.mpr ⟨h2, ?_⟩)
    simp only [Bool.and_eq_true, Bool.not_eq_true', beq_eq_false_iff_ne, ne_eq, Bool.and_eq_false_iff]
    refine ⟨h3, ?_⟩
    by_cases h5 : q.1 + 1 = j
    · exact Or.inr fun h6 => h4 ⟨h5, h6⟩
    · exact Or.inl h5
theorem lcl_none {g : G0} : ∀ (L : List (Option Value)) (i j : Nat), ∀ q ∈ lcl g i (sv L j none), q ∈ lcl g i L ∧ q.1 ≠ i + j := by
  intro L
  induction L with
  | nil => intro i j q h; cases h
  | cons a t ih =>
    intro i j q h
    cases j with
    | zero =>
      have h : q ∈ lcl g (i + 1) t := h
      have h3 := lcl_ge t (i + 1) q h
      refine ⟨?_, by omega⟩
      cases a with
      | none => exact h
      | some a => exact List.mem_cons_of_mem _ h
    | succ j =>
      cases a with
      | none =>
        have h2 := ih (i + 1) j q h
        exact ⟨h2.1, by have := h2.2; omega⟩
      | some a =>
        have h : q ∈ (i, cv g a) :: lcl g (i + 1) (sv t j none) := h
        rcases List.mem_cons.mp h with rfl | h
        · exact ⟨List.mem_cons_self, by show i ≠ i + (j + 1); omega⟩
        · have h2 := ih (i + 1) j q h
          exact ⟨List.mem_cons_of_mem _ h2.1, by have := h2.2; omega⟩
theorem lcl_st2 {g : G0} {ls : Array Slot} {n : Nat} {L : List (Option Value)} {j : Nat} {v : Value} (hc : c1 L j = true) (h : lv_has ls n ((j, cv g v) :: (lcl g 0 L).filter (fun q => !(q.1 == j) && (!(q.1 == j + 1) && !(q.1 + 1 == j && q.2.category == 2))))) : lv_has ls n (lcl g 0 (sv (sv L j (some v)) (j + 1) none)) := by
  refine ⟨h.1, h.2.1, fun q hq => h.2.2 q ?_⟩
  obtain ⟨hq, hj⟩ := lcl_none _ 0 (j + 1) q hq
  rw [Nat.zero_add] at hj
  have h2 := lcl_sv L 0 j v hc q hq
  rw [Nat.zero_add] at h2
  rcases h2 with h2 | ⟨h2, h3, h4⟩
  · rw [h2]; exact List.mem_cons_self
  · refine List.mem_cons_of_mem _ (List.mem_filter.mpr ⟨h2, ?_⟩)
    simp only [Bool.and_eq_true, Bool.not_eq_true', beq_eq_false_iff_ne, ne_eq, Bool.and_eq_false_iff]
    refine ⟨h3, hj, ?_⟩
    by_cases h5 : q.1 + 1 = j
    · exact Or.inr fun h6 => h4 ⟨h5, h6⟩
    · exact Or.inl h5
theorem V_iload_n {k : Fin 4} {x : Int32} (hd : decode M.co pc = .ok (.iload_n k, 1)) (hv : nth L (k : Nat) = some (.int x)) (kk : V g M d kc ks op K (pc + 1) L (.int x :: S) w) : V g M d kc ks op K pc L S w := by
  intro p e s m args below meth c H locs cells slots ls mc ms A Z
  obtain ⟨hx, hb, hml, hr, hown, hlk, hnm, htb, hE⟩ := id A
  obtain ⟨hl, hH, hop, hS, hkc, hks⟩ := id Z
  exact lv_iload_n hx hb hd rfl (lcl_at hl hv) (kk p e s m args below meth c H locs cells slots ls mc ms A Z)
theorem V_iload {k : Nat} {x : Int32} (hd : decode M.co pc = .ok (.iload k, 2)) (hv : nth L k = some (.int x)) (kk : V g M d kc ks op K (pc + 2) L (.int x :: S) w) : V g M d kc ks op K pc L S w := by
  intro p e s m args below meth c H locs cells slots ls mc ms A Z
  obtain ⟨hx, hb, hml, hr, hown, hlk, hnm, htb, hE⟩ := id A
  obtain ⟨hl, hH, hop, hS, hkc, hks⟩ := id Z
  exact lv_iload hx hb hd (lcl_at hl hv) (kk p e s m args below meth c H locs cells slots ls mc ms A Z)
theorem V_lload_n {k : Fin 4} {x : Int64} (hd : decode M.co pc = .ok (.lload_n k, 1)) (hv : nth L (k : Nat) = some (.long x)) (kk : V g M d kc ks op K (pc + 1) L (.long x :: S) w) : V g M d kc ks op K pc L S w := by
  intro p e s m args below meth c H locs cells slots ls mc ms A Z
  obtain ⟨hx, hb, hml, hr, hown, hlk, hnm, htb, hE⟩ := id A
  obtain ⟨hl, hH, hop, hS, hkc, hks⟩ := id Z
  exact lv_lload_n hx hb hd rfl (lcl_at hl hv) (kk p e s m args below meth c H locs cells slots ls mc ms A Z)
theorem V_lload {k : Nat} {x : Int64} (hd : decode M.co pc = .ok (.lload k, 2)) (hv : nth L k = some (.long x)) (kk : V g M d kc ks op K (pc + 2) L (.long x :: S) w) : V g M d kc ks op K pc L S w := by
  intro p e s m args below meth c H locs cells slots ls mc ms A Z
  obtain ⟨hx, hb, hml, hr, hown, hlk, hnm, htb, hE⟩ := id A
  obtain ⟨hl, hH, hop, hS, hkc, hks⟩ := id Z
  exact lv_lload hx hb hd (lcl_at hl hv) (kk p e s m args below meth c H locs cells slots ls mc ms A Z)
theorem V_dload_n {k : Fin 4} {x : UInt64} (hd : decode M.co pc = .ok (.dload_n k, 1)) (hv : nth L (k : Nat) = some (.double x)) (kk : V g M d kc ks op K (pc + 1) L (.double x :: S) w) : V g M d kc ks op K pc L S w := by
  intro p e s m args below meth c H locs cells slots ls mc ms A Z
  obtain ⟨hx, hb, hml, hr, hown, hlk, hnm, htb, hE⟩ := id A
  obtain ⟨hl, hH, hop, hS, hkc, hks⟩ := id Z
  exact lv_dload_n hx hb hd rfl (lcl_at hl hv) (kk p e s m args below meth c H locs cells slots ls mc ms A Z)
theorem V_dload {k : Nat} {x : UInt64} (hd : decode M.co pc = .ok (.dload k, 2)) (hv : nth L k = some (.double x)) (kk : V g M d kc ks op K (pc + 2) L (.double x :: S) w) : V g M d kc ks op K pc L S w := by
  intro p e s m args below meth c H locs cells slots ls mc ms A Z
  obtain ⟨hx, hb, hml, hr, hown, hlk, hnm, htb, hE⟩ := id A
  obtain ⟨hl, hH, hop, hS, hkc, hks⟩ := id Z
  exact lv_dload hx hb hd (lcl_at hl hv) (kk p e s m args below meth c H locs cells slots ls mc ms A Z)
theorem V_aload_n {k : Fin 4} {x : Nat} (hd : decode M.co pc = .ok (.aload_n k, 1)) (hv : nth L (k : Nat) = some (.ref x)) (kk : V g M d kc ks op K (pc + 1) L (.ref x :: S) w) : V g M d kc ks op K pc L S w := by
  intro p e s m args below meth c H locs cells slots ls mc ms A Z
  obtain ⟨hx, hb, hml, hr, hown, hlk, hnm, htb, hE⟩ := id A
  obtain ⟨hl, hH, hop, hS, hkc, hks⟩ := id Z
  exact lv_aload_n hx hb hd rfl (lcl_at hl hv) (kk p e s m args below meth c H locs cells slots ls mc ms A Z)
theorem V_aload {k : Nat} {x : Nat} (hd : decode M.co pc = .ok (.aload k, 2)) (hv : nth L k = some (.ref x)) (kk : V g M d kc ks op K (pc + 2) L (.ref x :: S) w) : V g M d kc ks op K pc L S w := by
  intro p e s m args below meth c H locs cells slots ls mc ms A Z
  obtain ⟨hx, hb, hml, hr, hown, hlk, hnm, htb, hE⟩ := id A
  obtain ⟨hl, hH, hop, hS, hkc, hks⟩ := id Z
  exact lv_aload hx hb hd (lcl_at hl hv) (kk p e s m args below meth c H locs cells slots ls mc ms A Z)
theorem V_istore_n0 {k : Fin 4} {j : Nat} (hj : (k : Nat) = j) {x : Int32} (hd : decode M.co pc = .ok (.istore_n k, 1)) (hn : j < M.ml) (hc : c1 L j = true) (kk : V g M d kc ks op K (pc + 1) (sv L j (some (.int x))) S w) : V g M d kc ks op K pc L (.int x :: S) w := by
  intro p e s m args below meth c H locs cells slots ls mc ms A Z
  obtain ⟨hx, hb, hml, hr, hown, hlk, hnm, htb, hE⟩ := id A
  obtain ⟨hl, hH, hop, hS, hkc, hks⟩ := id Z
  exact lv_istore_n hx hb hd hj hl hn rfl (fun ls hl => (kk p e s m args below meth c H locs cells slots ls mc ms A ⟨lcl_st1 hc hl, hH, hop, hS, hkc, hks⟩))
theorem V_istore_n_0 {a0 : Option Value} {x : Int32} (hd : decode M.co pc = .ok (.istore_n 0, 1)) (hn : 0 < M.ml) (hc : c1 (a0 :: L) 0 = true) (kk : V g M d kc ks op K (pc + 1) (some (.int x) :: L) S w) : V g M d kc ks op K pc (a0 :: L) (.int x :: S) w := V_istore_n0 rfl hd hn hc kk
theorem V_istore_n_1 {a0 a1 : Option Value} {x : Int32} (hd : decode M.co pc = .ok (.istore_n 1, 1)) (hn : 1 < M.ml) (hc : c1 (a0 :: a1 :: L) 1 = true) (kk : V g M d kc ks op K (pc + 1) (a0 :: some (.int x) :: L) S w) : V g M d kc ks op K pc (a0 :: a1 :: L) (.int x :: S) w := V_istore_n0 rfl hd hn hc kk
theorem V_istore_n_2 {a0 a1 a2 : Option Value} {x : Int32} (hd : decode M.co pc = .ok (.istore_n 2, 1)) (hn : 2 < M.ml) (hc : c1 (a0 :: a1 :: a2 :: L) 2 = true) (kk : V g M d kc ks op K (pc + 1) (a0 :: a1 :: some (.int x) :: L) S w) : V g M d kc ks op K pc (a0 :: a1 :: a2 :: L) (.int x :: S) w := V_istore_n0 rfl hd hn hc kk
theorem V_istore_n_3 {a0 a1 a2 a3 : Option Value} {x : Int32} (hd : decode M.co pc = .ok (.istore_n 3, 1)) (hn : 3 < M.ml) (hc : c1 (a0 :: a1 :: a2 :: a3 :: L) 3 = true) (kk : V g M d kc ks op K (pc + 1) (a0 :: a1 :: a2 :: some (.int x) :: L) S w) : V g M d kc ks op K pc (a0 :: a1 :: a2 :: a3 :: L) (.int x :: S) w := V_istore_n0 rfl hd hn hc kk
theorem V_istore0 {j : Nat} {x : Int32} (hd : decode M.co pc = .ok (.istore j, 2)) (hn : j < M.ml) (hc : c1 L j = true) (kk : V g M d kc ks op K (pc + 2) (sv L j (some (.int x))) S w) : V g M d kc ks op K pc L (.int x :: S) w := by
  intro p e s m args below meth c H locs cells slots ls mc ms A Z
  obtain ⟨hx, hb, hml, hr, hown, hlk, hnm, htb, hE⟩ := id A
  obtain ⟨hl, hH, hop, hS, hkc, hks⟩ := id Z
  exact lv_istore hx hb hd hl hn rfl (fun ls hl => (kk p e s m args below meth c H locs cells slots ls mc ms A ⟨lcl_st1 hc hl, hH, hop, hS, hkc, hks⟩))
theorem V_istore_0 {a0 : Option Value} {x : Int32} (hd : decode M.co pc = .ok (.istore 0, 2)) (hn : 0 < M.ml) (hc : c1 (a0 :: L) 0 = true) (kk : V g M d kc ks op K (pc + 2) (some (.int x) :: L) S w) : V g M d kc ks op K pc (a0 :: L) (.int x :: S) w := V_istore0 hd hn hc kk
theorem V_istore_1 {a0 a1 : Option Value} {x : Int32} (hd : decode M.co pc = .ok (.istore 1, 2)) (hn : 1 < M.ml) (hc : c1 (a0 :: a1 :: L) 1 = true) (kk : V g M d kc ks op K (pc + 2) (a0 :: some (.int x) :: L) S w) : V g M d kc ks op K pc (a0 :: a1 :: L) (.int x :: S) w := V_istore0 hd hn hc kk
theorem V_istore_2 {a0 a1 a2 : Option Value} {x : Int32} (hd : decode M.co pc = .ok (.istore 2, 2)) (hn : 2 < M.ml) (hc : c1 (a0 :: a1 :: a2 :: L) 2 = true) (kk : V g M d kc ks op K (pc + 2) (a0 :: a1 :: some (.int x) :: L) S w) : V g M d kc ks op K pc (a0 :: a1 :: a2 :: L) (.int x :: S) w := V_istore0 hd hn hc kk
theorem V_istore_3 {a0 a1 a2 a3 : Option Value} {x : Int32} (hd : decode M.co pc = .ok (.istore 3, 2)) (hn : 3 < M.ml) (hc : c1 (a0 :: a1 :: a2 :: a3 :: L) 3 = true) (kk : V g M d kc ks op K (pc + 2) (a0 :: a1 :: a2 :: some (.int x) :: L) S w) : V g M d kc ks op K pc (a0 :: a1 :: a2 :: a3 :: L) (.int x :: S) w := V_istore0 hd hn hc kk
theorem V_istore_4 {a0 a1 a2 a3 a4 : Option Value} {x : Int32} (hd : decode M.co pc = .ok (.istore 4, 2)) (hn : 4 < M.ml) (hc : c1 (a0 :: a1 :: a2 :: a3 :: a4 :: L) 4 = true) (kk : V g M d kc ks op K (pc + 2) (a0 :: a1 :: a2 :: a3 :: some (.int x) :: L) S w) : V g M d kc ks op K pc (a0 :: a1 :: a2 :: a3 :: a4 :: L) (.int x :: S) w := V_istore0 hd hn hc kk
theorem V_istore_5 {a0 a1 a2 a3 a4 a5 : Option Value} {x : Int32} (hd : decode M.co pc = .ok (.istore 5, 2)) (hn : 5 < M.ml) (hc : c1 (a0 :: a1 :: a2 :: a3 :: a4 :: a5 :: L) 5 = true) (kk : V g M d kc ks op K (pc + 2) (a0 :: a1 :: a2 :: a3 :: a4 :: some (.int x) :: L) S w) : V g M d kc ks op K pc (a0 :: a1 :: a2 :: a3 :: a4 :: a5 :: L) (.int x :: S) w := V_istore0 hd hn hc kk
theorem V_istore_6 {a0 a1 a2 a3 a4 a5 a6 : Option Value} {x : Int32} (hd : decode M.co pc = .ok (.istore 6, 2)) (hn : 6 < M.ml) (hc : c1 (a0 :: a1 :: a2 :: a3 :: a4 :: a5 :: a6 :: L) 6 = true) (kk : V g M d kc ks op K (pc + 2) (a0 :: a1 :: a2 :: a3 :: a4 :: a5 :: some (.int x) :: L) S w) : V g M d kc ks op K pc (a0 :: a1 :: a2 :: a3 :: a4 :: a5 :: a6 :: L) (.int x :: S) w := V_istore0 hd hn hc kk
theorem V_istore_7 {a0 a1 a2 a3 a4 a5 a6 a7 : Option Value} {x : Int32} (hd : decode M.co pc = .ok (.istore 7, 2)) (hn : 7 < M.ml) (hc : c1 (a0 :: a1 :: a2 :: a3 :: a4 :: a5 :: a6 :: a7 :: L) 7 = true) (kk : V g M d kc ks op K (pc + 2) (a0 :: a1 :: a2 :: a3 :: a4 :: a5 :: a6 :: some (.int x) :: L) S w) : V g M d kc ks op K pc (a0 :: a1 :: a2 :: a3 :: a4 :: a5 :: a6 :: a7 :: L) (.int x :: S) w := V_istore0 hd hn hc kk
theorem V_istore_8 {a0 a1 a2 a3 a4 a5 a6 a7 a8 : Option Value} {x : Int32} (hd : decode M.co pc = .ok (.istore 8, 2)) (hn : 8 < M.ml) (hc : c1 (a0 :: a1 :: a2 :: a3 :: a4 :: a5 :: a6 :: a7 :: a8 :: L) 8 = true) (kk : V g M d kc ks op K (pc + 2) (a0 :: a1 :: a2 :: a3 :: a4 :: a5 :: a6 :: a7 :: some (.int x) :: L) S w) : V g M d kc ks op K pc (a0 :: a1 :: a2 :: a3 :: a4 :: a5 :: a6 :: a7 :: a8 :: L) (.int x :: S) w := V_istore0 hd hn hc kk
theorem V_astore_n0 {k : Fin 4} {j : Nat} (hj : (k : Nat) = j) {x : Nat} (hd : decode M.co pc = .ok (.astore_n k, 1)) (hn : j < M.ml) (hc : c1 L j = true) (kk : V g M d kc ks op K (pc + 1) (sv L j (some (.ref x))) S w) : V g M d kc ks op K pc L (.ref x :: S) w := by
  intro p e s m args below meth c H locs cells slots ls mc ms A Z
  obtain ⟨hx, hb, hml, hr, hown, hlk, hnm, htb, hE⟩ := id A
  obtain ⟨hl, hH, hop, hS, hkc, hks⟩ := id Z
  exact lv_astore_n hx hb hd hj hl hn rfl (fun ls hl => (kk p e s m args below meth c H locs cells slots ls mc ms A ⟨lcl_st1 hc hl, hH, hop, hS, hkc, hks⟩))
theorem V_astore_n_0 {a0 : Option Value} {x : Nat} (hd : decode M.co pc = .ok (.astore_n 0, 1)) (hn : 0 < M.ml) (hc : c1 (a0 :: L) 0 = true) (kk : V g M d kc ks op K (pc + 1) (some (.ref x) :: L) S w) : V g M d kc ks op K pc (a0 :: L) (.ref x :: S) w := V_astore_n0 rfl hd hn hc kk
theorem V_astore_n_1 {a0 a1 : Option Value} {x : Nat} (hd : decode M.co pc = .ok (.astore_n 1, 1)) (hn : 1 < M.ml) (hc : c1 (a0 :: a1 :: L) 1 = true) (kk : V g M d kc ks op K (pc + 1) (a0 :: some (.ref x) :: L) S w) : V g M d kc ks op K pc (a0 :: a1 :: L) (.ref x :: S) w := V_astore_n0 rfl hd hn hc kk
theorem V_astore_n_2 {a0 a1 a2 : Option Value} {x : Nat} (hd : decode M.co pc = .ok (.astore_n 2, 1)) (hn : 2 < M.ml) (hc : c1 (a0 :: a1 :: a2 :: L) 2 = true) (kk : V g M d kc ks op K (pc + 1) (a0 :: a1 :: some (.ref x) :: L) S w) : V g M d kc ks op K pc (a0 :: a1 :: a2 :: L) (.ref x :: S) w := V_astore_n0 rfl hd hn hc kk
theorem V_astore_n_3 {a0 a1 a2 a3 : Option Value} {x : Nat} (hd : decode M.co pc = .ok (.astore_n 3, 1)) (hn : 3 < M.ml) (hc : c1 (a0 :: a1 :: a2 :: a3 :: L) 3 = true) (kk : V g M d kc ks op K (pc + 1) (a0 :: a1 :: a2 :: some (.ref x) :: L) S w) : V g M d kc ks op K pc (a0 :: a1 :: a2 :: a3 :: L) (.ref x :: S) w := V_astore_n0 rfl hd hn hc kk
theorem V_astore0 {j : Nat} {x : Nat} (hd : decode M.co pc = .ok (.astore j, 2)) (hn : j < M.ml) (hc : c1 L j = true) (kk : V g M d kc ks op K (pc + 2) (sv L j (some (.ref x))) S w) : V g M d kc ks op K pc L (.ref x :: S) w := by
  intro p e s m args below meth c H locs cells slots ls mc ms A Z
  obtain ⟨hx, hb, hml, hr, hown, hlk, hnm, htb, hE⟩ := id A
  obtain ⟨hl, hH, hop, hS, hkc, hks⟩ := id Z
  exact lv_astore hx hb hd hl hn rfl (fun ls hl => (kk p e s m args below meth c H locs cells slots ls mc ms A ⟨lcl_st1 hc hl, hH, hop, hS, hkc, hks⟩))
theorem V_astore_0 {a0 : Option Value} {x : Nat} (hd : decode M.co pc = .ok (.astore 0, 2)) (hn : 0 < M.ml) (hc : c1 (a0 :: L) 0 = true) (kk : V g M d kc ks op K (pc + 2) (some (.ref x) :: L) S w) : V g M d kc ks op K pc (a0 :: L) (.ref x :: S) w := V_astore0 hd hn hc kk
theorem V_astore_1 {a0 a1 : Option Value} {x : Nat} (hd : decode M.co pc = .ok (.astore 1, 2)) (hn : 1 < M.ml) (hc : c1 (a0 :: a1 :: L) 1 = true) (kk : V g M d kc ks op K (pc + 2) (a0 :: some (.ref x) :: L) S w) : V g M d kc ks op K pc (a0 :: a1 :: L) (.ref x :: S) w := V_astore0 hd hn hc kk
theorem V_astore_2 {a0 a1 a2 : Option Value} {x : Nat} (hd : decode M.co pc = .ok (.astore 2, 2)) (hn : 2 < M.ml) (hc : c1 (a0 :: a1 :: a2 :: L) 2 = true) (kk : V g M d kc ks op K (pc + 2) (a0 :: a1 :: some (.ref x) :: L) S w) : V g M d kc ks op K pc (a0 :: a1 :: a2 :: L) (.ref x :: S) w := V_astore0 hd hn hc kk
theorem V_astore_3 {a0 a1 a2 a3 : Option Value} {x : Nat} (hd : decode M.co pc = .ok (.astore 3, 2)) (hn : 3 < M.ml) (hc : c1 (a0 :: a1 :: a2 :: a3 :: L) 3 = true) (kk : V g M d kc ks op K (pc + 2) (a0 :: a1 :: a2 :: some (.ref x) :: L) S w) : V g M d kc ks op K pc (a0 :: a1 :: a2 :: a3 :: L) (.ref x :: S) w := V_astore0 hd hn hc kk
theorem V_astore_4 {a0 a1 a2 a3 a4 : Option Value} {x : Nat} (hd : decode M.co pc = .ok (.astore 4, 2)) (hn : 4 < M.ml) (hc : c1 (a0 :: a1 :: a2 :: a3 :: a4 :: L) 4 = true) (kk : V g M d kc ks op K (pc + 2) (a0 :: a1 :: a2 :: a3 :: some (.ref x) :: L) S w) : V g M d kc ks op K pc (a0 :: a1 :: a2 :: a3 :: a4 :: L) (.ref x :: S) w := V_astore0 hd hn hc kk
theorem V_astore_5 {a0 a1 a2 a3 a4 a5 : Option Value} {x : Nat} (hd : decode M.co pc = .ok (.astore 5, 2)) (hn : 5 < M.ml) (hc : c1 (a0 :: a1 :: a2 :: a3 :: a4 :: a5 :: L) 5 = true) (kk : V g M d kc ks op K (pc + 2) (a0 :: a1 :: a2 :: a3 :: a4 :: some (.ref x) :: L) S w) : V g M d kc ks op K pc (a0 :: a1 :: a2 :: a3 :: a4 :: a5 :: L) (.ref x :: S) w := V_astore0 hd hn hc kk
theorem V_astore_6 {a0 a1 a2 a3 a4 a5 a6 : Option Value} {x : Nat} (hd : decode M.co pc = .ok (.astore 6, 2)) (hn : 6 < M.ml) (hc : c1 (a0 :: a1 :: a2 :: a3 :: a4 :: a5 :: a6 :: L) 6 = true) (kk : V g M d kc ks op K (pc + 2) (a0 :: a1 :: a2 :: a3 :: a4 :: a5 :: some (.ref x) :: L) S w) : V g M d kc ks op K pc (a0 :: a1 :: a2 :: a3 :: a4 :: a5 :: a6 :: L) (.ref x :: S) w := V_astore0 hd hn hc kk
theorem V_astore_7 {a0 a1 a2 a3 a4 a5 a6 a7 : Option Value} {x : Nat} (hd : decode M.co pc = .ok (.astore 7, 2)) (hn : 7 < M.ml) (hc : c1 (a0 :: a1 :: a2 :: a3 :: a4 :: a5 :: a6 :: a7 :: L) 7 = true) (kk : V g M d kc ks op K (pc + 2) (a0 :: a1 :: a2 :: a3 :: a4 :: a5 :: a6 :: some (.ref x) :: L) S w) : V g M d kc ks op K pc (a0 :: a1 :: a2 :: a3 :: a4 :: a5 :: a6 :: a7 :: L) (.ref x :: S) w := V_astore0 hd hn hc kk
theorem V_astore_8 {a0 a1 a2 a3 a4 a5 a6 a7 a8 : Option Value} {x : Nat} (hd : decode M.co pc = .ok (.astore 8, 2)) (hn : 8 < M.ml) (hc : c1 (a0 :: a1 :: a2 :: a3 :: a4 :: a5 :: a6 :: a7 :: a8 :: L) 8 = true) (kk : V g M d kc ks op K (pc + 2) (a0 :: a1 :: a2 :: a3 :: a4 :: a5 :: a6 :: a7 :: some (.ref x) :: L) S w) : V g M d kc ks op K pc (a0 :: a1 :: a2 :: a3 :: a4 :: a5 :: a6 :: a7 :: a8 :: L) (.ref x :: S) w := V_astore0 hd hn hc kk
theorem V_lstore_n0 {k : Fin 4} {j : Nat} (hj : (k : Nat) = j) {x : Int64} (hd : decode M.co pc = .ok (.lstore_n k, 1)) (hn : j + 1 < M.ml) (hc : c1 L j = true) (kk : V g M d kc ks op K (pc + 1) (sv (sv L j (some (.long x))) (j + 1) none) S w) : V g M d kc ks op K pc L (.long x :: S) w := by
  intro p e s m args below meth c H locs cells slots ls mc ms A Z
  obtain ⟨hx, hb, hml, hr, hown, hlk, hnm, htb, hE⟩ := id A
  obtain ⟨hl, hH, hop, hS, hkc, hks⟩ := id Z
  exact lv_lstore_n hx hb hd hj hl hn rfl (fun ls hl => (kk p e s m args below meth c H locs cells slots ls mc ms A ⟨lcl_st2 hc hl, hH, hop, hS, hkc, hks⟩))
theorem V_lstore_n_0 {a0 a1 : Option Value} {x : Int64} (hd : decode M.co pc = .ok (.lstore_n 0, 1)) (hn : 1 < M.ml) (hc : c1 (a0 :: a1 :: L) 0 = true) (kk : V g M d kc ks op K (pc + 1) (some (.long x) :: none :: L) S w) : V g M d kc ks op K pc (a0 :: a1 :: L) (.long x :: S) w := V_lstore_n0 rfl hd hn hc kk
theorem V_lstore_n_1 {a0 a1 a2 : Option Value} {x : Int64} (hd : decode M.co pc = .ok (.lstore_n 1, 1)) (hn : 2 < M.ml) (hc : c1 (a0 :: a1 :: a2 :: L) 1 = true) (kk : V g M d kc ks op K (pc + 1) (a0 :: some (.long x) :: none :: L) S w) : V g M d kc ks op K pc (a0 :: a1 :: a2 :: L) (.long x :: S) w := V_lstore_n0 rfl hd hn hc kk
theorem V_lstore_n_2 {a0 a1 a2 a3 : Option Value} {x : Int64} (hd : decode M.co pc = .ok (.lstore_n 2, 1)) (hn : 3 < M.ml) (hc : c1 (a0 :: a1 :: a2 :: a3 :: L) 2 = true) (kk : V g M d kc ks op K (pc + 1) (a0 :: a1 :: some (.long x) :: none :: L) S w) : V g M d kc ks op K pc (a0 :: a1 :: a2 :: a3 :: L) (.long x :: S) w := V_lstore_n0 rfl hd hn hc kk
theorem V_lstore_n_3 {a0 a1 a2 a3 a4 : Option Value} {x : Int64} (hd : decode M.co pc = .ok (.lstore_n 3, 1)) (hn : 4 < M.ml) (hc : c1 (a0 :: a1 :: a2 :: a3 :: a4 :: L) 3 = true) (kk : V g M d kc ks op K (pc + 1) (a0 :: a1 :: a2 :: some (.long x) :: none :: L) S w) : V g M d kc ks op K pc (a0 :: a1 :: a2 :: a3 :: a4 :: L) (.long x :: S) w := V_lstore_n0 rfl hd hn hc kk
theorem V_lstore0 {j : Nat} {x : Int64} (hd : decode M.co pc = .ok (.lstore j, 2)) (hn : j + 1 < M.ml) (hc : c1 L j = true) (kk : V g M d kc ks op K (pc + 2) (sv (sv L j (some (.long x))) (j + 1) none) S w) : V g M d kc ks op K pc L (.long x :: S) w := by
  intro p e s m args below meth c H locs cells slots ls mc ms A Z
  obtain ⟨hx, hb, hml, hr, hown, hlk, hnm, htb, hE⟩ := id A
  obtain ⟨hl, hH, hop, hS, hkc, hks⟩ := id Z
  exact lv_lstore hx hb hd hl hn rfl (fun ls hl => (kk p e s m args below meth c H locs cells slots ls mc ms A ⟨lcl_st2 hc hl, hH, hop, hS, hkc, hks⟩))
theorem V_lstore_0 {a0 a1 : Option Value} {x : Int64} (hd : decode M.co pc = .ok (.lstore 0, 2)) (hn : 1 < M.ml) (hc : c1 (a0 :: a1 :: L) 0 = true) (kk : V g M d kc ks op K (pc + 2) (some (.long x) :: none :: L) S w) : V g M d kc ks op K pc (a0 :: a1 :: L) (.long x :: S) w := V_lstore0 hd hn hc kk
theorem V_lstore_1 {a0 a1 a2 : Option Value} {x : Int64} (hd : decode M.co pc = .ok (.lstore 1, 2)) (hn : 2 < M.ml) (hc : c1 (a0 :: a1 :: a2 :: L) 1 = true) (kk : V g M d kc ks op K (pc + 2) (a0 :: some (.long x) :: none :: L) S w) : V g M d kc ks op K pc (a0 :: a1 :: a2 :: L) (.long x :: S) w := V_lstore0 hd hn hc kk
theorem V_lstore_2 {a0 a1 a2 a3 : Option Value} {x : Int64} (hd : decode M.co pc = .ok (.lstore 2, 2)) (hn : 3 < M.ml) (hc : c1 (a0 :: a1 :: a2 :: a3 :: L) 2 = true) (kk : V g M d kc ks op K (pc + 2) (a0 :: a1 :: some (.long x) :: none :: L) S w) : V g M d kc ks op K pc (a0 :: a1 :: a2 :: a3 :: L) (.long x :: S) w := V_lstore0 hd hn hc kk
theorem V_lstore_3 {a0 a1 a2 a3 a4 : Option Value} {x : Int64} (hd : decode M.co pc = .ok (.lstore 3, 2)) (hn : 4 < M.ml) (hc : c1 (a0 :: a1 :: a2 :: a3 :: a4 :: L) 3 = true) (kk : V g M d kc ks op K (pc + 2) (a0 :: a1 :: a2 :: some (.long x) :: none :: L) S w) : V g M d kc ks op K pc (a0 :: a1 :: a2 :: a3 :: a4 :: L) (.long x :: S) w := V_lstore0 hd hn hc kk
theorem V_lstore_4 {a0 a1 a2 a3 a4 a5 : Option Value} {x : Int64} (hd : decode M.co pc = .ok (.lstore 4, 2)) (hn : 5 < M.ml) (hc : c1 (a0 :: a1 :: a2 :: a3 :: a4 :: a5 :: L) 4 = true) (kk : V g M d kc ks op K (pc + 2) (a0 :: a1 :: a2 :: a3 :: some (.long x) :: none :: L) S w) : V g M d kc ks op K pc (a0 :: a1 :: a2 :: a3 :: a4 :: a5 :: L) (.long x :: S) w := V_lstore0 hd hn hc kk
theorem V_lstore_5 {a0 a1 a2 a3 a4 a5 a6 : Option Value} {x : Int64} (hd : decode M.co pc = .ok (.lstore 5, 2)) (hn : 6 < M.ml) (hc : c1 (a0 :: a1 :: a2 :: a3 :: a4 :: a5 :: a6 :: L) 5 = true) (kk : V g M d kc ks op K (pc + 2) (a0 :: a1 :: a2 :: a3 :: a4 :: some (.long x) :: none :: L) S w) : V g M d kc ks op K pc (a0 :: a1 :: a2 :: a3 :: a4 :: a5 :: a6 :: L) (.long x :: S) w := V_lstore0 hd hn hc kk
theorem V_lstore_6 {a0 a1 a2 a3 a4 a5 a6 a7 : Option Value} {x : Int64} (hd : decode M.co pc = .ok (.lstore 6, 2)) (hn : 7 < M.ml) (hc : c1 (a0 :: a1 :: a2 :: a3 :: a4 :: a5 :: a6 :: a7 :: L) 6 = true) (kk : V g M d kc ks op K (pc + 2) (a0 :: a1 :: a2 :: a3 :: a4 :: a5 :: some (.long x) :: none :: L) S w) : V g M d kc ks op K pc (a0 :: a1 :: a2 :: a3 :: a4 :: a5 :: a6 :: a7 :: L) (.long x :: S) w := V_lstore0 hd hn hc kk
theorem V_lstore_7 {a0 a1 a2 a3 a4 a5 a6 a7 a8 : Option Value} {x : Int64} (hd : decode M.co pc = .ok (.lstore 7, 2)) (hn : 8 < M.ml) (hc : c1 (a0 :: a1 :: a2 :: a3 :: a4 :: a5 :: a6 :: a7 :: a8 :: L) 7 = true) (kk : V g M d kc ks op K (pc + 2) (a0 :: a1 :: a2 :: a3 :: a4 :: a5 :: a6 :: some (.long x) :: none :: L) S w) : V g M d kc ks op K pc (a0 :: a1 :: a2 :: a3 :: a4 :: a5 :: a6 :: a7 :: a8 :: L) (.long x :: S) w := V_lstore0 hd hn hc kk
theorem V_lstore_8 {a0 a1 a2 a3 a4 a5 a6 a7 a8 a9 : Option Value} {x : Int64} (hd : decode M.co pc = .ok (.lstore 8, 2)) (hn : 9 < M.ml) (hc : c1 (a0 :: a1 :: a2 :: a3 :: a4 :: a5 :: a6 :: a7 :: a8 :: a9 :: L) 8 = true) (kk : V g M d kc ks op K (pc + 2) (a0 :: a1 :: a2 :: a3 :: a4 :: a5 :: a6 :: a7 :: some (.long x) :: none :: L) S w) : V g M d kc ks op K pc (a0 :: a1 :: a2 :: a3 :: a4 :: a5 :: a6 :: a7 :: a8 :: a9 :: L) (.long x :: S) w := V_lstore0 hd hn hc kk
theorem V_dstore_n0 {k : Fin 4} {j : Nat} (hj : (k : Nat) = j) {x : UInt64} (hd : decode M.co pc = .ok (.dstore_n k, 1)) (hn : j + 1 < M.ml) (hc : c1 L j = true) (kk : V g M d kc ks op K (pc + 1) (sv (sv L j (some (.double x))) (j + 1) none) S w) : V g M d kc ks op K pc L (.double x :: S) w := by
  intro p e s m args below meth c H locs cells slots ls mc ms A Z
  obtain ⟨hx, hb, hml, hr, hown, hlk, hnm, htb, hE⟩ := id A
  obtain ⟨hl, hH, hop, hS, hkc, hks⟩ := id Z
  exact lv_dstore_n hx hb hd hj hl hn rfl (fun ls hl => (kk p e s m args below meth c H locs cells slots ls mc ms A ⟨lcl_st2 hc hl, hH, hop, hS, hkc, hks⟩))
theorem V_dstore_n_0 {a0 a1 : Option Value} {x : UInt64} (hd : decode M.co pc = .ok (.dstore_n 0, 1)) (hn : 1 < M.ml) (hc : c1 (a0 :: a1 :: L) 0 = true) (kk : V g M d kc ks op K (pc + 1) (some (.double x) :: none :: L) S w) : V g M d kc ks op K pc (a0 :: a1 :: L) (.double x :: S) w := V_dstore_n0 rfl hd hn hc kk
theorem V_dstore_n_1 {a0 a1 a2 : Option Value} {x : UInt64} (hd : decode M.co pc = .ok (.dstore_n 1, 1)) (hn : 2 < M.ml) (hc : c1 (a0 :: a1 :: a2 :: L) 1 = true) (kk : V g M d kc ks op K (pc + 1) (a0 :: some (.double x) :: none :: L) S w) : V g M d kc ks op K pc (a0 :: a1 :: a2 :: L) (.double x :: S) w := V_dstore_n0 rfl hd hn hc kk
theorem V_dstore_n_2 {a0 a1 a2 a3 : Option Value} {x : UInt64} (hd : decode M.co pc = .ok (.dstore_n 2, 1)) (hn : 3 < M.ml) (hc : c1 (a0 :: a1 :: a2 :: a3 :: L) 2 = true) (kk : V g M d kc ks op K (pc + 1) (a0 :: a1 :: some (.double x) :: none :: L) S w) : V g M d kc ks op K pc (a0 :: a1 :: a2 :: a3 :: L) (.double x :: S) w := V_dstore_n0 rfl hd hn hc kk
theorem V_dstore_n_3 {a0 a1 a2 a3 a4 : Option Value} {x : UInt64} (hd : decode M.co pc = .ok (.dstore_n 3, 1)) (hn : 4 < M.ml) (hc : c1 (a0 :: a1 :: a2 :: a3 :: a4 :: L) 3 = true) (kk : V g M d kc ks op K (pc + 1) (a0 :: a1 :: a2 :: some (.double x) :: none :: L) S w) : V g M d kc ks op K pc (a0 :: a1 :: a2 :: a3 :: a4 :: L) (.double x :: S) w := V_dstore_n0 rfl hd hn hc kk
theorem V_dstore0 {j : Nat} {x : UInt64} (hd : decode M.co pc = .ok (.dstore j, 2)) (hn : j + 1 < M.ml) (hc : c1 L j = true) (kk : V g M d kc ks op K (pc + 2) (sv (sv L j (some (.double x))) (j + 1) none) S w) : V g M d kc ks op K pc L (.double x :: S) w := by
  intro p e s m args below meth c H locs cells slots ls mc ms A Z
  obtain ⟨hx, hb, hml, hr, hown, hlk, hnm, htb, hE⟩ := id A
  obtain ⟨hl, hH, hop, hS, hkc, hks⟩ := id Z
  exact lv_dstore hx hb hd hl hn rfl (fun ls hl => (kk p e s m args below meth c H locs cells slots ls mc ms A ⟨lcl_st2 hc hl, hH, hop, hS, hkc, hks⟩))
theorem V_dstore_0 {a0 a1 : Option Value} {x : UInt64} (hd : decode M.co pc = .ok (.dstore 0, 2)) (hn : 1 < M.ml) (hc : c1 (a0 :: a1 :: L) 0 = true) (kk : V g M d kc ks op K (pc + 2) (some (.double x) :: none :: L) S w) : V g M d kc ks op K pc (a0 :: a1 :: L) (.double x :: S) w := V_dstore0 hd hn hc kk
theorem V_dstore_1 {a0 a1 a2 : Option Value} {x : UInt64} (hd : decode M.co pc = .ok (.dstore 1, 2)) (hn : 2 < M.ml) (hc : c1 (a0 :: a1 :: a2 :: L) 1 = true) (kk : V g M d kc ks op K (pc + 2) (a0 :: some (.double x) :: none :: L) S w) : V g M d kc ks op K pc (a0 :: a1 :: a2 :: L) (.double x :: S) w := V_dstore0 hd hn hc kk
theorem V_dstore_2 {a0 a1 a2 a3 : Option Value} {x : UInt64} (hd : decode M.co pc = .ok (.dstore 2, 2)) (hn : 3 < M.ml) (hc : c1 (a0 :: a1 :: a2 :: a3 :: L) 2 = true) (kk : V g M d kc ks op K (pc + 2) (a0 :: a1 :: some (.double x) :: none :: L) S w) : V g M d kc ks op K pc (a0 :: a1 :: a2 :: a3 :: L) (.double x :: S) w := V_dstore0 hd hn hc kk
theorem V_dstore_3 {a0 a1 a2 a3 a4 : Option Value} {x : UInt64} (hd : decode M.co pc = .ok (.dstore 3, 2)) (hn : 4 < M.ml) (hc : c1 (a0 :: a1 :: a2 :: a3 :: a4 :: L) 3 = true) (kk : V g M d kc ks op K (pc + 2) (a0 :: a1 :: a2 :: some (.double x) :: none :: L) S w) : V g M d kc ks op K pc (a0 :: a1 :: a2 :: a3 :: a4 :: L) (.double x :: S) w := V_dstore0 hd hn hc kk
theorem V_dstore_4 {a0 a1 a2 a3 a4 a5 : Option Value} {x : UInt64} (hd : decode M.co pc = .ok (.dstore 4, 2)) (hn : 5 < M.ml) (hc : c1 (a0 :: a1 :: a2 :: a3 :: a4 :: a5 :: L) 4 = true) (kk : V g M d kc ks op K (pc + 2) (a0 :: a1 :: a2 :: a3 :: some (.double x) :: none :: L) S w) : V g M d kc ks op K pc (a0 :: a1 :: a2 :: a3 :: a4 :: a5 :: L) (.double x :: S) w := V_dstore0 hd hn hc kk
theorem V_dstore_5 {a0 a1 a2 a3 a4 a5 a6 : Option Value} {x : UInt64} (hd : decode M.co pc = .ok (.dstore 5, 2)) (hn : 6 < M.ml) (hc : c1 (a0 :: a1 :: a2 :: a3 :: a4 :: a5 :: a6 :: L) 5 = true) (kk : V g M d kc ks op K (pc + 2) (a0 :: a1 :: a2 :: a3 :: a4 :: some (.double x) :: none :: L) S w) : V g M d kc ks op K pc (a0 :: a1 :: a2 :: a3 :: a4 :: a5 :: a6 :: L) (.double x :: S) w := V_dstore0 hd hn hc kk
theorem V_dstore_6 {a0 a1 a2 a3 a4 a5 a6 a7 : Option Value} {x : UInt64} (hd : decode M.co pc = .ok (.dstore 6, 2)) (hn : 7 < M.ml) (hc : c1 (a0 :: a1 :: a2 :: a3 :: a4 :: a5 :: a6 :: a7 :: L) 6 = true) (kk : V g M d kc ks op K (pc + 2) (a0 :: a1 :: a2 :: a3 :: a4 :: a5 :: some (.double x) :: none :: L) S w) : V g M d kc ks op K pc (a0 :: a1 :: a2 :: a3 :: a4 :: a5 :: a6 :: a7 :: L) (.double x :: S) w := V_dstore0 hd hn hc kk
theorem V_dstore_7 {a0 a1 a2 a3 a4 a5 a6 a7 a8 : Option Value} {x : UInt64} (hd : decode M.co pc = .ok (.dstore 7, 2)) (hn : 8 < M.ml) (hc : c1 (a0 :: a1 :: a2 :: a3 :: a4 :: a5 :: a6 :: a7 :: a8 :: L) 7 = true) (kk : V g M d kc ks op K (pc + 2) (a0 :: a1 :: a2 :: a3 :: a4 :: a5 :: a6 :: some (.double x) :: none :: L) S w) : V g M d kc ks op K pc (a0 :: a1 :: a2 :: a3 :: a4 :: a5 :: a6 :: a7 :: a8 :: L) (.double x :: S) w := V_dstore0 hd hn hc kk
theorem V_dstore_8 {a0 a1 a2 a3 a4 a5 a6 a7 a8 a9 : Option Value} {x : UInt64} (hd : decode M.co pc = .ok (.dstore 8, 2)) (hn : 9 < M.ml) (hc : c1 (a0 :: a1 :: a2 :: a3 :: a4 :: a5 :: a6 :: a7 :: a8 :: a9 :: L) 8 = true) (kk : V g M d kc ks op K (pc + 2) (a0 :: a1 :: a2 :: a3 :: a4 :: a5 :: a6 :: a7 :: some (.double x) :: none :: L) S w) : V g M d kc ks op K pc (a0 :: a1 :: a2 :: a3 :: a4 :: a5 :: a6 :: a7 :: a8 :: a9 :: L) (.double x :: S) w := V_dstore0 hd hn hc kk
theorem V_iinc0 {j : Nat} {n : Int} {x v : Int32} (hd : decode M.co pc = .ok (.iinc j n, 3)) (hn : j < M.ml) (hc : c1 L j = true) (hv : nth L j = some (.int x)) (he : x + Int32.ofInt n = v) (kk : V g M d kc ks op K (pc + 3) (sv L j (some (.int v))) S w) : V g M d kc ks op K pc L S w := by
  intro p e s m args below meth c H locs cells slots ls mc ms A Z
  obtain ⟨hx, hb, hml, hr, hown, hlk, hnm, htb, hE⟩ := id A
  obtain ⟨hl, hH, hop, hS, hkc, hks⟩ := id Z
  obtain ⟨k9, hk9⟩ := List.getElem?_of_mem (lcl_mem (g := g) L 0 j _ hv)
  rw [Nat.zero_add] at hk9
  exact lv_iinc (k := k9) hx hb hd hl hk9 he hn rfl (fun ls hl => (kk p e s m args below meth c H locs cells slots ls mc ms A ⟨lcl_st1 hc hl, hH, hop, hS, hkc, hks⟩))
theorem V_iinc_0 {n : Int} {x v : Int32} (hd : decode M.co pc = .ok (.iinc 0 n, 3)) (hn : 0 < M.ml) (hc : c1 (some (.int x) :: L) 0 = true) (he : x + Int32.ofInt n = v) (kk : V g M d kc ks op K (pc + 3) (some (.int v) :: L) S w) : V g M d kc ks op K pc (some (.int x) :: L) S w := V_iinc0 hd hn hc rfl he kk
theorem V_iinc_1 {a0 : Option Value} {n : Int} {x v : Int32} (hd : decode M.co pc = .ok (.iinc 1 n, 3)) (hn : 1 < M.ml) (hc : c1 (a0 :: some (.int x) :: L) 1 = true) (he : x + Int32.ofInt n = v) (kk : V g M d kc ks op K (pc + 3) (a0 :: some (.int v) :: L) S w) : V g M d kc ks op K pc (a0 :: some (.int x) :: L) S w := V_iinc0 hd hn hc rfl he kk
theorem V_iinc_2 {a0 a1 : Option Value} {n : Int} {x v : Int32} (hd : decode M.co pc = .ok (.iinc 2 n, 3)) (hn : 2 < M.ml) (hc : c1 (a0 :: a1 :: some (.int x) :: L) 2 = true) (he : x + Int32.ofInt n = v) (kk : V g M d kc ks op K (pc + 3) (a0 :: a1 :: some (.int v) :: L) S w) : V g M d kc ks op K pc (a0 :: a1 :: some (.int x) :: L) S w := V_iinc0 hd hn hc rfl he kk
theorem V_iinc_3 {a0 a1 a2 : Option Value} {n : Int} {x v : Int32} (hd : decode M.co pc = .ok (.iinc 3 n, 3)) (hn : 3 < M.ml) (hc : c1 (a0 :: a1 :: a2 :: some (.int x) :: L) 3 = true) (he : x + Int32.ofInt n = v) (kk : V g M d kc ks op K (pc + 3) (a0 :: a1 :: a2 :: some (.int v) :: L) S w) : V g M d kc ks op K pc (a0 :: a1 :: a2 :: some (.int x) :: L) S w := V_iinc0 hd hn hc rfl he kk
theorem V_iinc_4 {a0 a1 a2 a3 : Option Value} {n : Int} {x v : Int32} (hd : decode M.co pc = .ok (.iinc 4 n, 3)) (hn : 4 < M.ml) (hc : c1 (a0 :: a1 :: a2 :: a3 :: some (.int x) :: L) 4 = true) (he : x + Int32.ofInt n = v) (kk : V g M d kc ks op K (pc + 3) (a0 :: a1 :: a2 :: a3 :: some (.int v) :: L) S w) : V g M d kc ks op K pc (a0 :: a1 :: a2 :: a3 :: some (.int x) :: L) S w := V_iinc0 hd hn hc rfl he kk
theorem V_iinc_5 {a0 a1 a2 a3 a4 : Option Value} {n : Int} {x v : Int32} (hd : decode M.co pc = .ok (.iinc 5 n, 3)) (hn : 5 < M.ml) (hc : c1 (a0 :: a1 :: a2 :: a3 :: a4 :: some (.int x) :: L) 5 = true) (he : x + Int32.ofInt n = v) (kk : V g M d kc ks op K (pc + 3) (a0 :: a1 :: a2 :: a3 :: a4 :: some (.int v) :: L) S w) : V g M d kc ks op K pc (a0 :: a1 :: a2 :: a3 :: a4 :: some (.int x) :: L) S w := V_iinc0 hd hn hc rfl he kk
theorem V_iinc_6 {a0 a1 a2 a3 a4 a5 : Option Value} {n : Int} {x v : Int32} (hd : decode M.co pc = .ok (.iinc 6 n, 3)) (hn : 6 < M.ml) (hc : c1 (a0 :: a1 :: a2 :: a3 :: a4 :: a5 :: some (.int x) :: L) 6 = true) (he : x + Int32.ofInt n = v) (kk : V g M d kc ks op K (pc + 3) (a0 :: a1 :: a2 :: a3 :: a4 :: a5 :: some (.int v) :: L) S w) : V g M d kc ks op K pc (a0 :: a1 :: a2 :: a3 :: a4 :: a5 :: some (.int x) :: L) S w := V_iinc0 hd hn hc rfl he kk
theorem V_iinc_7 {a0 a1 a2 a3 a4 a5 a6 : Option Value} {n : Int} {x v : Int32} (hd : decode M.co pc = .ok (.iinc 7 n, 3)) (hn : 7 < M.ml) (hc : c1 (a0 :: a1 :: a2 :: a3 :: a4 :: a5 :: a6 :: some (.int x) :: L) 7 = true) (he : x + Int32.ofInt n = v) (kk : V g M d kc ks op K (pc + 3) (a0 :: a1 :: a2 :: a3 :: a4 :: a5 :: a6 :: some (.int v) :: L) S w) : V g M d kc ks op K pc (a0 :: a1 :: a2 :: a3 :: a4 :: a5 :: a6 :: some (.int x) :: L) S w := V_iinc0 hd hn hc rfl he kk
theorem V_iinc_8 {a0 a1 a2 a3 a4 a5 a6 a7 : Option Value} {n : Int} {x v : Int32} (hd : decode M.co pc = .ok (.iinc 8 n, 3)) (hn : 8 < M.ml) (hc : c1 (a0 :: a1 :: a2 :: a3 :: a4 :: a5 :: a6 :: a7 :: some (.int x) :: L) 8 = true) (he : x + Int32.ofInt n = v) (kk : V g M d kc ks op K (pc + 3) (a0 :: a1 :: a2 :: a3 :: a4 :: a5 :: a6 :: a7 :: some (.int v) :: L) S w) : V g M d kc ks op K pc (a0 :: a1 :: a2 :: a3 :: a4 :: a5 :: a6 :: a7 :: some (.int x) :: L) S w := V_iinc0 hd hn hc rfl he kk
end RULES
end
section
/-! ===== fields, arrays, new objects ===== -/
theorem TW_in {w : Cond} (h : w ∈ lw_tbl) (ho : okW w = true) : w ∈ TW := List.mem_filter.mpr ⟨h, ho⟩
/-- the class c of the table, all that its fields' rows ask -/
def CF (c : Nat) : Prop := vwCl[c]? = some (RX c, TX c, nX c) ∧ (∀ w ∈ u_ws (RX c) (TX c) (nX c), w ∈ TW) ∧ (∀ k, k < nX c → parseFieldDescriptor (TX c k).2.2.1 = some (tX c k)) ∧ (∀ a, a < nX c → ∀ b, b < nX c → a ≠ b → (TX c a).2.1 ≠ (TX c b).2.1) ∧ c < 8
theorem okW_lay (C : String) (T : u_T) (k : Nat) : okW (u_lay C T k) = true := by
  unfold u_lay okW
  split <;> rfl
theorem u_TW {C : String} {T : u_T} {N : Nat} (h : ∀ w ∈ u_ws C T N, w ∈ lw_tbl) : ∀ w ∈ u_ws C T N, w ∈ TW := by
  intro w hw
  refine TW_in (h w hw) ?_
  obtain ⟨k, -, rfl⟩ := List.mem_map.mp hw
  exact okW_lay C T k
theorem cf0 : CF 0 := ⟨rfl, u_TW inX0, tyX0_ok, nmX0, by omega⟩
theorem cf1 : CF 1 := ⟨rfl, u_TW inX1, tyX1_ok, nmX1, by omega⟩
theorem cf2 : CF 2 := ⟨rfl, u_TW inX2, tyX2_ok, nmX2, by omega⟩
theorem cf3 : CF 3 := ⟨rfl, u_TW inX3, tyX3_ok, nmX3, by omega⟩
theorem cf4 : CF 4 := ⟨rfl, u_TW inX4, tyX4_ok, nmX4, by omega⟩
theorem cf5 : CF 5 := ⟨rfl, u_TW inX5, tyX5_ok, nmX5, by omega⟩
theorem cf6 : CF 6 := ⟨rfl, u_TW inX6, tyX6_ok, nmX6, by omega⟩
theorem cf7 : CF 7 := ⟨rfl, u_TW inX7, tyX7_ok, nmX7, by omega⟩
/-- the entry idx of own's pool names the field f of the class c -/
def FL (own : String) (idx c f : Nat) : Prop := CF c ∧ f < nX c ∧ ((Cond.fieldLink own idx (TX c f).1 (TX c f).2.1 (TX c f).2.2.1 ∈ TW) ∨ ∃ host : String, Cond.fieldLinkNest own idx (TX c f).1 (TX c f).2.1 (TX c f).2.2.1 host ∈ TW)
/-- kind and size of the place k -/
def kz (w : Wd) (k : Nat) : Nat × Nat := if k < wN w then wS w k else (99, 0)
theorem kz_lt {w : Wd} {k : Nat} {a : Nat × Nat} (h : kz w k = a) (ha : a.1 ≠ 99) : k < wN w ∧ wS w k = a := by
  unfold kz at h
  split at h
  · exact ⟨‹_›, h⟩
  · rw [← h] at ha; exact absurd rfl ha
theorem ce_obj {g : G0} {w : Wd} {k c z : Nat} (h : wS w k = (c, z)) (hc : c < 8) : ce g w k = .inr (c, (List.range (nX c)).map (fun f => fv g w k f (tX c f))) := by
  unfold ce
  rw [h]
  show (if c = 10 then _ else if c = 11 then _ else if c = 12 then _ else if c = 13 then _ else _) = _
  rw [if_neg (by omega), if_neg (by omega), if_neg (by omega), if_neg (by omega)]
theorem ce_int {g : G0} {w : Wd} {k z : Nat} (h : wS w k = (10, z)) : ce g w k = .inl (gcI g, z, .inl (wI w k)) := by unfold ce; rw [h]; rfl
theorem ce_long {g : G0} {w : Wd} {k z : Nat} (h : wS w k = (11, z)) : ce g w k = .inl (gcJ g, z, .inr (.inl (wJ w k))) := by unfold ce; rw [h]; rfl
theorem ce_st {g : G0} {w : Wd} {k z : Nat} (h : wS w k = (12, z)) : ce g w k = .inl (gcS g, z, .inr (.inr (.inr (.inr (fun i => (wR w k i).map (ad g)))))) := by unfold ce; rw [h]; rfl
theorem ce_fo {g : G0} {w : Wd} {k z : Nat} (h : wS w k = (13, z)) : ce g w k = .inl (gcF g, z, .inr (.inr (.inr (.inr (fun i => (wR w k i).map (ad g)))))) := by unfold ce; rw [h]; rfl
def isRefT (t : FieldType) : Bool := match t with
  | .object _ => true
  | .array _ => true
  | _ => false
def isIntT (t : FieldType) : Bool := match t with
  | .long => false
  | .object _ => false
  | .array _ => false
  | _ => true
theorem fv_int {g : G0} {w : Wd} {k f : Nat} {t : FieldType} (h : isIntT t = true) : fv g w k f t = .int (wI w k f) := by
  cases t <;> first | rfl | cases h
theorem fv_ref {g : G0} {w : Wd} {k f r : Nat} {t : FieldType} (h : isRefT t = true) (hr : wR w k f = some r) : fv g w k f t = .ref (ad g r) := by
  cases t <;> first | (show va_rf ((wR w k f).map (ad g)) = _; rw [hr]; rfl) | cases h
section HEAP
variable {g : G0} {M : M0} {d kc ks : Nat} {op : Bool} {K : K0} {pc : Nat} {L : List (Option Value)} {S : List Value} {w : Wd}
theorem V_get0 {idx c f k z : Nat} {v : Value} (hd : decode M.co pc = .ok (.getfield idx, 3)) (hF : FL M.nm.cls idx c f) (hk : kz w k = (c, z)) (hv : fv g w k f (tX c f) = cv g v) (kk : V g M d kc ks op K (pc + 3) L (v :: S) w) : V g M d kc ks op K pc L (.ref k :: S) w := by
  intro p e s m args below meth c0 H locs cells slots ls mc ms A Z
  obtain ⟨hx, hb, hml, hr, hown, hlk, hnm, htb, hE⟩ := id A
  obtain ⟨hl, hH, hop, hS, hkc, hks⟩ := id Z
  obtain ⟨⟨hc1, hc2, hc3, hc4, hc5⟩, hf, hlink⟩ := hF
  obtain ⟨hk1, hk2⟩ := kz_lt hk (by show c ≠ 99; omega)
  have hts : ∀ w ∈ TW, w.before args s = true := fun w hw => hE.2.1 w hw args
  have he : (wl g w)[k]? = some (ad g k, .inr (c, (List.range (nX c)).map (fun f => fv g w k f (tX c f)))) := by rw [wl_at hk1, ce_obj hk2 hc5]
  have hvv : ((List.range (nX c)).map (fun f => fv g w k f (tX c f)))[f]? = some (cv g v) := by rw [List.getElem?_map, List.getElem?_range hf, ← hv]; rfl
  rcases hlink with h | ⟨host, h⟩
  · exact va_get hx hb hts hc2 hown hE.1 hH.P k he hc1 f hf (hts _ h) (fun _ h => h) hvv hd (kk p e s m args below meth c0 H locs cells slots ls mc ms A Z)
  · exact va_getN hx hb hts hc2 hown hE.1 hH.P k he hc1 f hf (hts _ h) (fun _ h => h) hvv hd (kk p e s m args below meth c0 H locs cells slots ls mc ms A Z)
theorem V_getI {idx c f k z : Nat} (hd : decode M.co pc = .ok (.getfield idx, 3)) (hF : FL M.nm.cls idx c f) (hk : kz w k = (c, z)) (ht : isIntT (tX c f) = true) (kk : V g M d kc ks op K (pc + 3) L (.int (wI w k f) :: S) w) : V g M d kc ks op K pc L (.ref k :: S) w := V_get0 hd hF hk (fv_int ht) kk
theorem V_getJ {idx c f k z : Nat} (hd : decode M.co pc = .ok (.getfield idx, 3)) (hF : FL M.nm.cls idx c f) (hk : kz w k = (c, z)) (ht : tX c f = .long) (kk : V g M d kc ks op K (pc + 3) L (.long (wJ w k f) :: S) w) : V g M d kc ks op K pc L (.ref k :: S) w := V_get0 hd hF hk (by rw [ht]; rfl) kk
theorem V_getR {idx c f k z r : Nat} (hd : decode M.co pc = .ok (.getfield idx, 3)) (hF : FL M.nm.cls idx c f) (hk : kz w k = (c, z)) (ht : isRefT (tX c f) = true) (hr : wR w k f = some r) (kk : V g M d kc ks op K (pc + 3) L (.ref r :: S) w) : V g M d kc ks op K pc L (.ref k :: S) w := V_get0 hd hF hk (fv_ref ht hr) kk
/-- behind a change of one cell -/
theorem Hd_set {w w' : Wd} {H H1 : Heap} {k : Nat} (hH : Hd g w H) (hn : wN w' = wN w) (hk : k < wN w) (ho : ∀ j, j ≠ k → ce g w' j = ce g w j) (he : va_at (gD g) vwCl (ad g k, ce g w' k) H1) (hz : H1.size = H.size) (oq : ∀ q, q ≠ ad g k → H1[q]? = H[q]?) : Hd g w' H1 := by
  refine ⟨?_, by rw [hn]; exact hH.2.1, by rw [hn, hz]; exact hH.2.2⟩
  rw [← wl_set hn hk ho]
  exact hH.1.set hH.D (wl_at hk) he oq
theorem ce_sI {w : Wd} {k f j : Nat} {v : Int32} (h : j ≠ k) : ce g (sI w k f v) j = ce g w j := by
  have h1 : up2 (wI w) k f v j = wI w j := funext fun b => if_neg (fun z => h z.1)
  unfold ce fv
  simp only [sI, wI, wS, wJ, wR, wN] at h1 ⊢
  simp only [h1]
theorem ce_sJ {w : Wd} {k f j : Nat} {v : Int64} (h : j ≠ k) : ce g (sJ w k f v) j = ce g w j := by
  have h1 : up2 (wJ w) k f v j = wJ w j := funext fun b => if_neg (fun z => h z.1)
  unfold ce fv
  simp only [sJ, wI, wS, wJ, wR, wN] at h1 ⊢
  simp only [h1]
theorem ce_sR {w : Wd} {k f j : Nat} {v : Option Nat} (h : j ≠ k) : ce g (sR w k f v) j = ce g w j := by
  have h1 : up2 (wR w) k f v j = wR w j := funext fun b => if_neg (fun z => h z.1)
  unfold ce fv
  simp only [sR, wI, wS, wJ, wR, wN] at h1 ⊢
  simp only [h1]
theorem V_put0 {idx c f k z : Nat} {v : Value} {w' : Wd} {ty : FieldType} (hd : decode M.co pc = .ok (.putfield idx, 3)) (hF : FL M.nm.cls idx c f) (hk : kz w k = (c, z)) (hfin : (TX c f).2.2.2 = false ∨ ((TX c f).2.2.2 = true ∧ M.nm.name = "<init>" ∧ (TX c f).1 = M.nm.cls ∧ Cond.fieldLink M.nm.cls idx (TX c f).1 (TX c f).2.1 (TX c f).2.2.1 ∈ TW)) (ht : tX c f = ty) (hn : narrow ty (cv g v) = cv g v) (hfit : fits ty (cv g v) = true)
    (hwn : wN w' = wN w) (hws : wS w' = wS w) (ho : ∀ j, j ≠ k → ce g w' j = ce g w j) (hw : ∀ j, j < nX c → fv g w' k j (tX c j) = if j = f then cv g v else fv g w k j (tX c j))
    (kk : V g M d kc ks op K (pc + 3) L S w') : V g M d kc ks op K pc L (v :: .ref k :: S) w := by
  intro p e s m args below meth c0 H locs cells slots ls mc ms A Z
  obtain ⟨hx, hb, hml, hr, hown, hlk, hnm, htb, hE⟩ := id A
  obtain ⟨hl, hH, hop, hS, hkc, hks⟩ := id Z
  obtain ⟨⟨hc1, hc2, hc3, hc4, hc5⟩, hf, hlink⟩ := hF
  obtain ⟨hk1, hk2⟩ := kz_lt hk (by show c ≠ 99; omega)
  have hts : ∀ w ∈ TW, w.before args s = true := fun w hw => hE.2.1 w hw args
  have he : (wl g w)[k]? = some (ad g k, .inr (c, (List.range (nX c)).map (fun f => fv g w k f (tX c f)))) := by rw [wl_at hk1, ce_obj hk2 hc5]
  have hap := va_apart (own := M.nm.cls) hts hc2 (tX c) hc3 hc4 hE.1 hc1
  obtain ⟨r, h1, cell, q1, q2, q3, q4⟩ := hH.P k _ he
  have hr9 : r = (RX c, TX c, nX c) := Option.some.inj (h1.symm.trans hc1)
  subst hr9
  obtain ⟨hSl, hfc, kC, hkC, hkind⟩ := hE.1.1 c _ hc1
  obtain ⟨cf, kf, fi, fd, hi, hsl⟩ := hSl f hf
  have hst := (u_facts hfc hkC (u_lays hts hc2 hf) hi).1
  have hlay := hts _ (hc2 _ (u_in_lay (C := RX c) (T := TX c) hf))
  have hpf : parseFieldDescriptor (TX c f).2.2.1 = some ty := by rw [hc3 f hf, ht]
  have hafter : ∀ (H' : Heap), H'[ad g k]? = some (cell.setSlot fd.slot (cv g v)) → H'.size = H.size → (∀ q, q ≠ ad g k → H'[q]? = H[q]?) → W p (gl g) e { frames := d, cells := mc, slots := ms, locals := 36 * d } s m args below meth c0 H' (locs ++ [⟨ad g k, fd.slot⟩]) cells slots (K below args s mc ms) (F0 m (pc + 3) ls (S.map (cv g))) := by
    intro H' e1 e2 e3
    rw [hsl] at e1 ⊢
    refine kk p e s m args below meth c0 H' _ cells slots ls mc ms A ⟨hl, Hd_set hH hwn hk1 ho ?_ e2 e3, fun h => by rw [e2, hwn]; exact hop h, hS.put e2 e3 ?_, hkc, hks⟩
    · rw [ce_obj (by rw [hws]; exact hk2) hc5]
      refine ⟨_, hc1, t_OB.to (V := updV (vp_V ((List.range (nX c)).map (fun f => fv g w k f (tX c f)))) f (cv g v)) ⟨_, e1, q2, q3, t_set q4 hap hf (cv g v)⟩ (fun j hj => ?_)⟩
      have hj1 : vp_V ((List.range (nX c)).map (fun f => fv g w' k f (tX c f))) j = fv g w' k j (tX c j) := by
        unfold vp_V; rw [List.getD_eq_getElem?_getD, List.getElem?_map, List.getElem?_range hj]; rfl
      have hj2 : vp_V ((List.range (nX c)).map (fun f => fv g w k f (tX c f))) j = fv g w k j (tX c j) := by
        unfold vp_V; rw [List.getD_eq_getElem?_getD, List.getElem?_map, List.getElem?_range hj]; rfl
      show updV _ f (cv g v) j = vp_V _ j
      rw [hj1, hw j hj]
      unfold updV
      rw [hj2]
    · show gB g ≤ ad g k
      rw [ad_lt (by have := hH.2.1; omega)]; omega
  have hhas : fd.slot < cell.slots.size := by rw [hsl]; exact k2_hasslot (q4 f hf)
  rcases hfin with hfin | ⟨hfin, hin2, hdecl, hlk2⟩
  · unfold u_lay at hlay
    rw [if_neg (by rw [hfin]; decide)] at hlay
    have h6 := u_store hfc hkC hkind hlay hi hpf hn hfit
    rcases hlink with h | ⟨host, h⟩
    · exact W.putK hx hb (f := fd) ⟨hown, hts _ h, ⟨_, _, _, hi⟩, hst⟩ (by rw [q2]; exact h6) q1 q3 hhas rfl rfl hd hafter
    · exact va_WputK hx hb (f := fd) hown (hts _ h) hi hst (by rw [q2]; exact h6) q1 q3 hhas rfl rfl hd hafter
  · unfold u_lay at hlay
    rw [if_pos hfin] at hlay
    have hcf : m.cls = cf := by
      obtain ⟨_, _, c', _, _, _, -, -, hf', -, -, -, hown2, -⟩ := Cond.laysFinal_spec hlay
      have e1 : c' = cf := by have := hi.symm.trans hf'; simp at this; exact this.1.symm
      rw [hdecl] at hown2
      rw [← e1]; exact Option.some.inj (hown.symm.trans hown2)
    have h6 := u_fits hfc hkC hkind (Or.inr hlay) hi hpf hn hfit
    exact W.putFinK hx hb hown (hts _ hlk2) hi hst hcf (hnm.trans hin2) (by rw [q2]; exact h6) q1 q3 hhas rfl rfl hd hafter
theorem fv_sI {w : Wd} {k f j : Nat} {v : Int32} {t : FieldType} (ht : j = f → isIntT t = true) : fv g (sI w k f v) k j t = if j = f then .int v else fv g w k j t := by
  by_cases h : j = f
  · subst h
    rw [if_pos rfl, fv_int (ht rfl)]
    show Value.int (up2 (wI w) k j v k j) = _
    unfold up2
    rw [if_pos ⟨rfl, rfl⟩]
  · rw [if_neg h]
    cases t <;> first | rfl | (show Value.int (up2 (wI w) k f v k j) = Value.int (wI w k j); unfold up2; rw [if_neg (fun z => h z.2)])
theorem V_putI {idx c f k z : Nat} {x : Int32} (hd : decode M.co pc = .ok (.putfield idx, 3)) (hF : FL M.nm.cls idx c f) (hk : kz w k = (c, z)) (hfin : (TX c f).2.2.2 = false) (ht : tX c f = .int) (kk : V g M d kc ks op K (pc + 3) L S (sI w k f x)) : V g M d kc ks op K pc L (.int x :: .ref k :: S) w :=
  V_put0 (w' := sI w k f x) (ty := .int) hd hF hk (Or.inl hfin) ht rfl rfl rfl rfl (fun j hj => ce_sI hj) (fun j _ => fv_sI (fun h => by rw [h, ht]; rfl)) kk
theorem V_putZ {idx c f k z : Nat} {x : Int32} (hd : decode M.co pc = .ok (.putfield idx, 3)) (hF : FL M.nm.cls idx c f) (hk : kz w k = (c, z)) (hfin : (TX c f).2.2.2 = false) (ht : tX c f = .boolean) (hx : x = 0 ∨ x = 1) (kk : V g M d kc ks op K (pc + 3) L S (sI w k f x)) : V g M d kc ks op K pc L (.int x :: .ref k :: S) w :=
  V_put0 (w' := sI w k f x) (ty := .boolean) hd hF hk (Or.inl hfin) ht (by rcases hx with rfl | rfl <;> rfl) (by rcases hx with rfl | rfl <;> rfl) rfl rfl (fun j hj => ce_sI hj) (fun j _ => fv_sI (fun h => by rw [h, ht]; rfl)) kk
theorem fv_sJ {w : Wd} {k f j : Nat} {v : Int64} {t : FieldType} (ht : j = f → t = .long) : fv g (sJ w k f v) k j t = if j = f then .long v else fv g w k j t := by
  by_cases h : j = f
  · subst h
    rw [if_pos rfl, ht rfl]
    show Value.long (up2 (wJ w) k j v k j) = _
    unfold up2
    rw [if_pos ⟨rfl, rfl⟩]
  · rw [if_neg h]
    cases t <;> first | rfl | (show Value.long (up2 (wJ w) k f v k j) = Value.long (wJ w k j); unfold up2; rw [if_neg (fun z => h z.2)])
theorem V_putJ {idx c f k z : Nat} {x : Int64} (hd : decode M.co pc = .ok (.putfield idx, 3)) (hF : FL M.nm.cls idx c f) (hk : kz w k = (c, z)) (hfin : (TX c f).2.2.2 = false) (ht : tX c f = .long) (kk : V g M d kc ks op K (pc + 3) L S (sJ w k f x)) : V g M d kc ks op K pc L (.long x :: .ref k :: S) w :=
  V_put0 (w' := sJ w k f x) (ty := .long) hd hF hk (Or.inl hfin) ht rfl rfl rfl rfl (fun j hj => ce_sJ hj) (fun j _ => fv_sJ (fun h => by rw [h, ht])) kk
theorem fv_sR {w : Wd} {k f j r : Nat} {t : FieldType} (ht : j = f → isRefT t = true) : fv g (sR w k f (some r)) k j t = if j = f then .ref (ad g r) else fv g w k j t := by
  by_cases h : j = f
  · subst h
    rw [if_pos rfl]
    refine fv_ref (ht rfl) ?_
    show up2 (wR w) k j (some r) k j = _
    unfold up2
    rw [if_pos ⟨rfl, rfl⟩]
  · rw [if_neg h]
    cases t <;> first | rfl | (show va_rf ((up2 (wR w) k f (some r) k j).map (ad g)) = va_rf ((wR w k j).map (ad g)); unfold up2; rw [if_neg (fun z => h z.2)])
/-- a final field of references, in the constructor -/
theorem V_putR {idx c f k z r : Nat} (hd : decode M.co pc = .ok (.putfield idx, 3)) (hF : FL M.nm.cls idx c f) (hk : kz w k = (c, z)) (hfin : (TX c f).2.2.2 = true) (hin : M.nm.name = "<init>") (hdecl : (TX c f).1 = M.nm.cls) (hlk : Cond.fieldLink M.nm.cls idx (TX c f).1 (TX c f).2.1 (TX c f).2.2.1 ∈ TW) (ht : isRefT (tX c f) = true) (kk : V g M d kc ks op K (pc + 3) L S (sR w k f (some r))) : V g M d kc ks op K pc L (.ref r :: .ref k :: S) w :=
  V_put0 (w' := sR w k f (some r)) (ty := tX c f) hd hF hk (Or.inr ⟨hfin, hin, hdecl, hlk⟩) rfl (by cases hq : tX c f <;> first | rfl | (rw [hq] at ht; cases ht)) (by cases hq : tX c f <;> first | rfl | (rw [hq] at ht; cases ht)) rfl rfl (fun j hj => ce_sR hj) (fun j _ => fv_sR (fun h => by rw [h]; exact ht)) kk
end HEAP
end
section
/-! ===== arrays, new objects, the script ===== -/
section ARR
variable {g : G0} {M : M0} {d kc ks : Nat} {op : Bool} {K : K0} {pc : Nat} {L : List (Option Value)} {S : List Value} {w : Wd}
theorem V_iald {k z i : Nat} {x : Int32} (hd : decode M.co pc = .ok (.iaload, 1)) (hk : kz w k = (10, z)) (hx : x = nI i) (hi : i < z) (hz : z < 2 ^ 31) (kk : V g M d kc ks op K (pc + 1) L (.int (wI w k i) :: S) w) : V g M d kc ks op K pc L (.int x :: .ref k :: S) w := by
  intro p e s m args below meth c0 H locs cells slots ls mc ms A Z
  obtain ⟨hx0, hb, hml, hr, hown, hlk, hnm, htb, hE⟩ := id A
  obtain ⟨hl, hH, hop, hS, hkc, hks⟩ := id Z
  obtain ⟨hk1, hk2⟩ := kz_lt hk (by show 10 ≠ 99; omega)
  subst hx
  have h9 := kk p e s m args below meth c0 H locs cells slots ls mc ms A Z
  have hc : (nI i).toNatClampNeg = i := nI_clamp (by omega)
  refine va_iald (D := gD g) (cl := vwCl) (tys := gT g) (ws := wl g w) hx0 hb hE.1 hH.P k 0 (f := wI w k) (n := z) (cA := gcI g) (by rw [wl_at hk1, ce_int hk2]) rfl (vp_in_nI hi hz) hd ?_
  rw [hc]
  exact h9
theorem V_lald {k z i : Nat} {x : Int32} (hd : decode M.co pc = .ok (.laload, 1)) (hk : kz w k = (11, z)) (hx : x = nI i) (hi : i < z) (hz : z < 2 ^ 31) (kk : V g M d kc ks op K (pc + 1) L (.long (wJ w k i) :: S) w) : V g M d kc ks op K pc L (.int x :: .ref k :: S) w := by
  intro p e s m args below meth c0 H locs cells slots ls mc ms A Z
  obtain ⟨hx0, hb, hml, hr, hown, hlk, hnm, htb, hE⟩ := id A
  obtain ⟨hl, hH, hop, hS, hkc, hks⟩ := id Z
  obtain ⟨hk1, hk2⟩ := kz_lt hk (by show 11 ≠ 99; omega)
  subst hx
  have h9 := kk p e s m args below meth c0 H locs cells slots ls mc ms A Z
  have hc : (nI i).toNatClampNeg = i := nI_clamp (by omega)
  refine va_lald (D := gD g) (cl := vwCl) (tys := gT g) (ws := wl g w) hx0 hb hE.1 hH.P k 1 (f := wJ w k) (n := z) (cA := gcJ g) (by rw [wl_at hk1, ce_long hk2]) rfl (vp_in_nI hi hz) hd ?_
  rw [hc]
  exact h9
theorem V_aald {k z i r kd : Nat} {x : Int32} (hd : decode M.co pc = .ok (.aaload, 1)) (hk : kz w k = (kd, z)) (hkd : kd = 12 ∨ kd = 13) (hx : x = nI i) (hi : i < z) (hz : z < 2 ^ 31) (hr0 : wR w k i = some r) (kk : V g M d kc ks op K (pc + 1) L (.ref r :: S) w) : V g M d kc ks op K pc L (.int x :: .ref k :: S) w := by
  intro p e s m args below meth c0 H locs cells slots ls mc ms A Z
  obtain ⟨hx0, hb, hml, hr, hown, hlk, hnm, htb, hE⟩ := id A
  obtain ⟨hl, hH, hop, hS, hkc, hks⟩ := id Z
  obtain ⟨hk1, hk2⟩ := kz_lt hk (by show kd ≠ 99; omega)
  subst hx
  have h9 := kk p e s m args below meth c0 H locs cells slots ls mc ms A Z
  have hc : (nI i).toNatClampNeg = i := nI_clamp (by omega)
  rcases hkd with rfl | rfl
  · refine va_aldq (D := gD g) (cl := vwCl) (tys := gT g) (ws := wl g w) hx0 hb hE.1 hH.P k 2 (f := fun i => (wR w k i).map (ad g)) (n := z) (cA := gcS g) (by rw [wl_at hk1, ce_st hk2]) rfl (vp_in_nI hi hz) hd ?_
    rw [hc]
    show W p _ _ _ _ _ _ _ _ _ _ _ _ _ _ (F0 _ _ _ (va_rf ((wR w k i).map (ad g)) :: _))
    rw [hr0]
    exact h9
  · refine va_aldq (D := gD g) (cl := vwCl) (tys := gT g) (ws := wl g w) hx0 hb hE.1 hH.P k 3 (f := fun i => (wR w k i).map (ad g)) (n := z) (cA := gcF g) (by rw [wl_at hk1, ce_fo hk2]) rfl (vp_in_nI hi hz) hd ?_
    rw [hc]
    show W p _ _ _ _ _ _ _ _ _ _ _ _ _ _ (F0 _ _ _ (va_rf ((wR w k i).map (ad g)) :: _))
    rw [hr0]
    exact h9
theorem V_iast {k z i : Nat} {x v : Int32} (hd : decode M.co pc = .ok (.iastore, 1)) (hk : kz w k = (10, z)) (hx : x = nI i) (hi : i < z) (hz : z < 2 ^ 31) (kk : V g M d kc ks op K (pc + 1) L S (sI w k i v)) : V g M d kc ks op K pc L (.int v :: .int x :: .ref k :: S) w := by
  intro p e s m args below meth c0 H locs cells slots ls mc ms A Z
  obtain ⟨hx0, hb, hml, hr, hown, hlk, hnm, htb, hE⟩ := id A
  obtain ⟨hl, hH, hop, hS, hkc, hks⟩ := id Z
  obtain ⟨hk1, hk2⟩ := kz_lt hk (by show 10 ≠ 99; omega)
  subst hx
  have hc : (nI i).toNatClampNeg = i := nI_clamp (by omega)
  have he : (wl g w)[k]? = some (ad g k, .inl (gcI g, z, .inl (wI w k))) := by rw [wl_at hk1, ce_int hk2]
  have hin : vp_in (nI i) z := vp_in_nI hi hz
  have hcell := hH.P k _ he
  refine W.iast (cell := vp_cell (gcI g) (z, .inl (wI w k))) hx0 hb hcell ((hE.1.2 0 _ rfl).1 z (fun j => .int (wI w k j))) (fun q => by cases q) (by show ¬ (nI i < 0 ∨ (arrV _ _ _).slots.size ≤ _); rw [arrV_size]; exact hin) rfl rfl hd fun H1 e1 e2 e3 => ?_
  refine kk p e s m args below meth c0 H1 _ cells slots ls mc ms A ⟨hl, Hd_set hH rfl hk1 (fun j hj => ce_sI hj) ?_ e2 e3, fun h => by rw [e2]; exact hop h, hS.put e2 e3 ?_, hkc, hks⟩
  · rw [ce_int (w := sI w k i v) hk2]
    show H1[ad g k]? = some (vp_cell _ _)
    rw [e1, vp_cell_i, vp_cell_i, arrV_store, hc]
    congr 2
    funext q
    show updV _ i (.int v) q = Value.int (up2 (wI w) k i v k q)
    unfold updV up2
    by_cases hq : q = i
    · rw [if_pos hq, if_pos ⟨rfl, hq⟩]
    · rw [if_neg hq, if_neg (fun z => hq z.2)]
  · show gB g ≤ ad g k
    rw [ad_lt (by have := hH.2.1; omega)]; omega
theorem V_last {k z i : Nat} {x : Int32} {v : Int64} (hd : decode M.co pc = .ok (.lastore, 1)) (hk : kz w k = (11, z)) (hx : x = nI i) (hi : i < z) (hz : z < 2 ^ 31) (kk : V g M d kc ks op K (pc + 1) L S (sJ w k i v)) : V g M d kc ks op K pc L (.long v :: .int x :: .ref k :: S) w := by
  intro p e s m args below meth c0 H locs cells slots ls mc ms A Z
  obtain ⟨hx0, hb, hml, hr, hown, hlk, hnm, htb, hE⟩ := id A
  obtain ⟨hl, hH, hop, hS, hkc, hks⟩ := id Z
  obtain ⟨hk1, hk2⟩ := kz_lt hk (by show 11 ≠ 99; omega)
  subst hx
  have hc : (nI i).toNatClampNeg = i := nI_clamp (by omega)
  have he : (wl g w)[k]? = some (ad g k, .inl (gcJ g, z, .inr (.inl (wJ w k)))) := by rw [wl_at hk1, ce_long hk2]
  have hin : vp_in (nI i) z := vp_in_nI hi hz
  have hcell := hH.P k _ he
  refine W.last (cell := vp_cell (gcJ g) (z, .inr (.inl (wJ w k)))) hx0 hb hcell ((hE.1.2 1 _ rfl).1 z (fun j => .long (wJ w k j))) (fun q => by cases q) (by show ¬ (nI i < 0 ∨ (arrV _ _ _).slots.size ≤ _); rw [arrV_size]; exact hin) rfl rfl hd fun H1 e1 e2 e3 => ?_
  refine kk p e s m args below meth c0 H1 _ cells slots ls mc ms A ⟨hl, Hd_set hH rfl hk1 (fun j hj => ce_sJ hj) ?_ e2 e3, fun h => by rw [e2]; exact hop h, hS.put e2 e3 ?_, hkc, hks⟩
  · rw [ce_long (w := sJ w k i v) hk2]
    show H1[ad g k]? = some (vp_cell _ _)
    rw [e1, vp_cell_l, vp_cell_l, arrV_store, hc]
    congr 2
    funext q
    show updV _ i (.long v) q = Value.long (up2 (wJ w) k i v k q)
    unfold updV up2
    by_cases hq : q = i
    · rw [if_pos hq, if_pos ⟨rfl, hq⟩]
    · rw [if_neg hq, if_neg (fun z => hq z.2)]
  · show gB g ≤ ad g k
    rw [ad_lt (by have := hH.2.1; omega)]; omega
theorem V_aast {k z i r kd c zc : Nat} {x : Int32} (hd : decode M.co pc = .ok (.aastore, 1)) (hk : kz w k = (kd, z)) (hr : kz w r = (c, zc)) (hkd : (kd = 12 ∧ c = 5) ∨ (kd = 13 ∧ c = 1)) (hx : x = nI i) (hi : i < z) (hz : z < 2 ^ 31) (kk : V g M d kc ks op K (pc + 1) L S (sR w k i (some r))) : V g M d kc ks op K pc L (.ref r :: .int x :: .ref k :: S) w := by
  intro p e s m args below meth c0 H locs cells slots ls mc ms A Z
  obtain ⟨hx0, hb, hml, hr0, hown, hlk, hnm, htb, hE⟩ := id A
  obtain ⟨hl, hH, hop, hS, hkc, hks⟩ := id Z
  obtain ⟨hk1, hk2⟩ := kz_lt hk (by show kd ≠ 99; omega)
  obtain ⟨hr1, hr2⟩ := kz_lt hr (by show c ≠ 99; omega)
  subst hx
  have hc : (nI i).toNatClampNeg = i := nI_clamp (by omega)
  have key : ∀ (cA : ClassId) (t0 : Nat) (q : vw_C), vwCl[c]? = some q → (gT g)[t0]? = some (cA, .object q.1) → ce g w k = .inl (cA, z, .inr (.inr (.inr (.inr (fun i => (wR w k i).map (ad g)))))) → ce g (sR w k i (some r)) k = .inl (cA, z, .inr (.inr (.inr (.inr (fun j => (wR (sR w k i (some r)) k j).map (ad g)))))) → W p (gl g) e { frames := d, cells := mc, slots := ms, locals := 36 * d } s m args below meth c0 H locs cells slots (K below args s mc ms) (F0 m pc ls (.ref (ad g r) :: .int (nI i) :: .ref (ad g k) :: S.map (cv g))) := by
    intro cA t0 q hq ht hce hce2
    have he : (wl g w)[k]? = some (ad g k, .inl (cA, z, .inr (.inr (.inr (.inr (fun i => (wR w k i).map (ad g))))))) := by rw [wl_at hk1, hce]
    have hin : vp_in (nI i) z := vp_in_nI hi hz
    have hcell := hH.P k _ he
    have hc8 : c < 8 := by omega
    have her : (wl g w)[r]? = some (ad g r, .inr (c, (List.range (nX c)).map (fun f => fv g w r f (tX c f)))) := by rw [wl_at hr1, ce_obj hr2 hc8]
    obtain ⟨r', hr', cellV, g1, g2, g3, -⟩ := hH.P r _ her
    have hcls := (hE.1.1 c q hq).2
    obtain ⟨kA, comp, k1, k2, k3, -⟩ := (hE.1.2 t0 _ ht).2
    have hcomp : comp = (gD g).1 c := Option.some.inj (k3.symm.trans hcls.1)
    subst hcomp
    obtain ⟨kC, hkC, -⟩ := hcls.2
    refine W.aast (cell := vp_cell cA (z, .inr (.inr (.inr (.inr (fun i => (wR w k i).map (ad g))))))) hx0 hb hcell (fun q h => by cases h) (fun h => by cases h) k1 k2 rfl hkC ⟨fun h => hin (Or.inl h), by show _ < (arrV _ _ _).slots.size; rw [arrV_size, hc]; exact hi⟩ g1 (fun q h => by rw [g3] at h; cases h) (by rw [g2]; exact hkC) (by rw [g2]; exact va_assign hcls) rfl rfl hd fun H1 e1 e2 e3 => ?_
    refine kk p e s m args below meth c0 H1 _ cells slots ls mc ms A ⟨hl, Hd_set hH rfl hk1 (fun j hj => ce_sR hj) ?_ e2 e3, fun h => by rw [e2]; exact hop h, hS.put e2 e3 ?_, hkc, hks⟩
    · rw [hce2]
      show H1[ad g k]? = some (vp_cell _ _)
      rw [e1, vp_cell_q, vp_cell_q, arrV_store, hc]
      congr 2
      funext q
      show updV _ i (.ref (ad g r)) q = va_rf ((up2 (wR w) k i (some r) k q).map (ad g))
      unfold updV up2
      by_cases hq : q = i
      · rw [if_pos hq, if_pos ⟨rfl, hq⟩]; rfl
      · rw [if_neg hq, if_neg (fun z => hq z.2)]
    · show gB g ≤ ad g k
      rw [ad_lt (by have := hH.2.1; omega)]; omega
  rcases hkd with ⟨rfl, rfl⟩ | ⟨rfl, rfl⟩
  · exact key (gcS g) 2 _ rfl rfl (ce_st hk2) (ce_st (w := sR w k i (some r)) hk2)
  · exact key (gcF g) 3 _ rfl rfl (ce_fo hk2) (ce_fo (w := sR w k i (some r)) hk2)
/-- the world with one place more -/
abbrev nw (w : Wd) (a : Nat × Nat) : Wd := (wN w + 1, (fun k => if k = wN w then a else wS w k), (fun k i => if k = wN w then 0 else wI w k i), (fun k i => if k = wN w then 0 else wJ w k i), (fun k i => if k = wN w then none else wR w k i))
theorem ce_nw {w : Wd} {a : Nat × Nat} {j : Nat} (h : j < wN w) : ce g (nw w a) j = ce g w j := by
  have h0 : j ≠ wN w := by omega
  unfold ce fv
  simp only [nw, wI, wS, wJ, wR, wN] at h0 ⊢
  simp only [if_neg h0]
theorem Hd_push {w : Wd} {a : Nat × Nat} {H H1 : Heap} (hH : Hd g w H) (hn : wN w < 900) (hop : H.size = gB g + wN w) (he : va_at (gD g) vwCl (ad g (wN w), ce g (nw w a) (wN w)) H1) (hz : H1.size = H.size + 1) (oq : ∀ q, q < H.size → H1[q]? = H[q]?) : Hd g (nw w a) H1 := by
  refine ⟨?_, by show wN w + 1 ≤ 900; omega, by show gB g + (wN w + 1) ≤ H1.size; omega⟩
  rw [← wl_push (w := w) (w' := nw w a) rfl (fun j hj => ce_nw hj)]
  refine (hH.1.kept fun k q hq => oq q.1 ((hH.1 k q hq).lt)).app (fun k x hx => ?_)
  have hz0 : k < 1 := (List.getElem?_eq_some_iff.mp hx).1
  rw [show k = 0 by omega] at hx
  cases hx
  exact he
theorem S_push {s : State} {H H1 : Heap} {locs : List Loc} {w : Wd} (hS : va_S (gA g) s.heap H locs) (hz : H1.size = H.size + 1) (oq : ∀ q, q < H.size → H1[q]? = H[q]?) : va_S (gA g) s.heap H1 locs :=
  ⟨Nat.le_trans hS.1 (by omega), fun x h1 h2 => (oq x (Nat.lt_of_lt_of_le h1 hS.1)).trans (hS.2.1 x h1 h2), hS.2.2⟩
theorem V_new {idx c : Nat} (hd : decode M.co pc = .ok (.new idx, 3)) (hc : CF c) (h1 : Cond.classLink M.nm.cls idx (RX c) ∈ TW) (h2 : Cond.instantiable (RX c) (nX c) ∈ TW) (h3 : Cond.initialized (RX c) ∈ TW) (hn : wN w < 900) (hdef : ∀ j, j < nX c → defaultValue (tX c j) = fv g (nw w (c, 0)) (wN w) j (tX c j)) (kk : V g M d kc ks true K (pc + 3) L (.ref (wN w) :: S) (nw w (c, 0))) : V g M d (kc + 1) (ks + nX c) true K pc L S w := by
  intro p e s m args below meth c0 H locs cells slots ls mc ms A Z
  obtain ⟨hx0, hb, hml, hr0, hown, hlk, hnm, htb, hE⟩ := id A
  obtain ⟨hl, hH, hop, hS, hkc, hks⟩ := id Z
  obtain ⟨hc1, hc2, hc3, hc4, hc5⟩ := hc
  have hts : ∀ w ∈ TW, w.before args s = true := fun w hw => hE.2.1 w hw args
  have hKn := hE.1.1 c _ hc1
  have ho := hop rfl
  refine W.newcK hx0 hb hown (hts _ h1) (hts _ h2) (hts _ h3) rfl hd (by show cells + 1 ≤ mc; omega) (by show slots + nX c ≤ ms; omega) hKn.2.1 rfl fun H1 kC hkC e1 z1 o1 => ?_
  have had : ad g (wN w) = H.size := by rw [ad_lt (by omega), ho]
  have h9 := kk p e s m args below meth c0 H1 locs (cells + 1) (slots + nX c) ls mc ms A ⟨hl, Hd_push hH hn ho ?_ z1 o1, fun _ => by rw [z1, ho]; exact Nat.add_assoc _ _ _, S_push (w := w) hS z1 o1, by omega, by omega⟩
  · show W p (gl g) e _ s m args below meth c0 H1 locs (cells + 1) (slots + nX c) _ (F0 m (pc + 3) ls (.ref H.size :: S.map (cv g)))
    rw [← had]
    exact h9
  · rw [ce_obj (w := nw w (c, 0)) (z := 0) (by show (if wN w = wN w then (c, 0) else _) = _; rw [if_pos rfl]) hc5, had]
    refine ⟨_, hc1, (u_born (tX c) hts hc2 hKn hkC e1 hc3).to fun j hj => ?_⟩
    unfold vp_V
    rw [List.getD_eq_getElem?_getD, List.getElem?_map, List.getElem?_range hj]
    exact hdef j hj
theorem fv_nw {a : Nat × Nat} {j : Nat} {t : FieldType} (ht : defaultValue t = .int 0 ∨ (isRefT t = true) ∨ t = .long) (hi : defaultValue t = .int 0 → isIntT t = true) : defaultValue t = fv g (nw w a) (wN w) j t := by
  rcases ht with h | h | h
  · rw [h, fv_int (hi h)]
    show _ = Value.int (if wN w = wN w then 0 else _)
    rw [if_pos rfl]
  · cases t <;> first | (show Value.null = va_rf ((if wN w = wN w then none else _ : Option Nat).map (ad g)); rw [if_pos rfl]; rfl) | cases h
  · subst h
    show Value.long 0 = Value.long (if wN w = wN w then 0 else _)
    rw [if_pos rfl]
theorem V_newarr {atype : ArrayType} {n z kd : Nat} {x : Int32} (hd : decode M.co pc = .ok (.newarray atype, 2)) (hkd : (atype = .int ∧ kd = 10) ∨ (atype = .long ∧ kd = 11)) (h1 : Cond.arrayClass (newarray.typeOf atype) ∈ TW) (hx : x = nI z) (hz : z < 65536) (hn : wN w < 900) (kk : V g M d kc ks true K (pc + 2) L (.ref (wN w) :: S) (nw w (kd, z))) : V g M d (kc + 1) (ks + z) true K pc L (.int x :: S) w := by
  intro p e s m args below meth c0 H locs cells slots ls mc ms A Z
  obtain ⟨hx0, hb, hml, hr0, hown, hlk, hnm, htb, hE⟩ := id A
  obtain ⟨hl, hH, hop, hS, hkc, hks⟩ := id Z
  have hts : ∀ w ∈ TW, w.before args s = true := fun w hw => hE.2.1 w hw args
  have ho := hop rfl
  subst hx
  have hcl : (nI z).toNatClampNeg = z := nI_clamp (by omega)
  have hcb : z * componentBytes (newarray.typeOf atype) ≤ 536870912 := by
    rcases hkd with ⟨rfl, -⟩ | ⟨rfl, -⟩
    · show z * 4 ≤ _; omega
    · show z * 8 ≤ _; omega
  refine va_newaK hx0 hb (hts _ h1) rfl hd rfl (nI_pos (by omega)) hcl hcb (by show cells + 1 ≤ mc; omega) (by show slots + z ≤ ms; omega) rfl fun H1 cA e1 z1 o1 hAr hNm => ?_
  have had : ad g (wN w) = H.size := by rw [ad_lt (by omega), ho]
  have h9 := kk p e s m args below meth c0 H1 locs (cells + 1) (slots + z) ls mc ms A ⟨hl, Hd_push hH hn ho ?_ z1 o1, fun _ => by rw [z1, ho]; exact Nat.add_assoc _ _ _, S_push (w := w) hS z1 o1, by omega, by omega⟩
  · show W p (gl g) e _ s m args below meth c0 H1 locs (cells + 1) (slots + z) _ (F0 m (pc + 2) ls (.ref H.size :: S.map (cv g)))
    rw [← had]
    exact h9
  · rcases hkd with ⟨rfl, rfl⟩ | ⟨rfl, rfl⟩
    · have hA : cA = gcI g := Option.some.inj (hNm.symm.trans (hE.1.2 0 _ rfl).2)
      rw [ce_int (w := nw w (10, z)) (z := z) (by show (if wN w = wN w then (10, z) else _) = _; rw [if_pos rfl]), had]
      show H1[H.size]? = some (vp_cell _ _)
      rw [e1, hA, vp_cell_i]
      congr 2
      funext q
      show Value.int 0 = Value.int (if wN w = wN w then 0 else _)
      rw [if_pos rfl]
    · have hA : cA = gcJ g := Option.some.inj (hNm.symm.trans (hE.1.2 1 _ rfl).2)
      rw [ce_long (w := nw w (11, z)) (z := z) (by show (if wN w = wN w then (11, z) else _) = _; rw [if_pos rfl]), had]
      show H1[H.size]? = some (vp_cell _ _)
      rw [e1, hA, vp_cell_l]
      congr 2
      funext q
      show Value.long 0 = Value.long (if wN w = wN w then 0 else _)
      rw [if_pos rfl]
theorem V_anewarr {idx n z kd c : Nat} {x : Int32} (hd : decode M.co pc = .ok (.anewarray idx, 3)) (hkd : (kd = 12 ∧ c = 5) ∨ (kd = 13 ∧ c = 1)) (h1 : Cond.classLink M.nm.cls idx (RX c) ∈ TW) (h2 : Cond.arrayOver (.object (RX c)) ∈ TW) (hx : x = nI z) (hz : z < 65536) (hn : wN w < 900) (kk : V g M d kc ks true K (pc + 3) L (.ref (wN w) :: S) (nw w (kd, z))) : V g M d (kc + 1) (ks + z) true K pc L (.int x :: S) w := by
  intro p e s m args below meth c0 H locs cells slots ls mc ms A Z
  obtain ⟨hx0, hb, hml, hr0, hown, hlk, hnm, htb, hE⟩ := id A
  obtain ⟨hl, hH, hop, hS, hkc, hks⟩ := id Z
  have hts : ∀ w ∈ TW, w.before args s = true := fun w hw => hE.2.1 w hw args
  have ho := hop rfl
  subst hx
  have hcl : (nI z).toNatClampNeg = z := nI_clamp (by omega)
  refine W.anew hx0 hb hown (hts _ h1) (hts _ h2) rfl hd rfl (nI_pos (by omega)) (by rw [hcl]; omega) (by show cells + 1 ≤ mc; omega) (by rw [hcl]; show slots + z ≤ ms; omega) fun cA kA comp f1 f2 f3 f4 => ?_
  rw [hcl]
  generalize hH1 : H.push ({ cls := cA, slots := Array.replicate z .null, vm := .none } : Cell) = H1
  have z1 : H1.size = H.size + 1 := by rw [← hH1, Array.size_push]
  have e1 : H1[H.size]? = some (arrV cA z (fun _ => .null)) := by rw [← hH1, Array.getElem?_push_size, ← arrV_new]
  have o1 : ∀ q : Nat, q < H.size → H1[q]? = H[q]? := fun q hq => by rw [← hH1, Array.getElem?_push, if_neg (Nat.ne_of_lt hq)]
  have had : ad g (wN w) = H.size := by rw [ad_lt (by omega), ho]
  have h9 := kk p e s m args below meth c0 H1 locs (cells + 1) (slots + z) ls mc ms A ⟨hl, Hd_push hH hn ho ?_ z1 o1, fun _ => by rw [z1, ho]; exact Nat.add_assoc _ _ _, S_push (w := w) hS z1 o1, by omega, by omega⟩
  · show W p (gl g) e _ s m args below meth c0 H1 locs (cells + 1) (slots + z) _ (F0 m (pc + 3) ls (.ref H.size :: S.map (cv g)))
    rw [← had]
    exact h9
  · rcases hkd with ⟨rfl, rfl⟩ | ⟨rfl, rfl⟩
    · obtain ⟨kA9, comp9, -, -, -, hf9⟩ := (hE.1.2 2 _ rfl).2
      have hA : cA = gcS g := Option.some.inj (f1.symm.trans hf9)
      rw [ce_st (w := nw w (12, z)) (z := z) (by show (if wN w = wN w then (12, z) else _) = _; rw [if_pos rfl]), had]
      show H1[H.size]? = some (vp_cell _ _)
      rw [e1, hA, vp_cell_q]
      congr 2
      funext q
      show Value.null = va_rf ((if wN w = wN w then none else _ : Option Nat).map (ad g))
      rw [if_pos rfl]; rfl
    · obtain ⟨kA9, comp9, -, -, -, hf9⟩ := (hE.1.2 3 _ rfl).2
      have hA : cA = gcF g := Option.some.inj (f1.symm.trans hf9)
      rw [ce_fo (w := nw w (13, z)) (z := z) (by show (if wN w = wN w then (13, z) else _) = _; rw [if_pos rfl]), had]
      show H1[H.size]? = some (vp_cell _ _)
      rw [e1, hA, vp_cell_q]
      congr 2
      funext q
      show Value.null = va_rf ((if wN w = wN w then none else _ : Option Nat).map (ad g))
      rw [if_pos rfl]; rfl
/-- nothing more is made from here -/
theorem V_shut (kk : V g M d kc ks false K pc L S w) : V g M d kc ks true K pc L S w := by
  intro p e s m args below meth c0 H locs cells slots ls mc ms A Z
  obtain ⟨hl, hH, hop, hS, hkc, hks⟩ := id Z
  exact kk p e s m args below meth c0 H locs cells slots ls mc ms A ⟨hl, hH, (fun h => nomatch h), hS, hkc, hks⟩
theorem V_less {kc' ks' : Nat} (h1 : kc' ≤ kc) (h2 : ks' ≤ ks) (kk : V g M d kc' ks' op K pc L S w) : V g M d kc ks op K pc L S w := by
  intro p e s m args below meth c0 H locs cells slots ls mc ms A Z
  obtain ⟨hl, hH, hop, hS, hkc, hks⟩ := id Z
  exact kk p e s m args below meth c0 H locs cells slots ls mc ms A ⟨hl, hH, hop, hS, by omega, by omega⟩
/-- a world that agrees within its places -/
theorem V_world {w' : Wd} (hn : wN w' = wN w) (he : ∀ j, j < wN w → ce g w' j = ce g w j) (kk : V g M d kc ks op K pc L S w') : V g M d kc ks op K pc L S w := by
  intro p e s m args below meth c0 H locs cells slots ls mc ms A Z
  obtain ⟨hl, hH, hop, hS, hkc, hks⟩ := id Z
  have hw : wl g w' = wl g w := by
    unfold wl
    rw [hn]
    exact List.map_congr_left fun j hj => by rw [he j (List.mem_range.mp hj)]
  exact kk p e s m args below meth c0 H locs cells slots ls mc ms A ⟨hl, ⟨by rw [hw]; exact hH.1, by rw [hn]; exact hH.2.1, by rw [hn]; exact hH.2.2⟩, fun h => by rw [hn]; exact hop h, hS, hkc, hks⟩
/-- fewer locals are known -/
theorem V_locals {L' : List (Option Value)} (h : ∀ q ∈ lcl g 0 L', q ∈ lcl g 0 L) (kk : V g M d kc ks op K pc L' S w) : V g M d kc ks op K pc L S w := by
  intro p e s m args below meth c0 H locs cells slots ls mc ms A Z
  obtain ⟨hl, hH, hop, hS, hkc, hks⟩ := id Z
  exact kk p e s m args below meth c0 H locs cells slots ls mc ms A ⟨⟨hl.1, hl.2.1, fun q hq => hl.2.2 q (h q hq)⟩, hH, hop, hS, hkc, hks⟩
theorem V_slen (hd : decode M.co pc = .ok (.arraylength, 1)) (kk : V g M d kc ks op K (pc + 1) L (.int (nI (gL g)) :: S) w) : V g M d kc ks op K pc L (.ref 999 :: S) w := by
  intro p e s m args below meth c0 H locs cells slots ls mc ms A Z
  obtain ⟨hx0, hb, hml, hr0, hown, hlk, hnm, htb, hE⟩ := id A
  obtain ⟨hl, hH, hop, hS, hkc, hks⟩ := id Z
  obtain ⟨-, -, -, -, -, -, hX, hlt, hsz, -⟩ := hE
  have h999 : ad g 999 = gb g := if_pos rfl
  show W p _ _ _ _ _ _ _ _ _ _ _ _ _ _ (F0 _ _ _ (.ref (ad g 999) :: _))
  rw [h999]
  exact va_slen (b := gb g) hx0 hb hX (by omega) (by show ¬ gB g ≤ gb g; omega) hS hd (kk p e s m args below meth c0 H locs cells slots ls mc ms A Z)
theorem V_sld {i : Nat} {x : Int32} (hd : decode M.co pc = .ok (.iaload, 1)) (hx : x = nI i) (hi : i < gL g) (hz : gL g < 2 ^ 31) (kk : V g M d kc ks op K (pc + 1) L (.int (gx g i) :: S) w) : V g M d kc ks op K pc L (.int x :: .ref 999 :: S) w := by
  intro p e s m args below meth c0 H locs cells slots ls mc ms A Z
  obtain ⟨hx0, hb, hml, hr0, hown, hlk, hnm, htb, hE⟩ := id A
  obtain ⟨hl, hH, hop, hS, hkc, hks⟩ := id Z
  obtain ⟨-, -, -, -, -, -, hX, hlt, hsz, -⟩ := hE
  have h9 := kk p e s m args below meth c0 H locs cells slots ls mc ms A Z
  subst hx
  have hc : (nI i).toNatClampNeg = i := nI_clamp (by omega)
  have h999 : ad g 999 = gb g := if_pos rfl
  show W p _ _ _ _ _ _ _ _ _ _ _ _ _ _ (F0 _ _ _ (.int _ :: .ref (ad g 999) :: _))
  rw [h999]
  refine va_sld (b := gb g) hx0 hb hX (by omega) (by show ¬ gB g ≤ gb g; omega) hS (vp_in_nI hi hz) hd ?_
  rw [hc]
  exact h9
end ARR
end
section
/-! ===== calls ===== -/
/-- the method M, called with args in the world w, comes to P -/
def C (g : G0) (M : M0) (d kc ks : Nat) (op : Bool) (args : List Value) (w : Wd) (P : Res → Wd → Prop) : Prop :=
  V g M d kc ks op (Kp g op P) 0 (ini args ++ List.replicate (M.ml - (ini args).length) none) [] w
theorem sl_ini (g : G0) : ∀ args : List Value, (lg_sl (args.map (cv g))).length = (ini args).length := by
  intro args
  induction args with
  | nil => rfl
  | cons v t ih =>
    have h : lg_sl ((v :: t).map (cv g)) = lg_sl [cv g v] ++ lg_sl (t.map (cv g)) := by simp [lg_sl]
    rw [h, List.length_append, ih]
    cases v <;> simp [lg_sl, ini, cv, Value.category] <;> omega
theorem met_vx {g : G0} {M : M0} {d kc ks : Nat} {op : Bool} {args : List Value} {w : Wd} {P : Res → Wd → Prop} (hn : plainName M.nm.cls = true) (hh : M.hh = []) (hl : (ini args).length ≤ M.ml) (h : C g M d kc ks op args w P) :
    vx_Met (gl g) M.nm [Cond.code M.nm M.co M.ml M.rt] { frames := d, cells := kc, slots := ks, locals := 36 * d } (PcR g op args w) (QcR g op P) (XcR g P) kc ks (gA g) := by
  refine vx_ofW (ws' := []) hn rfl ?_
  intro p e s m a below meth c s₁ B hml ht hv
  obtain ⟨rfl, hE, hH, hop⟩ := hv
  have hle := lv_entry (args.map (cv g)) (n := M.ml) (by rw [sl_ini]; exact hl)
  rw [lg_entry_eq]
  refine h p e s m _ below meth c s.heap [] 0 0 _ kc ks ⟨B.exec, B.bytes, hml, B.returns, findClass_of_methodNamed B.named, B.notSynchronized, (name_of_methodNamed B.named B.method).1, ?_, hE⟩ ⟨?_, hH, hop, va_S.rf, by omega, by omega⟩
  · rw [hh]
    exact List.eq_nil_iff_forall_not_mem.mpr ht
  · rw [lcl_args]
    exact hle
theorem met_vxW {g : G0} {M : M0} {d kc ks : Nat} {op : Bool} {args : List Value} {w : Wd} {P : Res → Wd → Prop} (hn : plainName M.nm.cls = true) (hl : (ini args).length ≤ M.ml) (h : C g M d kc ks op args w P) :
    vx_Met (gl g) M.nm [Cond.codeWith M.nm M.co M.ml M.rt M.hh] { frames := d, cells := kc, slots := ks, locals := 36 * d } (PcR g op args w) (QcR g op P) (XcR g P) kc ks (gA g) := by
  refine vx_ofWH (ws' := []) hn rfl ?_
  intro p e s m a below meth c s₁ B hml hv
  obtain ⟨rfl, hE, hH, hop⟩ := hv
  have hle := lv_entry (args.map (cv g)) (n := M.ml) (by rw [sl_ini]; exact hl)
  rw [lg_entry_eq]
  refine h p e s m _ below meth c s.heap [] 0 0 _ kc ks ⟨B.exec, B.bytes, hml, B.returns, findClass_of_methodNamed B.named, B.notSynchronized, (name_of_methodNamed B.named B.method).1, ?_, hE⟩ ⟨?_, hH, hop, va_S.rf, by omega, by omega⟩
  · exact vx_table (x := M.nm) B (atoms_spec (ws := [Cond.codeWith M.nm M.co M.ml M.rt M.hh]) B.pre _ List.mem_cons_self)
  · rw [lcl_args]
    exact hle
/-- it returns v in the world w' -/
abbrev rets (v : Option Value) (w' : Wd) : Res → Wd → Prop := fun r u => r = .inl v ∧ u = w'
abbrev thrs (E : String) (w' : Wd) : Res → Wd → Prop := fun r u => r = .inr E ∧ u = w'
theorem met_of_vx {l : Launch} {y : MethodName} {ws : List Cond} {rm : Room} {Pc : Array Value → State → Prop} {Qc : Array Value → State → Outcome → State → Prop} {XC : String → State → State → Prop} {mc ms : Nat} {free : Addr → Prop} (h : vx_Met l y ws rm Pc Qc XC mc ms free) (hx : ∀ E st t, ¬ XC E st t) : Met l y ws rm Pc Qc mc ms free := by
  intro p e ha hc hk s m args below hf happ hP hK
  obtain ⟨n, o, h1, h2, h3, h4⟩ := h p e ha hc hk s m args below hf happ hP hK
  refine ⟨n, o, h1, h2, h3, ?_⟩
  rcases h4 with h4 | ⟨q, _, E, ce, L, hX, _⟩
  · exact h4
  · exact absurd hX (hx _ _ _)
abbrev wsOf (M : M0) : List Cond := match M.hh with
  | [] => [Cond.code M.nm M.co M.ml M.rt]
  | _ => [Cond.codeWith M.nm M.co M.ml M.rt M.hh]
/-- what every call asks of the callee's name -/
def nameOk (M : M0) (n : Nat) : Prop := (M.nm.cls ≠ "java/lang/invoke/MethodHandle" ∧ M.nm.cls ≠ "java/lang/invoke/VarHandle") ∧ (parseMethodDescriptor M.nm.desc).map (fun d => d.parameters.length) = some n
/-- the instruction at pc calls M', with n values ahead of the stack (the receiver too), of whose class is what c says -/
def LkR (g : G0) (M : M0) (pc : Nat) (M' : M0) (n : Nat) (vc : Option Nat) : Prop :=
  ∀ (p : Program) (e : Env) (R : Room) (s : State) (m : MethodId) (args : Array Value) (below : List Frame) (meth : Method) (c : Code) (H : Heap) (locs : List Loc) (cells slots : Nat) (ls : Array Slot) (rm : Room) (mc ms : Nat) (Pc : Array Value → State → Prop) (Qc : Array Value → State → Outcome → State → Prop) (As rest : List Value),
    Am g M p s m meth c → Met (gl g) M'.nm [Cond.code M'.nm M'.co M'.ml M'.rt] rm Pc Qc mc ms (gA g) → rm.cells = mc → rm.slots = ms → rm.frames + 1 ≤ R.frames → 8 + (M'.ml + 11) + rm.locals ≤ R.locals → As.length = n → FrameBlind Pc → (∀ U : State, U.heap = H → s.WarmedH U.vm → Pc As.toArray U) →
    (∀ ci, vc = some ci → ∃ (a : Nat) (As' : List Value) (cellB : Cell), As = .ref a :: As' ∧ H[a]? = some cellB ∧ cellB.vm.isStatics = false ∧ s.vm.findClass M'.nm.cls = some cellB.cls) → ls.size = M.ml → (rest.map fun v => v.category).sum ≤ 8 → cells + mc ≤ R.cells ∧ slots + ms ≤ R.slots →
    va_Run p (gl g) e R s m args below meth c H locs cells slots mc ms (F0 m pc ls (As.reverse ++ rest)) rest (Qc As.toArray) (gA g)
def LkX (g : G0) (M : M0) (pc : Nat) (M' : M0) (n : Nat) (vc : Option Nat) : Prop :=
  ∀ (p : Program) (e : Env) (R : Room) (s : State) (m : MethodId) (args : Array Value) (below : List Frame) (meth : Method) (c : Code) (H : Heap) (locs : List Loc) (cells slots : Nat) (ls : Array Slot) (rm : Room) (mc ms : Nat) (Pc : Array Value → State → Prop) (Qc : Array Value → State → Outcome → State → Prop) (XC : String → State → State → Prop) (As rest : List Value),
    Am g M p s m meth c → vx_Met (gl g) M'.nm [Cond.code M'.nm M'.co M'.ml M'.rt] rm Pc Qc XC mc ms (gA g) → rm.cells = mc → rm.slots = ms → rm.frames + 1 ≤ R.frames → 8 + (M'.ml + 11) + rm.locals ≤ R.locals → As.length = n → FrameBlind Pc → (∀ U : State, U.heap = H → s.WarmedH U.vm → Pc As.toArray U) →
    (∀ ci, vc = some ci → ∃ (a : Nat) (As' : List Value) (cellB : Cell), As = .ref a :: As' ∧ H[a]? = some cellB ∧ cellB.vm.isStatics = false ∧ s.vm.findClass M'.nm.cls = some cellB.cls) → ls.size = M.ml → (rest.map fun v => v.category).sum ≤ 8 → cells + mc ≤ R.cells ∧ slots + ms ≤ R.slots →
    vx_Run p (gl g) e R s m args below meth c H locs cells slots mc ms (F0 m pc ls (As.reverse ++ rest)) rest (Qc As.toArray) XC (gA g)
theorem okW_code (y : MethodName) (b : ByteArray) (n : Nat) (r : Option FieldType) : goodWord (Cond.code y b n r) = true := rfl
theorem nameOk_len {M : M0} {n : Nat} (h : nameOk M n) : ∀ sig, parseMethodDescriptor M.nm.desc = some sig → n = sig.parameters.length := by
  intro sig h1
  have h2 := h.2
  rw [h1] at h2
  exact (Option.some.inj h2).symm
section LINKS
variable {g : G0} {M M' : M0} {pc n idx : Nat}
theorem code_pay {s : State} {args : Array Value} (hE : ∀ w ∈ TW, w.before args s = true) (hc : Cond.code M'.nm M'.co M'.ml M'.rt ∈ TW) : ∀ w ∈ [Cond.code M'.nm M'.co M'.ml M'.rt], ∀ (a' : Array Value) (U : State), s.WarmedH U.vm → w.before a' U = true := by
  intro w hw a' U hW
  rcases List.mem_singleton.mp hw with rfl
  exact word_at hW (good_of_word rfl) (hE _ hc)
theorem rs_cons (a : Value) (As rest : List Value) : (a :: As).reverse ++ rest = As.reverse ++ a :: rest := by simp
theorem callB_mk {R : Room} {s : State} {args : Array Value} {rm : Room} {mc ms : Nat} (hE : ∀ w ∈ TW, w.before args s = true) (hl : Cond.methodLink M.nm.cls idx M'.nm ∈ TW) (hini : Cond.initialized M'.nm.cls ∈ TW) (hc : Cond.code M'.nm M'.co M'.ml M'.rt ∈ TW) (hok : nameOk M' n) (h1 : rm.cells = mc) (h2 : rm.slots = ms) (h3 : rm.frames + 1 ≤ R.frames) (h4 : 8 + (M'.ml + 11) + rm.locals ≤ R.locals) :
    CallB R s args M.nm.cls idx M'.nm M'.co M'.ml M'.rt [Cond.code M'.nm M'.co M'.ml M'.rt] rm mc ms n :=
  ⟨h1, h2, h3, h4, code_pay hE hc, List.mem_cons_self, hE _ hc, hE _ hini, hok.1, nameOk_len hok, hE _ hl⟩
theorem LkR.V (hd : decode M.co pc = .ok (.invokevirtual idx, 3)) (hl : Cond.methodLink M.nm.cls idx M'.nm ∈ TW) (hin : Cond.instanceMethod M'.nm ∈ TW) (hse : Cond.selects M'.nm.cls M'.nm M'.nm ∈ TW) (hini : Cond.initialized M'.nm.cls ∈ TW) (hc : Cond.code M'.nm M'.co M'.ml M'.rt ∈ TW) (hok : nameOk M' n) (ci : Nat) : LkR g M pc M' (n + 1) (some ci) := by
  intro p e R s m args below meth c H locs cells slots ls rm mc ms Pc Qc As rest A hM h1 h2 h3 h4 h5 h6 h7 h8 h9 h10 h11
  obtain ⟨hx, hb, hml, hr, hown, hlk, hnm, htb, hE⟩ := id A
  have hts : ∀ w ∈ TW, w.before args s = true := fun w hw => hE.2.1 w hw args
  obtain ⟨a, As', cellB, rfl, hcB, hoB, hclB⟩ := h8 ci rfl
  rw [rs_cons]
  exact va_runV (Ts := TW) ⟨hx, hb, hml, hown, hts⟩ hM ⟨callB_mk hts hl hini hc hok h1 h2 h3 h4, hts _ hin, hts _ hse⟩ ⟨h6, ⟨cellB, hcB, hoB, hclB⟩, h7⟩ rfl (by simpa using h5) h9 rfl (lv_room (m := m) (pc := pc) (ls := ls) (rest := As'.reverse ++ Value.ref a :: rest) h10) hd h11
theorem LkX.V (hd : decode M.co pc = .ok (.invokevirtual idx, 3)) (hl : Cond.methodLink M.nm.cls idx M'.nm ∈ TW) (hin : Cond.instanceMethod M'.nm ∈ TW) (hse : Cond.selects M'.nm.cls M'.nm M'.nm ∈ TW) (hini : Cond.initialized M'.nm.cls ∈ TW) (hc : Cond.code M'.nm M'.co M'.ml M'.rt ∈ TW) (hok : nameOk M' n) (ci : Nat) : LkX g M pc M' (n + 1) (some ci) := by
  intro p e R s m args below meth c H locs cells slots ls rm mc ms Pc Qc XC As rest A hM h1 h2 h3 h4 h5 h6 h7 h8 h9 h10 h11
  obtain ⟨hx, hb, hml, hr, hown, hlk, hnm, htb, hE⟩ := id A
  have hts : ∀ w ∈ TW, w.before args s = true := fun w hw => hE.2.1 w hw args
  obtain ⟨a, As', cellB, rfl, hcB, hoB, hclB⟩ := h8 ci rfl
  rw [rs_cons]
  exact vx_runV (Ts := TW) ⟨hx, hb, hml, hown, hts⟩ hM ⟨callB_mk hts hl hini hc hok h1 h2 h3 h4, hts _ hin, hts _ hse⟩ ⟨h6, ⟨cellB, hcB, hoB, hclB⟩, h7⟩ rfl (by simpa using h5) h9 rfl (lv_room (m := m) (pc := pc) (ls := ls) (rest := As'.reverse ++ Value.ref a :: rest) h10) hd h11
theorem LkR.S (hd : decode M.co pc = .ok (.invokestatic idx, 3)) (hl : Cond.methodLink M.nm.cls idx M'.nm ∈ TW) (hst : Cond.static M'.nm ∈ TW) (hini : Cond.initialized M'.nm.cls ∈ TW) (hc : Cond.code M'.nm M'.co M'.ml M'.rt ∈ TW) (hok : nameOk M' n) : LkR g M pc M' n none := by
  intro p e R s m args below meth c H locs cells slots ls rm mc ms Pc Qc As rest A hM h1 h2 h3 h4 h5 h6 h7 h8 h9 h10 h11
  obtain ⟨hx, hb, hml, hr, hown, hlk, hnm, htb, hE⟩ := id A
  have hts : ∀ w ∈ TW, w.before args s = true := fun w hw => hE.2.1 w hw args
  exact va_runS (Ts := TW) ⟨hx, hb, hml, hown, hts⟩ hM ⟨callB_mk hts hl hini hc hok h1 h2 h3 h4, hts _ hst⟩ ⟨h6, h7⟩ rfl h5 h9 rfl (lv_room (m := m) (pc := pc) (ls := ls) (rest := As.reverse ++ rest) h10) hd h11
theorem LkX.S (hd : decode M.co pc = .ok (.invokestatic idx, 3)) (hl : Cond.methodLink M.nm.cls idx M'.nm ∈ TW) (hst : Cond.static M'.nm ∈ TW) (hini : Cond.initialized M'.nm.cls ∈ TW) (hc : Cond.code M'.nm M'.co M'.ml M'.rt ∈ TW) (hok : nameOk M' n) : LkX g M pc M' n none := by
  intro p e R s m args below meth c H locs cells slots ls rm mc ms Pc Qc XC As rest A hM h1 h2 h3 h4 h5 h6 h7 h8 h9 h10 h11
  obtain ⟨hx, hb, hml, hr, hown, hlk, hnm, htb, hE⟩ := id A
  have hts : ∀ w ∈ TW, w.before args s = true := fun w hw => hE.2.1 w hw args
  exact vx_runS (Ts := TW) ⟨hx, hb, hml, hown, hts⟩ hM ⟨callB_mk hts hl hini hc hok h1 h2 h3 h4, hts _ hst⟩ ⟨h6, h7⟩ rfl h5 h9 rfl (lv_room (m := m) (pc := pc) (ls := ls) (rest := As.reverse ++ rest) h10) hd h11
theorem CN_mk {R : Room} {s : State} {args : Array Value} {rm : Room} {mc ms : Nat} {host : String} (hE : ∀ w ∈ TW, w.before args s = true) (hl : Cond.methodLinkNest M.nm.cls idx M'.nm host ∈ TW) (hini : Cond.initialized M'.nm.cls ∈ TW) (hc : Cond.code M'.nm M'.co M'.ml M'.rt ∈ TW) (hok : nameOk M' n) (h1 : rm.cells = mc) (h2 : rm.slots = ms) (h3 : rm.frames + 1 ≤ R.frames) (h4 : 8 + (M'.ml + 11) + rm.locals ≤ R.locals) :
    va_CN R s args M.nm.cls idx M'.nm host M'.co M'.ml M'.rt [Cond.code M'.nm M'.co M'.ml M'.rt] rm mc ms n :=
  ⟨⟨h1, h2, h3, h4, code_pay hE hc, List.mem_cons_self⟩, hE _ hc, hE _ hini, hok.1, nameOk_len hok, hE _ hl⟩
theorem LkR.SN {host : String} (hd : decode M.co pc = .ok (.invokestatic idx, 3)) (hl : Cond.methodLinkNest M.nm.cls idx M'.nm host ∈ TW) (hst : Cond.static M'.nm ∈ TW) (hini : Cond.initialized M'.nm.cls ∈ TW) (hc : Cond.code M'.nm M'.co M'.ml M'.rt ∈ TW) (hok : nameOk M' n) : LkR g M pc M' n none := by
  intro p e R s m args below meth c H locs cells slots ls rm mc ms Pc Qc As rest A hM h1 h2 h3 h4 h5 h6 h7 h8 h9 h10 h11
  obtain ⟨hx, hb, hml, hr, hown, hlk, hnm, htb, hE⟩ := id A
  have hts : ∀ w ∈ TW, w.before args s = true := fun w hw => hE.2.1 w hw args
  exact va_runSN (Ts := TW) ⟨hx, hb, hml, hown, hts⟩ hM ⟨CN_mk hts hl hini hc hok h1 h2 h3 h4, hts _ hst, trivial⟩ ⟨h6, h7⟩ rfl h5 h9 rfl (lv_room (m := m) (pc := pc) (ls := ls) (rest := As.reverse ++ rest) h10) hd h11
theorem LkR.I (hd : decode M.co pc = .ok (.invokespecial idx, 3)) (hl : Cond.methodLink M.nm.cls idx M'.nm ∈ TW) (hin : Cond.instanceMethod M'.nm ∈ TW) (hini : Cond.initialized M'.nm.cls ∈ TW) (hc : Cond.code M'.nm M'.co M'.ml none ∈ TW) (hrt : M'.rt = none) (hn : M'.nm.name = "<init>") (hok : nameOk M' n) (ci : Nat) : LkR g M pc M' (n + 1) (some ci) := by
  intro p e R s m args below meth c H locs cells slots ls rm mc ms Pc Qc As rest A hM h1 h2 h3 h4 h5 h6 h7 h8 h9 h10 h11
  obtain ⟨hx, hb, hml, hr, hown, hlk, hnm, htb, hE⟩ := id A
  have hts : ∀ w ∈ TW, w.before args s = true := fun w hw => hE.2.1 w hw args
  obtain ⟨a, As', cellB, rfl, hcB, hoB, hclB⟩ := h8 ci rfl
  rw [rs_cons]
  have hcb := callB_mk (M := M) (M' := M') (idx := idx) (R := R) hts hl hini (by rw [hrt]; exact hc) hok h1 h2 h3 h4
  rw [hrt] at hcb hM
  exact va_runI (Ts := TW) ⟨hx, hb, hml, hown, hts⟩ hM ⟨hcb, hn, hts _ hin⟩ ⟨h6, h7⟩ rfl (by simpa using h5) h9 rfl (lv_room (m := m) (pc := pc) (ls := ls) (rest := As'.reverse ++ Value.ref a :: rest) h10) hd h11
theorem LkR.IN {host : String} (hd : decode M.co pc = .ok (.invokespecial idx, 3)) (hl : Cond.methodLinkNest M.nm.cls idx M'.nm host ∈ TW) (hin : Cond.instanceMethod M'.nm ∈ TW) (hini : Cond.initialized M'.nm.cls ∈ TW) (hc : Cond.code M'.nm M'.co M'.ml none ∈ TW) (hrt : M'.rt = none) (hn : M'.nm.name = "<init>") (hok : nameOk M' n) (ci : Nat) : LkR g M pc M' (n + 1) (some ci) := by
  intro p e R s m args below meth c H locs cells slots ls rm mc ms Pc Qc As rest A hM h1 h2 h3 h4 h5 h6 h7 h8 h9 h10 h11
  obtain ⟨hx, hb, hml, hr, hown, hlk, hnm, htb, hE⟩ := id A
  have hts : ∀ w ∈ TW, w.before args s = true := fun w hw => hE.2.1 w hw args
  obtain ⟨a, As', cellB, rfl, hcB, hoB, hclB⟩ := h8 ci rfl
  rw [rs_cons]
  have hcb := CN_mk (M := M) (M' := M') (idx := idx) (R := R) hts hl hini (by rw [hrt]; exact hc) hok h1 h2 h3 h4
  rw [hrt] at hcb hM
  exact va_runIN (Ts := TW) ⟨hx, hb, hml, hown, hts⟩ hM ⟨hcb, hn, hts _ hin⟩ ⟨h6, h7⟩ rfl (by simpa using h5) h9 rfl (lv_room (m := m) (pc := pc) (ls := ls) (rest := As'.reverse ++ Value.ref a :: rest) h10) hd h11
end LINKS
end
section
section CALLS
variable {g : G0} {M M' : M0} {d d' kc ks kc' ks' : Nat} {op : Bool} {K : K0} {pc n : Nat} {vc : Option Nat} {L : List (Option Value)} {S : List Value} {w w' : Wd}
/-- the class of the receiver -/
def rcv (w : Wd) (M' : M0) (As : List Value) (vc : Option Nat) : Prop := match vc with
  | none => True
  | some ci => ∃ (k : Nat) (t : List Value), As = .ref k :: t ∧ (kz w k).1 = ci ∧ RX ci = M'.nm.cls
theorem rcv_of {s : State} {H : Heap} {As : List Value} (hE : En g s s.heap) (hH : Hd g w H) (h : rcv w M' As vc) (h8 : ∀ ci, vc = some ci → CF ci) : ∀ ci, vc = some ci → ∃ (a : Nat) (As' : List Value) (cellB : Cell), As.map (cv g) = .ref a :: As' ∧ H[a]? = some cellB ∧ cellB.vm.isStatics = false ∧ s.vm.findClass M'.nm.cls = some cellB.cls := by
  intro ci hci
  have hcf := h8 ci hci
  subst hci
  obtain ⟨k, t, rfl, hk, hnm⟩ := h
  have hc8 := hcf.2.2.2.2
  have hkz : kz w k = (ci, (kz w k).2) := by rw [← hk]
  obtain ⟨hk1, hk2⟩ := kz_lt hkz (by show ci ≠ 99; omega)
  have he : (wl g w)[k]? = some (ad g k, .inr (ci, (List.range (nX ci)).map (fun f => fv g w k f (tX ci f)))) := by rw [wl_at hk1, ce_obj hk2 hc8]
  obtain ⟨cell, g1, g2, g3⟩ := va_recv hE.1 hH.P hcf.1 he
  exact ⟨ad g k, t.map (cv g), cell, rfl, g1, g2, by rw [← hnm]; exact g3⟩
theorem QcR_ret {P : Res → Wd → Prop} {a : Array Value} {st t : State} {v : Option Value} {w1 : Wd} {v1 : Option Value} (h : QcR g op (rets v1 w1) a st (.returned v) t) : v = v1.map (cv g) ∧ Hd g w1 t.heap ∧ (op = true → t.heap.size = gB g + wN w1) ∧ va_F (gA g) st t := by
  obtain ⟨v', w', e1, ⟨e2, e3⟩, h1, h2, h3⟩ := h
  subst e3
  cases e2
  cases e1
  exact ⟨rfl, h1, h2, h3⟩
theorem map_toList (v : Option Value) : (v.map (cv g)).toList = v.toList.map (cv g) := by cases v <;> rfl
theorem cats (S : List Value) : ((S.map (cv g)).map fun v => v.category).sum = (S.map fun v => v.category).sum := by
  rw [List.map_map]
  congr 1
  exact List.map_congr_left fun v _ => cv_cat g v
theorem V_call {As : List Value} {v : Option Value} (hL : LkR g M pc M' n vc) (hC : C g M' d' kc' ks' op As w (rets v w')) (hn : plainName M'.nm.cls = true) (hh : M'.hh = []) (hml : M'.ml ≤ 17) (hl : (ini As).length ≤ M'.ml) (hlen : As.length = n) (hv : rcv w M' As vc) (h8 : ∀ ci, vc = some ci → CF ci) (hd : d' + 1 ≤ d) (hk : kc' ≤ kc) (hks : ks' ≤ ks) (hr : (S.map fun v => v.category).sum ≤ 8)
    (kk : V g M d (kc - kc') (ks - ks') op K (pc + 3) L (v.toList ++ S) w') : V g M d kc ks op K pc L (As.reverse ++ S) w := by
  intro p e s m args below meth c H locs cells slots ls mc ms A Z
  obtain ⟨hx, hb, hmL, hrt, hown, hlk, hnm, htb, hE⟩ := id A
  obtain ⟨hls, hH, hop, hS, hkc, hks0⟩ := id Z
  have hM := met_of_vx (met_vx hn hh hl hC) (fun E st t h => by obtain ⟨w9, ⟨h9, -⟩, -⟩ := h; cases h9)
  have hrun := hL p e { frames := d, cells := mc, slots := ms, locals := 36 * d } s m args below meth c H locs cells slots ls _ kc' ks' _ _ (As.map (cv g)) (S.map (cv g)) A hM rfl rfl hd (by show 8 + (M'.ml + 11) + 36 * d' ≤ 36 * d; omega) (by rw [List.length_map]; exact hlen) (PcR.blind g op As w) (fun U hU hW => ⟨rfl, by rw [hU]; exact En.moved hW (hE.kept hS.1 hS.2.1), by rw [hU]; exact hH, fun h => by rw [hU]; exact hop h⟩) (rcv_of hE hH hv h8) hls.1 (by rw [cats]; exact hr) ⟨by show cells + kc' ≤ mc; omega, by show slots + ks' ≤ ms; omega⟩
  intro T hT X
  obtain ⟨v0, st₀, t, T', L0, h0, X', hL0, e1, e2, hq, st⟩ := hrun T hT X
  obtain ⟨rfl, hH', hop', hF⟩ := QcR_ret (P := fun _ _ => True) hq
  obtain ⟨hz, hq1, hS'⟩ := vx_keep (A1 := gA g) (free := gA g) h0 e1 hS (fun q _ h => h) (fun q h => h) hL0 hF
  have h9 := kk p e s m args below meth c T'.heap (locs ++ L0) (cells + kc') (slots + ks') ls mc ms A ⟨hls, by rw [e1]; exact hH', fun h => by rw [e1]; exact hop' h, hS', by omega, by omega⟩ T' rfl X'
  obtain ⟨t2, a1, b1⟩ := h9
  refine ⟨t2, ?_, b1⟩
  have hst : (As.reverse ++ S).map (cv g) = (As.map (cv g)).reverse ++ S.map (cv g) := by rw [List.map_append, List.map_reverse]
  rw [hst]
  refine st t2 ?_
  rw [map_toList, ← List.map_append]
  exact a1
/-- the callee throws E; this method has no handlers -/
theorem V_callX {As : List Value} {E : String} {P : Res → Wd → Prop} (hL : LkX g M pc M' n vc) (hC : C g M' d' kc' ks' false As w (thrs E w')) (hn : plainName M'.nm.cls = true) (hh : M'.hh = []) (hml : M'.ml ≤ 17) (hl : (ini As).length ≤ M'.ml) (hlen : As.length = n) (hv : rcv w M' As vc) (h8 : ∀ ci, vc = some ci → CF ci) (hd : d' + 1 ≤ d) (hk : kc' ≤ kc) (hks : ks' ≤ ks) (hr : (S.map fun v => v.category).sum ≤ 8)
    (hnt : M.hh = []) (hP : P (.inr E) w') : V g M d kc ks false (Kp g false P) pc L (As.reverse ++ S) w := by
  intro p e s m args below meth c H locs cells slots ls mc ms A Z
  obtain ⟨hx, hb, hmL, hrt, hown, hlk, hnm, htb, hE⟩ := id A
  obtain ⟨hls, hH, hop, hS, hkc, hks0⟩ := id Z
  have hM := met_vx hn hh hl hC
  have hrun := hL p e { frames := d, cells := mc, slots := ms, locals := 36 * d } s m args below meth c H locs cells slots ls _ kc' ks' _ _ _ (As.map (cv g)) (S.map (cv g)) A hM rfl rfl hd (by show 8 + (M'.ml + 11) + 36 * d' ≤ 36 * d; omega) (by rw [List.length_map]; exact hlen) (PcR.blind g false As w) (fun U hU hW => ⟨rfl, by rw [hU]; exact En.moved hW (hE.kept hS.1 hS.2.1), by rw [hU]; exact hH, fun h => nomatch h⟩) (rcv_of hE hH hv h8) hls.1 (by rw [cats]; exact hr) ⟨by show cells + kc' ≤ mc; omega, by show slots + ks' ≤ ms; omega⟩
  intro T hT X
  have hst : (As.reverse ++ S).map (cv g) = (As.map (cv g)).reverse ++ S.map (cv g) := by rw [List.map_append, List.map_reverse]
  rw [hst]
  rcases hrun T hT X with ⟨v0, st₀, t, T', L0, h0, X', hL0, e1, e2, hq, st⟩ | ⟨q, st₀, t, T', L0, E0, ce, h0, X', hL0, e1, e2, hxc, hce, hcv, hcl, st⟩
  · obtain ⟨v', w9, -, ⟨h9, -⟩, -⟩ := hq
    cases h9
  · obtain ⟨w9, ⟨h9, rfl⟩, hH', hF⟩ := hxc
    cases h9
    obtain ⟨hz, hq1, hS'⟩ := vx_keep (A1 := gA g) (free := gA g) h0 e1 hS (fun q _ h => h) (fun q h => h) hL0 hF
    have h9 : vx_W p (gl g) e { frames := d, cells := mc, slots := ms, locals := 36 * d } s m args below meth c T'.heap (locs ++ L0) (cells + kc') (slots + ks') (Kp g false P below args s mc ms) (F0 m pc ls (S.map (cv g))) q := by
      refine vx_out (E := E) (ce := ce) (fun x hx => ?_) hlk (by rw [e1]; exact hce) hcv hcl (fun t' ht' hW => ⟨_, hP, by rw [ht', e1]; exact hH', hS'.F ht'⟩) hS'.2.2 (by omega) (by omega)
      rw [htb, hnt] at hx
      cases hx
    obtain ⟨t2, a1, b1⟩ := h9 T' rfl X'
    exact ⟨t2, st.trans a1, b1⟩
/-- the callee throws E; the row x of this method's table takes it, and its handler puts it away in a local -/
theorem V_callC {As : List Value} {E name : String} {pre suf : List ExceptionTableEntry} {x : ExceptionTableEntry} {kf : Fin 4} {j : Nat} (hL : LkX g M pc M' n vc) (hC : C g M' d' kc' ks' false As w (thrs E w')) (hn : plainName M'.nm.cls = true) (hh : M'.hh = []) (hml : M'.ml ≤ 17) (hl : (ini As).length ≤ M'.ml) (hlen : As.length = n) (hv : rcv w M' As vc) (h8 : ∀ ci, vc = some ci → CF ci) (hd : d' + 1 ≤ d) (hk : kc' ≤ kc) (hks : ks' ≤ ks) (hr : (S.map fun v => v.category).sum ≤ 8)
    (hsplit : tableOf M.hh = pre ++ x :: suf) (hpass : ∀ z ∈ pre, z.catchType ≠ 0 ∧ ∃ nm : String, Cond.classLink M.nm.cls z.catchType nm ∈ TW ∧ (E, nm) ∈ ncs) (hxp : covers x pc = true) (h0c : x.catchType ≠ 0) (hlink : Cond.classLink M.nm.cls x.catchType name ∈ TW) (hcast : Cond.castable E name ∈ TW)
    (hd2 : decode M.co x.handlerPc = .ok (.astore_n kf, 1)) (hj : (kf : Nat) = j) (hjn : j < M.ml) (hjc : c1 L j = true) (kk : V g M d (kc - kc') (ks - ks') false K (x.handlerPc + 1) (sv L j none) [] w') : V g M d kc ks false K pc L (As.reverse ++ S) w := by
  intro p e s m args below meth c H locs cells slots ls mc ms A Z
  obtain ⟨hx, hb, hmL, hrt, hown, hlk, hnm, htb, hE⟩ := id A
  obtain ⟨hls, hH, hop, hS, hkc, hks0⟩ := id Z
  have hts : ∀ w ∈ TW, w.before args s = true := fun w hw => hE.2.1 w hw args
  have hM := met_vx hn hh hl hC
  have hrun := hL p e { frames := d, cells := mc, slots := ms, locals := 36 * d } s m args below meth c H locs cells slots ls _ kc' ks' _ _ _ (As.map (cv g)) (S.map (cv g)) A hM rfl rfl hd (by show 8 + (M'.ml + 11) + 36 * d' ≤ 36 * d; omega) (by rw [List.length_map]; exact hlen) (PcR.blind g false As w) (fun U hU hW => ⟨rfl, by rw [hU]; exact En.moved hW (hE.kept hS.1 hS.2.1), by rw [hU]; exact hH, fun h => nomatch h⟩) (rcv_of hE hH hv h8) hls.1 (by rw [cats]; exact hr) ⟨by show cells + kc' ≤ mc; omega, by show slots + ks' ≤ ms; omega⟩
  intro T hT X
  have hst : (As.reverse ++ S).map (cv g) = (As.map (cv g)).reverse ++ S.map (cv g) := by rw [List.map_append, List.map_reverse]
  rw [hst]
  rcases hrun T hT X with ⟨v0, st₀, t, T', L0, h0, X', hL0, e1, e2, hq, st⟩ | ⟨q, st₀, t, T', L0, E0, ce, h0, X', hL0, e1, e2, hxc, hce, hcv, hcl, st⟩
  · obtain ⟨v', w9, -, ⟨h9, -⟩, -⟩ := hq
    cases h9
  · obtain ⟨w9, ⟨h9, rfl⟩, hH', hF⟩ := hxc
    cases h9
    obtain ⟨hz, hq1, hS'⟩ := vx_keep (A1 := gA g) (free := gA g) h0 e1 hS (fun q _ h => h) (fun q h => h) hL0 hF
    have h9 : vx_W p (gl g) e { frames := d, cells := mc, slots := ms, locals := 36 * d } s m args below meth c T'.heap (locs ++ L0) (cells + kc') (slots + ks') (K below args s mc ms) (F0 m pc ls (S.map (cv g))) q := by
      refine vx_catch (E := E) (ce := ce) (own := M.nm.cls) (name := name) hown pre x suf (by rw [htb]; exact hsplit) (fun z hz9 => ?_) hxp h0c (hts _ hlink) (hts _ hcast) (by rw [e1]; exact hce) hcv hcl ?_
      · obtain ⟨z1, nm, z2, z3⟩ := hpass z hz9
        exact Or.inr ⟨z1, nm, hts _ z2, hE.2.2.2.1 _ z3⟩
      · refine lv_astore_n (x := q) hx hb hd2 hj hls hjn rfl (fun ls9 hl9 => ?_)
        refine kk p e s m args below meth c T'.heap (locs ++ L0) (cells + kc') (slots + ks') ls9 mc ms A ⟨⟨hl9.1, hl9.2.1, fun q9 hq9 => hl9.2.2 q9 ?_⟩, by rw [e1]; exact hH', (fun h => nomatch h), hS', by omega, by omega⟩
        obtain ⟨z1, z2⟩ := lcl_none L 0 j q9 hq9
        rw [Nat.zero_add] at z2
        have z3 := (lcl_sv (g := g) L 0 j (.ref 0) hjc)
        refine List.mem_cons_of_mem _ (List.mem_filter.mpr ⟨z1, ?_⟩)
        simp only [Bool.and_eq_true, Bool.not_eq_true', beq_eq_false_iff_ne, ne_eq, Bool.and_eq_false_iff]
        refine ⟨z2, ?_⟩
        by_cases h5 : q9.1 + 1 = j
        · refine Or.inr fun h6 => ?_
          have z4 : ∀ (L : List (Option Value)) (i j : Nat), c1 L j = true → ∀ q ∈ lcl g i L, q.1 + 1 = i + j → ¬ q.2.category = 2 := by
            intro L
            induction L with
            | nil => intro i j _ q h; cases h
            | cons a t ih =>
              intro i j hc q hq hj2
              cases a with
              | none =>
                have h3 := lcl_ge t (i + 1) q hq
                cases j with
                | zero => omega
                | succ j => exact ih (i + 1) j (by cases j with
                  | zero => omega
                  | succ j => exact hc) q hq (by omega)
              | some a =>
                rcases List.mem_cons.mp hq with rfl | hq
                · have hj3 : j = 1 := by have : i + 1 = i + j := hj2; omega
                  subst hj3
                  intro h8
                  have h8 : (cv g a).category = 2 := h8
                  rw [cv_cat] at h8
                  cases a <;> first | cases hc | (simp [Value.category] at h8)
                · have h3 := lcl_ge t (i + 1) q hq
                  cases j with
                  | zero => omega
                  | succ j => exact ih (i + 1) j (by cases j with
                    | zero => omega
                    | succ j => cases a <;> exact hc) q hq (by omega)
          exact z4 L 0 j hjc q9 z1 (by omega) h6
        · exact Or.inl h5
    obtain ⟨t2, a1, b1⟩ := h9 T' rfl X'
    exact ⟨t2, st.trans a1, b1⟩
end CALLS
section ENDS
variable {g : G0} {M : M0} {d kc ks : Nat} {op : Bool} {pc : Nat} {L : List (Option Value)} {S : List Value} {w : Wd} {P : Res → Wd → Prop}
theorem V_iret {x : Int32} {ty : FieldType} (hd : decode M.co pc = .ok (.ireturn, 1)) (hrt : M.rt = some ty) (hn : narrow ty (.int x) = .int x) (hP : P (.inl (some (.int x))) w) : V g M d kc ks op (Kp g op P) pc L [.int x] w := by
  intro p e s m args below meth c H locs cells slots ls mc ms A Z
  obtain ⟨hx, hb, hmL, hr, hown, hlk, hnm, htb, hE⟩ := id A
  obtain ⟨hls, hH, hop, hS, hkc, hks0⟩ := id Z
  refine W.widen (k := mc) (n := ms) (by omega) (by omega) ?_
  exact vx_ret (W.zret (v := x) (ty := ty) hx hb (by rw [hr, hrt]) hn (fun t ht hW => ⟨some (.int x), w, rfl, hP, by rw [ht]; exact hH, fun h => by rw [ht]; exact hop h, hS.F ht⟩) hS.2.2 hd hlk)
theorem V_vret (hd : decode M.co pc = .ok (.return_, 1)) (hrt : M.rt = none) (hP : P (.inl none) w) : V g M d kc ks op (Kp g op P) pc L [] w := by
  intro p e s m args below meth c H locs cells slots ls mc ms A Z
  obtain ⟨hx, hb, hmL, hr, hown, hlk, hnm, htb, hE⟩ := id A
  obtain ⟨hls, hH, hop, hS, hkc, hks0⟩ := id Z
  refine W.widen (k := mc) (n := ms) (by omega) (by omega) ?_
  exact vx_ret (W.vret hx hb (by rw [hr, hrt]) (fun t ht hW => ⟨none, w, rfl, hP, by rw [ht]; exact hH, fun h => by rw [ht]; exact hop h, hS.F ht⟩) hS.2.2 hd hlk)
theorem V_lret {x : Int64} (hd : decode M.co pc = .ok (.lreturn, 1)) (hrt : M.rt = some .long) (hP : P (.inl (some (.long x))) w) : V g M d kc ks op (Kp g op P) pc L [.long x] w := by
  intro p e s m args below meth c H locs cells slots ls mc ms A Z
  obtain ⟨hx, hb, hmL, hr, hown, hlk, hnm, htb, hE⟩ := id A
  obtain ⟨hls, hH, hop, hS, hkc, hks0⟩ := id Z
  refine W.widen (k := mc) (n := ms) (by omega) (by omega) ?_
  exact vx_ret (W.lret (v := x) hx hb (by rw [hr, hrt]) (fun t ht hW => ⟨some (.long x), w, rfl, hP, by rw [ht]; exact hH, fun h => by rw [ht]; exact hop h, hS.F ht⟩) hS.2.2 hd hlk)
theorem V_dret {x : UInt64} (hd : decode M.co pc = .ok (.dreturn, 1)) (hrt : M.rt = some .double) (hP : P (.inl (some (.double x))) w) : V g M d kc ks op (Kp g op P) pc L [.double x] w := by
  intro p e s m args below meth c H locs cells slots ls mc ms A Z
  obtain ⟨hx, hb, hmL, hr, hown, hlk, hnm, htb, hE⟩ := id A
  obtain ⟨hls, hH, hop, hS, hkc, hks0⟩ := id Z
  refine W.widen (k := mc) (n := ms) (by omega) (by omega) ?_
  exact vx_ret (W.dret (v := x) hx hb (by rw [hr, hrt]) (fun t ht hW => ⟨some (.double x), w, rfl, hP, by rw [ht]; exact hH, fun h => by rw [ht]; exact hop h, hS.F ht⟩) hS.2.2 hd hlk)
theorem V_aret {k : Nat} {ty : FieldType} (hd : decode M.co pc = .ok (.areturn, 1)) (hrt : M.rt = some ty) (hty : isRefT ty = true) (hP : P (.inl (some (.ref k))) w) : V g M d kc ks op (Kp g op P) pc L [.ref k] w := by
  intro p e s m args below meth c H locs cells slots ls mc ms A Z
  obtain ⟨hx, hb, hmL, hr, hown, hlk, hnm, htb, hE⟩ := id A
  obtain ⟨hls, hH, hop, hS, hkc, hks0⟩ := id Z
  refine W.widen (k := mc) (n := ms) (by omega) (by omega) ?_
  have hn : (∃ n, ty = FieldType.object n) ∨ ∃ t, ty = FieldType.array t := by cases ty <;> first | exact Or.inl ⟨_, rfl⟩ | exact Or.inr ⟨_, rfl⟩ | cases hty
  exact vx_ret (W.aret (v := .ref (ad g k)) (rt := ty) hx hb (by rw [hr, hrt]) hn (Or.inr ⟨_, rfl⟩) (fun t ht hW => ⟨some (.ref k), w, rfl, hP, by rw [ht]; exact hH, fun h => by rw [ht]; exact hop h, hS.F ht⟩) hS.2.2 hd hlk)
abbrev xnames : List String := ["java/lang/RuntimeException", "java/lang/Exception"]
theorem V_throw {E text : String} {ik is ic : Nat} (hfit : Bundle.fit E = true) (hk : Cond.classLink M.nm.cls ik E ∈ TW) (hini : Cond.initialized E ∈ TW) (hstr : (M.nm.cls, is, text) ∈ strs) (hat : ∀ w ∈ vx_atS M.nm.cls ic E xnames, w ∈ TW) (hgood : ∀ w ∈ Cond.classLink M.nm.cls ik E :: Cond.initialized E :: vx_atS M.nm.cls ic E xnames, vx_ot w = true)
    (d0 : decode M.co pc = .ok (.new ik, 3)) (d3 : decode M.co (pc + 3) = .ok (.dup, 1)) (d4 : decode M.co (pc + 4) = .ok (.ldc is, 2)) (d6 : decode M.co (pc + 6) = .ok (.invokespecial ic, 3)) (d9 : decode M.co (pc + 9) = .ok (.athrow, 1))
    (hnt : M.hh = []) (hd : 6 ≤ d) (hS8 : (S.map fun v => v.category).sum ≤ 8) (hP : P (.inr E) w) : V g M d (kc + 1) (ks + 6) false (Kp g false P) pc L S w := by
  intro p e s m args below meth c H locs cells slots ls mc ms A Z
  obtain ⟨hx, hb, hmL, hr, hown, hlk, hnm, htb, hE⟩ := id A
  obtain ⟨hls, hH, hop, hS, hkc, hks0⟩ := id Z
  have hts : ∀ w ∈ TW, w.before args s = true := fun w hw => hE.2.1 w hw args
  obtain ⟨sa, hsa⟩ := hE.2.2.1 _ hstr
  obtain ⟨-, -, -, -, hU, hN, -, -, hsz, hst⟩ := id hE
  refine vx_throwS (names := xnames) (A := gA g) (own := M.nm.cls) (cls := E) (text := text) (sa := sa) (mc := mc) (ms := ms) (XC := XcR g P) hx hb hst hown hfit (by decide) (hts _ hk) (hts _ hini) hsa (fun w hw => hts _ (hat w hw)) hgood hU hN hS (by rw [hls.1, hmL]) d0 d3 d4 d6 d9 (fun x hx => ?_) (by show 2 + 3 < d; omega) (by rw [cats]; show _ + (13 * (2 + 1) + 43) ≤ 36 * d; omega) (by show cells + 1 ≤ mc; omega) (by show slots + 6 ≤ ms; omega) hlk (fun t hW hz hq => ⟨w, hP, ⟨hH.1.kept (fun k q hq9 => hq _ ((hH.1 k q hq9).lt)), hH.2.1, Nat.le_trans hH.2.2 hz⟩, ?_⟩) hS.2.2 (by omega) (by omega)
  · rw [htb, hnt] at hx
    cases hx
  · exact ⟨Nat.le_trans hS.1 hz, fun q h1 h2 => (hq q (Nat.lt_of_lt_of_le h1 hS.1)).trans (hS.2.1 q h1 h2)⟩
theorem V_throwW {E text : String} {ik is ic : Nat} (hfit : Bundle.fit E = true) (hk : Cond.classLink M.nm.cls ik E ∈ TW) (hini : Cond.initialized E ∈ TW) (hstr : (M.nm.cls, is, text) ∈ strs) (hat : ∀ w ∈ vx_atS M.nm.cls ic E xnames, w ∈ TW) (hgood : ∀ w ∈ Cond.classLink M.nm.cls ik E :: Cond.initialized E :: vx_atS M.nm.cls ic E xnames, vx_ot w = true)
    (d0 : decode M.co pc = .ok (.new ik, 3)) (d3 : decode M.co (pc + 3) = .ok (.dup, 1)) (d4 : decode M.co (pc + 4) = .ok (.ldc_w is, 3)) (d7 : decode M.co (pc + 7) = .ok (.invokespecial ic, 3)) (d10 : decode M.co (pc + 10) = .ok (.athrow, 1))
    (hnt : M.hh = []) (hd : 6 ≤ d) (hS8 : (S.map fun v => v.category).sum ≤ 8) (hP : P (.inr E) w) : V g M d (kc + 1) (ks + 6) false (Kp g false P) pc L S w := by
  intro p e s m args below meth c H locs cells slots ls mc ms A Z
  obtain ⟨hx, hb, hmL, hr, hown, hlk, hnm, htb, hE⟩ := id A
  obtain ⟨hls, hH, hop, hS, hkc, hks0⟩ := id Z
  have hts : ∀ w ∈ TW, w.before args s = true := fun w hw => hE.2.1 w hw args
  obtain ⟨sa, hsa⟩ := hE.2.2.1 _ hstr
  obtain ⟨-, -, -, -, hU, hN, -, -, hsz, hst⟩ := id hE
  refine vx_throwSW (names := xnames) (A := gA g) (own := M.nm.cls) (cls := E) (text := text) (sa := sa) (mc := mc) (ms := ms) (XC := XcR g P) hx hb hst hown hfit (by decide) (hts _ hk) (hts _ hini) hsa (fun w hw => hts _ (hat w hw)) hgood hU hN hS (by rw [hls.1, hmL]) d0 d3 d4 d7 d10 (fun x hx => ?_) (by show 2 + 3 < d; omega) (by rw [cats]; show _ + (13 * (2 + 1) + 43) ≤ 36 * d; omega) (by show cells + 1 ≤ mc; omega) (by show slots + 6 ≤ ms; omega) hlk (fun t hW hz hq => ⟨w, hP, ⟨hH.1.kept (fun k q hq9 => hq _ ((hH.1 k q hq9).lt)), hH.2.1, Nat.le_trans hH.2.2 hz⟩, ?_⟩) hS.2.2 (by omega) (by omega)
  · rw [htb, hnt] at hx
    cases hx
  · exact ⟨Nat.le_trans hS.1 hz, fun q h1 h2 => (hq q (Nat.lt_of_lt_of_le h1 hS.1)).trans (hS.2.1 q h1 h2)⟩
end ENDS
end
