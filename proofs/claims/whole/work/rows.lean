section
-- ===== PART A: goes FIRST, ahead of the names: the tables' words, and 'selects' of the private methods out of them =====
/-- a private method of a class that the tables say can be made, by its rows of tables_1 -/
def lw_okq (q : MethodName × Nat) : Prop := (q.1.cls ≠ "java/lang/invoke/MethodHandle" ∧ q.1.cls ≠ "java/lang/invoke/VarHandle") ∧ Cond.instantiable q.1.cls q.2 ∈ tables_1 ∧ Cond.privateMethod q.1 ∈ tables_1 ∧ Cond.instanceMethod q.1 ∈ tables_1
theorem lw_p0 : lw_okq (⟨"TalkNet$Floor", "isOver", "(I)Z"⟩, 11) := ⟨⟨by decide +kernel, by decide +kernel⟩, List.mem_of_getElem? (i := 209) (by decide +kernel), List.mem_of_getElem? (i := 352) (by decide +kernel), List.mem_of_getElem? (i := 353) (by decide +kernel)⟩
theorem lw_p1 : lw_okq (⟨"TalkNet$Floor", "placeOf", "(I)I"⟩, 11) := ⟨⟨by decide +kernel, by decide +kernel⟩, List.mem_of_getElem? (i := 209) (by decide +kernel), List.mem_of_getElem? (i := 368) (by decide +kernel), List.mem_of_getElem? (i := 369) (by decide +kernel)⟩
theorem lw_p2 : lw_okq (⟨"TalkNet$Floor", "goFromRow", "(I)V"⟩, 11) := ⟨⟨by decide +kernel, by decide +kernel⟩, List.mem_of_getElem? (i := 209) (by decide +kernel), List.mem_of_getElem? (i := 372) (by decide +kernel), List.mem_of_getElem? (i := 373) (by decide +kernel)⟩
theorem lw_p3 : lw_okq (⟨"TalkNet$Floor", "grantTo", "(II)V"⟩, 11) := ⟨⟨by decide +kernel, by decide +kernel⟩, List.mem_of_getElem? (i := 209) (by decide +kernel), List.mem_of_getElem? (i := 376) (by decide +kernel), List.mem_of_getElem? (i := 377) (by decide +kernel)⟩
theorem lw_p4 : lw_okq (⟨"TalkNet$Listener", "isKept", "(I)Z"⟩, 11) := ⟨⟨by decide +kernel, by decide +kernel⟩, List.mem_of_getElem? (i := 112) (by decide +kernel), List.mem_of_getElem? (i := 400) (by decide +kernel), List.mem_of_getElem? (i := 401) (by decide +kernel)⟩
theorem lw_p5 : lw_okq (⟨"TalkNet$Listener", "playUnit", "()V"⟩, 11) := ⟨⟨by decide +kernel, by decide +kernel⟩, List.mem_of_getElem? (i := 112) (by decide +kernel), List.mem_of_getElem? (i := 410) (by decide +kernel), List.mem_of_getElem? (i := 411) (by decide +kernel)⟩
theorem lw_p6 : lw_okq (⟨"TalkNet$Listener", "addToSum", "(I)V"⟩, 11) := ⟨⟨by decide +kernel, by decide +kernel⟩, List.mem_of_getElem? (i := 112) (by decide +kernel), List.mem_of_getElem? (i := 414) (by decide +kernel), List.mem_of_getElem? (i := 415) (by decide +kernel)⟩
theorem lw_p7 : lw_okq (⟨"TalkNet$Listener", "playGap", "()V"⟩, 11) := ⟨⟨by decide +kernel, by decide +kernel⟩, List.mem_of_getElem? (i := 112) (by decide +kernel), List.mem_of_getElem? (i := 418) (by decide +kernel), List.mem_of_getElem? (i := 419) (by decide +kernel)⟩
theorem lw_p8 : lw_okq (⟨"java/lang/Throwable", "fillInStackTrace", "(I)Ljava/lang/Throwable;"⟩, 6) := ⟨⟨by decide +kernel, by decide +kernel⟩, List.mem_of_getElem? (i := 478) (by decide +kernel), List.mem_of_getElem? (i := 476) (by decide +kernel), List.mem_of_getElem? (i := 477) (by decide +kernel)⟩
theorem lw_p9 : lw_okq (⟨"TalkNet", "memberOf", "(II)LTalkNet$Member;"⟩, 5) := ⟨⟨by decide +kernel, by decide +kernel⟩, List.mem_of_getElem? (i := 22) (by decide +kernel), List.mem_of_getElem? (i := 529) (by decide +kernel), List.mem_of_getElem? (i := 530) (by decide +kernel)⟩
theorem lw_p10 : lw_okq (⟨"TalkNet", "memberThere", "(II)LTalkNet$Member;"⟩, 5) := ⟨⟨by decide +kernel, by decide +kernel⟩, List.mem_of_getElem? (i := 22) (by decide +kernel), List.mem_of_getElem? (i := 553) (by decide +kernel), List.mem_of_getElem? (i := 554) (by decide +kernel)⟩
theorem lw_p11 : lw_okq (⟨"TalkNet", "sendRequest", "(IILTalkNet$Member;)V"⟩, 5) := ⟨⟨by decide +kernel, by decide +kernel⟩, List.mem_of_getElem? (i := 22) (by decide +kernel), List.mem_of_getElem? (i := 575) (by decide +kernel), List.mem_of_getElem? (i := 576) (by decide +kernel)⟩
theorem lw_p12 : lw_okq (⟨"TalkNet", "needMessage", "(I)V"⟩, 5) := ⟨⟨by decide +kernel, by decide +kernel⟩, List.mem_of_getElem? (i := 22) (by decide +kernel), List.mem_of_getElem? (i := 633) (by decide +kernel), List.mem_of_getElem? (i := 634) (by decide +kernel)⟩
theorem lw_p13 : lw_okq (⟨"TalkNet", "deliver", "(LTalkNet$Message;)V"⟩, 5) := ⟨⟨by decide +kernel, by decide +kernel⟩, List.mem_of_getElem? (i := 22) (by decide +kernel), List.mem_of_getElem? (i := 677) (by decide +kernel), List.mem_of_getElem? (i := 678) (by decide +kernel)⟩
theorem lw_p14 : lw_okq (⟨"TalkNet$Floor", "answerAgain", "(I)V"⟩, 11) := ⟨⟨by decide +kernel, by decide +kernel⟩, List.mem_of_getElem? (i := 209) (by decide +kernel), List.mem_of_getElem? (i := 685) (by decide +kernel), List.mem_of_getElem? (i := 686) (by decide +kernel)⟩
theorem lw_p15 : lw_okq (⟨"TalkNet$Floor", "enqueue", "(I)V"⟩, 11) := ⟨⟨by decide +kernel, by decide +kernel⟩, List.mem_of_getElem? (i := 209) (by decide +kernel), List.mem_of_getElem? (i := 693) (by decide +kernel), List.mem_of_getElem? (i := 694) (by decide +kernel)⟩
def lw_privs_1 : List (MethodName × Nat) := [(⟨"TalkNet$Floor", "isOver", "(I)Z"⟩, 11), (⟨"TalkNet$Floor", "placeOf", "(I)I"⟩, 11), (⟨"TalkNet$Floor", "goFromRow", "(I)V"⟩, 11), (⟨"TalkNet$Floor", "grantTo", "(II)V"⟩, 11), (⟨"TalkNet$Listener", "isKept", "(I)Z"⟩, 11), (⟨"TalkNet$Listener", "playUnit", "()V"⟩, 11), (⟨"TalkNet$Listener", "addToSum", "(I)V"⟩, 11), (⟨"TalkNet$Listener", "playGap", "()V"⟩, 11), (⟨"java/lang/Throwable", "fillInStackTrace", "(I)Ljava/lang/Throwable;"⟩, 6), (⟨"TalkNet", "memberOf", "(II)LTalkNet$Member;"⟩, 5), (⟨"TalkNet", "memberThere", "(II)LTalkNet$Member;"⟩, 5), (⟨"TalkNet", "sendRequest", "(IILTalkNet$Member;)V"⟩, 5), (⟨"TalkNet", "needMessage", "(I)V"⟩, 5), (⟨"TalkNet", "deliver", "(LTalkNet$Message;)V"⟩, 5), (⟨"TalkNet$Floor", "answerAgain", "(I)V"⟩, 11), (⟨"TalkNet$Floor", "enqueue", "(I)V"⟩, 11)]
theorem lw_r1 : ∀ q ∈ lw_privs_1, lw_okq q := List.forall_mem_cons.mpr ⟨lw_p0, List.forall_mem_cons.mpr ⟨lw_p1, List.forall_mem_cons.mpr ⟨lw_p2, List.forall_mem_cons.mpr ⟨lw_p3, List.forall_mem_cons.mpr ⟨lw_p4, List.forall_mem_cons.mpr ⟨lw_p5, List.forall_mem_cons.mpr ⟨lw_p6, List.forall_mem_cons.mpr ⟨lw_p7, List.forall_mem_cons.mpr ⟨lw_p8, List.forall_mem_cons.mpr ⟨lw_p9, List.forall_mem_cons.mpr ⟨lw_p10, List.forall_mem_cons.mpr ⟨lw_p11, List.forall_mem_cons.mpr ⟨lw_p12, List.forall_mem_cons.mpr ⟨lw_p13, List.forall_mem_cons.mpr ⟨lw_p14, List.forall_mem_cons.mpr ⟨lw_p15, fun _ h => absurd h List.not_mem_nil⟩⟩⟩⟩⟩⟩⟩⟩⟩⟩⟩⟩⟩⟩⟩⟩
theorem lw_p16 : lw_okq (⟨"TalkNet$Floor", "revokeIfBelow", "(LTalkNet$Claim;I)V"⟩, 11) := ⟨⟨by decide +kernel, by decide +kernel⟩, List.mem_of_getElem? (i := 209) (by decide +kernel), List.mem_of_getElem? (i := 701) (by decide +kernel), List.mem_of_getElem? (i := 702) (by decide +kernel)⟩
theorem lw_p17 : lw_okq (⟨"TalkNet$Gate", "lets", "(III)Z"⟩, 7) := ⟨⟨by decide +kernel, by decide +kernel⟩, List.mem_of_getElem? (i := 296) (by decide +kernel), List.mem_of_getElem? (i := 717) (by decide +kernel), List.mem_of_getElem? (i := 718) (by decide +kernel)⟩
theorem lw_p18 : lw_okq (⟨"TalkNet$Member", "hearAnswer", "(LTalkNet$Message;)V"⟩, 11) := ⟨⟨by decide +kernel, by decide +kernel⟩, List.mem_of_getElem? (i := 106) (by decide +kernel), List.mem_of_getElem? (i := 730) (by decide +kernel), List.mem_of_getElem? (i := 731) (by decide +kernel)⟩
theorem lw_p19 : lw_okq (⟨"TalkNet$Member", "hearTalker", "(II)V"⟩, 11) := ⟨⟨by decide +kernel, by decide +kernel⟩, List.mem_of_getElem? (i := 106) (by decide +kernel), List.mem_of_getElem? (i := 736) (by decide +kernel), List.mem_of_getElem? (i := 737) (by decide +kernel)⟩
theorem lw_p20 : lw_okq (⟨"TalkNet$Listener", "begin", "(III)V"⟩, 11) := ⟨⟨by decide +kernel, by decide +kernel⟩, List.mem_of_getElem? (i := 112) (by decide +kernel), List.mem_of_getElem? (i := 744) (by decide +kernel), List.mem_of_getElem? (i := 745) (by decide +kernel)⟩
theorem lw_p21 : lw_okq (⟨"TalkNetModel", "clear", "(II)V"⟩, 50) := ⟨⟨by decide +kernel, by decide +kernel⟩, List.mem_of_getElem? (i := 813) (by decide +kernel), List.mem_of_getElem? (i := 993) (by decide +kernel), List.mem_of_getElem? (i := 994) (by decide +kernel)⟩
theorem lw_p22 : lw_okq (⟨"TalkNetModel", "free", "(I)V"⟩, 50) := ⟨⟨by decide +kernel, by decide +kernel⟩, List.mem_of_getElem? (i := 813) (by decide +kernel), List.mem_of_getElem? (i := 997) (by decide +kernel), List.mem_of_getElem? (i := 998) (by decide +kernel)⟩
theorem lw_p23 : lw_okq (⟨"TalkNetModel", "waitsAt", "(II)I"⟩, 50) := ⟨⟨by decide +kernel, by decide +kernel⟩, List.mem_of_getElem? (i := 813) (by decide +kernel), List.mem_of_getElem? (i := 1001) (by decide +kernel), List.mem_of_getElem? (i := 1002) (by decide +kernel)⟩
theorem lw_p24 : lw_okq (⟨"TalkNetModel", "placeOf", "(I)I"⟩, 50) := ⟨⟨by decide +kernel, by decide +kernel⟩, List.mem_of_getElem? (i := 813) (by decide +kernel), List.mem_of_getElem? (i := 1005) (by decide +kernel), List.mem_of_getElem? (i := 1006) (by decide +kernel)⟩
theorem lw_p25 : lw_okq (⟨"TalkNetModel", "above", "(II)I"⟩, 50) := ⟨⟨by decide +kernel, by decide +kernel⟩, List.mem_of_getElem? (i := 813) (by decide +kernel), List.mem_of_getElem? (i := 1009) (by decide +kernel), List.mem_of_getElem? (i := 1010) (by decide +kernel)⟩
theorem lw_p26 : lw_okq (⟨"TalkNetModel", "give", "(II)V"⟩, 50) := ⟨⟨by decide +kernel, by decide +kernel⟩, List.mem_of_getElem? (i := 813) (by decide +kernel), List.mem_of_getElem? (i := 1013) (by decide +kernel), List.mem_of_getElem? (i := 1014) (by decide +kernel)⟩
theorem lw_p27 : lw_okq (⟨"TalkNetModel", "send", "(IIIIII)V"⟩, 50) := ⟨⟨by decide +kernel, by decide +kernel⟩, List.mem_of_getElem? (i := 813) (by decide +kernel), List.mem_of_getElem? (i := 1017) (by decide +kernel), List.mem_of_getElem? (i := 1018) (by decide +kernel)⟩
theorem lw_p28 : lw_okq (⟨"TalkNetModel", "tellTalker", "(I)V"⟩, 50) := ⟨⟨by decide +kernel, by decide +kernel⟩, List.mem_of_getElem? (i := 813) (by decide +kernel), List.mem_of_getElem? (i := 1021) (by decide +kernel), List.mem_of_getElem? (i := 1022) (by decide +kernel)⟩
theorem lw_p29 : lw_okq (⟨"TalkNetModel", "ask", "(II)V"⟩, 50) := ⟨⟨by decide +kernel, by decide +kernel⟩, List.mem_of_getElem? (i := 813) (by decide +kernel), List.mem_of_getElem? (i := 1029) (by decide +kernel), List.mem_of_getElem? (i := 1030) (by decide +kernel)⟩
theorem lw_p30 : lw_okq (⟨"TalkNetModel", "isMessage", "(I)Z"⟩, 50) := ⟨⟨by decide +kernel, by decide +kernel⟩, List.mem_of_getElem? (i := 813) (by decide +kernel), List.mem_of_getElem? (i := 1053) (by decide +kernel), List.mem_of_getElem? (i := 1054) (by decide +kernel)⟩
theorem lw_p31 : lw_okq (⟨"TalkNetModel", "comes", "(IZ)V"⟩, 50) := ⟨⟨by decide +kernel, by decide +kernel⟩, List.mem_of_getElem? (i := 813) (by decide +kernel), List.mem_of_getElem? (i := 1061) (by decide +kernel), List.mem_of_getElem? (i := 1062) (by decide +kernel)⟩
def lw_privs_2 : List (MethodName × Nat) := [(⟨"TalkNet$Floor", "revokeIfBelow", "(LTalkNet$Claim;I)V"⟩, 11), (⟨"TalkNet$Gate", "lets", "(III)Z"⟩, 7), (⟨"TalkNet$Member", "hearAnswer", "(LTalkNet$Message;)V"⟩, 11), (⟨"TalkNet$Member", "hearTalker", "(II)V"⟩, 11), (⟨"TalkNet$Listener", "begin", "(III)V"⟩, 11), (⟨"TalkNetModel", "clear", "(II)V"⟩, 50), (⟨"TalkNetModel", "free", "(I)V"⟩, 50), (⟨"TalkNetModel", "waitsAt", "(II)I"⟩, 50), (⟨"TalkNetModel", "placeOf", "(I)I"⟩, 50), (⟨"TalkNetModel", "above", "(II)I"⟩, 50), (⟨"TalkNetModel", "give", "(II)V"⟩, 50), (⟨"TalkNetModel", "send", "(IIIIII)V"⟩, 50), (⟨"TalkNetModel", "tellTalker", "(I)V"⟩, 50), (⟨"TalkNetModel", "ask", "(II)V"⟩, 50), (⟨"TalkNetModel", "isMessage", "(I)Z"⟩, 50), (⟨"TalkNetModel", "comes", "(IZ)V"⟩, 50)]
theorem lw_r2 : ∀ q ∈ lw_privs_2, lw_okq q := List.forall_mem_cons.mpr ⟨lw_p16, List.forall_mem_cons.mpr ⟨lw_p17, List.forall_mem_cons.mpr ⟨lw_p18, List.forall_mem_cons.mpr ⟨lw_p19, List.forall_mem_cons.mpr ⟨lw_p20, List.forall_mem_cons.mpr ⟨lw_p21, List.forall_mem_cons.mpr ⟨lw_p22, List.forall_mem_cons.mpr ⟨lw_p23, List.forall_mem_cons.mpr ⟨lw_p24, List.forall_mem_cons.mpr ⟨lw_p25, List.forall_mem_cons.mpr ⟨lw_p26, List.forall_mem_cons.mpr ⟨lw_p27, List.forall_mem_cons.mpr ⟨lw_p28, List.forall_mem_cons.mpr ⟨lw_p29, List.forall_mem_cons.mpr ⟨lw_p30, List.forall_mem_cons.mpr ⟨lw_p31, fun _ h => absurd h List.not_mem_nil⟩⟩⟩⟩⟩⟩⟩⟩⟩⟩⟩⟩⟩⟩⟩⟩
theorem lw_p32 : lw_okq (⟨"TalkNetModel", "takeOut", "(I)V"⟩, 50) := ⟨⟨by decide +kernel, by decide +kernel⟩, List.mem_of_getElem? (i := 813) (by decide +kernel), List.mem_of_getElem? (i := 1065) (by decide +kernel), List.mem_of_getElem? (i := 1066) (by decide +kernel)⟩
theorem lw_p33 : lw_okq (⟨"TalkNetModel", "requested", "(IIIZ)V"⟩, 50) := ⟨⟨by decide +kernel, by decide +kernel⟩, List.mem_of_getElem? (i := 813) (by decide +kernel), List.mem_of_getElem? (i := 1069) (by decide +kernel), List.mem_of_getElem? (i := 1070) (by decide +kernel)⟩
theorem lw_p34 : lw_okq (⟨"TalkNetModel", "waitCount", "(I)I"⟩, 50) := ⟨⟨by decide +kernel, by decide +kernel⟩, List.mem_of_getElem? (i := 813) (by decide +kernel), List.mem_of_getElem? (i := 1073) (by decide +kernel), List.mem_of_getElem? (i := 1074) (by decide +kernel)⟩
theorem lw_p35 : lw_okq (⟨"TalkNetModel", "released", "(III)V"⟩, 50) := ⟨⟨by decide +kernel, by decide +kernel⟩, List.mem_of_getElem? (i := 813) (by decide +kernel), List.mem_of_getElem? (i := 1077) (by decide +kernel), List.mem_of_getElem? (i := 1078) (by decide +kernel)⟩
theorem lw_p36 : lw_okq (⟨"TalkNetModel", "gateComes", "(III)V"⟩, 50) := ⟨⟨by decide +kernel, by decide +kernel⟩, List.mem_of_getElem? (i := 813) (by decide +kernel), List.mem_of_getElem? (i := 1081) (by decide +kernel), List.mem_of_getElem? (i := 1082) (by decide +kernel)⟩
theorem lw_p37 : lw_okq (⟨"TalkNetModel", "unitComes", "(IIIII)V"⟩, 50) := ⟨⟨by decide +kernel, by decide +kernel⟩, List.mem_of_getElem? (i := 813) (by decide +kernel), List.mem_of_getElem? (i := 1085) (by decide +kernel), List.mem_of_getElem? (i := 1086) (by decide +kernel)⟩
theorem lw_p38 : lw_okq (⟨"TalkNetModel", "memberHears", "(IIIIII)V"⟩, 50) := ⟨⟨by decide +kernel, by decide +kernel⟩, List.mem_of_getElem? (i := 813) (by decide +kernel), List.mem_of_getElem? (i := 1089) (by decide +kernel), List.mem_of_getElem? (i := 1090) (by decide +kernel)⟩
theorem lw_p39 : lw_okq (⟨"TalkNetModel", "listen", "(IIII)V"⟩, 50) := ⟨⟨by decide +kernel, by decide +kernel⟩, List.mem_of_getElem? (i := 813) (by decide +kernel), List.mem_of_getElem? (i := 1093) (by decide +kernel), List.mem_of_getElem? (i := 1094) (by decide +kernel)⟩
theorem lw_p40 : lw_okq (⟨"TalkNetModel", "serverTick", "(I)V"⟩, 50) := ⟨⟨by decide +kernel, by decide +kernel⟩, List.mem_of_getElem? (i := 813) (by decide +kernel), List.mem_of_getElem? (i := 1113) (by decide +kernel), List.mem_of_getElem? (i := 1114) (by decide +kernel)⟩
theorem lw_p41 : lw_okq (⟨"TalkNetModel", "play", "(I)V"⟩, 50) := ⟨⟨by decide +kernel, by decide +kernel⟩, List.mem_of_getElem? (i := 813) (by decide +kernel), List.mem_of_getElem? (i := 1117) (by decide +kernel), List.mem_of_getElem? (i := 1118) (by decide +kernel)⟩
theorem lw_p42 : lw_okq (⟨"TalkNetModel", "aboutSpurt", "(II)I"⟩, 50) := ⟨⟨by decide +kernel, by decide +kernel⟩, List.mem_of_getElem? (i := 813) (by decide +kernel), List.mem_of_getElem? (i := 1137) (by decide +kernel), List.mem_of_getElem? (i := 1138) (by decide +kernel)⟩
def lw_privs_3 : List (MethodName × Nat) := [(⟨"TalkNetModel", "takeOut", "(I)V"⟩, 50), (⟨"TalkNetModel", "requested", "(IIIZ)V"⟩, 50), (⟨"TalkNetModel", "waitCount", "(I)I"⟩, 50), (⟨"TalkNetModel", "released", "(III)V"⟩, 50), (⟨"TalkNetModel", "gateComes", "(III)V"⟩, 50), (⟨"TalkNetModel", "unitComes", "(IIIII)V"⟩, 50), (⟨"TalkNetModel", "memberHears", "(IIIIII)V"⟩, 50), (⟨"TalkNetModel", "listen", "(IIII)V"⟩, 50), (⟨"TalkNetModel", "serverTick", "(I)V"⟩, 50), (⟨"TalkNetModel", "play", "(I)V"⟩, 50), (⟨"TalkNetModel", "aboutSpurt", "(II)I"⟩, 50)]
theorem lw_r3 : ∀ q ∈ lw_privs_3, lw_okq q := List.forall_mem_cons.mpr ⟨lw_p32, List.forall_mem_cons.mpr ⟨lw_p33, List.forall_mem_cons.mpr ⟨lw_p34, List.forall_mem_cons.mpr ⟨lw_p35, List.forall_mem_cons.mpr ⟨lw_p36, List.forall_mem_cons.mpr ⟨lw_p37, List.forall_mem_cons.mpr ⟨lw_p38, List.forall_mem_cons.mpr ⟨lw_p39, List.forall_mem_cons.mpr ⟨lw_p40, List.forall_mem_cons.mpr ⟨lw_p41, List.forall_mem_cons.mpr ⟨lw_p42, fun _ h => absurd h List.not_mem_nil⟩⟩⟩⟩⟩⟩⟩⟩⟩⟩⟩
def lw_privs : List (MethodName × Nat) := lw_privs_1 ++ (lw_privs_2 ++ (lw_privs_3))
def lw_tbl : List Cond := k2_sels lw_privs ++ tables_1
theorem lw_privs_ok : ∀ q ∈ lw_privs, lw_okq q := by
  show ∀ q ∈ lw_privs_1 ++ (lw_privs_2 ++ (lw_privs_3)), lw_okq q
  exact List.forall_mem_append.mpr ⟨lw_r1, List.forall_mem_append.mpr ⟨lw_r2, lw_r3⟩⟩
end
section
/-! ===== BEGIN words of one list among another's, by their places ===== -/
theorem goodIn_r {big : List Cond} (ws : List Cond) (ps : List Nat) (hp : ws = ps.filterMap (fun i => big[i]?)) (h : ws.all goodWord = true) : GoodIn big ws := by
  intro w hw
  have h1 := List.all_eq_true.mp h w hw
  rw [hp] at hw
  obtain ⟨i, -, hi⟩ := List.mem_filterMap.mp hw
  have hm : w ∈ big := by first | exact List.mem_of_getElem? hi | exact List.getElem?_mem hi
  exact ⟨hm, good_of_word h1⟩
theorem goodIn_app {big a b : List Cond} (ha : GoodIn big a) (hb : GoodIn big b) : GoodIn big (a ++ b) := fun w h => (List.mem_append.mp h).elim (ha w) (hb w)
theorem goodIn_ca {big a b : List Cond} {c : Cond} (ha : GoodIn big (c :: a)) (hb : GoodIn big b) : GoodIn big (c :: (a ++ b)) := fun w h => (List.mem_cons.mp h).elim (fun e => ha w (List.mem_cons.mpr (Or.inl e))) (fun h => (List.mem_append.mp h).elim (fun h => ha w (List.mem_cons.mpr (Or.inr h))) (hb w))
theorem goodIn_sub {big ws : List Cond} (hm : ∀ w ∈ ws, w ∈ big) (h : ws.all goodWord = true) : GoodIn big ws := fun w hw => ⟨hm w hw, good_of_word (List.all_eq_true.mp h w hw)⟩
/-! ===== END ===== -/

/-! ===== BEGIN exceptions that leave a method, and their catching by the caller (launches without stack traces) ===== -/
section VXA
/-! The laws vx_back, vx_callV, vx_callS, vx_callSW, vx_throw0, vx_throwS follow proofs of the library, with one case more: JvmDerived/Free/Laws.lean (Back.of_free), Shelf42/LK1.lean (callV, callS), Shelf/KitTraced.lean (throwNew0V, throwNewS). -/
/-- where a method has thrown q: the class by its name, the cell, what was written, the world -/
def vx_T (XC : String → State → State → Prop) (st : State) (q : Addr) (t : State) (mc ms : Nat) (free : Addr → Prop) : Prop :=
  ∃ (E : String) (ce : Cell) (L : List Loc), XC E st t ∧ t.heap[q]? = some ce ∧ ce.vm = .none ∧ st.vm.findClass E = some ce.cls ∧ st.WarmedH t.vm ∧ st.sameButNew ({ t with vm := st.vm } : State) L mc ms ∧ ∀ z ∈ L, free z.base
def vx_Q (Qc : Array Value → State → Outcome → State → Prop) (XC : String → State → State → Prop) (mc ms : Nat) (free : Addr → Prop) : Array Value → State → Outcome → State → Prop := fun a st o t =>
  (Qc a st o t ∧ ∃ L, FrameEnd st o t L mc ms ∧ ∀ q ∈ L, free q.base) ∨ ∃ q, o = .threw q ∧ vx_T XC st q t mc ms free
/-- a callee that returns or throws -/
def vx_Met (l : Launch) (y : MethodName) (ws : List Cond) (rm : Room) (Pc : Array Value → State → Prop) (Qc : Array Value → State → Outcome → State → Prop) (XC : String → State → State → Prop) (mc ms : Nat) (free : Addr → Prop) : Prop :=
  MetFree l y (headSpec ws rm) Pc (fun _ _ _ _ _ => True) (vx_Q Qc XC mc ms free)
def vx_Post (XC : String → State → State → Prop) (mc ms : Nat) (free : Addr → Prop) : Pt → Array Value → Addr → Pt → Prop := fun A a q B =>
  ∃ (g : JFrame) (mk : MethodId) (t : State) (L : List Loc) (E : String) (ce : Cell), B.U.heap = t.heap ∧ B.U.vm = t.vm ∧ XC E (A.U.calling g mk a) t ∧ t.heap[q]? = some ce ∧ ce.vm = .none ∧ A.U.vm.findClass E = some ce.cls ∧ B.locs = A.locs ++ L ∧ (∀ z ∈ L, free z.base) ∧ B.cells = A.cells + mc ∧ B.slots = A.slots + ms
def vx_Back (l : Launch) (R : Room) (p : Program) (e : Env) (below : List Frame) (s : State) (sargs : Array Value) (y : MethodName) (len W9 : Nat)
    (Pre : Pt → Array Value → Prop) (Post : Pt → Array Value → Option Value → Pt → Prop) (PostX : Pt → Array Value → Addr → Pt → Prop) : Prop :=
  ∀ (m : MethodId) (meth : Method) (c : Code) (A : Pt) (g : JFrame) (ig : Instr) (mk : MethodId) (a : Array Value),
    Stand p l e R s m sargs below meth c A.U A.locs A.cells A.slots → g.method = m → g.locals.size = c.maxLocals → decode c.code g.pc = .ok (ig, len) →
    2 * g.monitorRoom + (g.stack.map fun v => v.category).sum ≤ W9 → A.U.methodNamed? y = some mk → Pre A a →
    (∃ (v : Option Value) (B : Pt), Stand p l e R s m sargs below meth c B.U B.locs B.cells B.slots ∧ Post A a v B ∧
      Steps p.tables e below (doInvoke e (A.U.setTop g) [] mk a).1 (B.U.setTop { g with pc := g.pc + len, stack := v.toList ++ g.stack })) ∨
    (∃ (q : Addr) (B : Pt), Stand p l e R s m sargs below meth c B.U B.locs B.cells B.slots ∧ PostX A a q B ∧
      Steps p.tables e below (doInvoke e (A.U.setTop g) [] mk a).1 ((B.U.setTop g).pushFrame (.throwing q)))
section Payer
variable {l : Launch} {R : Room} {p : Program} {e : Env} {below : List Frame} {s : State} {sargs : Array Value} {y : MethodName} {len W9 : Nat}
theorem vx_back {ws : List Cond} {rm : Room} {Pc : Array Value → State → Prop} {Qc : Array Value → State → Outcome → State → Prop} {XC : String → State → State → Prop} {mc ms : Nat} {free : Addr → Prop} {bytes : ByteArray} {maxL : Nat} {ret : Option FieldType}
    (hM : vx_Met l y ws rm Pc Qc XC mc ms free) (hblind : FrameBlind Pc) (hrc : rm.cells = mc) (hrs : rm.slots = ms)
    (hframes : rm.frames + 1 ≤ R.frames) (hlocals : W9 + (maxL + 11) + rm.locals ≤ R.locals)
    (hws : ∀ w ∈ ws, ∀ a' U, s.WarmedH U.vm → w.before a' U = true) (hcode : Cond.code y bytes maxL ret ∈ ws) (hinit : ∀ a' U, s.WarmedH U.vm → (Cond.initialized y.cls).before a' U = true) :
    vx_Back l R p e below s sargs y len W9 (PreOf R mc ms Pc) (PostOf Qc mc ms free) (vx_Post XC mc ms free) := by
  intro m meth c A g ig mk a X hg hsize hdg hW hn hp
  have h1 : (headSpec ws rm).pre.before a A.U = true := atoms_intro fun w hw => hws w hw _ _ X.warmed
  have h2 : (Cond.code y bytes maxL ret).before a A.U = true := hws _ hcode _ _ X.warmed
  have h3 : (Cond.initialized y.cls).before a A.U = true := hinit _ _ X.warmed
  have h4 : A.cells + (headSpec ws rm).room.cells ≤ R.cells := by rw [show (headSpec ws rm).room.cells = mc from hrc]; exact hp.1
  have h5 : A.slots + (headSpec ws rm).room.slots ≤ R.slots := by rw [show (headSpec ws rm).room.slots = ms from hrs]; exact hp.2.1
  have hPc : Pc a (A.U.calling g mk a) := hblind _ _ _ _ hp.2.2
  obtain ⟨U, Ls, c0, s0⟩ := A
  dsimp only [Pt.U, Pt.locs, Pt.cells, Pt.slots] at h1 h2 h3 h4 h5 X hn hPc ⊢
  obtain ⟨methY, cY, hmY, hcY, -, hlY, -, -, -, -⟩ := Cond.code_spec hn h2
  obtain ⟨kY, hkY, -⟩ := className_of_methodNamed hn
  have hinitY : kY.init = .initialized := Cond.initialized_spec (findClass_of_methodNamed hn) hkY h3
  have h : At U g.method c below := by rw [hg]; exact X.here
  have hlocals9 : W9 + (maxL + 11) + (headSpec ws rm).room.locals ≤ R.locals := hlocals
  have happ : (headSpec ws rm).appliesLoose y e.platform (U.calling g mk a) = true :=
    Spec.appliesLoose_calling (g := g) h hdg hn hkY hinitY
      (X.room_calling (g := g) (R' := (headSpec ws rm).room) hsize hmY hcY hframes (by rw [hlY]; omega) h4 h5) h1
  obtain ⟨mid, hmid⟩ := h.above
  have hfr : (U.setTop g).frames = (.java g :: mid) ++ below := by rw [State.frames_setTop' g h.top, hmid]; rfl
  obtain ⟨o, s₂, hsteps, -, hend, hq⟩ := Steps.callFree hM p X.admits X.cas X.clock (acts := []) hfr happ hPc trivial
  have hq' : vx_Q Qc XC mc ms free a (U.calling g mk a) o s₂ := hq
  rw [State.frames_setTop' g h.top] at hend
  obtain ⟨g₀, hg0⟩ := Option.isSome_iff_exists.mp h.top
  obtain ⟨r, hr⟩ := State.topJava?_eq_some.mp hg0
  have hr' : (({ U with heap := s₂.heap, slotsUsed := s₂.slotsUsed } : State).setVm s₂.vm).frames = .java g₀ :: r := hr
  rcases hq' with ⟨hqc, L, hfe, hL⟩ | ⟨q, rfl, E, ce, L, hx, hce, hcv, hcl, hW₂, hsm, hL⟩
  · obtain ⟨⟨v, rfl⟩, hW₂, e2, q2, q3, q4, q5, q6⟩ := id hfe
    have e3 : s₂ = ({ (U.calling g mk a).setFrames s₂.frames with heap := s₂.heap, slotsUsed := s₂.slotsUsed } : State).setVm s₂.vm := by
      have : s₂ = ({ s₂ with vm := (U.calling g mk a).vm } : State).setVm s₂.vm := rfl
      rw [e2] at this
      exact this
    obtain ⟨c₂, i₂, len₂, hc₂, hd₂, hf₂⟩ := hend
    have hW' : U.WarmedH s₂.vm := hW₂
    have hcc : c₂ = c := by
      have h1 : s₂.code? g.method = U.code? g.method := by
        rw [State.code?_eq, State.code?_eq, hW'.alike.method?]
      exact Option.some.inj (hc₂.symm.trans (h1.trans h.code))
    subst hcc
    have hlen : len₂ = len := by rw [hdg] at hd₂; cases hd₂; rfl
    subst hlen
    have hs₂ : s₂ = (({ U with heap := s₂.heap, slotsUsed := s₂.slotsUsed } : State).setVm s₂.vm).setTop { g with pc := g.pc + len₂, stack := v.toList ++ g.stack } := by
      refine e3.trans ?_
      rw [hf₂, State.calling_eq h.top, State.setFrames_setFrames, State.setTop_of_frames _ hr', hr]
      rfl
    have hsame : U.sameButNew ({ U with heap := s₂.heap, slotsUsed := s₂.slotsUsed } : State) L mc ms := by
      refine ⟨?_, q2, q3, q4, q5, q6⟩
      obtain ⟨t, ht, -⟩ := State.frames_cons hr
      show ({ U with heap := s₂.heap, slotsUsed := s₂.slotsUsed } : State) = { U.setFrames U.frames with heap := s₂.heap, slotsUsed := s₂.slotsUsed }
      rw [State.setFrames_self ht]
    subst hg
    refine Or.inl ⟨v, ⟨(({ U with heap := s₂.heap, slotsUsed := s₂.slotsUsed } : State).setVm s₂.vm), Ls ++ L, c0 + mc, s0 + ms⟩,
      ⟨X.admits, X.cas, X.clock, X.frames, X.room, X.hears, X.method, X.code, (X.here.setHeapUsed s₂.heap s₂.slotsUsed).setVm hW'.alike, X.tail, State.WarmedH.trans X.warmed hW', X.limits, X.bytes, X.same.trans (hsame.setVm s.vm)⟩,
      ⟨g, mk, s₂, L, rfl, rfl, hqc, rfl, hL, rfl, rfl⟩, ?_⟩
    show Steps p.tables e below _ ((({ U with heap := s₂.heap, slotsUsed := s₂.slotsUsed } : State).setVm s₂.vm).setTop { g with pc := g.pc + len₂, stack := v.toList ++ g.stack })
    rw [← hs₂]
    exact hsteps
  · obtain ⟨e2, q2, q3, q4, q5, q6⟩ := id hsm
    have e3 : s₂ = ({ (U.calling g mk a).setFrames s₂.frames with heap := s₂.heap, slotsUsed := s₂.slotsUsed } : State).setVm s₂.vm := by
      have : s₂ = ({ s₂ with vm := (U.calling g mk a).vm } : State).setVm s₂.vm := rfl
      rw [e2] at this
      exact this
    have hf₂ : s₂.frames = .throwing q :: .java g :: U.frames.tail := hend
    have hW' : U.WarmedH s₂.vm := hW₂
    have hs₂ : s₂ = ((({ U with heap := s₂.heap, slotsUsed := s₂.slotsUsed } : State).setVm s₂.vm).setTop g).pushFrame (.throwing q) := by
      refine e3.trans ?_
      rw [hf₂, State.calling_eq h.top, State.setFrames_setFrames, State.pushFrame, State.frames_setTop _ hr', State.setTop_of_frames _ hr', State.setFrames_setFrames, hr]
      rfl
    have hsame : U.sameButNew ({ U with heap := s₂.heap, slotsUsed := s₂.slotsUsed } : State) L mc ms := by
      refine ⟨?_, q2, q3, q4, q5, q6⟩
      obtain ⟨t, ht, -⟩ := State.frames_cons hr
      show ({ U with heap := s₂.heap, slotsUsed := s₂.slotsUsed } : State) = { U.setFrames U.frames with heap := s₂.heap, slotsUsed := s₂.slotsUsed }
      rw [State.setFrames_self ht]
    subst hg
    refine Or.inr ⟨q, ⟨(({ U with heap := s₂.heap, slotsUsed := s₂.slotsUsed } : State).setVm s₂.vm), Ls ++ L, c0 + mc, s0 + ms⟩,
      ⟨X.admits, X.cas, X.clock, X.frames, X.room, X.hears, X.method, X.code, (X.here.setHeapUsed s₂.heap s₂.slotsUsed).setVm hW'.alike, X.tail, State.WarmedH.trans X.warmed hW', X.limits, X.bytes, X.same.trans (hsame.setVm s.vm)⟩,
      ⟨g, mk, s₂, L, E, ce, rfl, rfl, hx, hce, hcv, hcl, rfl, hL, rfl, rfl⟩, ?_⟩
    show Steps p.tables e below _ (((({ U with heap := s₂.heap, slotsUsed := s₂.slotsUsed } : State).setVm s₂.vm).setTop g).pushFrame (.throwing q))
    rw [← hs₂]
    exact hsteps
end Payer
section Calls
variable {p : Program} {l : Launch} {e : Env} {R : Room} {s : State} {m : MethodId} {args : Array Value} {below : List Frame} {meth : Method} {c : Code} {T : State} {locs : List Loc} {cells slots : Nat}
theorem vx_callV (X : Stand p l e R s m args below meth c T locs cells slots) (hexec : p.tables.exec = Jvm.exec) {own C : String} {index : Nat} {y : MethodName} {bytes : ByteArray} {maxL : Nat} {ret : Option FieldType}
    (hown : s.vm.findClass own = some m.cls) (hlink : (Cond.methodLink own index y).before args s = true) (hinst : (Cond.instanceMethod y).before args s = true) (hsel : (Cond.selects C y y).before args s = true)
    (hcode : (Cond.code y bytes maxL ret).before args s = true) (hy : y.cls ≠ "java/lang/invoke/MethodHandle" ∧ y.cls ≠ "java/lang/invoke/VarHandle")
    {W9 : Nat} {Pre : Pt → Array Value → Prop} {Post : Pt → Array Value → Option Value → Pt → Prop} {PostX : Pt → Array Value → Addr → Pt → Prop} (hK : vx_Back l R p e below s args y 3 W9 Pre Post PostX)
    {b : Addr} {cellB : Cell} (hcell : T.heap[b]? = some cellB) (hobj : cellB.vm.isStatics = false) (hcls : s.vm.findClass C = some cellB.cls)
    {g : JFrame} (hg : g.method = m) (hsize : g.locals.size = c.maxLocals) {argsL rest : List Value} (hlen : ∀ sig, parseMethodDescriptor y.desc = some sig → argsL.length = sig.parameters.length)
    (hstack : g.stack = argsL.reverse ++ .ref b :: rest) (hW : 2 * g.monitorRoom + (rest.map fun v => v.category).sum ≤ W9) (hdg : decode c.code g.pc = .ok (.invokevirtual index, 3))
    (hpre : ∀ vm₁, s.WarmedH vm₁ → Pre ⟨T.setVm vm₁, locs, cells, slots⟩ (Value.ref b :: argsL).toArray) :
    (∃ (v : Option Value) (vm₁ : Vm) (B : Pt), s.WarmedH vm₁ ∧ Stand p l e R s m args below meth c B.U B.locs B.cells B.slots ∧ Post ⟨T.setVm vm₁, locs, cells, slots⟩ (Value.ref b :: argsL).toArray v B ∧
      ∀ target, Steps p.tables e below (B.U.setTop { g with pc := g.pc + 3, stack := v.toList ++ rest }) target → Steps p.tables e below (T.setTop g) target) ∨
    (∃ (q : Addr) (vm₁ : Vm) (B : Pt), s.WarmedH vm₁ ∧ Stand p l e R s m args below meth c B.U B.locs B.cells B.slots ∧ PostX ⟨T.setVm vm₁, locs, cells, slots⟩ (Value.ref b :: argsL).toArray q B ∧
      Steps p.tables e below (T.setTop g) ((B.U.setTop { g with stack := rest }).pushFrame (.throwing q))) := by
  obtain ⟨mk, methM, hnamed, hmethM, hstM, habM⟩ := Cond.instanceMethod_spec hinst
  obtain ⟨methM', cM, hmethM', -, -, -, -, -, -, hsigM⟩ := Cond.code_spec hnamed hcode
  cases hmethM.symm.trans hmethM'
  obtain ⟨c2, r2, m2, q1, q2, q3, q4, kP, hkP, hkPi⟩ := Cond.selects_spec hsel
  cases hcls.symm.trans q1
  cases (State.methodFound?_of_named hnamed hy).symm.trans q2
  cases hnamed.symm.trans q3
  have hselP : selectMethod e.platform s.vm cellB.cls mk = .method mk := by rw [Launch.admits_selectMethod X.admits]; exact q4
  obtain ⟨vm₁, X₁, hstep₁⟩ := X.invokevirtual hexec hown hlink hnamed hmethM hstM hkP hkPi hy (a := b) (cell := cellB) hcell
    (fun z h => by rw [h] at hobj; cases hobj) hselP hmethM habM hkP hkPi (g := g) hg (argsL := argsL) (rest := rest) (hlen _ hsigM) hstack hdg
  rcases hK m meth c ⟨T.setVm vm₁, locs, cells, slots⟩ { g with stack := rest } (.invokevirtual index) mk (Value.ref b :: argsL).toArray X₁ hg hsize hdg hW (X₁.named hnamed) (hpre vm₁ X₁.warmed) with ⟨v, B, X', hpost, hsteps⟩ | ⟨q, B, X', hpost, hsteps⟩
  · exact Or.inl ⟨v, vm₁, B, X₁.warmed, X', hpost, fun target h => hstep₁ _ fun acts => by rw [doInvoke_state]; exact hsteps.trans h⟩
  · exact Or.inr ⟨q, vm₁, B, X₁.warmed, X', hpost, hstep₁ _ fun acts => by rw [doInvoke_state]; exact hsteps⟩
theorem vx_callS (X : Stand p l e R s m args below meth c T locs cells slots) (hexec : p.tables.exec = Jvm.exec) {own : String} {index : Nat} {y : MethodName} {bytes : ByteArray} {maxL : Nat} {ret : Option FieldType}
    (hown : s.vm.findClass own = some m.cls) (hlink : (Cond.methodLink own index y).before args s = true) (hstat : (Cond.static y).before args s = true) (hinit : (Cond.initialized y.cls).before args s = true)
    (hcode : (Cond.code y bytes maxL ret).before args s = true) (hy : y.cls ≠ "java/lang/invoke/MethodHandle" ∧ y.cls ≠ "java/lang/invoke/VarHandle")
    {W9 : Nat} {Pre : Pt → Array Value → Prop} {Post : Pt → Array Value → Option Value → Pt → Prop} {PostX : Pt → Array Value → Addr → Pt → Prop} (hK : vx_Back l R p e below s args y 3 W9 Pre Post PostX)
    {g : JFrame} (hg : g.method = m) (hsize : g.locals.size = c.maxLocals) {argsL rest : List Value} (hlen : ∀ sig, parseMethodDescriptor y.desc = some sig → argsL.length = sig.parameters.length)
    (hstack : g.stack = argsL.reverse ++ rest) (hW : 2 * g.monitorRoom + (rest.map fun v => v.category).sum ≤ W9) (hdg : decode c.code g.pc = .ok (.invokestatic index, 3))
    (hpre : ∀ vm₁, s.WarmedH vm₁ → Pre ⟨T.setVm vm₁, locs, cells, slots⟩ argsL.toArray) :
    (∃ (v : Option Value) (vm₁ : Vm) (B : Pt), s.WarmedH vm₁ ∧ Stand p l e R s m args below meth c B.U B.locs B.cells B.slots ∧ Post ⟨T.setVm vm₁, locs, cells, slots⟩ argsL.toArray v B ∧
      ∀ target, Steps p.tables e below (B.U.setTop { g with pc := g.pc + 3, stack := v.toList ++ rest }) target → Steps p.tables e below (T.setTop g) target) ∨
    (∃ (q : Addr) (vm₁ : Vm) (B : Pt), s.WarmedH vm₁ ∧ Stand p l e R s m args below meth c B.U B.locs B.cells B.slots ∧ PostX ⟨T.setVm vm₁, locs, cells, slots⟩ argsL.toArray q B ∧
      Steps p.tables e below (T.setTop g) ((B.U.setTop { g with stack := rest }).pushFrame (.throwing q))) := by
  obtain ⟨mk, hnamed⟩ := Cond.code_named hcode
  obtain ⟨methM, cM, hmethM, -, -, -, -, -, -, hsigM⟩ := Cond.code_spec hnamed hcode
  have hstatic : methM.isStatic = true := Cond.static_spec hnamed hmethM hstat
  obtain ⟨kP, hkP, -⟩ := className_of_methodNamed hnamed
  have hinitP : kP.init = .initialized := Cond.initialized_spec (findClass_of_methodNamed hnamed) hkP hinit
  obtain ⟨vm₁, X₁, hstep₁⟩ := X.invokestatic hexec hown hlink hnamed hmethM hstatic hkP hinitP hy (g := g) hg (argsL := argsL) (rest := rest) (hlen _ hsigM) hstack hdg
  rcases hK m meth c ⟨T.setVm vm₁, locs, cells, slots⟩ { g with stack := rest } (.invokestatic index) mk argsL.toArray X₁ hg hsize hdg hW (X₁.named hnamed) (hpre vm₁ X₁.warmed) with ⟨v, B, X', hpost, hsteps⟩ | ⟨q, B, X', hpost, hsteps⟩
  · exact Or.inl ⟨v, vm₁, B, X₁.warmed, X', hpost, fun target h => hstep₁ _ fun acts => by rw [doInvoke_state]; exact hsteps.trans h⟩
  · exact Or.inr ⟨q, vm₁, B, X₁.warmed, X', hpost, hstep₁ _ fun acts => by rw [doInvoke_state]; exact hsteps⟩
end Calls
theorem vx_cls {s : State} {T : State} {vm₁ : Vm} {E : String} {k : ClassId} (hW : s.WarmedH vm₁) (h : (T.setVm vm₁).vm.findClass E = some k) : s.vm.findClass E = some k := by
  have h1 : vm₁.findClass E = some k := h
  rw [hW.alike.findClass] at h1
  exact h1
/-- the method's frame g, with q thrown over it -/
def vx_W (p : Program) (l : Launch) (e : Env) (R : Room) (s : State) (m : MethodId) (args : Array Value) (below : List Frame) (meth : Method) (c : Code) (H : Heap) (locs : List Loc) (cells slots : Nat) (Q : State → Prop) (g : JFrame) (q : Addr) : Prop :=
  ∀ T : State, T.heap = H → Stand p l e R s m args below meth c T locs cells slots → ∃ t, Steps p.tables e below ((T.setTop g).pushFrame (.throwing q)) t ∧ Q t
def vx_Run (p : Program) (l : Launch) (e : Env) (R : Room) (s : State) (m : MethodId) (args : Array Value) (below : List Frame) (meth : Method) (c : Code) (H : Heap) (locs : List Loc) (cells slots mc ms : Nat) (g : JFrame) (rest : List Value) (Qa : State → Outcome → State → Prop) (XC : String → State → State → Prop) (free : Addr → Prop) : Prop :=
  ∀ T : State, T.heap = H → Stand p l e R s m args below meth c T locs cells slots →
    (∃ (v : Option Value) (st₀ t T' : State) (L : List Loc), st₀.heap = H ∧ Stand p l e R s m args below meth c T' (locs ++ L) (cells + mc) (slots + ms) ∧ (∀ q ∈ L, free q.base) ∧ T'.heap = t.heap ∧ T'.vm = t.vm ∧ Qa st₀ (.returned v) t ∧
      Goes p e below T g T' { g with pc := g.pc + 3, stack := v.toList ++ rest }) ∨
    (∃ (q : Addr) (st₀ t T' : State) (L : List Loc) (E : String) (ce : Cell), st₀.heap = H ∧ Stand p l e R s m args below meth c T' (locs ++ L) (cells + mc) (slots + ms) ∧ (∀ z ∈ L, free z.base) ∧ T'.heap = t.heap ∧ T'.vm = t.vm ∧ XC E st₀ t ∧ t.heap[q]? = some ce ∧ ce.vm = .none ∧ s.vm.findClass E = some ce.cls ∧
      Steps p.tables e below (T.setTop g) ((T'.setTop { g with stack := rest }).pushFrame (.throwing q)))
def vx_X {S : Type} (px : S → Prop) (B : String → S → State → Prop) (A : Nat → Prop) : String → State → State → Prop := fun E st t => ∃ u : S, px u ∧ B E u t ∧ va_F A st t
section Runs
variable {p : Program} {l : Launch} {e : Env} {R : Room} {s : State} {m : MethodId} {args : Array Value} {below : List Frame} {meth : Method} {c : Code} {H : Heap} {locs : List Loc} {cells slots : Nat}
variable {y : MethodName} {bytes cc : ByteArray} {maxL nL mc ms n index : Nat} {ret : Option FieldType} {ws : List Cond} {rm : Room} {Pc : Array Value → State → Prop} {Qc : Array Value → State → Outcome → State → Prop} {XC : String → State → State → Prop} {free : Addr → Prop} {Ts : List Cond} {own C : String} {b : Addr} {As rest : List Value} {g : JFrame}
theorem vx_callBack (cb : CallB R s args own index y bytes maxL ret ws rm mc ms n) (hM : vx_Met l y ws rm Pc Qc XC mc ms free) (hbl : FrameBlind Pc) : vx_Back l R p e below s args y 3 8 (PreOf R mc ms Pc) (PostOf Qc mc ms free) (vx_Post XC mc ms free) := by
  obtain ⟨hrc, hrs, hfr, hlo, hws, hcw, -, hini, -⟩ := cb
  exact vx_back (bytes := bytes) (maxL := maxL) (ret := ret) hM hbl hrc hrs hfr hlo hws hcw (fun a' U hW => word_at hW (Or.inl (by first | rfl | simp [Cond.onTables, Cond.keeps, Cond.steady])) hini)
theorem vx_runV (S : CallFix p m c cc nL s args Ts own) (hM : vx_Met l y ws rm Pc Qc XC mc ms free) (cw : CallW R s args own C index y bytes maxL ret ws rm mc ms n) (hp : PreV s H C b Pc As)
    (hg : g.method = m) (hn : As.length = n) (hsize : g.locals.size = nL) (hstack : g.stack = As.reverse ++ .ref b :: rest) (hW : 2 * g.monitorRoom + (rest.map fun v => v.category).sum ≤ 8) (hdg : decode cc g.pc = .ok (.invokevirtual index, 3)) (hf : cells + mc ≤ R.cells ∧ slots + ms ≤ R.slots) :
    vx_Run p l e R s m args below meth c H locs cells slots mc ms g rest (Qc (Value.ref b :: As).toArray) XC free := by
  have hK : vx_Back l R p e below s args y 3 8 (PreOf R mc ms Pc) (PostOf Qc mc ms free) (vx_Post XC mc ms free) := vx_callBack cw.1 hM hp.1
  obtain ⟨⟨-, -, -, -, -, -, hcode, -, hy, hlen, hl⟩, hin, hse⟩ := cw
  obtain ⟨hx, hb, hml, ho, -⟩ := S
  obtain ⟨-, ⟨cellB, hcB, hoB, hclB⟩, hPc⟩ := hp
  intro T hT X
  rcases vx_callV X hx (C := C) (bytes := bytes) (maxL := maxL) (ret := ret) ho hl hin hse hcode hy hK (by rw [hT]; exact hcB) hoB hclB hg (hsize.trans hml.symm) (argsL := As) (rest := rest) (fun sig h => hn.trans (hlen sig h)) hstack hW (by rw [hb]; exact hdg)
    (fun vm₁ hW₁ => ⟨hf.1, hf.2, hPc (T.setVm vm₁) hT hW₁⟩) with ⟨v, vm₁, ⟨U', l2, c2, s2⟩, hW₁, X', ⟨g', mk, t, L, e1, e2, hq, h1, hL, h2, h3⟩, st⟩ | ⟨q, vm₁, ⟨U', l2, c2, s2⟩, hW₁, X', ⟨g', mk, t, L, E, ce, e1, e2, hq, hce, hcv, hcl, h1, hL, h2, h3⟩, st⟩
  · dsimp only [Pt.U, Pt.locs, Pt.cells, Pt.slots] at X' e1 e2 h1 h2 h3 st
    subst h1; subst h2; subst h3
    exact Or.inl ⟨v, (T.setVm vm₁).calling g' mk (Value.ref b :: As).toArray, t, U', L, hT, X', hL, e1, e2, hq, st⟩
  · dsimp only [Pt.U, Pt.locs, Pt.cells, Pt.slots] at X' e1 e2 h1 h2 h3 st hcl
    subst h1; subst h2; subst h3
    exact Or.inr ⟨q, (T.setVm vm₁).calling g' mk (Value.ref b :: As).toArray, t, U', L, E, ce, hT, X', hL, e1, e2, hq, hce, hcv, vx_cls hW₁ hcl, st⟩
theorem vx_runS (S : CallFix p m c cc nL s args Ts own) (hM : vx_Met l y ws rm Pc Qc XC mc ms free) (cw : CallB R s args own index y bytes maxL ret ws rm mc ms n ∧ (Cond.static y).before args s = true) (hp : PreS s H Pc As)
    (hg : g.method = m) (hn : As.length = n) (hsize : g.locals.size = nL) (hstack : g.stack = As.reverse ++ rest) (hW : 2 * g.monitorRoom + (rest.map fun v => v.category).sum ≤ 8) (hdg : decode cc g.pc = .ok (.invokestatic index, 3)) (hf : cells + mc ≤ R.cells ∧ slots + ms ≤ R.slots) :
    vx_Run p l e R s m args below meth c H locs cells slots mc ms g rest (Qc As.toArray) XC free := by
  have hK : vx_Back l R p e below s args y 3 8 (PreOf R mc ms Pc) (PostOf Qc mc ms free) (vx_Post XC mc ms free) := vx_callBack cw.1 hM hp.1
  obtain ⟨⟨-, -, -, -, -, -, hcode, hini, hy, hlen, hl⟩, hstt⟩ := cw
  obtain ⟨hx, hb, hml, ho, -⟩ := S
  intro T hT X
  rcases vx_callS X hx (bytes := bytes) (maxL := maxL) (ret := ret) ho hl hstt hini hcode hy hK hg (hsize.trans hml.symm) (argsL := As) (rest := rest) (fun sig h => hn.trans (hlen sig h)) hstack hW (by rw [hb]; exact hdg)
    (fun vm₁ hW₁ => ⟨hf.1, hf.2, hp.2 (T.setVm vm₁) hT hW₁⟩) with ⟨v, vm₁, ⟨U', l2, c2, s2⟩, hW₁, X', ⟨g', mk, t, L, e1, e2, hq, h1, hL, h2, h3⟩, st⟩ | ⟨q, vm₁, ⟨U', l2, c2, s2⟩, hW₁, X', ⟨g', mk, t, L, E, ce, e1, e2, hq, hce, hcv, hcl, h1, hL, h2, h3⟩, st⟩
  · dsimp only [Pt.U, Pt.locs, Pt.cells, Pt.slots] at X' e1 e2 h1 h2 h3 st
    subst h1; subst h2; subst h3
    exact Or.inl ⟨v, (T.setVm vm₁).calling g' mk As.toArray, t, U', L, hT, X', hL, e1, e2, hq, st⟩
  · dsimp only [Pt.U, Pt.locs, Pt.cells, Pt.slots] at X' e1 e2 h1 h2 h3 st hcl
    subst h1; subst h2; subst h3
    exact Or.inr ⟨q, (T.setVm vm₁).calling g' mk As.toArray, t, U', L, E, ce, hT, X', hL, e1, e2, hq, hce, hcv, vx_cls hW₁ hcl, st⟩
end Runs
section Rows
variable {p : Program} {l : Launch} {e : Env} {R : Room} {s : State} {m : MethodId} {args : Array Value} {below : List Frame} {meth : Method} {c : Code} {H : Heap} {locs : List Loc} {cells slots : Nat} {Q : State → Prop}
variable {mc ms : Nat} {free : Addr → Prop} {A0 A1 : Nat → Prop} {H0 : Heap} {a : Array Value} {pc : Nat} {ls : Array Slot} {st0 rest : List Value}
theorem vx_keep {st₀ t T' : State} {L : List Loc} (h0 : st₀.heap = H) (e1 : T'.heap = t.heap) (hS : va_S A0 H0 H locs) (hA : ∀ q, q < H.size → A1 q → A0 q) (hf : ∀ q, free q → A0 q) (hL : ∀ q ∈ L, free q.base) (hF : va_F A1 st₀ t) :
    H.size ≤ T'.heap.size ∧ (∀ q : Nat, q < H.size → ¬ A1 q → T'.heap[q]? = H[q]?) ∧ va_S A0 H0 T'.heap (locs ++ L) := by
  obtain ⟨hz, hk⟩ := hF
  rw [h0] at hz hk
  exact ⟨by rw [e1]; exact hz, fun q h1 h2 => by rw [e1]; exact hk q h1 h2,
    ⟨Nat.le_trans hS.1 (by rw [e1]; exact hz), fun q h1 h2 => by rw [e1, hk q (Nat.lt_of_lt_of_le h1 hS.1) (fun z => h2 (hA q (Nat.lt_of_lt_of_le h1 hS.1) z))]; exact hS.2.1 q h1 h2, fun q hq => by
      rcases List.mem_append.mp hq with h | h
      · exact hS.2.2 q h
      · exact hf _ (hL q h)⟩⟩
theorem vx_calli {S SX : Type} {post : Int32 → S → Prop} {px : SX → Prop} {B : S → State → Prop} {BX : String → SX → State → Prop} {AX : Nat → Prop} (hr : vx_Run p l e R s m args below meth c H locs cells slots mc ms (F0 m pc ls st0) rest (va_Qi post B A1 a) (vx_X px BX AX) free) (hS : va_S A0 H0 H locs) (hA : ∀ q, q < H.size → A1 q → A0 q) (hf : ∀ q, free q → A0 q) (hAX : ∀ q, q < H.size → AX q → A0 q)
    (kx : ∀ (E : String) (ce : Cell) (q9 : Addr) (u : SX) (t : State) (H1 : Heap) (locs1 : List Loc), t.heap = H1 → s.vm.Alike t.vm → px u → BX E u t → H.size ≤ H1.size → (∀ q : Nat, q < H.size → ¬ AX q → H1[q]? = H[q]?) → va_S A0 H0 H1 locs1 → H1[q9]? = some ce → ce.vm = .none → s.vm.findClass E = some ce.cls → vx_W p l e R s m args below meth c H1 locs1 (cells + mc) (slots + ms) Q (F0 m pc ls rest) q9)
    (kk : ∀ (r : Int32) (u : S) (t : State) (H1 : Heap) (locs1 : List Loc), t.heap = H1 → s.vm.Alike t.vm → post r u → B u t → H.size ≤ H1.size → (∀ q : Nat, q < H.size → ¬ A1 q → H1[q]? = H[q]?) → va_S A0 H0 H1 locs1 → W p l e R s m args below meth c H1 locs1 (cells + mc) (slots + ms) Q (F0 m (pc + 3) ls (.int r :: rest))) : W p l e R s m args below meth c H locs cells slots Q (F0 m pc ls st0) := by
  intro T hT X
  rcases hr T hT X with ⟨v, st₀, t, T', L, h0, X', hL, e1, e2, ⟨⟨r, u, hv, hp, hb⟩, hF⟩, st⟩ | ⟨q, st₀, t, T', L, E, ce, h0, X', hL, e1, e2, ⟨u, hp, hb, hF⟩, hce, hcv, hcl, st⟩
  · cases hv
    obtain ⟨k1, k2, k3⟩ := vx_keep h0 e1 hS hA hf hL hF
    obtain ⟨t2, a1, b1⟩ := kk r u t T'.heap (locs ++ L) e1.symm (by rw [← e2]; exact X'.warmed.alike) hp hb k1 k2 k3 T' rfl X'
    exact ⟨t2, st t2 a1, b1⟩
  · obtain ⟨k1, k2, k3⟩ := vx_keep h0 e1 hS hAX hf hL hF
    obtain ⟨t2, a1, b1⟩ := kx E ce q u t T'.heap (locs ++ L) e1.symm (by rw [← e2]; exact X'.warmed.alike) hp hb k1 k2 k3 (by rw [e1]; exact hce) hcv hcl T' rfl X'
    exact ⟨t2, st.trans a1, b1⟩
theorem vx_calll {S SX : Type} {post : Int64 → S → Prop} {px : SX → Prop} {B : S → State → Prop} {BX : String → SX → State → Prop} {AX : Nat → Prop} (hr : vx_Run p l e R s m args below meth c H locs cells slots mc ms (F0 m pc ls st0) rest (va_Ql post B A1 a) (vx_X px BX AX) free) (hS : va_S A0 H0 H locs) (hA : ∀ q, q < H.size → A1 q → A0 q) (hf : ∀ q, free q → A0 q) (hAX : ∀ q, q < H.size → AX q → A0 q)
    (kx : ∀ (E : String) (ce : Cell) (q9 : Addr) (u : SX) (t : State) (H1 : Heap) (locs1 : List Loc), t.heap = H1 → s.vm.Alike t.vm → px u → BX E u t → H.size ≤ H1.size → (∀ q : Nat, q < H.size → ¬ AX q → H1[q]? = H[q]?) → va_S A0 H0 H1 locs1 → H1[q9]? = some ce → ce.vm = .none → s.vm.findClass E = some ce.cls → vx_W p l e R s m args below meth c H1 locs1 (cells + mc) (slots + ms) Q (F0 m pc ls rest) q9)
    (kk : ∀ (r : Int64) (u : S) (t : State) (H1 : Heap) (locs1 : List Loc), t.heap = H1 → s.vm.Alike t.vm → post r u → B u t → H.size ≤ H1.size → (∀ q : Nat, q < H.size → ¬ A1 q → H1[q]? = H[q]?) → va_S A0 H0 H1 locs1 → W p l e R s m args below meth c H1 locs1 (cells + mc) (slots + ms) Q (F0 m (pc + 3) ls (.long r :: rest))) : W p l e R s m args below meth c H locs cells slots Q (F0 m pc ls st0) := by
  intro T hT X
  rcases hr T hT X with ⟨v, st₀, t, T', L, h0, X', hL, e1, e2, ⟨⟨r, u, hv, hp, hb⟩, hF⟩, st⟩ | ⟨q, st₀, t, T', L, E, ce, h0, X', hL, e1, e2, ⟨u, hp, hb, hF⟩, hce, hcv, hcl, st⟩
  · cases hv
    obtain ⟨k1, k2, k3⟩ := vx_keep h0 e1 hS hA hf hL hF
    obtain ⟨t2, a1, b1⟩ := kk r u t T'.heap (locs ++ L) e1.symm (by rw [← e2]; exact X'.warmed.alike) hp hb k1 k2 k3 T' rfl X'
    exact ⟨t2, st t2 a1, b1⟩
  · obtain ⟨k1, k2, k3⟩ := vx_keep h0 e1 hS hAX hf hL hF
    obtain ⟨t2, a1, b1⟩ := kx E ce q u t T'.heap (locs ++ L) e1.symm (by rw [← e2]; exact X'.warmed.alike) hp hb k1 k2 k3 (by rw [e1]; exact hce) hcv hcl T' rfl X'
    exact ⟨t2, st.trans a1, b1⟩
theorem vx_callf {S SX : Type} {post : UInt32 → S → Prop} {px : SX → Prop} {B : S → State → Prop} {BX : String → SX → State → Prop} {AX : Nat → Prop} (hr : vx_Run p l e R s m args below meth c H locs cells slots mc ms (F0 m pc ls st0) rest (va_Qf post B A1 a) (vx_X px BX AX) free) (hS : va_S A0 H0 H locs) (hA : ∀ q, q < H.size → A1 q → A0 q) (hf : ∀ q, free q → A0 q) (hAX : ∀ q, q < H.size → AX q → A0 q)
    (kx : ∀ (E : String) (ce : Cell) (q9 : Addr) (u : SX) (t : State) (H1 : Heap) (locs1 : List Loc), t.heap = H1 → s.vm.Alike t.vm → px u → BX E u t → H.size ≤ H1.size → (∀ q : Nat, q < H.size → ¬ AX q → H1[q]? = H[q]?) → va_S A0 H0 H1 locs1 → H1[q9]? = some ce → ce.vm = .none → s.vm.findClass E = some ce.cls → vx_W p l e R s m args below meth c H1 locs1 (cells + mc) (slots + ms) Q (F0 m pc ls rest) q9)
    (kk : ∀ (r : UInt32) (u : S) (t : State) (H1 : Heap) (locs1 : List Loc), t.heap = H1 → s.vm.Alike t.vm → post r u → B u t → H.size ≤ H1.size → (∀ q : Nat, q < H.size → ¬ A1 q → H1[q]? = H[q]?) → va_S A0 H0 H1 locs1 → W p l e R s m args below meth c H1 locs1 (cells + mc) (slots + ms) Q (F0 m (pc + 3) ls (.float r :: rest))) : W p l e R s m args below meth c H locs cells slots Q (F0 m pc ls st0) := by
  intro T hT X
  rcases hr T hT X with ⟨v, st₀, t, T', L, h0, X', hL, e1, e2, ⟨⟨r, u, hv, hp, hb⟩, hF⟩, st⟩ | ⟨q, st₀, t, T', L, E, ce, h0, X', hL, e1, e2, ⟨u, hp, hb, hF⟩, hce, hcv, hcl, st⟩
  · cases hv
    obtain ⟨k1, k2, k3⟩ := vx_keep h0 e1 hS hA hf hL hF
    obtain ⟨t2, a1, b1⟩ := kk r u t T'.heap (locs ++ L) e1.symm (by rw [← e2]; exact X'.warmed.alike) hp hb k1 k2 k3 T' rfl X'
    exact ⟨t2, st t2 a1, b1⟩
  · obtain ⟨k1, k2, k3⟩ := vx_keep h0 e1 hS hAX hf hL hF
    obtain ⟨t2, a1, b1⟩ := kx E ce q u t T'.heap (locs ++ L) e1.symm (by rw [← e2]; exact X'.warmed.alike) hp hb k1 k2 k3 (by rw [e1]; exact hce) hcv hcl T' rfl X'
    exact ⟨t2, st.trans a1, b1⟩
theorem vx_calld {S SX : Type} {post : UInt64 → S → Prop} {px : SX → Prop} {B : S → State → Prop} {BX : String → SX → State → Prop} {AX : Nat → Prop} (hr : vx_Run p l e R s m args below meth c H locs cells slots mc ms (F0 m pc ls st0) rest (va_Qd post B A1 a) (vx_X px BX AX) free) (hS : va_S A0 H0 H locs) (hA : ∀ q, q < H.size → A1 q → A0 q) (hf : ∀ q, free q → A0 q) (hAX : ∀ q, q < H.size → AX q → A0 q)
    (kx : ∀ (E : String) (ce : Cell) (q9 : Addr) (u : SX) (t : State) (H1 : Heap) (locs1 : List Loc), t.heap = H1 → s.vm.Alike t.vm → px u → BX E u t → H.size ≤ H1.size → (∀ q : Nat, q < H.size → ¬ AX q → H1[q]? = H[q]?) → va_S A0 H0 H1 locs1 → H1[q9]? = some ce → ce.vm = .none → s.vm.findClass E = some ce.cls → vx_W p l e R s m args below meth c H1 locs1 (cells + mc) (slots + ms) Q (F0 m pc ls rest) q9)
    (kk : ∀ (r : UInt64) (u : S) (t : State) (H1 : Heap) (locs1 : List Loc), t.heap = H1 → s.vm.Alike t.vm → post r u → B u t → H.size ≤ H1.size → (∀ q : Nat, q < H.size → ¬ A1 q → H1[q]? = H[q]?) → va_S A0 H0 H1 locs1 → W p l e R s m args below meth c H1 locs1 (cells + mc) (slots + ms) Q (F0 m (pc + 3) ls (.double r :: rest))) : W p l e R s m args below meth c H locs cells slots Q (F0 m pc ls st0) := by
  intro T hT X
  rcases hr T hT X with ⟨v, st₀, t, T', L, h0, X', hL, e1, e2, ⟨⟨r, u, hv, hp, hb⟩, hF⟩, st⟩ | ⟨q, st₀, t, T', L, E, ce, h0, X', hL, e1, e2, ⟨u, hp, hb, hF⟩, hce, hcv, hcl, st⟩
  · cases hv
    obtain ⟨k1, k2, k3⟩ := vx_keep h0 e1 hS hA hf hL hF
    obtain ⟨t2, a1, b1⟩ := kk r u t T'.heap (locs ++ L) e1.symm (by rw [← e2]; exact X'.warmed.alike) hp hb k1 k2 k3 T' rfl X'
    exact ⟨t2, st t2 a1, b1⟩
  · obtain ⟨k1, k2, k3⟩ := vx_keep h0 e1 hS hAX hf hL hF
    obtain ⟨t2, a1, b1⟩ := kx E ce q u t T'.heap (locs ++ L) e1.symm (by rw [← e2]; exact X'.warmed.alike) hp hb k1 k2 k3 (by rw [e1]; exact hce) hcv hcl T' rfl X'
    exact ⟨t2, st.trans a1, b1⟩
theorem vx_callv {S SX : Type} {post : S → Prop} {px : SX → Prop} {B : S → State → Prop} {BX : String → SX → State → Prop} {AX : Nat → Prop} (hr : vx_Run p l e R s m args below meth c H locs cells slots mc ms (F0 m pc ls st0) rest (va_Qv post B A1 a) (vx_X px BX AX) free) (hS : va_S A0 H0 H locs) (hA : ∀ q, q < H.size → A1 q → A0 q) (hf : ∀ q, free q → A0 q) (hAX : ∀ q, q < H.size → AX q → A0 q)
    (kx : ∀ (E : String) (ce : Cell) (q9 : Addr) (u : SX) (t : State) (H1 : Heap) (locs1 : List Loc), t.heap = H1 → s.vm.Alike t.vm → px u → BX E u t → H.size ≤ H1.size → (∀ q : Nat, q < H.size → ¬ AX q → H1[q]? = H[q]?) → va_S A0 H0 H1 locs1 → H1[q9]? = some ce → ce.vm = .none → s.vm.findClass E = some ce.cls → vx_W p l e R s m args below meth c H1 locs1 (cells + mc) (slots + ms) Q (F0 m pc ls rest) q9)
    (kk : ∀ (u : S) (t : State) (H1 : Heap) (locs1 : List Loc), t.heap = H1 → s.vm.Alike t.vm → post u → B u t → H.size ≤ H1.size → (∀ q : Nat, q < H.size → ¬ A1 q → H1[q]? = H[q]?) → va_S A0 H0 H1 locs1 → W p l e R s m args below meth c H1 locs1 (cells + mc) (slots + ms) Q (F0 m (pc + 3) ls (rest))) : W p l e R s m args below meth c H locs cells slots Q (F0 m pc ls st0) := by
  intro T hT X
  rcases hr T hT X with ⟨v, st₀, t, T', L, h0, X', hL, e1, e2, ⟨⟨u, hv, hp, hb⟩, hF⟩, st⟩ | ⟨q, st₀, t, T', L, E, ce, h0, X', hL, e1, e2, ⟨u, hp, hb, hF⟩, hce, hcv, hcl, st⟩
  · cases hv
    obtain ⟨k1, k2, k3⟩ := vx_keep h0 e1 hS hA hf hL hF
    obtain ⟨t2, a1, b1⟩ := kk u t T'.heap (locs ++ L) e1.symm (by rw [← e2]; exact X'.warmed.alike) hp hb k1 k2 k3 T' rfl X'
    exact ⟨t2, st t2 a1, b1⟩
  · obtain ⟨k1, k2, k3⟩ := vx_keep h0 e1 hS hAX hf hL hF
    obtain ⟨t2, a1, b1⟩ := kx E ce q u t T'.heap (locs ++ L) e1.symm (by rw [← e2]; exact X'.warmed.alike) hp hb k1 k2 k3 (by rw [e1]; exact hce) hcv hcl T' rfl X'
    exact ⟨t2, st.trans a1, b1⟩
/-- caught by the row x of this method's table; the rows ahead don't take it -/
theorem vx_catch {own name : String} {E : String} {ce : Cell} {q : Addr} (hown : s.vm.findClass own = some m.cls) (pre : List ExceptionTableEntry) (x : ExceptionTableEntry) (suf : List ExceptionTableEntry) (hsplit : c.exceptionTable.toList = pre ++ x :: suf)
    (hpass : ∀ z ∈ pre, covers z pc = false ∨ (z.catchType ≠ 0 ∧ ∃ nm : String, (Cond.classLink own z.catchType nm).before args s = true ∧ va_Nc E nm s)) (hx : covers x pc = true) (h0 : x.catchType ≠ 0)
    (hlink : (Cond.classLink own x.catchType name).before args s = true) (hcast : (Cond.castable E name).before args s = true) (hcell : H[q]? = some ce) (hv : ce.vm = .none) (hcl : s.vm.findClass E = some ce.cls)
    (kk : W p l e R s m args below meth c H locs cells slots Q (F0 m x.handlerPc ls [.ref q])) : vx_W p l e R s m args below meth c H locs cells slots Q (F0 m pc ls rest) q := by
  intro T hT X
  have hpl : e.platform.magicAccessors = ({} : Platform).magicAccessors := by rw [X.admits.platform]
  obtain ⟨c3, c4, hc3, hc4, hasg⟩ := Cond.castable_spec hcast
  cases Option.some.inj (hc3.symm.trans hcl)
  obtain ⟨c5, hc5, hcl5⟩ := Cond.classLink_spec hown hlink e.platform hpl
  cases Option.some.inj (hc4.symm.trans hc5)
  obtain ⟨vm', X', st⟩ := Stand.thenCaughtThrough X q (g := F0 m pc ls rest) rfl (Steps.refl _) (by rw [hT]; exact hcell) (by rw [hv]; rfl) (by obtain ⟨k9, h9, -⟩ := Vm.findClass_spec hcl; exact ⟨k9, h9⟩) pre x suf hsplit
    (fun z hz => by
      rcases hpass z hz with h | ⟨hz0, nm, hl1, hn1⟩
      · exact Or.inl h
      · obtain ⟨c6, hc6, hcl6⟩ := Cond.classLink_spec hown hl1 e.platform hpl
        obtain ⟨a8, b8, h1, h2, h3⟩ := hn1
        cases Option.some.inj (h1.symm.trans hcl)
        cases Option.some.inj (h2.symm.trans hc6)
        exact Or.inr ⟨hz0, _, hcl6, h3⟩) hx (Or.inr ⟨h0, c4, hcl5, hasg⟩)
  obtain ⟨t, a1, b1⟩ := kk (T.setVm vm') hT X'
  exact ⟨t, st.trans a1, b1⟩
end Rows
section Ends
variable {p : Program} {l : Launch} {e : Env} {R : Room} {s : State} {m : MethodId} {args : Array Value} {below : List Frame} {meth : Method} {c : Code} {H : Heap} {locs : List Loc} {cells slots : Nat} {Q : State → Prop}
variable {mc ms : Nat} {free : Addr → Prop} {A0 A1 : Nat → Prop} {H0 : Heap} {a : Array Value} {ls : Array Slot} {st0 rest : List Value}
variable {Qc : Array Value → State → Outcome → State → Prop} {XC : String → State → State → Prop}
/-- what a body that may throw owes at its end -/
def vx_MQ (below : List Frame) (Qc : Array Value → State → Outcome → State → Prop) (XC : String → State → State → Prop) (a : Array Value) (s : State) (mc ms : Nat) (free : Addr → Prop) : State → Prop := fun t =>
  ∃ o, t.status = .running ∧ Ended t below o ∧ vx_Q Qc XC mc ms free a s o t
theorem vx_ret {g : JFrame} {mc ms : Nat} (k : W p l e R s m args below meth c H locs cells slots (MQ below Qc args s mc ms free) g) : W p l e R s m args below meth c H locs cells slots (vx_MQ below Qc XC args s mc ms free) g := by
  intro T hT X
  obtain ⟨t, a1, o, b1, b2, b3, b4⟩ := k T hT X
  exact ⟨t, a1, o, b1, b2, Or.inl ⟨b3, b4⟩⟩
/-- not caught here: it goes on to the caller -/
theorem vx_widen {g : JFrame} {q : Addr} {k n : Nat} (h1 : cells ≤ k) (h2 : slots ≤ n) (kk : vx_W p l e R s m args below meth c H locs k n Q g q) : vx_W p l e R s m args below meth c H locs cells slots Q g q := fun T hT X => kk T hT (stand_widen X h1 h2)
theorem vx_out {pc : Nat} {E : String} {ce : Cell} {q : Addr} {mc ms : Nat} (hout : ∀ x ∈ c.exceptionTable.toList, covers x pc = false) (hlocks : meth.locks = false) (hcell : H[q]? = some ce) (hv : ce.vm = .none) (hcl : s.vm.findClass E = some ce.cls)
    (hx : ∀ t : State, t.heap = H → s.vm.Alike t.vm → XC E s t) (hf : ∀ z ∈ locs, free z.base) (hc : cells ≤ mc) (hs : slots ≤ ms) :
    vx_W p l e R s m args below meth c H locs cells slots (vx_MQ below Qc XC args s mc ms free) (F0 m pc ls rest) q := by
  intro T hT X
  obtain ⟨st1, hrun, hend, hW, hsm⟩ := X.leaveThrown q (g := F0 m pc ls rest) rfl rfl rfl hout hlocks
  have hcell9 : (T.setFrames (.throwing q :: below)).heap[q]? = some ce := by
    show T.heap[q]? = some ce
    rw [hT]; exact hcell
  exact ⟨_, st1, .threw q, hrun, hend, Or.inr ⟨q, rfl, E, ce, locs, hx _ hT hW.alike, hcell9, hv, hcl, hW, hsm.mono hc hs, hf⟩⟩
theorem vx_frame {U : State} {k n : Nat} (h : s.sameButNew ({ U with vm := s.vm } : State) locs k n) : s.heap.size ≤ U.heap.size ∧ ∀ q : Nat, q < s.heap.size → (∀ z ∈ locs, z.base ≠ q) → U.heap[q]? = s.heap[q]? := by
  obtain ⟨-, h2, -, -, -, h6⟩ := h
  refine ⟨h2, fun q hq hz => ?_⟩
  obtain ⟨c9, e1, e2, e3, e4⟩ := h6 q _ (Array.getElem?_eq_getElem hq)
  have hs : c9.slots = (s.heap[q]).slots := Array.ext_getElem? fun i => e4 i fun hm => hz _ hm rfl
  have h9 : c9 = s.heap[q] := by
    rw [hs] at e2
    exact e2
  have e5 : U.heap[q]? = some c9 := e1
  rw [e5, h9, Array.getElem?_eq_getElem hq]
/-- the words of a throw but the four that speak of the heap -/
def vx_no (w : Cond) : Bool := decide (w ≠ .isRef (.static Bundle.tN "UNASSIGNED_STACK" Bundle.steD)) && decide (w ≠ .isRef (.static Bundle.tN "SUPPRESSED_SENTINEL" Bundle.listD)) && decide (w ≠ .laysStatic Bundle.tN "UNASSIGNED_STACK" Bundle.steD) && decide (w ≠ .laysStatic Bundle.tN "SUPPRESSED_SENTINEL" Bundle.listD)
def vx_at0 (own : String) (ic : Nat) (X : String) (names : List String) : List Cond := (Bundle.ownAtoms0 own ic X names).filter vx_no
def vx_atS (own : String) (ic : Nat) (X : String) (names : List String) : List Cond := (Bundle.ownAtoms own ic X names).filter vx_no
/-- a word that the tables alone decide, or a good one -/
def vx_ot (w : Cond) : Bool := w.onTables || goodWord w
theorem vx_ot_at {args a' : Array Value} {s U : State} {w : Cond} (hW : s.WarmedH U.vm) (hvm : s.vm = U.vm) (hg : vx_ot w = true) (h : w.before args s = true) : w.before a' U = true := by
  simp only [vx_ot, Bool.or_eq_true] at hg
  rcases hg with hg | hg
  · exact va_tabs hg hvm h
  · exact word_at hW (good_of_word hg) h
/-- a list's words: the good ones out of the method's own list, the others by premises of their own -/
theorem vx_hat {args : Array Value} {s : State} {L B : List Cond} (h1 : ∀ w ∈ L.filter goodWord, w.before args s = true) (h2 : ∀ w ∈ L.filter (fun w => !goodWord w), w ∈ B) (h3 : ∀ w ∈ B, w.before args s = true) : ∀ w ∈ L, w.before args s = true := by
  intro w hw
  by_cases g : goodWord w = true
  · exact h1 w (List.mem_filter.mpr ⟨hw, g⟩)
  · refine h3 w (h2 w (List.mem_filter.mpr ⟨hw, ?_⟩))
    show (!goodWord w) = true
    cases hgw : goodWord w
    · rfl
    · exact absurd hgw g
theorem vx_c {args : Array Value} {s : State} {w : Cond} {B : List Cond} (h : w.before args s = true) (t : ∀ w ∈ B, w.before args s = true) : ∀ w' ∈ w :: B, w'.before args s = true := fun w' h' => (List.mem_cons.mp h').elim (fun e => by rw [e]; exact h) (t w')
theorem vx_n {args : Array Value} {s : State} : ∀ w ∈ ([] : List Cond), w.before args s = true := fun _ h => nomatch h
theorem vx_own {args : Array Value} {s : State} {L : List Cond} (h1 : ∀ w ∈ L.filter vx_no, w.before args s = true)
    (hU : (Cond.isRef (.static Bundle.tN "UNASSIGNED_STACK" Bundle.steD)).before args s = true) (hN : (Cond.isRef (.static Bundle.tN "SUPPRESSED_SENTINEL" Bundle.listD)).before args s = true)
    (lU : (Cond.laysStatic Bundle.tN "UNASSIGNED_STACK" Bundle.steD).before args s = true) (lN : (Cond.laysStatic Bundle.tN "SUPPRESSED_SENTINEL" Bundle.listD).before args s = true) : ∀ w ∈ L, w.before args s = true := by
  intro w hw
  by_cases e1 : w = .isRef (.static Bundle.tN "UNASSIGNED_STACK" Bundle.steD)
  · rw [e1]; exact hU
  · by_cases e2 : w = .isRef (.static Bundle.tN "SUPPRESSED_SENTINEL" Bundle.listD)
    · rw [e2]; exact hN
    · by_cases e3 : w = .laysStatic Bundle.tN "UNASSIGNED_STACK" Bundle.steD
      · rw [e3]; exact lU
      · by_cases e4 : w = .laysStatic Bundle.tN "SUPPRESSED_SENTINEL" Bundle.listD
        · rw [e4]; exact lN
        · exact h1 w (List.mem_filter.mpr ⟨hw, by unfold vx_no; rw [decide_eq_true e1, decide_eq_true e2, decide_eq_true e3, decide_eq_true e4]; rfl⟩)
/-- where a static field lies, its class's statics cell in H -/
def vx_L (C n d : String) (A : Nat → Prop) (U : State) (H : Heap) : Prop := ∃ (c : ClassId) (k : Class) (i : Nat) (f : Field) (a : Nat) (cell : Cell), U.vm.findClass C = some c ∧ U.fieldFound? C n d = some (c, k, i, f) ∧ f.isStatic = true ∧ k.statics = some a ∧ H[a]? = some cell ∧ cell.vm.isStatics = true ∧ cell.cls = c ∧ f.slot < cell.slots.size ∧ k.staticTypes[f.slot]? = some f.type ∧ ¬ A a
theorem vx_L.moved {C n d : String} {A : Nat → Prop} {u U : State} {H : Heap} (hvm : u.vm.Alike U.vm) (h : vx_L C n d A u H) : vx_L C n d A U H := by
  obtain ⟨c, k, i, f, a, cell, h1, h2, h3, h4, h5, h6, h7, h8, h9, h10⟩ := h
  obtain ⟨k', hi', he⟩ := State.fieldFound?_setVm hvm h2
  exact ⟨c, k', i, f, a, cell, by rw [hvm.findClass]; exact h1, hi', h3, by rw [he]; exact h4, h5, h6, h7, h8, by rw [he]; exact h9, h10⟩
theorem vx_L.kept {C n d : String} {A : Nat → Prop} {U : State} {H H1 : Heap} (h : vx_L C n d A U H) (hq : ∀ a : Nat, a < H.size → ¬ A a → H1[a]? = H[a]?) : vx_L C n d A U H1 := by
  obtain ⟨c, k, i, f, a, cell, h1, h2, h3, h4, h5, h6, h7, h8, h9, h10⟩ := h
  exact ⟨c, k, i, f, a, cell, h1, h2, h3, h4, by rw [hq a (Array.getElem?_eq_some_iff.mp h5).1 h10]; exact h5, h6, h7, h8, h9, h10⟩
theorem vx_L.narrow {C n d : String} {A B : Nat → Prop} {U : State} {H : Heap} (h : vx_L C n d A U H) (hAB : ∀ q, B q → A q) : vx_L C n d B U H := by
  obtain ⟨c, k, i, f, a, cell, h1, h2, h3, h4, h5, h6, h7, h8, h9, h10⟩ := h
  exact ⟨c, k, i, f, a, cell, h1, h2, h3, h4, h5, h6, h7, h8, h9, fun z => h10 (hAB _ z)⟩
theorem vx_L.word {C n d : String} {A : Nat → Prop} {s : State} {args : Array Value} (h : vx_L C n d A s s.heap) : (Cond.laysStatic C n d).before args s = true := by
  obtain ⟨c, k, i, f, a, cell, h1, h2, h3, h4, h5, h6, h7, h8, h9, -⟩ := h
  show (Cond.laysStatic C n d).holds args s none s [] = true
  exact Cond.laysStatic_of h1 h2 h3 h4 h5 h6 h7 h8 h9
/-- .. and what it holds: null or some reference -/
def vx_Zq (C n d : String) (A : Nat → Prop) (U : State) (H : Heap) : Prop := va_Zq C n d A U H ∧ vx_L C n d A U H
theorem vx_Zq.moved {C n d : String} {A : Nat → Prop} {u U : State} {H : Heap} (hvm : u.vm.Alike U.vm) (h : vx_Zq C n d A u H) : vx_Zq C n d A U H := ⟨va_Zq.moved hvm h.1, vx_L.moved hvm h.2⟩
theorem vx_Zq.kept {C n d : String} {A : Nat → Prop} {U : State} {H H1 : Heap} (h : vx_Zq C n d A U H) (hq : ∀ a : Nat, a < H.size → ¬ A a → H1[a]? = H[a]?) : vx_Zq C n d A U H1 := ⟨va_Zq.kept h.1 hq, vx_L.kept h.2 hq⟩
theorem vx_Zq.narrow {C n d : String} {A B : Nat → Prop} {U : State} {H : Heap} (h : vx_Zq C n d A U H) (hAB : ∀ q, B q → A q) : vx_Zq C n d B U H := ⟨va_Zq.narrow h.1 hAB, vx_L.narrow h.2 hAB⟩
theorem vx_Zqof {args : Array Value} {s : State} {C n d : String} {A : Nat → Prop} (hl : (Cond.laysStatic C n d).before args s = true) (hini : (Cond.initialized C).before args s = true) (h : (Cond.isRef (.static C n d)).before args s = true) (hA : ∀ a : Nat, a < s.heap.size → ¬ A a) : vx_Zq C n d A s s.heap := by
  refine ⟨va_Zqof hl hini h hA, ?_⟩
  obtain ⟨c, k, i, f, a, cell, h1, h2, h3, h4, h5, h6, h7, h8, h9⟩ := Cond.laysStatic_spec hl
  exact ⟨c, k, i, f, a, cell, h1, h2, h3, h4, h5, h6, h7, h8, h9, hA a (Array.getElem?_eq_some_iff.mp h5).1⟩
theorem vx_isRef {C n d : String} {v : Value} {A : Nat → Prop} {s : State} {args : Array Value} (h : va_Z C n d v A s s.heap) (hv : v.isRef = true) : (Cond.isRef (.static C n d)).before args s = true := by
  obtain ⟨cf, kf, fi, f, a, cell, h1, h2, h3, h4, h5, h6, h7, -⟩ := h
  have he : (Term.static C n d).eval args s none [] s = some v := by
    simp [Term.eval, State.fieldNamed?, h1, h2, h4, h5, h6, h7]
  simp only [Cond.before, Cond.holds, Cond.value, he]
  cases v <;> simp_all [Value.isRef]
theorem vx_isRefq {C n d : String} {A : Nat → Prop} {s : State} {args : Array Value} (h : va_Zq C n d A s s.heap) : (Cond.isRef (.static C n d)).before args s = true := by
  rcases h with h | ⟨t, h⟩
  · exact vx_isRef h rfl
  · exact vx_isRef h rfl
/-- the same frame, seen from here: as if the method were called anew in this heap -/
theorem vx_rebase {T : State} (X : Stand p l e R s m args below meth c T locs cells slots) {R' : Room} (hf : R'.frames ≤ R.frames) (hl : R'.locals ≤ R.locals) (hc : cells + R'.cells ≤ R.cells) (hs : slots + R'.slots ≤ R.slots) :
    Stand p l e R' ((T.setVm s.vm).setFrames (.invoking m args :: below)) m args below meth c T [] 0 0 := by
  have htop : (T.setVm s.vm).topJava?.isSome := X.here.top
  have hF : ((T.setVm s.vm).setFrames (.invoking m args :: below)).frames = .invoking m args :: below := State.frames_setFrames _ (State.cur_lt_of_top htop)
  obtain ⟨g₀, hg0⟩ := Option.isSome_iff_exists.mp htop
  obtain ⟨r, hr⟩ := State.topJava?_eq_some.mp hg0
  have hl9 : e.platform.stackLimits (T.setVm s.vm).me = e.platform.stackLimits s.me := X.limits
  have hb9 : (T.setVm s.vm).me.stackBytes = s.me.stackBytes := X.bytes
  refine ⟨X.admits, X.cas, X.clock, hF, ?_, X.hears, X.method, X.code, X.here, X.tail, X.warmed, ?_, ?_, ?_⟩
  · have h := X.room
    have hU : ((T.setVm s.vm).setFrames (.invoking m args :: below)).localsInUse = s.localsInUse := by
      rw [State.localsInUse_invoking hF (meth := meth) (c := c) X.method X.code, State.localsInUse_invoking X.frames X.method X.code]
    simp only [State.hasRoom, Bool.and_eq_true, decide_eq_true_eq] at h ⊢
    obtain ⟨⟨⟨⟨h1, h2, h3, h4, h5, h6⟩, h7⟩, h8⟩, h9⟩ := h
    rw [X.frames, List.length_cons] at h2 h3
    have q1 := X.heapSize
    have q2 := X.used
    simp only [hF, hU, List.length_cons, State.stackLimits_setFrames, State.stackBytes_setFrames, hl9, hb9]
    refine ⟨⟨⟨⟨by omega, by omega, by omega, by omega, by omega, h6⟩, ?_⟩, ?_⟩, X.book⟩
    · show T.heap.size + R'.cells ≤ e.platform.maxCells
      omega
    · show T.slotsUsed + R'.slots ≤ e.platform.maxSlots
      omega
  · rw [State.stackLimits_setFrames]; rfl
  · rw [State.stackBytes_setFrames]; rfl
  · refine ⟨?_, Nat.le_refl _, Nat.le_refl _, ?_, ?_, fun a c9 h9 => ⟨c9, h9, rfl, rfl, fun _ _ => rfl⟩⟩
    · obtain ⟨t, ht, -⟩ := State.frames_cons hr
      show T.setVm s.vm = { ((T.setVm s.vm).setFrames (.invoking m args :: below)).setFrames (T.setVm s.vm).frames with heap := T.heap, slotsUsed := T.slotsUsed }
      rw [State.setFrames_setFrames, State.setFrames_self ht]
      rfl
    · show T.slotsUsed = T.slotsUsed + ((T.heap.toList.drop T.heap.size).map (·.slots.size)).sum
      rw [List.drop_eq_nil_of_le (Nat.le_of_eq Array.length_toList)]
      rfl
    · show ((T.heap.toList.drop T.heap.size).map (·.slots.size)).sum ≤ 0
      rw [List.drop_eq_nil_of_le (Nat.le_of_eq Array.length_toList)]
      exact Nat.le_refl _
/-- 'throw new E()': new; dup; invokespecial; athrow -/
theorem vx_throw0 {cc : ByteArray} {pc : Nat} (hexec : p.tables.exec = Jvm.exec) (hb : c.code = cc) (hl : l.stackTraces = false) {own cls : String} {names : List String} {ik ic mc ms : Nat} {A : Nat → Prop}
    (hown : s.vm.findClass own = some m.cls) (hcls : Bundle.fit cls = true) (hnames : ∀ n ∈ names, Bundle.fit n = true)
    (hk : (Cond.classLink own ik cls).before args s = true) (hini : (Cond.initialized cls).before args s = true) (hat : ∀ w ∈ vx_at0 own ic cls names, w.before args s = true)
    (hgood : ∀ w ∈ Cond.classLink own ik cls :: Cond.initialized cls :: vx_at0 own ic cls names, vx_ot w = true)
    (hU : vx_Zq Bundle.tN "UNASSIGNED_STACK" Bundle.steD A s s.heap) (hN : vx_Zq Bundle.tN "SUPPRESSED_SENTINEL" Bundle.listD A s s.heap) (hS : va_S A s.heap H locs) (hsize : ls.size = c.maxLocals)
    (d0 : decode cc pc = .ok (.new ik, 3)) (d3 : decode cc (pc + 3) = .ok (.dup, 1)) (d4 : decode cc (pc + 4) = .ok (.invokespecial ic, 3)) (d7 : decode cc (pc + 7) = .ok (.athrow, 1))
    (hout : ∀ x ∈ c.exceptionTable.toList, covers x (pc + 7) = false)
    (hRframes : names.length + 3 < R.frames) (hRlocals : (rest.map fun v => v.category).sum + (13 * (names.length + 1) + 42) ≤ R.locals) (hRcells : cells + 1 ≤ R.cells) (hRslots : slots + 6 ≤ R.slots) (hlocks : meth.locks = false)
    (hx : ∀ t : State, s.vm.Alike t.vm → H.size ≤ t.heap.size → (∀ q : Nat, q < H.size → t.heap[q]? = H[q]?) → XC cls s t)
    (hf : ∀ z ∈ locs, free z.base) (hc : cells + 1 ≤ mc) (hs : slots + 6 ≤ ms) :
    W p l e R s m args below meth c H locs cells slots (vx_MQ below Qc XC args s mc ms free) (F0 m pc ls rest) := by
  intro T hT X
  have htr : e.platform.stackTraces = false := (show e.platform.stackTraces = l.stackTraces by rw [X.admits.platform]).trans hl
  have Y := vx_rebase X (R' := { frames := R.frames, locals := R.locals, cells := 1, slots := 6 }) (Nat.le_refl _) (Nat.le_refl _) hRcells hRslots
  obtain ⟨s', hA⟩ : ∃ z, z = (T.setVm s.vm).setFrames (.invoking m args :: below) := ⟨_, rfl⟩
  rw [← hA] at Y
  have hvm : s'.vm = s.vm := by rw [hA]; rfl
  have hhp : s'.heap = H := by rw [hA]; exact hT
  have hW0 : s.WarmedH s'.vm := by rw [hvm]; exact State.WarmedH.refl s
  have hat' : ∀ w ∈ vx_at0 own ic cls names, w.before args s' = true := fun w hw => vx_ot_at hW0 hvm.symm (hgood w (List.mem_cons_of_mem _ (List.mem_cons_of_mem _ hw))) (hat w hw)
  have hk' : (Cond.classLink own ik cls).before args s' = true := vx_ot_at hW0 hvm.symm (hgood _ List.mem_cons_self) hk
  have hini' : (Cond.initialized cls).before args s' = true := vx_ot_at hW0 hvm.symm (hgood _ (List.mem_cons_of_mem _ List.mem_cons_self)) hini
  have hU' : vx_Zq Bundle.tN "UNASSIGNED_STACK" Bundle.steD A s' s'.heap := by rw [hhp]; exact vx_Zq.moved hW0.alike (hU.kept hS.2.1)
  have hN' : vx_Zq Bundle.tN "SUPPRESSED_SENTINEL" Bundle.listD A s' s'.heap := by rw [hhp]; exact vx_Zq.moved hW0.alike (hN.kept hS.2.1)
  have h : ∀ w ∈ Bundle.ownAtoms0 own ic cls names, w.before args s' = true := vx_own hat' (vx_isRefq hU'.1) (vx_isRefq hN'.1) hU'.2.word hN'.2.word
  have hown' : s'.vm.findClass own = some m.cls := by rw [hvm]; exact hown
  have hins : (Cond.instantiable cls 6).before args s' = true := h _ (by simp [Bundle.ownAtoms0])
  obtain ⟨vm₁, cX, kX, hfX, hkX, -, -, X₁, st1⟩ := Y.newCold hexec (own := own) (C := cls) (index := ik) (n := 6) hown' hk' hins hini'
    (g := F0 m pc ls rest) rfl (by rw [hb]; exact d0) (Nat.le_refl _) (Nat.le_refl _)
  generalize hT1 : (T.setVm vm₁).pushCell { cls := cX, slots := kX.instanceTypes.map defaultValue, vm := .none } = T1 at X₁ st1
  have hcat : (Value.ref T.heap.size).category = 1 := rfl
  have hcellA : T1.heap[T.heap.size]? = some (freshCell cX kX) := by rw [← hT1]; exact State.heap_pushCell_size _ _
  have d3' : decode c.code (pc + 3) = .ok (.dup, 1) := by rw [hb]; exact d3
  obtain ⟨U, hsteps, hrun, hend, hW, hsame, ce, hce, hO⟩ := X₁.ctorThrow0 hexec htr (own := own) (cls := cls) (names := names) (ic := ic) hown' hcls hnames h (fun x hx => nomatch hx) hfX hkX hcellA (by rw [hhp, hT]; exact Nat.le_refl _)
    (g := { method := m, pc := pc + 4, locals := ls, stack := .ref T.heap.size :: .ref T.heap.size :: rest, locked := none }) rfl hsize rfl rfl (rest := rest) rfl
    (by rw [hb]; exact d4) (by rw [hb]; exact d7) hout hRframes (by simp only [List.map_cons, List.sum_cons, hcat]; omega) hlocks
  obtain ⟨f1, f2⟩ := vx_frame hsame
  rw [hhp] at f1 f2
  have hWs : s.WarmedH U.vm := State.WarmedH.trans hW0 hW
  have hcl : s.vm.findClass cls = some ce.cls := by
    have h9 := hO.cls
    rw [hvm] at h9
    exact h9
  have hall : s.sameButNew ({ U with vm := s.vm } : State) locs mc ms := by
    subst hA
    obtain ⟨e1, e2⟩ := hsame
    rw [State.setFrames_setFrames] at e1
    have h2 : (T.setVm s.vm).sameButNew ({ U with vm := s.vm } : State) [] (0 + 1) (0 + 6) := ⟨e1, e2⟩
    have h3 := X.same.trans h2
    rw [List.append_nil] at h3
    exact h3.mono hc hs
  refine ⟨U, ?_, .threw T.heap.size, hrun, hend, Or.inr ⟨T.heap.size, rfl, cls, ce, locs, hx U hWs.alike f1 (fun q hq => f2 q hq (fun z hz => nomatch hz)), hce, hO.vm, hcl, hWs, hall, hf⟩⟩
  refine st1 _ ?_
  show Steps p.tables e below (T1.setTop { method := m, pc := pc + 3, locals := ls, stack := .ref T.heap.size :: rest, locked := none }) _
  jvm_step X₁.here [X₁.here.top, hexec, d3', Value.category]
  exact hsteps
/-- 'throw new E("text")': new; dup; ldc; invokespecial; athrow -/
theorem vx_throwS {cc : ByteArray} {pc : Nat} (hexec : p.tables.exec = Jvm.exec) (hb : c.code = cc) (hl : l.stackTraces = false) {own cls text : String} {names : List String} {ik is ic mc ms sa : Nat} {A : Nat → Prop}
    (hown : s.vm.findClass own = some m.cls) (hcls : Bundle.fit cls = true) (hnames : ∀ n ∈ names, Bundle.fit n = true)
    (hk : (Cond.classLink own ik cls).before args s = true) (hini : (Cond.initialized cls).before args s = true) (hstr : vk_R own is text sa s) (hat : ∀ w ∈ vx_atS own ic cls names, w.before args s = true)
    (hgood : ∀ w ∈ Cond.classLink own ik cls :: Cond.initialized cls :: vx_atS own ic cls names, vx_ot w = true)
    (hU : vx_Zq Bundle.tN "UNASSIGNED_STACK" Bundle.steD A s s.heap) (hN : vx_Zq Bundle.tN "SUPPRESSED_SENTINEL" Bundle.listD A s s.heap) (hS : va_S A s.heap H locs) (hsize : ls.size = c.maxLocals)
    (d0 : decode cc pc = .ok (.new ik, 3)) (d3 : decode cc (pc + 3) = .ok (.dup, 1)) (d4 : decode cc (pc + 4) = .ok (.ldc is, 2)) (d6 : decode cc (pc + 6) = .ok (.invokespecial ic, 3)) (d9 : decode cc (pc + 9) = .ok (.athrow, 1))
    (hout : ∀ x ∈ c.exceptionTable.toList, covers x (pc + 9) = false)
    (hRframes : names.length + 3 < R.frames) (hRlocals : (rest.map fun v => v.category).sum + (13 * (names.length + 1) + 43) ≤ R.locals) (hRcells : cells + 1 ≤ R.cells) (hRslots : slots + 6 ≤ R.slots) (hlocks : meth.locks = false)
    (hx : ∀ t : State, s.vm.Alike t.vm → H.size ≤ t.heap.size → (∀ q : Nat, q < H.size → t.heap[q]? = H[q]?) → XC cls s t)
    (hf : ∀ z ∈ locs, free z.base) (hc : cells + 1 ≤ mc) (hs : slots + 6 ≤ ms) :
    W p l e R s m args below meth c H locs cells slots (vx_MQ below Qc XC args s mc ms free) (F0 m pc ls rest) := by
  intro T hT X
  have htr : e.platform.stackTraces = false := (show e.platform.stackTraces = l.stackTraces by rw [X.admits.platform]).trans hl
  have Y := vx_rebase X (R' := { frames := R.frames, locals := R.locals, cells := 1, slots := 6 }) (Nat.le_refl _) (Nat.le_refl _) hRcells hRslots
  obtain ⟨s', hA⟩ : ∃ z, z = (T.setVm s.vm).setFrames (.invoking m args :: below) := ⟨_, rfl⟩
  rw [← hA] at Y
  have hvm : s'.vm = s.vm := by rw [hA]; rfl
  have hhp : s'.heap = H := by rw [hA]; exact hT
  have hW0 : s.WarmedH s'.vm := by rw [hvm]; exact State.WarmedH.refl s
  have hat' : ∀ w ∈ vx_atS own ic cls names, w.before args s' = true := fun w hw => vx_ot_at hW0 hvm.symm (hgood w (List.mem_cons_of_mem _ (List.mem_cons_of_mem _ hw))) (hat w hw)
  have hk' : (Cond.classLink own ik cls).before args s' = true := vx_ot_at hW0 hvm.symm (hgood _ List.mem_cons_self) hk
  have hini' : (Cond.initialized cls).before args s' = true := vx_ot_at hW0 hvm.symm (hgood _ (List.mem_cons_of_mem _ List.mem_cons_self)) hini
  have hU' : vx_Zq Bundle.tN "UNASSIGNED_STACK" Bundle.steD A s' s'.heap := by rw [hhp]; exact vx_Zq.moved hW0.alike (hU.kept hS.2.1)
  have hN' : vx_Zq Bundle.tN "SUPPRESSED_SENTINEL" Bundle.listD A s' s'.heap := by rw [hhp]; exact vx_Zq.moved hW0.alike (hN.kept hS.2.1)
  have h : ∀ w ∈ Bundle.ownAtoms own ic cls names, w.before args s' = true := vx_own hat' (vx_isRefq hU'.1) (vx_isRefq hN'.1) hU'.2.word hN'.2.word
  have hown' : s'.vm.findClass own = some m.cls := by rw [hvm]; exact hown
  have hins : (Cond.instantiable cls 6).before args s' = true := h _ (by simp [Bundle.ownAtoms])
  obtain ⟨vm₁, cX, kX, hfX, hkX, -, -, X₁, st1⟩ := Y.newCold hexec (own := own) (C := cls) (index := ik) (n := 6) hown' hk' hins hini'
    (g := F0 m pc ls rest) rfl (by rw [hb]; exact d0) (Nat.le_refl _) (Nat.le_refl _)
  generalize hT1 : (T.setVm vm₁).pushCell { cls := cX, slots := kX.instanceTypes.map defaultValue, vm := .none } = T1 at X₁ st1
  have hcat : (Value.ref T.heap.size).category = 1 := rfl
  have hcellA : T1.heap[T.heap.size]? = some (freshCell cX kX) := by rw [← hT1]; exact State.heap_pushCell_size _ _
  have d3' : decode c.code (pc + 3) = .ok (.dup, 1) := by rw [hb]; exact d3
  have d4' : decode c.code (pc + 4) = .ok (.ldc is, 2) := by rw [hb]; exact d4
  have hstr' : vk_R own is text sa s' := vk_R.warm hW0 hstr
  obtain ⟨U, hsteps, hrun, hend, hW, hsame, ce, hce, hO⟩ := X₁.ctorThrowS hexec htr (own := own) (cls := cls) (names := names) (ic := ic) hown' hcls hnames h (fun x hx => nomatch hx) hfX hkX hcellA (by rw [hhp, hT]; exact Nat.le_refl _) (msg := .ref sa) rfl
    (g := { method := m, pc := pc + 6, locals := ls, stack := .ref sa :: .ref T.heap.size :: .ref T.heap.size :: rest, locked := none }) rfl hsize rfl rfl (rest := rest) rfl
    (by rw [hb]; exact d6) (by rw [hb]; exact d9) hout hRframes (by simp only [List.map_cons, List.sum_cons, hcat]; omega) hlocks
  obtain ⟨f1, f2⟩ := vx_frame hsame
  rw [hhp] at f1 f2
  have hWs : s.WarmedH U.vm := State.WarmedH.trans hW0 hW
  have hcl : s.vm.findClass cls = some ce.cls := by
    have h9 := hO.cls
    rw [hvm] at h9
    exact h9
  have hall : s.sameButNew ({ U with vm := s.vm } : State) locs mc ms := by
    subst hA
    obtain ⟨e1, e2⟩ := hsame
    rw [State.setFrames_setFrames] at e1
    have h2 : (T.setVm s.vm).sameButNew ({ U with vm := s.vm } : State) [] (0 + 1) (0 + 6) := ⟨e1, e2⟩
    have h3 := X.same.trans h2
    rw [List.append_nil] at h3
    exact h3.mono hc hs
  refine ⟨U, ?_, .threw T.heap.size, hrun, hend, Or.inr ⟨T.heap.size, rfl, cls, ce, locs, hx U hWs.alike f1 (fun q hq => f2 q hq (fun z hz => nomatch hz)), hce, hO.vm, hcl, hWs, hall, hf⟩⟩
  refine st1 _ ?_
  show Steps p.tables e below (T1.setTop { method := m, pc := pc + 3, locals := ls, stack := .ref T.heap.size :: rest, locked := none }) _
  jvm_step X₁.here [X₁.here.top, hexec, d3', Value.category]
  exact X₁.ldcString hexec (own := own) (text := text) (index := is) (a := sa) hown' hstr'.1 hstr'.2
    (g := { method := m, pc := pc + 4, locals := ls, stack := .ref T.heap.size :: .ref T.heap.size :: rest, locked := none }) rfl d4' _ hsteps
/-- 'throw new E("text")', the text by a wide index -/
theorem vx_throwSW {cc : ByteArray} {pc : Nat} (hexec : p.tables.exec = Jvm.exec) (hb : c.code = cc) (hl : l.stackTraces = false) {own cls text : String} {names : List String} {ik is ic mc ms sa : Nat} {A : Nat → Prop}
    (hown : s.vm.findClass own = some m.cls) (hcls : Bundle.fit cls = true) (hnames : ∀ n ∈ names, Bundle.fit n = true)
    (hk : (Cond.classLink own ik cls).before args s = true) (hini : (Cond.initialized cls).before args s = true) (hstr : vk_R own is text sa s) (hat : ∀ w ∈ vx_atS own ic cls names, w.before args s = true)
    (hgood : ∀ w ∈ Cond.classLink own ik cls :: Cond.initialized cls :: vx_atS own ic cls names, vx_ot w = true)
    (hU : vx_Zq Bundle.tN "UNASSIGNED_STACK" Bundle.steD A s s.heap) (hN : vx_Zq Bundle.tN "SUPPRESSED_SENTINEL" Bundle.listD A s s.heap) (hS : va_S A s.heap H locs) (hsize : ls.size = c.maxLocals)
    (d0 : decode cc pc = .ok (.new ik, 3)) (d3 : decode cc (pc + 3) = .ok (.dup, 1)) (d4 : decode cc (pc + 4) = .ok (.ldc_w is, 3)) (d7 : decode cc (pc + 7) = .ok (.invokespecial ic, 3)) (d10 : decode cc (pc + 10) = .ok (.athrow, 1))
    (hout : ∀ x ∈ c.exceptionTable.toList, covers x (pc + 10) = false)
    (hRframes : names.length + 3 < R.frames) (hRlocals : (rest.map fun v => v.category).sum + (13 * (names.length + 1) + 43) ≤ R.locals) (hRcells : cells + 1 ≤ R.cells) (hRslots : slots + 6 ≤ R.slots) (hlocks : meth.locks = false)
    (hx : ∀ t : State, s.vm.Alike t.vm → H.size ≤ t.heap.size → (∀ q : Nat, q < H.size → t.heap[q]? = H[q]?) → XC cls s t)
    (hf : ∀ z ∈ locs, free z.base) (hc : cells + 1 ≤ mc) (hs : slots + 6 ≤ ms) :
    W p l e R s m args below meth c H locs cells slots (vx_MQ below Qc XC args s mc ms free) (F0 m pc ls rest) := by
  intro T hT X
  have htr : e.platform.stackTraces = false := (show e.platform.stackTraces = l.stackTraces by rw [X.admits.platform]).trans hl
  have Y := vx_rebase X (R' := { frames := R.frames, locals := R.locals, cells := 1, slots := 6 }) (Nat.le_refl _) (Nat.le_refl _) hRcells hRslots
  obtain ⟨s', hA⟩ : ∃ z, z = (T.setVm s.vm).setFrames (.invoking m args :: below) := ⟨_, rfl⟩
  rw [← hA] at Y
  have hvm : s'.vm = s.vm := by rw [hA]; rfl
  have hhp : s'.heap = H := by rw [hA]; exact hT
  have hW0 : s.WarmedH s'.vm := by rw [hvm]; exact State.WarmedH.refl s
  have hat' : ∀ w ∈ vx_atS own ic cls names, w.before args s' = true := fun w hw => vx_ot_at hW0 hvm.symm (hgood w (List.mem_cons_of_mem _ (List.mem_cons_of_mem _ hw))) (hat w hw)
  have hk' : (Cond.classLink own ik cls).before args s' = true := vx_ot_at hW0 hvm.symm (hgood _ List.mem_cons_self) hk
  have hini' : (Cond.initialized cls).before args s' = true := vx_ot_at hW0 hvm.symm (hgood _ (List.mem_cons_of_mem _ List.mem_cons_self)) hini
  have hU' : vx_Zq Bundle.tN "UNASSIGNED_STACK" Bundle.steD A s' s'.heap := by rw [hhp]; exact vx_Zq.moved hW0.alike (hU.kept hS.2.1)
  have hN' : vx_Zq Bundle.tN "SUPPRESSED_SENTINEL" Bundle.listD A s' s'.heap := by rw [hhp]; exact vx_Zq.moved hW0.alike (hN.kept hS.2.1)
  have h : ∀ w ∈ Bundle.ownAtoms own ic cls names, w.before args s' = true := vx_own hat' (vx_isRefq hU'.1) (vx_isRefq hN'.1) hU'.2.word hN'.2.word
  have hown' : s'.vm.findClass own = some m.cls := by rw [hvm]; exact hown
  have hins : (Cond.instantiable cls 6).before args s' = true := h _ (by simp [Bundle.ownAtoms])
  obtain ⟨vm₁, cX, kX, hfX, hkX, -, -, X₁, st1⟩ := Y.newCold hexec (own := own) (C := cls) (index := ik) (n := 6) hown' hk' hins hini'
    (g := F0 m pc ls rest) rfl (by rw [hb]; exact d0) (Nat.le_refl _) (Nat.le_refl _)
  generalize hT1 : (T.setVm vm₁).pushCell { cls := cX, slots := kX.instanceTypes.map defaultValue, vm := .none } = T1 at X₁ st1
  have hcat : (Value.ref T.heap.size).category = 1 := rfl
  have hcellA : T1.heap[T.heap.size]? = some (freshCell cX kX) := by rw [← hT1]; exact State.heap_pushCell_size _ _
  have d3' : decode c.code (pc + 3) = .ok (.dup, 1) := by rw [hb]; exact d3
  have d4' : decode c.code (pc + 4) = .ok (.ldc_w is, 3) := by rw [hb]; exact d4
  have hstr' : vk_R own is text sa s' := vk_R.warm hW0 hstr
  obtain ⟨U, hsteps, hrun, hend, hW, hsame, ce, hce, hO⟩ := X₁.ctorThrowS hexec htr (own := own) (cls := cls) (names := names) (ic := ic) hown' hcls hnames h (fun x hx => nomatch hx) hfX hkX hcellA (by rw [hhp, hT]; exact Nat.le_refl _) (msg := .ref sa) rfl
    (g := { method := m, pc := pc + 7, locals := ls, stack := .ref sa :: .ref T.heap.size :: .ref T.heap.size :: rest, locked := none }) rfl hsize rfl rfl (rest := rest) rfl
    (by rw [hb]; exact d7) (by rw [hb]; exact d10) hout hRframes (by simp only [List.map_cons, List.sum_cons, hcat]; omega) hlocks
  obtain ⟨f1, f2⟩ := vx_frame hsame
  rw [hhp] at f1 f2
  have hWs : s.WarmedH U.vm := State.WarmedH.trans hW0 hW
  have hcl : s.vm.findClass cls = some ce.cls := by
    have h9 := hO.cls
    rw [hvm] at h9
    exact h9
  have hall : s.sameButNew ({ U with vm := s.vm } : State) locs mc ms := by
    subst hA
    obtain ⟨e1, e2⟩ := hsame
    rw [State.setFrames_setFrames] at e1
    have h2 : (T.setVm s.vm).sameButNew ({ U with vm := s.vm } : State) [] (0 + 1) (0 + 6) := ⟨e1, e2⟩
    have h3 := X.same.trans h2
    rw [List.append_nil] at h3
    exact h3.mono hc hs
  refine ⟨U, ?_, .threw T.heap.size, hrun, hend, Or.inr ⟨T.heap.size, rfl, cls, ce, locs, hx U hWs.alike f1 (fun q hq => f2 q hq (fun z hz => nomatch hz)), hce, hO.vm, hcl, hWs, hall, hf⟩⟩
  refine st1 _ ?_
  show Steps p.tables e below (T1.setTop { method := m, pc := pc + 3, locals := ls, stack := .ref T.heap.size :: rest, locked := none }) _
  jvm_step X₁.here [X₁.here.top, hexec, d3', Value.category]
  exact X₁.ldcStringW hexec (own := own) (text := text) (index := is) (a := sa) hown' hstr'.1 hstr'.2
    (g := { method := m, pc := pc + 4, locals := ls, stack := .ref T.heap.size :: .ref T.heap.size :: rest, locked := none }) rfl d4' _ hsteps
end Ends
section Bodies
variable {l : Launch}
theorem vx_ofW {y : MethodName} {ws ws' : List Cond} {rm : Room} {Pc : Array Value → State → Prop} {Qc : Array Value → State → Outcome → State → Prop} {XC : String → State → State → Prop} {mc ms : Nat} {free : Addr → Prop} {cc : ByteArray} {maxL : Nat} {ret : Option FieldType}
    (hy : plainName y.cls = true) (hw : ws = Cond.code y cc maxL ret :: ws')
    (body : ∀ p e s m args below meth c s₁, BodyLoose p l y (headSpec ws rm) cc maxL ret e s m args below meth c s₁ → c.maxLocals = maxL → (∀ x ∈ c.exceptionTable.toList, False) → Pc args s →
      W p l e (headSpec ws rm).room s m args below meth c s.heap [] 0 0 (vx_MQ below Qc XC args s mc ms free) (entryFrame m args maxL)) : vx_Met l y ws rm Pc Qc XC mc ms free := by
  refine MetFree.of_bodyS (code := cc) (maxLocals := maxL) (ret := ret) hy ?_ ?_
  · intro args s m h hn
    obtain ⟨meth, c, h1, h2, h3, h4, h5, h6, -, -⟩ := Cond.code_spec hn (atoms_spec (ws := ws) h _ (by rw [hw]; exact List.mem_cons_self))
    exact ⟨meth, c, h1, h2, h3, h4, h5, h6⟩
  · intro p e s m args below meth c s₁ B hml hP _
    have hh0 : s₁.heap = s.heap := by rw [B.state]; rfl
    have ht : ∀ x ∈ c.exceptionTable.toList, False := by
      obtain ⟨meth9, c9, h1, h2, -, -, -, -, h7, -⟩ := Cond.code_spec B.named (atoms_spec (ws := ws) B.pre _ (by rw [hw]; exact List.mem_cons_self))
      cases Option.some.inj (h1.symm.trans B.method)
      cases Option.some.inj (h2.symm.trans (Stand.of_body B).code)
      intro x hx
      rw [Array.isEmpty_iff.mp h7] at hx
      cases hx
    obtain ⟨t, a1, o, b1, b2, b3⟩ := body p e s m args below meth c s₁ B hml ht hP s₁ hh0 (Stand.of_body B)
    exact ⟨t, o, a1, b1, b2, b3⟩
/-- the table of a body with handlers -/
theorem vx_table {p : Program} {x y : MethodName} {S : Spec} {cc bytes : ByteArray} {maxL maxL' : Nat} {ret ret' : Option FieldType} {e : Env} {s s₁ : State} {m : MethodId} {args : Array Value} {below : List Frame} {meth : Method} {c : Code} {hh : List (Nat × Nat × Nat × Nat)}
    (B : BodyLoose p l y S cc maxL ret e s m args below meth c s₁) (h : (Cond.codeWith y bytes maxL' ret' hh).before args s = true) : c.exceptionTable.toList = tableOf hh := by
  obtain ⟨m9, meth9, c9, hn9, h1, h2, -, -, h6, -⟩ := Cond.codeWith_spec h
  cases Option.some.inj (hn9.symm.trans B.named)
  cases Option.some.inj (h1.symm.trans B.method)
  cases Option.some.inj (h2.symm.trans (Stand.of_body B).code)
  rw [← h6, table_eq]
end Bodies
end VXA
/-! ===== END ===== -/
/-! ===== BEGIN a static call of a method with an exception table ===== -/
section VXS
variable {p : Program} {l : Launch} {e : Env} {R : Room} {s : State} {m : MethodId} {args : Array Value} {below : List Frame} {meth : Method} {c : Code} {T : State} {H : Heap} {locs : List Loc} {cells slots : Nat}
abbrev vx_CSW (R : Room) (s : State) (args : Array Value) (own : String) (index : Nat) (y : MethodName) (bytes : ByteArray) (maxL : Nat) (ret : Option FieldType) (hh : List (Nat × Nat × Nat × Nat)) (ws : List Cond) (rm : Room) (mc ms n : Nat) : Prop :=
  (rm.cells = mc ∧ rm.slots = ms ∧ rm.frames + 1 ≤ R.frames ∧ 8 + (maxL + 11) + rm.locals ≤ R.locals ∧ (∀ w ∈ ws, ∀ (a' : Array Value) (U : State), s.WarmedH U.vm → w.before a' U = true) ∧ Cond.codeWith y bytes maxL ret hh ∈ ws) ∧
  (Cond.codeWith y bytes maxL ret hh).before args s = true ∧ (Cond.initialized y.cls).before args s = true ∧ (y.cls ≠ "java/lang/invoke/MethodHandle" ∧ y.cls ≠ "java/lang/invoke/VarHandle") ∧
  (∀ sig, parseMethodDescriptor y.desc = some sig → n = sig.parameters.length) ∧ (Cond.methodLink own index y).before args s = true ∧ (Cond.static y).before args s = true
theorem vx_cwSW {own : String} {index maxL mc ms : Nat} {y : MethodName} {bytes : ByteArray} {ret : Option FieldType} {hh : List (Nat × Nat × Nat × Nat)} {Ts ws ws' : List Cond} {rm : Room} (n : Nat) (ht : ∀ w ∈ Ts, w.before args s = true) (hT : GoodIn Ts (va_wsS own index y ws)) (hw : ws = Cond.codeWith y bytes maxL ret hh :: ws') (hrc : rm.cells = mc) (hrs : rm.slots = ms)
    (hd : y.cls ≠ "java/lang/invoke/MethodHandle" ∧ y.cls ≠ "java/lang/invoke/VarHandle" ∧ (parseMethodDescriptor y.desc).map (fun d => d.parameters.length) = some n) (hR : rm.frames + 1 ≤ R.frames ∧ 8 + (maxL + 11) + rm.locals ≤ R.locals) :
    vx_CSW R s args own index y bytes maxL ret hh ws rm mc ms n := by
  have ok : ∀ w ∈ va_wsS own index y ws, w.before args s = true := fun w h => ht w (hT w h).1
  have hG : GoodIn Ts ws := fun w h => hT w (by unfold va_wsS; exact List.mem_append_right _ h)
  have hc : Cond.codeWith y bytes maxL ret hh ∈ ws := by rw [hw]; exact List.mem_cons_self
  refine ⟨⟨hrc, hrs, hR.1, hR.2, pay_in ht hG, hc⟩, ht _ (hG _ hc).1, ok _ (by simp [va_wsS]), ⟨hd.1, hd.2.1⟩, fun sig h => ?_, ok _ (by simp [va_wsS]), ok _ (by simp [va_wsS])⟩
  have h2 := hd.2.2
  rw [h] at h2
  exact (Option.some.inj h2).symm
theorem vx_callSW (X : Stand p l e R s m args below meth c T locs cells slots) (hexec : p.tables.exec = Jvm.exec) {own : String} {index : Nat} {y : MethodName} {bytes : ByteArray} {maxL : Nat} {ret : Option FieldType} {hh : List (Nat × Nat × Nat × Nat)}
    (hown : s.vm.findClass own = some m.cls) (hlink : (Cond.methodLink own index y).before args s = true) (hstat : (Cond.static y).before args s = true) (hinit : (Cond.initialized y.cls).before args s = true)
    (hcode : (Cond.codeWith y bytes maxL ret hh).before args s = true) (hy : y.cls ≠ "java/lang/invoke/MethodHandle" ∧ y.cls ≠ "java/lang/invoke/VarHandle")
    {W9 : Nat} {Pre : Pt → Array Value → Prop} {Post : Pt → Array Value → Option Value → Pt → Prop} (hK : Back l R p e below s args y 3 W9 Pre Post)
    {g : JFrame} (hg : g.method = m) (hsize : g.locals.size = c.maxLocals) {argsL rest : List Value} (hlen : ∀ sig, parseMethodDescriptor y.desc = some sig → argsL.length = sig.parameters.length)
    (hstack : g.stack = argsL.reverse ++ rest) (hW : 2 * g.monitorRoom + (rest.map fun v => v.category).sum ≤ W9) (hdg : decode c.code g.pc = .ok (.invokestatic index, 3))
    (hpre : ∀ vm₁, s.WarmedH vm₁ → Pre ⟨T.setVm vm₁, locs, cells, slots⟩ argsL.toArray) :
    ∃ (v : Option Value) (vm₁ : Vm) (B : Pt), s.WarmedH vm₁ ∧ Stand p l e R s m args below meth c B.U B.locs B.cells B.slots ∧ Post ⟨T.setVm vm₁, locs, cells, slots⟩ argsL.toArray v B ∧
      ∀ target, Steps p.tables e below (B.U.setTop { g with pc := g.pc + 3, stack := v.toList ++ rest }) target → Steps p.tables e below (T.setTop g) target := by
  obtain ⟨mk, methM, cM, hnamed, hmethM, -, -, -, -, -, -, hsigM⟩ := Cond.codeWith_spec hcode
  have hstatic : methM.isStatic = true := Cond.static_spec hnamed hmethM hstat
  obtain ⟨kP, hkP, -⟩ := className_of_methodNamed hnamed
  have hinitP : kP.init = .initialized := Cond.initialized_spec (findClass_of_methodNamed hnamed) hkP hinit
  obtain ⟨vm₁, X₁, hstep₁⟩ := X.invokestatic hexec hown hlink hnamed hmethM hstatic hkP hinitP hy (g := g) hg (argsL := argsL) (rest := rest) (hlen _ hsigM) hstack hdg
  obtain ⟨v, B, X', hpost, hsteps⟩ := hK m meth c ⟨T.setVm vm₁, locs, cells, slots⟩ { g with stack := rest } (.invokestatic index) mk argsL.toArray X₁ hg hsize hdg hW (X₁.named hnamed) (hpre vm₁ X₁.warmed)
  exact ⟨v, vm₁, B, X₁.warmed, X', hpost, fun target h => hstep₁ _ fun acts => by rw [doInvoke_state]; exact hsteps.trans h⟩
theorem vx_runSW {y : MethodName} {bytes cc : ByteArray} {maxL nL mc ms n index : Nat} {ret : Option FieldType} {hh : List (Nat × Nat × Nat × Nat)} {ws : List Cond} {rm : Room} {Pc : Array Value → State → Prop} {Qc : Array Value → State → Outcome → State → Prop} {free : Addr → Prop} {Ts : List Cond} {own : String} {As rest : List Value} {g : JFrame}
    (S : CallFix p m c cc nL s args Ts own) (hM : Met l y ws rm Pc Qc mc ms free) (cw : vx_CSW R s args own index y bytes maxL ret hh ws rm mc ms n) (hp : PreS s H Pc As)
    (hg : g.method = m) (hn : As.length = n) (hsize : g.locals.size = nL) (hstack : g.stack = As.reverse ++ rest) (hW : 2 * g.monitorRoom + (rest.map fun v => v.category).sum ≤ 8) (hdg : decode cc g.pc = .ok (.invokestatic index, 3)) (hf : cells + mc ≤ R.cells ∧ slots + ms ≤ R.slots) :
    va_Run p l e R s m args below meth c H locs cells slots mc ms g rest (Qc As.toArray) (free) := by
  obtain ⟨⟨hrc, hrs, hfr, hlo, hws, hcw⟩, hcode, hini, hy, hlen, hl, hstt⟩ := cw
  have hK : Back l R p e below s args y 3 8 (PreOf R mc ms Pc) (PostOf Qc mc ms free) := va_backW (hh := hh) (bytes := bytes) (maxL := maxL) (ret := ret) hM hp.1 hrc hrs hfr hlo hws hcw (fun a' U hW => word_at hW (Or.inl (by first | rfl | simp [Cond.onTables, Cond.keeps, Cond.steady])) hini)
  obtain ⟨hx, hb, hml, ho, -⟩ := S
  intro T hT X
  obtain ⟨v, vm₁, ⟨U', l2, c2, s2⟩, hW₁, X', ⟨g', mk, t, L, e1, e2, hq, h1, hL, h2, h3⟩, st⟩ := vx_callSW X hx (hh := hh) (bytes := bytes) (maxL := maxL) (ret := ret) ho hl hstt hini hcode hy hK hg (hsize.trans hml.symm) (argsL := As) (rest := rest) (fun sig h => hn.trans (hlen sig h)) hstack hW (by rw [hb]; exact hdg)
    (fun vm₁ hW₁ => ⟨hf.1, hf.2, hp.2 (T.setVm vm₁) hT hW₁⟩)
  dsimp only [Pt.U, Pt.locs, Pt.cells, Pt.slots] at X' e1 e2 h1 h2 h3 st
  subst h1; subst h2; subst h3
  exact ⟨v, (T.setVm vm₁).calling g' mk As.toArray, t, U', L, hT, X', hL, e1, e2, hq, st⟩
/-- not caught here, past rows that name other classes: it goes on to the caller -/
theorem vx_outP {p : Program} {l : Launch} {e : Env} {R : Room} {s : State} {m : MethodId} {args : Array Value} {below : List Frame} {meth : Method} {c : Code} {H : Heap} {locs : List Loc} {cells slots : Nat} {free : Addr → Prop} {ls : Array Slot} {rest : List Value} {Qc : Array Value → State → Outcome → State → Prop} {XC : String → State → State → Prop}
    {pc : Nat} {own E : String} {ce : Cell} {q : Addr} {mc ms : Nat} (hown : s.vm.findClass own = some m.cls) (hlocks : meth.locks = false)
    (hpass : ∀ z ∈ c.exceptionTable.toList, covers z pc = false ∨ (z.catchType ≠ 0 ∧ ∃ nm : String, (Cond.classLink own z.catchType nm).before args s = true ∧ va_Nc E nm s)) (hcell : H[q]? = some ce) (hv : ce.vm = .none) (hcl : s.vm.findClass E = some ce.cls)
    (hx : ∀ t : State, t.heap = H → s.vm.Alike t.vm → XC E s t) (hf : ∀ z ∈ locs, free z.base) (hc : cells ≤ mc) (hs : slots ≤ ms) :
    vx_W p l e R s m args below meth c H locs cells slots (vx_MQ below Qc XC args s mc ms free) (F0 m pc ls rest) q := by
  intro T hT X
  have hpl : e.platform.magicAccessors = ({} : Platform).magicAccessors := by rw [X.admits.platform]
  obtain ⟨vm', hW', X', st⟩ := Stand.outThrough X hlocks q (g := F0 m pc ls rest) rfl rfl rfl (cell := ce) (by rw [hT]; exact hcell) (by rw [hv]; rfl)
    (by obtain ⟨k9, h9, -⟩ := Vm.findClass_spec hcl; exact ⟨k9, h9⟩) (fun z hz => by
      rcases hpass z hz with h | ⟨hz0, nm, hl1, hn1⟩
      · exact Or.inl h
      · obtain ⟨c6, hc6, hcl6⟩ := Cond.classLink_spec hown hl1 e.platform hpl
        obtain ⟨a8, b8, h1, h2, h3⟩ := hn1
        cases Option.some.inj (h1.symm.trans hcl)
        cases Option.some.inj (h2.symm.trans hc6)
        exact Or.inr ⟨hz0, _, hcl6, h3⟩)
  obtain ⟨g₀, hfr⟩ := X'.frames_eq
  have hcell9 : ((T.setVm vm').setFrames (.throwing q :: below)).heap[q]? = some ce := by
    show T.heap[q]? = some ce
    rw [hT]; exact hcell
  have hend : Ended ((T.setVm vm').setFrames (.throwing q :: below)) below (.threw q) := State.frames_setFrames _ (State.cur_lt_of_frames hfr)
  refine ⟨(T.setVm vm').setFrames (.throwing q :: below), ?_, .threw q, X'.here.running, hend, Or.inr ⟨q, rfl, E, ce, locs, hx _ hT (X'.ends _).1.alike, hcell9, hv, hcl, (X'.ends _).1, (X'.ends _).2.mono hc hs, hf⟩⟩
  rw [X.pushThrowing_eq]
  exact st
/-- a thing of a world lies in the heap -/
theorem vx_lt {D : va_G} {cl : List vw_C} {ws : va_W} {H1 : Heap} (h : va_P D cl ws H1) {k : Nat} {q : Nat × va_E} (hk : ws[k]? = some q) : q.1 < H1.size := (h k q hk).lt
end VXS
/-! ===== END ===== -/
/-! ===== BEGIN methods with a table of their own: called by a name, returning or throwing ===== -/
section VXH
/-! vx_backW, vx_callVX, vx_callSX, vx_callVW, vx_runVW, vx_runVX, vx_runSX, vx_ofWH follow the same proofs as their sisters above (Free/Laws.lean, Shelf42/LK1.lean); vx_outP calls Shelf42/NT130.lean (outThrough). -/
section
variable {l : Launch} {R : Room} {p : Program} {e : Env} {below : List Frame} {s : State} {sargs : Array Value} {y : MethodName} {len W9 : Nat}
theorem vx_backW {ws : List Cond} {rm : Room} {Pc : Array Value → State → Prop} {Qc : Array Value → State → Outcome → State → Prop} {XC : String → State → State → Prop} {mc ms : Nat} {free : Addr → Prop} {bytes : ByteArray} {maxL : Nat} {ret : Option FieldType} {hh : List (Nat × Nat × Nat × Nat)}
    (hM : vx_Met l y ws rm Pc Qc XC mc ms free) (hblind : FrameBlind Pc) (hrc : rm.cells = mc) (hrs : rm.slots = ms)
    (hframes : rm.frames + 1 ≤ R.frames) (hlocals : W9 + (maxL + 11) + rm.locals ≤ R.locals)
    (hws : ∀ w ∈ ws, ∀ a' U, s.WarmedH U.vm → w.before a' U = true) (hcode : Cond.codeWith y bytes maxL ret hh ∈ ws) (hinit : ∀ a' U, s.WarmedH U.vm → (Cond.initialized y.cls).before a' U = true) :
    vx_Back l R p e below s sargs y len W9 (PreOf R mc ms Pc) (PostOf Qc mc ms free) (vx_Post XC mc ms free) := by
  intro m meth c A g ig mk a X hg hsize hdg hW hn hp
  have h1 : (headSpec ws rm).pre.before a A.U = true := atoms_intro fun w hw => hws w hw _ _ X.warmed
  have h2 : (Cond.codeWith y bytes maxL ret hh).before a A.U = true := hws _ hcode _ _ X.warmed
  have h3 : (Cond.initialized y.cls).before a A.U = true := hinit _ _ X.warmed
  have h4 : A.cells + (headSpec ws rm).room.cells ≤ R.cells := by rw [show (headSpec ws rm).room.cells = mc from hrc]; exact hp.1
  have h5 : A.slots + (headSpec ws rm).room.slots ≤ R.slots := by rw [show (headSpec ws rm).room.slots = ms from hrs]; exact hp.2.1
  have hPc : Pc a (A.U.calling g mk a) := hblind _ _ _ _ hp.2.2
  obtain ⟨U, Ls, c0, s0⟩ := A
  dsimp only [Pt.U, Pt.locs, Pt.cells, Pt.slots] at h1 h2 h3 h4 h5 X hn hPc ⊢
  obtain ⟨m9, methY, cY, hn9, hmY, hcY, -, hlY, -⟩ := Cond.codeWith_spec h2
  cases Option.some.inj (hn9.symm.trans hn)
  obtain ⟨kY, hkY, -⟩ := className_of_methodNamed hn
  have hinitY : kY.init = .initialized := Cond.initialized_spec (findClass_of_methodNamed hn) hkY h3
  have h : At U g.method c below := by rw [hg]; exact X.here
  have hlocals9 : W9 + (maxL + 11) + (headSpec ws rm).room.locals ≤ R.locals := hlocals
  have happ : (headSpec ws rm).appliesLoose y e.platform (U.calling g mk a) = true :=
    Spec.appliesLoose_calling (g := g) h hdg hn hkY hinitY
      (X.room_calling (g := g) (R' := (headSpec ws rm).room) hsize hmY hcY hframes (by rw [hlY]; omega) h4 h5) h1
  obtain ⟨mid, hmid⟩ := h.above
  have hfr : (U.setTop g).frames = (.java g :: mid) ++ below := by rw [State.frames_setTop' g h.top, hmid]; rfl
  obtain ⟨o, s₂, hsteps, -, hend, hq⟩ := Steps.callFree hM p X.admits X.cas X.clock (acts := []) hfr happ hPc trivial
  have hq' : vx_Q Qc XC mc ms free a (U.calling g mk a) o s₂ := hq
  rw [State.frames_setTop' g h.top] at hend
  obtain ⟨g₀, hg0⟩ := Option.isSome_iff_exists.mp h.top
  obtain ⟨r, hr⟩ := State.topJava?_eq_some.mp hg0
  have hr' : (({ U with heap := s₂.heap, slotsUsed := s₂.slotsUsed } : State).setVm s₂.vm).frames = .java g₀ :: r := hr
  rcases hq' with ⟨hqc, L, hfe, hL⟩ | ⟨q, rfl, E, ce, L, hx, hce, hcv, hcl, hW₂, hsm, hL⟩
  · obtain ⟨⟨v, rfl⟩, hW₂, e2, q2, q3, q4, q5, q6⟩ := id hfe
    have e3 : s₂ = ({ (U.calling g mk a).setFrames s₂.frames with heap := s₂.heap, slotsUsed := s₂.slotsUsed } : State).setVm s₂.vm := by
      have : s₂ = ({ s₂ with vm := (U.calling g mk a).vm } : State).setVm s₂.vm := rfl
      rw [e2] at this
      exact this
    obtain ⟨c₂, i₂, len₂, hc₂, hd₂, hf₂⟩ := hend
    have hW' : U.WarmedH s₂.vm := hW₂
    have hcc : c₂ = c := by
      have h1 : s₂.code? g.method = U.code? g.method := by
        rw [State.code?_eq, State.code?_eq, hW'.alike.method?]
      exact Option.some.inj (hc₂.symm.trans (h1.trans h.code))
    subst hcc
    have hlen : len₂ = len := by rw [hdg] at hd₂; cases hd₂; rfl
    subst hlen
    have hs₂ : s₂ = (({ U with heap := s₂.heap, slotsUsed := s₂.slotsUsed } : State).setVm s₂.vm).setTop { g with pc := g.pc + len₂, stack := v.toList ++ g.stack } := by
      refine e3.trans ?_
      rw [hf₂, State.calling_eq h.top, State.setFrames_setFrames, State.setTop_of_frames _ hr', hr]
      rfl
    have hsame : U.sameButNew ({ U with heap := s₂.heap, slotsUsed := s₂.slotsUsed } : State) L mc ms := by
      refine ⟨?_, q2, q3, q4, q5, q6⟩
      obtain ⟨t, ht, -⟩ := State.frames_cons hr
      show ({ U with heap := s₂.heap, slotsUsed := s₂.slotsUsed } : State) = { U.setFrames U.frames with heap := s₂.heap, slotsUsed := s₂.slotsUsed }
      rw [State.setFrames_self ht]
    subst hg
    refine Or.inl ⟨v, ⟨(({ U with heap := s₂.heap, slotsUsed := s₂.slotsUsed } : State).setVm s₂.vm), Ls ++ L, c0 + mc, s0 + ms⟩,
      ⟨X.admits, X.cas, X.clock, X.frames, X.room, X.hears, X.method, X.code, (X.here.setHeapUsed s₂.heap s₂.slotsUsed).setVm hW'.alike, X.tail, State.WarmedH.trans X.warmed hW', X.limits, X.bytes, X.same.trans (hsame.setVm s.vm)⟩,
      ⟨g, mk, s₂, L, rfl, rfl, hqc, rfl, hL, rfl, rfl⟩, ?_⟩
    show Steps p.tables e below _ ((({ U with heap := s₂.heap, slotsUsed := s₂.slotsUsed } : State).setVm s₂.vm).setTop { g with pc := g.pc + len₂, stack := v.toList ++ g.stack })
    rw [← hs₂]
    exact hsteps
  · obtain ⟨e2, q2, q3, q4, q5, q6⟩ := id hsm
    have e3 : s₂ = ({ (U.calling g mk a).setFrames s₂.frames with heap := s₂.heap, slotsUsed := s₂.slotsUsed } : State).setVm s₂.vm := by
      have : s₂ = ({ s₂ with vm := (U.calling g mk a).vm } : State).setVm s₂.vm := rfl
      rw [e2] at this
      exact this
    have hf₂ : s₂.frames = .throwing q :: .java g :: U.frames.tail := hend
    have hW' : U.WarmedH s₂.vm := hW₂
    have hs₂ : s₂ = ((({ U with heap := s₂.heap, slotsUsed := s₂.slotsUsed } : State).setVm s₂.vm).setTop g).pushFrame (.throwing q) := by
      refine e3.trans ?_
      rw [hf₂, State.calling_eq h.top, State.setFrames_setFrames, State.pushFrame, State.frames_setTop _ hr', State.setTop_of_frames _ hr', State.setFrames_setFrames, hr]
      rfl
    have hsame : U.sameButNew ({ U with heap := s₂.heap, slotsUsed := s₂.slotsUsed } : State) L mc ms := by
      refine ⟨?_, q2, q3, q4, q5, q6⟩
      obtain ⟨t, ht, -⟩ := State.frames_cons hr
      show ({ U with heap := s₂.heap, slotsUsed := s₂.slotsUsed } : State) = { U.setFrames U.frames with heap := s₂.heap, slotsUsed := s₂.slotsUsed }
      rw [State.setFrames_self ht]
    subst hg
    refine Or.inr ⟨q, ⟨(({ U with heap := s₂.heap, slotsUsed := s₂.slotsUsed } : State).setVm s₂.vm), Ls ++ L, c0 + mc, s0 + ms⟩,
      ⟨X.admits, X.cas, X.clock, X.frames, X.room, X.hears, X.method, X.code, (X.here.setHeapUsed s₂.heap s₂.slotsUsed).setVm hW'.alike, X.tail, State.WarmedH.trans X.warmed hW', X.limits, X.bytes, X.same.trans (hsame.setVm s.vm)⟩,
      ⟨g, mk, s₂, L, E, ce, rfl, rfl, hx, hce, hcv, hcl, rfl, hL, rfl, rfl⟩, ?_⟩
    show Steps p.tables e below _ (((({ U with heap := s₂.heap, slotsUsed := s₂.slotsUsed } : State).setVm s₂.vm).setTop g).pushFrame (.throwing q))
    rw [← hs₂]
    exact hsteps
end
variable {p : Program} {l : Launch} {e : Env} {R : Room} {s : State} {m : MethodId} {args : Array Value} {below : List Frame} {meth : Method} {c : Code} {T : State} {H : Heap} {locs : List Loc} {cells slots : Nat}
theorem vx_callVX (X : Stand p l e R s m args below meth c T locs cells slots) (hexec : p.tables.exec = Jvm.exec) {own C : String} {index : Nat} {y : MethodName} {bytes : ByteArray} {maxL : Nat} {ret : Option FieldType} {hh : List (Nat × Nat × Nat × Nat)}
    (hown : s.vm.findClass own = some m.cls) (hlink : (Cond.methodLink own index y).before args s = true) (hinst : (Cond.instanceMethod y).before args s = true) (hsel : (Cond.selects C y y).before args s = true)
    (hcode : (Cond.codeWith y bytes maxL ret hh).before args s = true) (hy : y.cls ≠ "java/lang/invoke/MethodHandle" ∧ y.cls ≠ "java/lang/invoke/VarHandle")
    {W9 : Nat} {Pre : Pt → Array Value → Prop} {Post : Pt → Array Value → Option Value → Pt → Prop} {PostX : Pt → Array Value → Addr → Pt → Prop} (hK : vx_Back l R p e below s args y 3 W9 Pre Post PostX)
    {b : Addr} {cellB : Cell} (hcell : T.heap[b]? = some cellB) (hobj : cellB.vm.isStatics = false) (hcls : s.vm.findClass C = some cellB.cls)
    {g : JFrame} (hg : g.method = m) (hsize : g.locals.size = c.maxLocals) {argsL rest : List Value} (hlen : ∀ sig, parseMethodDescriptor y.desc = some sig → argsL.length = sig.parameters.length)
    (hstack : g.stack = argsL.reverse ++ .ref b :: rest) (hW : 2 * g.monitorRoom + (rest.map fun v => v.category).sum ≤ W9) (hdg : decode c.code g.pc = .ok (.invokevirtual index, 3))
    (hpre : ∀ vm₁, s.WarmedH vm₁ → Pre ⟨T.setVm vm₁, locs, cells, slots⟩ (Value.ref b :: argsL).toArray) :
    (∃ (v : Option Value) (vm₁ : Vm) (B : Pt), s.WarmedH vm₁ ∧ Stand p l e R s m args below meth c B.U B.locs B.cells B.slots ∧ Post ⟨T.setVm vm₁, locs, cells, slots⟩ (Value.ref b :: argsL).toArray v B ∧
      ∀ target, Steps p.tables e below (B.U.setTop { g with pc := g.pc + 3, stack := v.toList ++ rest }) target → Steps p.tables e below (T.setTop g) target) ∨
    (∃ (q : Addr) (vm₁ : Vm) (B : Pt), s.WarmedH vm₁ ∧ Stand p l e R s m args below meth c B.U B.locs B.cells B.slots ∧ PostX ⟨T.setVm vm₁, locs, cells, slots⟩ (Value.ref b :: argsL).toArray q B ∧
      Steps p.tables e below (T.setTop g) ((B.U.setTop { g with stack := rest }).pushFrame (.throwing q))) := by
  obtain ⟨mk, methM, hnamed, hmethM, hstM, habM⟩ := Cond.instanceMethod_spec hinst
  obtain ⟨m8, methM', cM, hn8, hmethM', -, -, -, -, -, -, hsigM⟩ := Cond.codeWith_spec hcode
  cases Option.some.inj (hn8.symm.trans hnamed)
  cases hmethM.symm.trans hmethM'
  obtain ⟨c2, r2, m2, q1, q2, q3, q4, kP, hkP, hkPi⟩ := Cond.selects_spec hsel
  cases hcls.symm.trans q1
  cases (State.methodFound?_of_named hnamed hy).symm.trans q2
  cases hnamed.symm.trans q3
  have hselP : selectMethod e.platform s.vm cellB.cls mk = .method mk := by rw [Launch.admits_selectMethod X.admits]; exact q4
  obtain ⟨vm₁, X₁, hstep₁⟩ := X.invokevirtual hexec hown hlink hnamed hmethM hstM hkP hkPi hy (a := b) (cell := cellB) hcell
    (fun z h => by rw [h] at hobj; cases hobj) hselP hmethM habM hkP hkPi (g := g) hg (argsL := argsL) (rest := rest) (hlen _ hsigM) hstack hdg
  rcases hK m meth c ⟨T.setVm vm₁, locs, cells, slots⟩ { g with stack := rest } (.invokevirtual index) mk (Value.ref b :: argsL).toArray X₁ hg hsize hdg hW (X₁.named hnamed) (hpre vm₁ X₁.warmed) with ⟨v, B, X', hpost, hsteps⟩ | ⟨q, B, X', hpost, hsteps⟩
  · exact Or.inl ⟨v, vm₁, B, X₁.warmed, X', hpost, fun target h => hstep₁ _ fun acts => by rw [doInvoke_state]; exact hsteps.trans h⟩
  · exact Or.inr ⟨q, vm₁, B, X₁.warmed, X', hpost, hstep₁ _ fun acts => by rw [doInvoke_state]; exact hsteps⟩
theorem vx_callSX (X : Stand p l e R s m args below meth c T locs cells slots) (hexec : p.tables.exec = Jvm.exec) {own : String} {index : Nat} {y : MethodName} {bytes : ByteArray} {maxL : Nat} {ret : Option FieldType} {hh : List (Nat × Nat × Nat × Nat)}
    (hown : s.vm.findClass own = some m.cls) (hlink : (Cond.methodLink own index y).before args s = true) (hstat : (Cond.static y).before args s = true) (hinit : (Cond.initialized y.cls).before args s = true)
    (hcode : (Cond.codeWith y bytes maxL ret hh).before args s = true) (hy : y.cls ≠ "java/lang/invoke/MethodHandle" ∧ y.cls ≠ "java/lang/invoke/VarHandle")
    {W9 : Nat} {Pre : Pt → Array Value → Prop} {Post : Pt → Array Value → Option Value → Pt → Prop} {PostX : Pt → Array Value → Addr → Pt → Prop} (hK : vx_Back l R p e below s args y 3 W9 Pre Post PostX)
    {g : JFrame} (hg : g.method = m) (hsize : g.locals.size = c.maxLocals) {argsL rest : List Value} (hlen : ∀ sig, parseMethodDescriptor y.desc = some sig → argsL.length = sig.parameters.length)
    (hstack : g.stack = argsL.reverse ++ rest) (hW : 2 * g.monitorRoom + (rest.map fun v => v.category).sum ≤ W9) (hdg : decode c.code g.pc = .ok (.invokestatic index, 3))
    (hpre : ∀ vm₁, s.WarmedH vm₁ → Pre ⟨T.setVm vm₁, locs, cells, slots⟩ argsL.toArray) :
    (∃ (v : Option Value) (vm₁ : Vm) (B : Pt), s.WarmedH vm₁ ∧ Stand p l e R s m args below meth c B.U B.locs B.cells B.slots ∧ Post ⟨T.setVm vm₁, locs, cells, slots⟩ argsL.toArray v B ∧
      ∀ target, Steps p.tables e below (B.U.setTop { g with pc := g.pc + 3, stack := v.toList ++ rest }) target → Steps p.tables e below (T.setTop g) target) ∨
    (∃ (q : Addr) (vm₁ : Vm) (B : Pt), s.WarmedH vm₁ ∧ Stand p l e R s m args below meth c B.U B.locs B.cells B.slots ∧ PostX ⟨T.setVm vm₁, locs, cells, slots⟩ argsL.toArray q B ∧
      Steps p.tables e below (T.setTop g) ((B.U.setTop { g with stack := rest }).pushFrame (.throwing q))) := by
  obtain ⟨mk, methM, cM, hnamed, hmethM, -, -, -, -, -, -, hsigM⟩ := Cond.codeWith_spec hcode
  have hstatic : methM.isStatic = true := Cond.static_spec hnamed hmethM hstat
  obtain ⟨kP, hkP, -⟩ := className_of_methodNamed hnamed
  have hinitP : kP.init = .initialized := Cond.initialized_spec (findClass_of_methodNamed hnamed) hkP hinit
  obtain ⟨vm₁, X₁, hstep₁⟩ := X.invokestatic hexec hown hlink hnamed hmethM hstatic hkP hinitP hy (g := g) hg (argsL := argsL) (rest := rest) (hlen _ hsigM) hstack hdg
  rcases hK m meth c ⟨T.setVm vm₁, locs, cells, slots⟩ { g with stack := rest } (.invokestatic index) mk argsL.toArray X₁ hg hsize hdg hW (X₁.named hnamed) (hpre vm₁ X₁.warmed) with ⟨v, B, X', hpost, hsteps⟩ | ⟨q, B, X', hpost, hsteps⟩
  · exact Or.inl ⟨v, vm₁, B, X₁.warmed, X', hpost, fun target h => hstep₁ _ fun acts => by rw [doInvoke_state]; exact hsteps.trans h⟩
  · exact Or.inr ⟨q, vm₁, B, X₁.warmed, X', hpost, hstep₁ _ fun acts => by rw [doInvoke_state]; exact hsteps⟩
theorem vx_callVW (X : Stand p l e R s m args below meth c T locs cells slots) (hexec : p.tables.exec = Jvm.exec) {own C : String} {index : Nat} {y : MethodName} {bytes : ByteArray} {maxL : Nat} {ret : Option FieldType} {hh : List (Nat × Nat × Nat × Nat)}
    (hown : s.vm.findClass own = some m.cls) (hlink : (Cond.methodLink own index y).before args s = true) (hinst : (Cond.instanceMethod y).before args s = true) (hsel : (Cond.selects C y y).before args s = true)
    (hcode : (Cond.codeWith y bytes maxL ret hh).before args s = true) (hy : y.cls ≠ "java/lang/invoke/MethodHandle" ∧ y.cls ≠ "java/lang/invoke/VarHandle")
    {W9 : Nat} {Pre : Pt → Array Value → Prop} {Post : Pt → Array Value → Option Value → Pt → Prop} (hK : Back l R p e below s args y 3 W9 Pre Post)
    {b : Addr} {cellB : Cell} (hcell : T.heap[b]? = some cellB) (hobj : cellB.vm.isStatics = false) (hcls : s.vm.findClass C = some cellB.cls)
    {g : JFrame} (hg : g.method = m) (hsize : g.locals.size = c.maxLocals) {argsL rest : List Value} (hlen : ∀ sig, parseMethodDescriptor y.desc = some sig → argsL.length = sig.parameters.length)
    (hstack : g.stack = argsL.reverse ++ .ref b :: rest) (hW : 2 * g.monitorRoom + (rest.map fun v => v.category).sum ≤ W9) (hdg : decode c.code g.pc = .ok (.invokevirtual index, 3))
    (hpre : ∀ vm₁, s.WarmedH vm₁ → Pre ⟨T.setVm vm₁, locs, cells, slots⟩ (Value.ref b :: argsL).toArray) :
    ∃ (v : Option Value) (vm₁ : Vm) (B : Pt), s.WarmedH vm₁ ∧ Stand p l e R s m args below meth c B.U B.locs B.cells B.slots ∧ Post ⟨T.setVm vm₁, locs, cells, slots⟩ (Value.ref b :: argsL).toArray v B ∧
      ∀ target, Steps p.tables e below (B.U.setTop { g with pc := g.pc + 3, stack := v.toList ++ rest }) target → Steps p.tables e below (T.setTop g) target := by
  obtain ⟨mk, methM, hnamed, hmethM, hstM, habM⟩ := Cond.instanceMethod_spec hinst
  obtain ⟨m8, methM', cM, hn8, hmethM', -, -, -, -, -, -, hsigM⟩ := Cond.codeWith_spec hcode
  cases Option.some.inj (hn8.symm.trans hnamed)
  cases hmethM.symm.trans hmethM'
  obtain ⟨c2, r2, m2, q1, q2, q3, q4, kP, hkP, hkPi⟩ := Cond.selects_spec hsel
  cases hcls.symm.trans q1
  cases (State.methodFound?_of_named hnamed hy).symm.trans q2
  cases hnamed.symm.trans q3
  have hselP : selectMethod e.platform s.vm cellB.cls mk = .method mk := by rw [Launch.admits_selectMethod X.admits]; exact q4
  obtain ⟨vm₁, X₁, hstep₁⟩ := X.invokevirtual hexec hown hlink hnamed hmethM hstM hkP hkPi hy (a := b) (cell := cellB) hcell
    (fun z h => by rw [h] at hobj; cases hobj) hselP hmethM habM hkP hkPi (g := g) hg (argsL := argsL) (rest := rest) (hlen _ hsigM) hstack hdg
  obtain ⟨v, B, X', hpost, hsteps⟩ := hK m meth c ⟨T.setVm vm₁, locs, cells, slots⟩ { g with stack := rest } (.invokevirtual index) mk (Value.ref b :: argsL).toArray X₁ hg hsize hdg hW (X₁.named hnamed) (hpre vm₁ X₁.warmed)
  exact ⟨v, vm₁, B, X₁.warmed, X', hpost, fun target h => hstep₁ _ fun acts => by rw [doInvoke_state]; exact hsteps.trans h⟩
abbrev vx_CVW (R : Room) (s : State) (args : Array Value) (own C : String) (index : Nat) (y : MethodName) (bytes : ByteArray) (maxL : Nat) (ret : Option FieldType) (hh : List (Nat × Nat × Nat × Nat)) (ws : List Cond) (rm : Room) (mc ms n : Nat) : Prop :=
  (rm.cells = mc ∧ rm.slots = ms ∧ rm.frames + 1 ≤ R.frames ∧ 8 + (maxL + 11) + rm.locals ≤ R.locals ∧ (∀ w ∈ ws, ∀ (a' : Array Value) (U : State), s.WarmedH U.vm → w.before a' U = true) ∧ Cond.codeWith y bytes maxL ret hh ∈ ws) ∧
  (Cond.codeWith y bytes maxL ret hh).before args s = true ∧ (Cond.initialized y.cls).before args s = true ∧ (y.cls ≠ "java/lang/invoke/MethodHandle" ∧ y.cls ≠ "java/lang/invoke/VarHandle") ∧
  (∀ sig, parseMethodDescriptor y.desc = some sig → n = sig.parameters.length) ∧ (Cond.methodLink own index y).before args s = true ∧ (Cond.instanceMethod y).before args s = true ∧ (Cond.selects C y y).before args s = true
theorem vx_cwVW {own C : String} {index maxL mc ms : Nat} {y : MethodName} {bytes : ByteArray} {ret : Option FieldType} {hh : List (Nat × Nat × Nat × Nat)} {Ts ws ws' : List Cond} {rm : Room} (n : Nat) (ht : ∀ w ∈ Ts, w.before args s = true) (hT : GoodIn Ts (wsV own index C y ws)) (hw : ws = Cond.codeWith y bytes maxL ret hh :: ws') (hrc : rm.cells = mc) (hrs : rm.slots = ms)
    (hd : y.cls = C ∧ y.cls ≠ "java/lang/invoke/MethodHandle" ∧ y.cls ≠ "java/lang/invoke/VarHandle" ∧ (parseMethodDescriptor y.desc).map (fun d => d.parameters.length) = some n) (hR : rm.frames + 1 ≤ R.frames ∧ 8 + (maxL + 11) + rm.locals ≤ R.locals) :
    vx_CVW R s args own C index y bytes maxL ret hh ws rm mc ms n := by
  obtain ⟨hC, hd⟩ := hd
  subst hC
  have ok : ∀ w ∈ wsV own index y.cls y ws, w.before args s = true := fun w h => ht w (hT w h).1
  have hG : GoodIn Ts ws := fun w h => hT w (by unfold wsV; exact List.mem_append_right _ h)
  have hc : Cond.codeWith y bytes maxL ret hh ∈ ws := by rw [hw]; exact List.mem_cons_self
  refine ⟨⟨hrc, hrs, hR.1, hR.2, pay_in ht hG, hc⟩, ht _ (hG _ hc).1, ok _ (by simp [wsV]), ⟨hd.1, hd.2.1⟩, fun sig h => ?_, ok _ (by simp [wsV]), ok _ (by simp [wsV]), ok _ (by simp [wsV])⟩
  have h2 := hd.2.2
  rw [h] at h2
  exact (Option.some.inj h2).symm
theorem vx_runVW {y : MethodName} {bytes cc : ByteArray} {maxL nL mc ms n index : Nat} {ret : Option FieldType} {hh : List (Nat × Nat × Nat × Nat)} {ws : List Cond} {rm : Room} {Pc : Array Value → State → Prop} {Qc : Array Value → State → Outcome → State → Prop} {free : Addr → Prop} {Ts : List Cond} {own C : String} {b : Addr} {As rest : List Value} {g : JFrame}
    (S : CallFix p m c cc nL s args Ts own) (hM : Met l y ws rm Pc Qc mc ms free) (cw : vx_CVW R s args own C index y bytes maxL ret hh ws rm mc ms n) (hp : PreV s H C b Pc As)
    (hg : g.method = m) (hn : As.length = n) (hsize : g.locals.size = nL) (hstack : g.stack = As.reverse ++ .ref b :: rest) (hW : 2 * g.monitorRoom + (rest.map fun v => v.category).sum ≤ 8) (hdg : decode cc g.pc = .ok (.invokevirtual index, 3)) (hf : cells + mc ≤ R.cells ∧ slots + ms ≤ R.slots) :
    va_Run p l e R s m args below meth c H locs cells slots mc ms g rest (Qc (Value.ref b :: As).toArray) free := by
  obtain ⟨⟨hrc, hrs, hfr, hlo, hws, hcw⟩, hcode, hini, hy, hlen, hl, hin, hse⟩ := cw
  have hK : Back l R p e below s args y 3 8 (PreOf R mc ms Pc) (PostOf Qc mc ms free) := va_backW (hh := hh) (bytes := bytes) (maxL := maxL) (ret := ret) hM hp.1 hrc hrs hfr hlo hws hcw (fun a' U hW => word_at hW (Or.inl (by first | rfl | simp [Cond.onTables, Cond.keeps, Cond.steady])) hini)
  obtain ⟨hx, hb, hml, ho, -⟩ := S
  obtain ⟨-, ⟨cellB, hcB, hoB, hclB⟩, hPc⟩ := hp
  intro T hT X
  obtain ⟨v, vm₁, ⟨U', l2, c2, s2⟩, hW₁, X', ⟨g', mk, t, L, e1, e2, hq, h1, hL, h2, h3⟩, st⟩ := vx_callVW X hx (C := C) (hh := hh) (bytes := bytes) (maxL := maxL) (ret := ret) ho hl hin hse hcode hy hK (by rw [hT]; exact hcB) hoB hclB hg (hsize.trans hml.symm) (argsL := As) (rest := rest) (fun sig h => hn.trans (hlen sig h)) hstack hW (by rw [hb]; exact hdg)
    (fun vm₁ hW₁ => ⟨hf.1, hf.2, hPc (T.setVm vm₁) hT hW₁⟩)
  dsimp only [Pt.U, Pt.locs, Pt.cells, Pt.slots] at X' e1 e2 h1 h2 h3 st
  subst h1; subst h2; subst h3
  exact ⟨v, (T.setVm vm₁).calling g' mk (Value.ref b :: As).toArray, t, U', L, hT, X', hL, e1, e2, hq, st⟩
section
variable {y : MethodName} {bytes cc : ByteArray} {maxL nL mc ms n index : Nat} {ret : Option FieldType} {ws : List Cond} {rm : Room} {Pc : Array Value → State → Prop} {Qc : Array Value → State → Outcome → State → Prop} {XC : String → State → State → Prop} {free : Addr → Prop} {Ts : List Cond} {own C : String} {b : Addr} {As rest : List Value} {g : JFrame}
theorem vx_runVX {hh : List (Nat × Nat × Nat × Nat)} (S : CallFix p m c cc nL s args Ts own) (hM : vx_Met l y ws rm Pc Qc XC mc ms free) (cw : vx_CVW R s args own C index y bytes maxL ret hh ws rm mc ms n) (hp : PreV s H C b Pc As)
    (hg : g.method = m) (hn : As.length = n) (hsize : g.locals.size = nL) (hstack : g.stack = As.reverse ++ .ref b :: rest) (hW : 2 * g.monitorRoom + (rest.map fun v => v.category).sum ≤ 8) (hdg : decode cc g.pc = .ok (.invokevirtual index, 3)) (hf : cells + mc ≤ R.cells ∧ slots + ms ≤ R.slots) :
    vx_Run p l e R s m args below meth c H locs cells slots mc ms g rest (Qc (Value.ref b :: As).toArray) XC free := by
  obtain ⟨⟨hrc, hrs, hfr, hlo, hws, hcw⟩, hcode, hini, hy, hlen, hl, hin, hse⟩ := cw
  have hK : vx_Back l R p e below s args y 3 8 (PreOf R mc ms Pc) (PostOf Qc mc ms free) (vx_Post XC mc ms free) := vx_backW (hh := hh) (bytes := bytes) (maxL := maxL) (ret := ret) hM hp.1 hrc hrs hfr hlo hws hcw (fun a' U hW => word_at hW (Or.inl (by first | rfl | simp [Cond.onTables, Cond.keeps, Cond.steady])) hini)
  obtain ⟨hx, hb, hml, ho, -⟩ := S
  obtain ⟨-, ⟨cellB, hcB, hoB, hclB⟩, hPc⟩ := hp
  intro T hT X
  rcases vx_callVX X hx (C := C) (hh := hh) (bytes := bytes) (maxL := maxL) (ret := ret) ho hl hin hse hcode hy hK (by rw [hT]; exact hcB) hoB hclB hg (hsize.trans hml.symm) (argsL := As) (rest := rest) (fun sig h => hn.trans (hlen sig h)) hstack hW (by rw [hb]; exact hdg)
    (fun vm₁ hW₁ => ⟨hf.1, hf.2, hPc (T.setVm vm₁) hT hW₁⟩) with ⟨v, vm₁, ⟨U', l2, c2, s2⟩, hW₁, X', ⟨g', mk, t, L, e1, e2, hq, h1, hL, h2, h3⟩, st⟩ | ⟨q, vm₁, ⟨U', l2, c2, s2⟩, hW₁, X', ⟨g', mk, t, L, E, ce, e1, e2, hq, hce, hcv, hcl, h1, hL, h2, h3⟩, st⟩
  · dsimp only [Pt.U, Pt.locs, Pt.cells, Pt.slots] at X' e1 e2 h1 h2 h3 st
    subst h1; subst h2; subst h3
    exact Or.inl ⟨v, (T.setVm vm₁).calling g' mk (Value.ref b :: As).toArray, t, U', L, hT, X', hL, e1, e2, hq, st⟩
  · dsimp only [Pt.U, Pt.locs, Pt.cells, Pt.slots] at X' e1 e2 h1 h2 h3 st hcl
    subst h1; subst h2; subst h3
    exact Or.inr ⟨q, (T.setVm vm₁).calling g' mk (Value.ref b :: As).toArray, t, U', L, E, ce, hT, X', hL, e1, e2, hq, hce, hcv, vx_cls hW₁ hcl, st⟩
theorem vx_runSX {hh : List (Nat × Nat × Nat × Nat)} (S : CallFix p m c cc nL s args Ts own) (hM : vx_Met l y ws rm Pc Qc XC mc ms free) (cw : vx_CSW R s args own index y bytes maxL ret hh ws rm mc ms n) (hp : PreS s H Pc As)
    (hg : g.method = m) (hn : As.length = n) (hsize : g.locals.size = nL) (hstack : g.stack = As.reverse ++ rest) (hW : 2 * g.monitorRoom + (rest.map fun v => v.category).sum ≤ 8) (hdg : decode cc g.pc = .ok (.invokestatic index, 3)) (hf : cells + mc ≤ R.cells ∧ slots + ms ≤ R.slots) :
    vx_Run p l e R s m args below meth c H locs cells slots mc ms g rest (Qc As.toArray) XC free := by
  obtain ⟨⟨hrc, hrs, hfr, hlo, hws, hcw⟩, hcode, hini, hy, hlen, hl, hstt⟩ := cw
  have hK : vx_Back l R p e below s args y 3 8 (PreOf R mc ms Pc) (PostOf Qc mc ms free) (vx_Post XC mc ms free) := vx_backW (hh := hh) (bytes := bytes) (maxL := maxL) (ret := ret) hM hp.1 hrc hrs hfr hlo hws hcw (fun a' U hW => word_at hW (Or.inl (by first | rfl | simp [Cond.onTables, Cond.keeps, Cond.steady])) hini)
  obtain ⟨hx, hb, hml, ho, -⟩ := S
  intro T hT X
  rcases vx_callSX X hx (hh := hh) (bytes := bytes) (maxL := maxL) (ret := ret) ho hl hstt hini hcode hy hK hg (hsize.trans hml.symm) (argsL := As) (rest := rest) (fun sig h => hn.trans (hlen sig h)) hstack hW (by rw [hb]; exact hdg)
    (fun vm₁ hW₁ => ⟨hf.1, hf.2, hp.2 (T.setVm vm₁) hT hW₁⟩) with ⟨v, vm₁, ⟨U', l2, c2, s2⟩, hW₁, X', ⟨g', mk, t, L, e1, e2, hq, h1, hL, h2, h3⟩, st⟩ | ⟨q, vm₁, ⟨U', l2, c2, s2⟩, hW₁, X', ⟨g', mk, t, L, E, ce, e1, e2, hq, hce, hcv, hcl, h1, hL, h2, h3⟩, st⟩
  · dsimp only [Pt.U, Pt.locs, Pt.cells, Pt.slots] at X' e1 e2 h1 h2 h3 st
    subst h1; subst h2; subst h3
    exact Or.inl ⟨v, (T.setVm vm₁).calling g' mk As.toArray, t, U', L, hT, X', hL, e1, e2, hq, st⟩
  · dsimp only [Pt.U, Pt.locs, Pt.cells, Pt.slots] at X' e1 e2 h1 h2 h3 st hcl
    subst h1; subst h2; subst h3
    exact Or.inr ⟨q, (T.setVm vm₁).calling g' mk As.toArray, t, U', L, E, ce, hT, X', hL, e1, e2, hq, hce, hcv, vx_cls hW₁ hcl, st⟩
end
end VXH
theorem vx_ofWH {l : Launch} {y : MethodName} {ws ws' : List Cond} {rm : Room} {Pc : Array Value → State → Prop} {Qc : Array Value → State → Outcome → State → Prop} {XC : String → State → State → Prop} {mc ms : Nat} {free : Addr → Prop} {cc : ByteArray} {maxL : Nat} {ret : Option FieldType} {hh : List (Nat × Nat × Nat × Nat)}
    (hy : plainName y.cls = true) (hw : ws = Cond.codeWith y cc maxL ret hh :: ws')
    (body : ∀ p e s m args below meth c s₁, BodyLoose p l y (headSpec ws rm) cc maxL ret e s m args below meth c s₁ → c.maxLocals = maxL → Pc args s →
      W p l e (headSpec ws rm).room s m args below meth c s.heap [] 0 0 (vx_MQ below Qc XC args s mc ms free) (entryFrame m args maxL)) : vx_Met l y ws rm Pc Qc XC mc ms free := by
  refine MetFree.of_bodyS (code := cc) (maxLocals := maxL) (ret := ret) hy ?_ ?_
  · intro args s m h hn
    obtain ⟨m9, meth, c, hn9, h1, h2, h3, h4, -, h5, h6, -⟩ := Cond.codeWith_spec (atoms_spec (ws := ws) h _ (by rw [hw]; exact List.mem_cons_self))
    cases hn.symm.trans hn9
    exact ⟨meth, c, h1, h2, h3, h4, h5, h6⟩
  · intro p e s m args below meth c s₁ B hml hP _
    have hh0 : s₁.heap = s.heap := by rw [B.state]; rfl
    obtain ⟨t, a1, o, b1, b2, b3⟩ := body p e s m args below meth c s₁ B hml hP s₁ hh0 (Stand.of_body B)
    exact ⟨t, o, a1, b1, b2, b3⟩
/-! ===== END ===== -/
end
section
def RX0 : String := "TalkNet$Claim"
def TX0 : u_T := fun k => match k with
  | 0 => ("TalkNet$Claim", "number", "I", false)
  | 1 => ("TalkNet$Claim", "denied", "Z", false)
  | 2 => ("TalkNet$Claim", "emergency", "Z", false)
  | _ => ("TalkNet$Claim", "priority", "I", false)
def tyX0 : Nat → FieldType := fun k => match k with
  | 0 => .int
  | 1 => .boolean
  | 2 => .boolean
  | _ => .int
abbrev wsX00 : List Cond := u_ws RX0 TX0 4
theorem nmX0 : ∀ a, a < 4 → ∀ b, b < 4 → a ≠ b → (TX0 a).2.1 ≠ (TX0 b).2.1 := by decide +kernel
theorem tyX0_ok : ∀ k, k < 4 → parseFieldDescriptor (TX0 k).2.2.1 = some (tyX0 k) := by decide +kernel
abbrev cX0_init : ByteArray := prog_2_method_1_code
def yX0_init : MethodName := ⟨RX0, "<init>", "()V"⟩
abbrev cX0_renew : ByteArray := prog_2_method_2_code
def yX0_renew : MethodName := ⟨RX0, "renew", "(IZI)V"⟩
abbrev cX0_isAbove : ByteArray := prog_2_method_3_code
def yX0_isAbove : MethodName := ⟨RX0, "isAbove", "(LTalkNet$Claim;)Z"⟩
def RX1 : String := "TalkNet$Floor"
def TX1 : u_T := fun k => match k with
  | 0 => ("TalkNet$Floor", "party", "LTalkNet$Party;", true)
  | 1 => ("TalkNet$Floor", "rules", "LTalkNet$Rules;", true)
  | 2 => ("TalkNet$Floor", "rulesOfGrant", "LTalkNet$Rules;", true)
  | 3 => ("TalkNet$Floor", "claims", "[LTalkNet$Claim;", true)
  | 4 => ("TalkNet$Floor", "row", "[I", true)
  | 5 => ("TalkNet$Floor", "waits", "I", false)
  | 6 => ("TalkNet$Floor", "grants", "I", false)
  | 7 => ("TalkNet$Floor", "holder", "I", false)
  | 8 => ("TalkNet$Floor", "since", "I", false)
  | 9 => ("TalkNet$Floor", "revokedAt", "I", false)
  | _ => ("TalkNet$Floor", "passedAt", "I", false)
def tyX1 : Nat → FieldType := fun k => match k with
  | 0 => .object "TalkNet$Party"
  | 1 => .object "TalkNet$Rules"
  | 2 => .object "TalkNet$Rules"
  | 3 => .array (.object "TalkNet$Claim")
  | 4 => .array .int
  | 5 => .int
  | 6 => .int
  | 7 => .int
  | 8 => .int
  | 9 => .int
  | _ => .int
abbrev wsX10 : List Cond := u_ws RX1 TX1 11
theorem nmX1 : ∀ a, a < 11 → ∀ b, b < 11 → a ≠ b → (TX1 a).2.1 ≠ (TX1 b).2.1 := by decide +kernel
theorem tyX1_ok : ∀ k, k < 11 → parseFieldDescriptor (TX1 k).2.2.1 = some (tyX1 k) := by decide +kernel
abbrev cX1_init : ByteArray := prog_3_method_1_code
def yX1_init : MethodName := ⟨RX1, "<init>", "(LTalkNet$Party;)V"⟩
abbrev cX1_hearRequest : ByteArray := prog_3_method_2_code
def yX1_hearRequest : MethodName := ⟨RX1, "hearRequest", "(IIZI)V"⟩
abbrev cX1_hearRelease : ByteArray := prog_3_method_3_code
def yX1_hearRelease : MethodName := ⟨RX1, "hearRelease", "(III)V"⟩
abbrev cX1_takeBack : ByteArray := prog_3_method_4_code
def yX1_takeBack : MethodName := ⟨RX1, "takeBack", "(II)V"⟩
abbrev cX1_passTime : ByteArray := prog_3_method_5_code
def yX1_passTime : MethodName := ⟨RX1, "passTime", "(I)V"⟩
abbrev cX1_hearPassed : ByteArray := prog_3_method_6_code
def yX1_hearPassed : MethodName := ⟨RX1, "hearPassed", "(II)V"⟩
abbrev cX1_isOver : ByteArray := prog_3_method_7_code
def yX1_isOver : MethodName := ⟨RX1, "isOver", "(I)Z"⟩
abbrev cX1_answerAgain : ByteArray := prog_3_method_8_code
def yX1_answerAgain : MethodName := ⟨RX1, "answerAgain", "(I)V"⟩
abbrev cX1_grantTo : ByteArray := prog_3_method_9_code
def yX1_grantTo : MethodName := ⟨RX1, "grantTo", "(II)V"⟩
abbrev cX1_enqueue : ByteArray := prog_3_method_10_code
def yX1_enqueue : MethodName := ⟨RX1, "enqueue", "(I)V"⟩
abbrev cX1_revokeIfBelow : ByteArray := prog_3_method_11_code
def yX1_revokeIfBelow : MethodName := ⟨RX1, "revokeIfBelow", "(LTalkNet$Claim;I)V"⟩
abbrev cX1_placeOf : ByteArray := prog_3_method_12_code
def yX1_placeOf : MethodName := ⟨RX1, "placeOf", "(I)I"⟩
abbrev cX1_goFromRow : ByteArray := prog_3_method_13_code
def yX1_goFromRow : MethodName := ⟨RX1, "goFromRow", "(I)V"⟩
abbrev cX1_field : ByteArray := prog_3_method_14_code
def yX1_field : MethodName := ⟨RX1, "field", "(I)I"⟩
def RX2 : String := "TalkNet$Gate"
def TX2 : u_T := fun k => match k with
  | 0 => ("TalkNet$Gate", "party", "LTalkNet$Party;", true)
  | 1 => ("TalkNet$Gate", "floor", "LTalkNet$Floor;", true)
  | 2 => ("TalkNet$Gate", "grant", "I", false)
  | 3 => ("TalkNet$Gate", "member", "I", false)
  | 4 => ("TalkNet$Gate", "passed", "I", false)
  | 5 => ("TalkNet$Gate", "stopped", "I", false)
  | _ => ("TalkNet$Gate", "passedBits", "J", false)
def tyX2 : Nat → FieldType := fun k => match k with
  | 0 => .object "TalkNet$Party"
  | 1 => .object "TalkNet$Floor"
  | 2 => .int
  | 3 => .int
  | 4 => .int
  | 5 => .int
  | _ => .long
abbrev wsX20 : List Cond := u_ws RX2 TX2 7
theorem nmX2 : ∀ a, a < 7 → ∀ b, b < 7 → a ≠ b → (TX2 a).2.1 ≠ (TX2 b).2.1 := by decide +kernel
theorem tyX2_ok : ∀ k, k < 7 → parseFieldDescriptor (TX2 k).2.2.1 = some (tyX2 k) := by decide +kernel
abbrev cX2_init : ByteArray := prog_4_method_1_code
def yX2_init : MethodName := ⟨RX2, "<init>", "(LTalkNet$Party;LTalkNet$Floor;)V"⟩
abbrev cX2_hearGate : ByteArray := prog_4_method_2_code
def yX2_hearGate : MethodName := ⟨RX2, "hearGate", "(II)V"⟩
abbrev cX2_hearUnit : ByteArray := prog_4_method_3_code
def yX2_hearUnit : MethodName := ⟨RX2, "hearUnit", "(IIIII)V"⟩
abbrev cX2_lets : ByteArray := prog_4_method_4_code
def yX2_lets : MethodName := ⟨RX2, "lets", "(III)Z"⟩
abbrev cX2_field : ByteArray := prog_4_method_5_code
def yX2_field : MethodName := ⟨RX2, "field", "(I)I"⟩
def RX3 : String := "TalkNet$Listener"
def TX3 : u_T := fun k => match k with
  | 0 => ("TalkNet$Listener", "grant", "I", false)
  | 1 => ("TalkNet$Listener", "goesOn", "Z", false)
  | 2 => ("TalkNet$Listener", "next", "I", false)
  | 3 => ("TalkNet$Listener", "since", "I", false)
  | 4 => ("TalkNet$Listener", "gapsInARow", "I", false)
  | 5 => ("TalkNet$Listener", "played", "I", false)
  | 6 => ("TalkNet$Listener", "gaps", "I", false)
  | 7 => ("TalkNet$Listener", "late", "I", false)
  | 8 => ("TalkNet$Listener", "sum", "I", false)
  | 9 => ("TalkNet$Listener", "keptBits", "I", false)
  | _ => ("TalkNet$Listener", "values", "[I", true)
def tyX3 : Nat → FieldType := fun k => match k with
  | 0 => .int
  | 1 => .boolean
  | 2 => .int
  | 3 => .int
  | 4 => .int
  | 5 => .int
  | 6 => .int
  | 7 => .int
  | 8 => .int
  | 9 => .int
  | _ => .array .int
abbrev wsX30 : List Cond := u_ws RX3 TX3 11
theorem nmX3 : ∀ a, a < 11 → ∀ b, b < 11 → a ≠ b → (TX3 a).2.1 ≠ (TX3 b).2.1 := by decide +kernel
theorem tyX3_ok : ∀ k, k < 11 → parseFieldDescriptor (TX3 k).2.2.1 = some (tyX3 k) := by decide +kernel
abbrev cX3_init : ByteArray := prog_5_method_1_code
def yX3_init : MethodName := ⟨RX3, "<init>", "()V"⟩
abbrev cX3_hear : ByteArray := prog_5_method_2_code
def yX3_hear : MethodName := ⟨RX3, "hear", "(IIII)V"⟩
abbrev cX3_begin : ByteArray := prog_5_method_3_code
def yX3_begin : MethodName := ⟨RX3, "begin", "(III)V"⟩
abbrev cX3_play : ByteArray := prog_5_method_4_code
def yX3_play : MethodName := ⟨RX3, "play", "(I)V"⟩
abbrev cX3_playUnit : ByteArray := prog_5_method_5_code
def yX3_playUnit : MethodName := ⟨RX3, "playUnit", "()V"⟩
abbrev cX3_playGap : ByteArray := prog_5_method_6_code
def yX3_playGap : MethodName := ⟨RX3, "playGap", "()V"⟩
abbrev cX3_addToSum : ByteArray := prog_5_method_7_code
def yX3_addToSum : MethodName := ⟨RX3, "addToSum", "(I)V"⟩
abbrev cX3_isKept : ByteArray := prog_5_method_8_code
def yX3_isKept : MethodName := ⟨RX3, "isKept", "(I)Z"⟩
abbrev cX3_bitOf : ByteArray := prog_5_method_9_code
def yX3_bitOf : MethodName := ⟨RX3, "bitOf", "(I)I"⟩
abbrev cX3_slotOf : ByteArray := prog_5_method_10_code
def yX3_slotOf : MethodName := ⟨RX3, "slotOf", "(I)I"⟩
abbrev cX3_field : ByteArray := prog_5_method_11_code
def yX3_field : MethodName := ⟨RX3, "field", "(I)I"⟩
def RX4 : String := "TalkNet$Member"
def TX4 : u_T := fun k => match k with
  | 0 => ("TalkNet$Member", "there", "Z", false)
  | 1 => ("TalkNet$Member", "priority", "I", false)
  | 2 => ("TalkNet$Member", "state", "I", false)
  | 3 => ("TalkNet$Member", "request", "I", false)
  | 4 => ("TalkNet$Member", "emergency", "Z", false)
  | 5 => ("TalkNet$Member", "place", "I", false)
  | 6 => ("TalkNet$Member", "grant", "I", false)
  | 7 => ("TalkNet$Member", "sent", "I", false)
  | 8 => ("TalkNet$Member", "seenGrant", "I", false)
  | 9 => ("TalkNet$Member", "seenTalker", "I", false)
  | _ => ("TalkNet$Member", "listener", "LTalkNet$Listener;", true)
def tyX4 : Nat → FieldType := fun k => match k with
  | 0 => .boolean
  | 1 => .int
  | 2 => .int
  | 3 => .int
  | 4 => .boolean
  | 5 => .int
  | 6 => .int
  | 7 => .int
  | 8 => .int
  | 9 => .int
  | _ => .object "TalkNet$Listener"
abbrev wsX40 : List Cond := u_ws RX4 TX4 11
theorem nmX4 : ∀ a, a < 11 → ∀ b, b < 11 → a ≠ b → (TX4 a).2.1 ≠ (TX4 b).2.1 := by decide +kernel
theorem tyX4_ok : ∀ k, k < 11 → parseFieldDescriptor (TX4 k).2.2.1 = some (tyX4 k) := by decide +kernel
abbrev cX4_init : ByteArray := prog_6_method_1_code
def yX4_init : MethodName := ⟨RX4, "<init>", "()V"⟩
abbrev cX4_isAsking : ByteArray := prog_6_method_2_code
def yX4_isAsking : MethodName := ⟨RX4, "isAsking", "()Z"⟩
abbrev cX4_isTalking : ByteArray := prog_6_method_3_code
def yX4_isTalking : MethodName := ⟨RX4, "isTalking", "()Z"⟩
abbrev cX4_goAway : ByteArray := prog_6_method_4_code
def yX4_goAway : MethodName := ⟨RX4, "goAway", "()V"⟩
abbrev cX4_hear : ByteArray := prog_6_method_5_code
def yX4_hear : MethodName := ⟨RX4, "hear", "(LTalkNet$Message;I)V"⟩
abbrev cX4_hearAnswer : ByteArray := prog_6_method_6_code
def yX4_hearAnswer : MethodName := ⟨RX4, "hearAnswer", "(LTalkNet$Message;)V"⟩
abbrev cX4_hearTalker : ByteArray := prog_6_method_7_code
def yX4_hearTalker : MethodName := ⟨RX4, "hearTalker", "(II)V"⟩
abbrev cX4_field : ByteArray := prog_6_method_8_code
def yX4_field : MethodName := ⟨RX4, "field", "(I)I"⟩
def RX5 : String := "TalkNet$Message"
def TX5 : u_T := fun k => match k with
  | 0 => ("TalkNet$Message", "kind", "I", false)
  | 1 => ("TalkNet$Message", "group", "I", false)
  | 2 => ("TalkNet$Message", "member", "I", false)
  | 3 => ("TalkNet$Message", "a", "I", false)
  | 4 => ("TalkNet$Message", "b", "I", false)
  | _ => ("TalkNet$Message", "c", "I", false)
def tyX5 : Nat → FieldType := fun k => match k with
  | 0 => .int
  | 1 => .int
  | 2 => .int
  | 3 => .int
  | 4 => .int
  | _ => .int
abbrev wsX50 : List Cond := u_ws RX5 TX5 6
theorem nmX5 : ∀ a, a < 6 → ∀ b, b < 6 → a ≠ b → (TX5 a).2.1 ≠ (TX5 b).2.1 := by decide +kernel
theorem tyX5_ok : ∀ k, k < 6 → parseFieldDescriptor (TX5 k).2.2.1 = some (tyX5 k) := by decide +kernel
abbrev cX5_init : ByteArray := prog_7_method_1_code
def yX5_init : MethodName := ⟨RX5, "<init>", "()V"⟩
abbrev cX5_field : ByteArray := prog_7_method_2_code
def yX5_field : MethodName := ⟨RX5, "field", "(I)I"⟩
def RX6 : String := "TalkNet$Net"
def TX6 : u_T := fun k => match k with
  | 0 => ("TalkNet$Net", "slots", "[LTalkNet$Message;", true)
  | 1 => ("TalkNet$Net", "order", "[I", true)
  | 2 => ("TalkNet$Net", "count", "I", false)
  | _ => ("TalkNet$Net", "lostOnes", "I", false)
def tyX6 : Nat → FieldType := fun k => match k with
  | 0 => .array (.object "TalkNet$Message")
  | 1 => .array .int
  | 2 => .int
  | _ => .int
abbrev wsX60 : List Cond := u_ws RX6 TX6 4
theorem nmX6 : ∀ a, a < 4 → ∀ b, b < 4 → a ≠ b → (TX6 a).2.1 ≠ (TX6 b).2.1 := by decide +kernel
theorem tyX6_ok : ∀ k, k < 4 → parseFieldDescriptor (TX6 k).2.2.1 = some (tyX6 k) := by decide +kernel
abbrev cX6_init : ByteArray := prog_8_method_1_code
def yX6_init : MethodName := ⟨RX6, "<init>", "()V"⟩
abbrev cX6_send : ByteArray := prog_8_method_2_code
def yX6_send : MethodName := ⟨RX6, "send", "(IIIIII)V"⟩
abbrev cX6_at : ByteArray := prog_8_method_3_code
def yX6_at : MethodName := ⟨RX6, "at", "(I)LTalkNet$Message;"⟩
abbrev cX6_takeOut : ByteArray := prog_8_method_4_code
def yX6_takeOut : MethodName := ⟨RX6, "takeOut", "(I)LTalkNet$Message;"⟩
def RX7 : String := "TalkNet$Party"
def TX7 : u_T := fun k => match k with
  | 0 => ("TalkNet$Party", "net", "LTalkNet$Net;", true)
  | 1 => ("TalkNet$Party", "group", "I", true)
  | _ => ("TalkNet$Party", "members", "[LTalkNet$Member;", true)
def tyX7 : Nat → FieldType := fun k => match k with
  | 0 => .object "TalkNet$Net"
  | 1 => .int
  | _ => .array (.object "TalkNet$Member")
abbrev wsX70 : List Cond := u_ws RX7 TX7 3
theorem nmX7 : ∀ a, a < 3 → ∀ b, b < 3 → a ≠ b → (TX7 a).2.1 ≠ (TX7 b).2.1 := by decide +kernel
theorem tyX7_ok : ∀ k, k < 3 → parseFieldDescriptor (TX7 k).2.2.1 = some (tyX7 k) := by decide +kernel
abbrev cX7_init : ByteArray := prog_9_method_1_code
def yX7_init : MethodName := ⟨RX7, "<init>", "(LTalkNet$Net;I)V"⟩
abbrev cX7_tell : ByteArray := prog_9_method_2_code
def yX7_tell : MethodName := ⟨RX7, "tell", "(IIII)V"⟩
abbrev cX7_tellOthers : ByteArray := prog_9_method_3_code
def yX7_tellOthers : MethodName := ⟨RX7, "tellOthers", "(IIIII)V"⟩
abbrev cX7_play : ByteArray := prog_9_method_4_code
def yX7_play : MethodName := ⟨RX7, "play", "(I)V"⟩
def RX8 : String := "TalkNet$Rules"
def TX8 : u_T := fun k => match k with
  | 0 => ("TalkNet$Rules", "preempts", "Z", false)
  | 1 => ("TalkNet$Rules", "longest", "I", false)
  | 2 => ("TalkNet$Rules", "idle", "I", false)
  | _ => ("TalkNet$Rules", "grace", "I", false)
def tyX8 : Nat → FieldType := fun k => match k with
  | 0 => .boolean
  | 1 => .int
  | 2 => .int
  | _ => .int
abbrev wsX80 : List Cond := u_ws RX8 TX8 4
theorem nmX8 : ∀ a, a < 4 → ∀ b, b < 4 → a ≠ b → (TX8 a).2.1 ≠ (TX8 b).2.1 := by decide +kernel
theorem tyX8_ok : ∀ k, k < 4 → parseFieldDescriptor (TX8 k).2.2.1 = some (tyX8 k) := by decide +kernel
abbrev cX8_init : ByteArray := prog_10_method_1_code
def yX8_init : MethodName := ⟨RX8, "<init>", "()V"⟩
abbrev cX8_set : ByteArray := prog_10_method_2_code
def yX8_set : MethodName := ⟨RX8, "set", "(ZIII)V"⟩
abbrev cX8_copyFrom : ByteArray := prog_10_method_3_code
def yX8_copyFrom : MethodName := ⟨RX8, "copyFrom", "(LTalkNet$Rules;)V"⟩
def RX9 : String := "TalkNet"
def TX9 : u_T := fun k => match k with
  | 0 => ("TalkNet", "net", "LTalkNet$Net;", true)
  | 1 => ("TalkNet", "parties", "[LTalkNet$Party;", true)
  | 2 => ("TalkNet", "floors", "[LTalkNet$Floor;", true)
  | 3 => ("TalkNet", "gates", "[LTalkNet$Gate;", true)
  | _ => ("TalkNet", "time", "I", false)
def tyX9 : Nat → FieldType := fun k => match k with
  | 0 => .object "TalkNet$Net"
  | 1 => .array (.object "TalkNet$Party")
  | 2 => .array (.object "TalkNet$Floor")
  | 3 => .array (.object "TalkNet$Gate")
  | _ => .int
abbrev wsX90 : List Cond := u_ws RX9 TX9 5
theorem nmX9 : ∀ a, a < 5 → ∀ b, b < 5 → a ≠ b → (TX9 a).2.1 ≠ (TX9 b).2.1 := by decide +kernel
theorem tyX9_ok : ∀ k, k < 5 → parseFieldDescriptor (TX9 k).2.2.1 = some (tyX9 k) := by decide +kernel
abbrev cX9_init : ByteArray := prog_1_method_1_code
def yX9_init : MethodName := ⟨RX9, "<init>", "()V"⟩
abbrev cX9_rules : ByteArray := prog_1_method_2_code
def yX9_rules : MethodName := ⟨RX9, "rules", "(IZIII)V"⟩
abbrev cX9_member : ByteArray := prog_1_method_3_code
def yX9_member : MethodName := ⟨RX9, "member", "(III)V"⟩
abbrev cX9_leave : ByteArray := prog_1_method_4_code
def yX9_leave : MethodName := ⟨RX9, "leave", "(II)Z"⟩
abbrev cX9_press : ByteArray := prog_1_method_5_code
def yX9_press : MethodName := ⟨RX9, "press", "(IIZ)I"⟩
abbrev cX9_again : ByteArray := prog_1_method_6_code
def yX9_again : MethodName := ⟨RX9, "again", "(II)V"⟩
abbrev cX9_release : ByteArray := prog_1_method_7_code
def yX9_release : MethodName := ⟨RX9, "release", "(II)V"⟩
abbrev cX9_unit : ByteArray := prog_1_method_8_code
def yX9_unit : MethodName := ⟨RX9, "unit", "(III)I"⟩
abbrev cX9_messages : ByteArray := prog_1_method_9_code
def yX9_messages : MethodName := ⟨RX9, "messages", "()I"⟩
abbrev cX9_message : ByteArray := prog_1_method_10_code
def yX9_message : MethodName := ⟨RX9, "message", "(II)I"⟩
abbrev cX9_carry : ByteArray := prog_1_method_11_code
def yX9_carry : MethodName := ⟨RX9, "carry", "(I)V"⟩
abbrev cX9_twice : ByteArray := prog_1_method_12_code
def yX9_twice : MethodName := ⟨RX9, "twice", "(I)V"⟩
abbrev cX9_drop : ByteArray := prog_1_method_13_code
def yX9_drop : MethodName := ⟨RX9, "drop", "(I)V"⟩
abbrev cX9_run : ByteArray := prog_1_method_14_code
def yX9_run : MethodName := ⟨RX9, "run", "(I)I"⟩
abbrev cX9_tick : ByteArray := prog_1_method_15_code
def yX9_tick : MethodName := ⟨RX9, "tick", "()I"⟩
abbrev cX9_server : ByteArray := prog_1_method_16_code
def yX9_server : MethodName := ⟨RX9, "server", "(II)I"⟩
abbrev cX9_waiting : ByteArray := prog_1_method_17_code
def yX9_waiting : MethodName := ⟨RX9, "waiting", "(II)I"⟩
abbrev cX9_relay : ByteArray := prog_1_method_18_code
def yX9_relay : MethodName := ⟨RX9, "relay", "(II)I"⟩
abbrev cX9_about : ByteArray := prog_1_method_19_code
def yX9_about : MethodName := ⟨RX9, "about", "(III)I"⟩
abbrev cX9_lost : ByteArray := prog_1_method_20_code
def yX9_lost : MethodName := ⟨RX9, "lost", "()I"⟩
abbrev cX9_sendRequest : ByteArray := prog_1_method_21_code
def yX9_sendRequest : MethodName := ⟨RX9, "sendRequest", "(IILTalkNet$Member;)V"⟩
abbrev cX9_deliver : ByteArray := prog_1_method_22_code
def yX9_deliver : MethodName := ⟨RX9, "deliver", "(LTalkNet$Message;)V"⟩
abbrev cX9_memberOf : ByteArray := prog_1_method_23_code
def yX9_memberOf : MethodName := ⟨RX9, "memberOf", "(II)LTalkNet$Member;"⟩
abbrev cX9_memberThere : ByteArray := prog_1_method_24_code
def yX9_memberThere : MethodName := ⟨RX9, "memberThere", "(II)LTalkNet$Member;"⟩
abbrev cX9_needMessage : ByteArray := prog_1_method_25_code
def yX9_needMessage : MethodName := ⟨RX9, "needMessage", "(I)V"⟩
abbrev cX9_needGroup : ByteArray := prog_1_method_26_code
def yX9_needGroup : MethodName := ⟨RX9, "needGroup", "(I)V"⟩
abbrev cX9_needArgument : ByteArray := prog_1_method_27_code
def yX9_needArgument : MethodName := ⟨RX9, "needArgument", "(III)V"⟩
abbrev cX9_needIndex : ByteArray := prog_1_method_28_code
def yX9_needIndex : MethodName := ⟨RX9, "needIndex", "(II)V"⟩
abbrev cX9_needState : ByteArray := prog_1_method_29_code
def yX9_needState : MethodName := ⟨RX9, "needState", "(Z)V"⟩
def RX10 : String := "TalkNetModel"
def TX10 : u_T := fun k => match k with
  | 0 => ("TalkNetModel", "thrown", "I", false)
  | 1 => ("TalkNetModel", "time", "I", false)
  | 2 => ("TalkNetModel", "lost", "I", false)
  | 3 => ("TalkNetModel", "messages", "I", false)
  | 4 => ("TalkNetModel", "row", "[I", true)
  | 5 => ("TalkNetModel", "there", "[Z", true)
  | 6 => ("TalkNetModel", "priority", "[I", true)
  | 7 => ("TalkNetModel", "state", "[I", true)
  | 8 => ("TalkNetModel", "request", "[I", true)
  | 9 => ("TalkNetModel", "emergency", "[Z", true)
  | 10 => ("TalkNetModel", "place", "[I", true)
  | 11 => ("TalkNetModel", "grant", "[I", true)
  | 12 => ("TalkNetModel", "sent", "[I", true)
  | 13 => ("TalkNetModel", "seen", "[I", true)
  | 14 => ("TalkNetModel", "talker", "[I", true)
  | 15 => ("TalkNetModel", "spurt", "[I", true)
  | 16 => ("TalkNetModel", "goesOn", "[Z", true)
  | 17 => ("TalkNetModel", "next", "[I", true)
  | 18 => ("TalkNetModel", "since", "[I", true)
  | 19 => ("TalkNetModel", "gapRow", "[I", true)
  | 20 => ("TalkNetModel", "played", "[I", true)
  | 21 => ("TalkNetModel", "gaps", "[I", true)
  | 22 => ("TalkNetModel", "late", "[I", true)
  | 23 => ("TalkNetModel", "sum", "[I", true)
  | 24 => ("TalkNetModel", "kept", "[Z", true)
  | 25 => ("TalkNetModel", "values", "[I", true)
  | 26 => ("TalkNetModel", "preempts", "[Z", true)
  | 27 => ("TalkNetModel", "longest", "[I", true)
  | 28 => ("TalkNetModel", "idle", "[I", true)
  | 29 => ("TalkNetModel", "grace", "[I", true)
  | 30 => ("TalkNetModel", "heldPreempts", "[Z", true)
  | 31 => ("TalkNetModel", "heldLongest", "[I", true)
  | 32 => ("TalkNetModel", "heldIdle", "[I", true)
  | 33 => ("TalkNetModel", "heldGrace", "[I", true)
  | 34 => ("TalkNetModel", "grants", "[I", true)
  | 35 => ("TalkNetModel", "holder", "[I", true)
  | 36 => ("TalkNetModel", "revoked", "[I", true)
  | 37 => ("TalkNetModel", "begun", "[I", true)
  | 38 => ("TalkNetModel", "passedAt", "[I", true)
  | 39 => ("TalkNetModel", "heard", "I", false)
  | 40 => ("TalkNetModel", "greatest", "[I", true)
  | 41 => ("TalkNetModel", "denied", "[Z", true)
  | 42 => ("TalkNetModel", "wishEmergency", "[Z", true)
  | 43 => ("TalkNetModel", "wishPriority", "[I", true)
  | 44 => ("TalkNetModel", "waits", "[I", true)
  | 45 => ("TalkNetModel", "gate", "[I", true)
  | 46 => ("TalkNetModel", "gateOf", "[I", true)
  | 47 => ("TalkNetModel", "passed", "[I", true)
  | 48 => ("TalkNetModel", "stopped", "[I", true)
  | _ => ("TalkNetModel", "unitPassed", "[Z", true)
def tyX10 : Nat → FieldType := fun k => match k with
  | 0 => .int
  | 1 => .int
  | 2 => .int
  | 3 => .int
  | 4 => .array .int
  | 5 => .array .boolean
  | 6 => .array .int
  | 7 => .array .int
  | 8 => .array .int
  | 9 => .array .boolean
  | 10 => .array .int
  | 11 => .array .int
  | 12 => .array .int
  | 13 => .array .int
  | 14 => .array .int
  | 15 => .array .int
  | 16 => .array .boolean
  | 17 => .array .int
  | 18 => .array .int
  | 19 => .array .int
  | 20 => .array .int
  | 21 => .array .int
  | 22 => .array .int
  | 23 => .array .int
  | 24 => .array .boolean
  | 25 => .array .int
  | 26 => .array .boolean
  | 27 => .array .int
  | 28 => .array .int
  | 29 => .array .int
  | 30 => .array .boolean
  | 31 => .array .int
  | 32 => .array .int
  | 33 => .array .int
  | 34 => .array .int
  | 35 => .array .int
  | 36 => .array .int
  | 37 => .array .int
  | 38 => .array .int
  | 39 => .int
  | 40 => .array .int
  | 41 => .array .boolean
  | 42 => .array .boolean
  | 43 => .array .int
  | 44 => .array .int
  | 45 => .array .int
  | 46 => .array .int
  | 47 => .array .int
  | 48 => .array .int
  | _ => .array .boolean
abbrev wsX100 : List Cond := u_ws RX10 TX10 50
theorem nmX10 : ∀ a, a < 50 → ∀ b, b < 50 → a ≠ b → (TX10 a).2.1 ≠ (TX10 b).2.1 := by decide +kernel
theorem tyX10_ok : ∀ k, k < 50 → parseFieldDescriptor (TX10 k).2.2.1 = some (tyX10 k) := by decide +kernel
abbrev cX10_init : ByteArray := prog_12_method_1_code
def yX10_init : MethodName := ⟨RX10, "<init>", "()V"⟩
abbrev cX10_thrown : ByteArray := prog_12_method_2_code
def yX10_thrown : MethodName := ⟨RX10, "thrown", "()I"⟩
abbrev cX10_within : ByteArray := prog_12_method_3_code
def yX10_within : MethodName := ⟨RX10, "within", "(III)Z"⟩
abbrev cX10_isMember : ByteArray := prog_12_method_4_code
def yX10_isMember : MethodName := ⟨RX10, "isMember", "(II)Z"⟩
abbrev cX10_send : ByteArray := prog_12_method_5_code
def yX10_send : MethodName := ⟨RX10, "send", "(IIIIII)V"⟩
abbrev cX10_rules : ByteArray := prog_12_method_6_code
def yX10_rules : MethodName := ⟨RX10, "rules", "(IZIII)V"⟩
abbrev cX10_member : ByteArray := prog_12_method_7_code
def yX10_member : MethodName := ⟨RX10, "member", "(III)V"⟩
abbrev cX10_leave : ByteArray := prog_12_method_8_code
def yX10_leave : MethodName := ⟨RX10, "leave", "(II)Z"⟩
abbrev cX10_ask : ByteArray := prog_12_method_9_code
def yX10_ask : MethodName := ⟨RX10, "ask", "(II)V"⟩
abbrev cX10_press : ByteArray := prog_12_method_10_code
def yX10_press : MethodName := ⟨RX10, "press", "(IIZ)I"⟩
abbrev cX10_again : ByteArray := prog_12_method_11_code
def yX10_again : MethodName := ⟨RX10, "again", "(II)V"⟩
abbrev cX10_release : ByteArray := prog_12_method_12_code
def yX10_release : MethodName := ⟨RX10, "release", "(II)V"⟩
abbrev cX10_unit : ByteArray := prog_12_method_13_code
def yX10_unit : MethodName := ⟨RX10, "unit", "(III)I"⟩
abbrev cX10_memberHears : ByteArray := prog_12_method_14_code
def yX10_memberHears : MethodName := ⟨RX10, "memberHears", "(IIIIII)V"⟩
abbrev cX10_listen : ByteArray := prog_12_method_15_code
def yX10_listen : MethodName := ⟨RX10, "listen", "(IIII)V"⟩
abbrev cX10_play : ByteArray := prog_12_method_16_code
def yX10_play : MethodName := ⟨RX10, "play", "(I)V"⟩
abbrev cX10_above : ByteArray := prog_12_method_17_code
def yX10_above : MethodName := ⟨RX10, "above", "(II)I"⟩
abbrev cX10_placeOf : ByteArray := prog_12_method_18_code
def yX10_placeOf : MethodName := ⟨RX10, "placeOf", "(I)I"⟩
abbrev cX10_waitCount : ByteArray := prog_12_method_19_code
def yX10_waitCount : MethodName := ⟨RX10, "waitCount", "(I)I"⟩
abbrev cX10_waitsAt : ByteArray := prog_12_method_20_code
def yX10_waitsAt : MethodName := ⟨RX10, "waitsAt", "(II)I"⟩
abbrev cX10_tellTalker : ByteArray := prog_12_method_21_code
def yX10_tellTalker : MethodName := ⟨RX10, "tellTalker", "(I)V"⟩
abbrev cX10_give : ByteArray := prog_12_method_22_code
def yX10_give : MethodName := ⟨RX10, "give", "(II)V"⟩
abbrev cX10_free : ByteArray := prog_12_method_23_code
def yX10_free : MethodName := ⟨RX10, "free", "(I)V"⟩
abbrev cX10_clear : ByteArray := prog_12_method_24_code
def yX10_clear : MethodName := ⟨RX10, "clear", "(II)V"⟩
abbrev cX10_requested : ByteArray := prog_12_method_25_code
def yX10_requested : MethodName := ⟨RX10, "requested", "(IIIZ)V"⟩
abbrev cX10_released : ByteArray := prog_12_method_26_code
def yX10_released : MethodName := ⟨RX10, "released", "(III)V"⟩
abbrev cX10_serverTick : ByteArray := prog_12_method_27_code
def yX10_serverTick : MethodName := ⟨RX10, "serverTick", "(I)V"⟩
abbrev cX10_gateComes : ByteArray := prog_12_method_28_code
def yX10_gateComes : MethodName := ⟨RX10, "gateComes", "(III)V"⟩
abbrev cX10_unitComes : ByteArray := prog_12_method_29_code
def yX10_unitComes : MethodName := ⟨RX10, "unitComes", "(IIIII)V"⟩
abbrev cX10_messages : ByteArray := prog_12_method_30_code
def yX10_messages : MethodName := ⟨RX10, "messages", "()I"⟩
abbrev cX10_isMessage : ByteArray := prog_12_method_31_code
def yX10_isMessage : MethodName := ⟨RX10, "isMessage", "(I)Z"⟩
abbrev cX10_message : ByteArray := prog_12_method_32_code
def yX10_message : MethodName := ⟨RX10, "message", "(II)I"⟩
abbrev cX10_comes : ByteArray := prog_12_method_33_code
def yX10_comes : MethodName := ⟨RX10, "comes", "(IZ)V"⟩
abbrev cX10_takeOut : ByteArray := prog_12_method_34_code
def yX10_takeOut : MethodName := ⟨RX10, "takeOut", "(I)V"⟩
abbrev cX10_carry : ByteArray := prog_12_method_35_code
def yX10_carry : MethodName := ⟨RX10, "carry", "(I)V"⟩
abbrev cX10_twice : ByteArray := prog_12_method_36_code
def yX10_twice : MethodName := ⟨RX10, "twice", "(I)V"⟩
abbrev cX10_drop : ByteArray := prog_12_method_37_code
def yX10_drop : MethodName := ⟨RX10, "drop", "(I)V"⟩
abbrev cX10_run : ByteArray := prog_12_method_38_code
def yX10_run : MethodName := ⟨RX10, "run", "(I)I"⟩
abbrev cX10_tick : ByteArray := prog_12_method_39_code
def yX10_tick : MethodName := ⟨RX10, "tick", "()I"⟩
abbrev cX10_server : ByteArray := prog_12_method_40_code
def yX10_server : MethodName := ⟨RX10, "server", "(II)I"⟩
abbrev cX10_waiting : ByteArray := prog_12_method_41_code
def yX10_waiting : MethodName := ⟨RX10, "waiting", "(II)I"⟩
abbrev cX10_relay : ByteArray := prog_12_method_42_code
def yX10_relay : MethodName := ⟨RX10, "relay", "(II)I"⟩
abbrev cX10_about : ByteArray := prog_12_method_43_code
def yX10_about : MethodName := ⟨RX10, "about", "(III)I"⟩
abbrev cX10_aboutSpurt : ByteArray := prog_12_method_44_code
def yX10_aboutSpurt : MethodName := ⟨RX10, "aboutSpurt", "(II)I"⟩
abbrev cX10_lost : ByteArray := prog_12_method_45_code
def yX10_lost : MethodName := ⟨RX10, "lost", "()I"⟩
def RJ10 : String := "java/lang/System"
def TJ10 : u_T := fun k => match k with
  | _ => ("", "", "", false)
def tyJ10 : Nat → FieldType := fun k => match k with
  | _ => .int
abbrev wsJ100 : List Cond := u_ws RJ10 TJ10 0
theorem nmJ10 : ∀ a, a < 0 → ∀ b, b < 0 → a ≠ b → (TJ10 a).2.1 ≠ (TJ10 b).2.1 := by decide +kernel
theorem tyJ10_ok : ∀ k, k < 0 → parseFieldDescriptor (TJ10 k).2.2.1 = some (tyJ10 k) := by decide +kernel
def RL : String := "TalkNetLaw"
abbrev cL_rules : ByteArray := method_3_code
def yL_rules : MethodName := ⟨RL, "rules", "(LTalkNet;IZIII)I"⟩
abbrev cL_member : ByteArray := method_4_code
def yL_member : MethodName := ⟨RL, "member", "(LTalkNet;III)I"⟩
abbrev cL_leave : ByteArray := method_5_code
def yL_leave : MethodName := ⟨RL, "leave", "(LTalkNet;II[J)I"⟩
abbrev cL_press : ByteArray := method_6_code
def yL_press : MethodName := ⟨RL, "press", "(LTalkNet;IIZ[J)I"⟩
abbrev cL_again : ByteArray := method_7_code
def yL_again : MethodName := ⟨RL, "again", "(LTalkNet;II)I"⟩
abbrev cL_release : ByteArray := method_8_code
def yL_release : MethodName := ⟨RL, "release", "(LTalkNet;II)I"⟩
abbrev cL_unit : ByteArray := method_9_code
def yL_unit : MethodName := ⟨RL, "unit", "(LTalkNet;III[J)I"⟩
abbrev cL_message : ByteArray := method_10_code
def yL_message : MethodName := ⟨RL, "message", "(LTalkNet;II[J)I"⟩
abbrev cL_carry : ByteArray := method_11_code
def yL_carry : MethodName := ⟨RL, "carry", "(LTalkNet;I)I"⟩
abbrev cL_twice : ByteArray := method_12_code
def yL_twice : MethodName := ⟨RL, "twice", "(LTalkNet;I)I"⟩
abbrev cL_drop : ByteArray := method_13_code
def yL_drop : MethodName := ⟨RL, "drop", "(LTalkNet;I)I"⟩
abbrev cL_run : ByteArray := method_14_code
def yL_run : MethodName := ⟨RL, "run", "(LTalkNet;I[J)I"⟩
abbrev cL_server : ByteArray := method_15_code
def yL_server : MethodName := ⟨RL, "server", "(LTalkNet;II[J)I"⟩
abbrev cL_waiting : ByteArray := method_16_code
def yL_waiting : MethodName := ⟨RL, "waiting", "(LTalkNet;II[J)I"⟩
abbrev cL_relay : ByteArray := method_17_code
def yL_relay : MethodName := ⟨RL, "relay", "(LTalkNet;II[J)I"⟩
abbrev cL_about : ByteArray := method_18_code
def yL_about : MethodName := ⟨RL, "about", "(LTalkNet;III[J)I"⟩
abbrev cL_law : ByteArray := code
def yL_law : MethodName := ⟨RL, "law", "([I)Z"⟩
abbrev vwCl : List vw_C := [(RX0, TX0, 4), (RX1, TX1, 11), (RX2, TX2, 7), (RX3, TX3, 11), (RX4, TX4, 11), (RX5, TX5, 6), (RX6, TX6, 4), (RX7, TX7, 3), (RX8, TX8, 4), (RX9, TX9, 5), (RX10, TX10, 50)]
end
section
def wsL_law0_r1 : List Cond := [Cond.classLink RL 8 RX9, Cond.instantiable RX9 5, Cond.initialized RX9, Cond.classLink RL 77 RX10, Cond.instantiable RX10 50, Cond.initialized RX10, Cond.arrayClass .long, Cond.methodLink RL 76 yX9_init, Cond.instanceMethod yX9_init, Cond.code yX9_init cX9_init 2 none, Cond.methodLink RX9 1 objectInit, Cond.instanceMethod objectInit, Cond.code objectInit ⟨#[0xb1]⟩ 1 none, Cond.classLink RX9 7 RX6, Cond.instantiable RX6 4, Cond.initialized RX6, Cond.fieldLink RX9 10 "TalkNet" "net" "LTalkNet$Net;", Cond.classLink RX9 16 RX7, Cond.fieldLink RX9 18 "TalkNet" "parties" "[LTalkNet$Party;", Cond.classLink RX9 22 RX1, Cond.fieldLink RX9 24 "TalkNet" "floors" "[LTalkNet$Floor;", Cond.classLink RX9 28 RX2, Cond.fieldLink RX9 30 "TalkNet" "gates" "[LTalkNet$Gate;", Cond.instantiable RX7 3]
def wsL_law0_r2 : List Cond := [Cond.initialized RX7, Cond.instantiable RX1 11, Cond.initialized RX1, Cond.instantiable RX2 7, Cond.initialized RX2, Cond.methodLink RX9 9 yX6_init, Cond.instanceMethod yX6_init, Cond.code yX6_init cX6_init 2 none, Cond.methodLink RX6 3 objectInit, Cond.classLink RX6 11 RX5, Cond.fieldLink RX6 13 "TalkNet$Net" "slots" "[LTalkNet$Message;", Cond.arrayClass .int, Cond.fieldLink RX6 17 "TalkNet$Net" "order" "[I", Cond.instantiable RX5 6, Cond.initialized RX5, Cond.instanceMethod yX5_init, Cond.code yX5_init cX5_init 1 none, Cond.methodLink RX5 1 objectInit, Cond.methodLink RX9 34 yX7_init, Cond.instanceMethod yX7_init, Cond.code yX7_init cX7_init 4 none, Cond.methodLink RX7 3 objectInit, Cond.fieldLink RX7 9 "TalkNet$Party" "net" "LTalkNet$Net;", Cond.fieldLink RX7 15 "TalkNet$Party" "group" "I"]
def wsL_law0_r3 : List Cond := [Cond.classLink RX7 19 RX4, Cond.fieldLink RX7 21 "TalkNet$Party" "members" "[LTalkNet$Member;", Cond.instantiable RX4 11, Cond.initialized RX4, Cond.instanceMethod yX4_init, Cond.code yX4_init cX4_init 1 none, Cond.methodLink RX4 3 objectInit, Cond.fieldLink RX4 9 "TalkNet$Member" "state" "I", Cond.fieldLink RX4 15 "TalkNet$Member" "seenTalker" "I", Cond.classLink RX4 18 RX3, Cond.instantiable RX3 11, Cond.initialized RX3, Cond.fieldLink RX4 21 "TalkNet$Member" "listener" "LTalkNet$Listener;", Cond.instanceMethod yX3_init, Cond.code yX3_init cX3_init 1 none, Cond.methodLink RX3 3 objectInit, Cond.fieldLink RX3 9 "TalkNet$Listener" "values" "[I", Cond.methodLink RX9 37 yX1_init, Cond.instanceMethod yX1_init, Cond.code yX1_init cX1_init 3 none, Cond.methodLink RX1 3 objectInit, Cond.classLink RX1 9 RX8, Cond.instantiable RX8 4, Cond.initialized RX8]
def wsL_law0_r4 : List Cond := [Cond.fieldLink RX1 12 "TalkNet$Floor" "rules" "LTalkNet$Rules;", Cond.fieldLink RX1 18 "TalkNet$Floor" "rulesOfGrant" "LTalkNet$Rules;", Cond.fieldLink RX1 21 "TalkNet$Floor" "row" "[I", Cond.fieldLink RX1 25 "TalkNet$Floor" "holder" "I", Cond.fieldLink RX1 29 "TalkNet$Floor" "since" "I", Cond.fieldLink RX1 32 "TalkNet$Floor" "revokedAt" "I", Cond.fieldLink RX1 35 "TalkNet$Floor" "passedAt" "I", Cond.fieldLink RX1 38 "TalkNet$Floor" "party" "LTalkNet$Party;", Cond.classLink RX1 42 RX0, Cond.fieldLink RX1 44 "TalkNet$Floor" "claims" "[LTalkNet$Claim;", Cond.instantiable RX0 4, Cond.initialized RX0, Cond.instanceMethod yX8_init, Cond.code yX8_init cX8_init 1 none, Cond.methodLink RX8 1 objectInit, Cond.fieldLink RX8 7 "TalkNet$Rules" "longest" "I", Cond.fieldLink RX8 13 "TalkNet$Rules" "idle" "I", Cond.fieldLink RX8 16 "TalkNet$Rules" "grace" "I", Cond.instanceMethod yX0_init, Cond.code yX0_init cX0_init 1 none, Cond.methodLink RX0 1 objectInit, Cond.methodLink RX9 40 yX2_init, Cond.instanceMethod yX2_init, Cond.code yX2_init cX2_init 3 none]
def wsL_law0_r5 : List Cond := [Cond.methodLink RX2 3 objectInit, Cond.fieldLink RX2 9 "TalkNet$Gate" "member" "I", Cond.fieldLink RX2 15 "TalkNet$Gate" "party" "LTalkNet$Party;", Cond.fieldLink RX2 19 "TalkNet$Gate" "floor" "LTalkNet$Floor;", Cond.methodLink RL 79 yX10_init, Cond.instanceMethod yX10_init, Cond.code yX10_init cX10_init 2 none, Cond.methodLink RX10 1 objectInit, Cond.fieldLink RX10 7 "TalkNetModel" "row" "[I", Cond.arrayClass .boolean, Cond.fieldLink RX10 13 "TalkNetModel" "there" "[Z", Cond.fieldLink RX10 17 "TalkNetModel" "priority" "[I", Cond.fieldLink RX10 20 "TalkNetModel" "state" "[I", Cond.fieldLink RX10 23 "TalkNetModel" "request" "[I", Cond.fieldLink RX10 26 "TalkNetModel" "emergency" "[Z", Cond.fieldLink RX10 29 "TalkNetModel" "place" "[I", Cond.fieldLink RX10 32 "TalkNetModel" "grant" "[I", Cond.fieldLink RX10 35 "TalkNetModel" "sent" "[I", Cond.fieldLink RX10 38 "TalkNetModel" "seen" "[I", Cond.fieldLink RX10 41 "TalkNetModel" "talker" "[I", Cond.fieldLink RX10 44 "TalkNetModel" "spurt" "[I", Cond.fieldLink RX10 47 "TalkNetModel" "goesOn" "[Z", Cond.fieldLink RX10 50 "TalkNetModel" "next" "[I", Cond.fieldLink RX10 53 "TalkNetModel" "since" "[I"]
def wsL_law0_r6 : List Cond := [Cond.fieldLink RX10 56 "TalkNetModel" "gapRow" "[I", Cond.fieldLink RX10 59 "TalkNetModel" "played" "[I", Cond.fieldLink RX10 62 "TalkNetModel" "gaps" "[I", Cond.fieldLink RX10 65 "TalkNetModel" "late" "[I", Cond.fieldLink RX10 68 "TalkNetModel" "sum" "[I", Cond.fieldLink RX10 71 "TalkNetModel" "kept" "[Z", Cond.fieldLink RX10 74 "TalkNetModel" "values" "[I", Cond.fieldLink RX10 77 "TalkNetModel" "preempts" "[Z", Cond.fieldLink RX10 80 "TalkNetModel" "longest" "[I", Cond.fieldLink RX10 83 "TalkNetModel" "idle" "[I", Cond.fieldLink RX10 86 "TalkNetModel" "grace" "[I", Cond.fieldLink RX10 89 "TalkNetModel" "heldPreempts" "[Z", Cond.fieldLink RX10 92 "TalkNetModel" "heldLongest" "[I", Cond.fieldLink RX10 95 "TalkNetModel" "heldIdle" "[I", Cond.fieldLink RX10 98 "TalkNetModel" "heldGrace" "[I", Cond.fieldLink RX10 101 "TalkNetModel" "grants" "[I", Cond.fieldLink RX10 104 "TalkNetModel" "holder" "[I", Cond.fieldLink RX10 107 "TalkNetModel" "revoked" "[I", Cond.fieldLink RX10 110 "TalkNetModel" "begun" "[I", Cond.fieldLink RX10 113 "TalkNetModel" "passedAt" "[I", Cond.fieldLink RX10 116 "TalkNetModel" "greatest" "[I", Cond.fieldLink RX10 119 "TalkNetModel" "denied" "[Z", Cond.fieldLink RX10 122 "TalkNetModel" "wishEmergency" "[Z", Cond.fieldLink RX10 125 "TalkNetModel" "wishPriority" "[I"]
def wsL_law0_r7 : List Cond := [Cond.fieldLink RX10 128 "TalkNetModel" "waits" "[I", Cond.fieldLink RX10 131 "TalkNetModel" "gate" "[I", Cond.fieldLink RX10 134 "TalkNetModel" "gateOf" "[I", Cond.fieldLink RX10 137 "TalkNetModel" "passed" "[I", Cond.fieldLink RX10 140 "TalkNetModel" "stopped" "[I", Cond.fieldLink RX10 143 "TalkNetModel" "unitPassed" "[Z", Cond.methodLink RL 80 yL_rules, Cond.static yL_rules, Cond.initialized RL, Cond.codeWith yL_rules cL_rules 7 (some .int) [(0, 11, 14, 13), (0, 11, 18, 15)], Cond.classLink RL 13 "java/util/NoSuchElementException", Cond.classLink RL 15 "java/lang/IllegalArgumentException", Cond.methodLink RL 7 yX9_rules, Cond.instanceMethod yX9_rules, Cond.selects RX9 yX9_rules yX9_rules, Cond.code yX9_rules cX9_rules 6 none, Cond.fieldLink RX9 51 "TalkNet$Floor" "rules" "LTalkNet$Rules;", Cond.methodLink RX9 43 yX9_needGroup, Cond.static yX9_needGroup, Cond.code yX9_needGroup cX9_needGroup 1 none, Cond.classLink RX9 217 "java/util/NoSuchElementException", Cond.initialized "java/util/NoSuchElementException", Cond.methodLink RX9 47 yX9_needArgument, Cond.static yX9_needArgument]
def wsL_law0_r8 : List Cond := [Cond.code yX9_needArgument cX9_needArgument 3 none, Cond.classLink RX9 220 "java/lang/IllegalArgumentException", Cond.initialized "java/lang/IllegalArgumentException", Cond.methodLink RX9 55 yX8_set, Cond.instanceMethod yX8_set, Cond.selects RX8 yX8_set yX8_set, Cond.code yX8_set cX8_set 5 none, Cond.fieldLink RX8 19 "TalkNet$Rules" "preempts" "Z", Cond.methodLink RL 85 yX10_rules, Cond.instanceMethod yX10_rules, Cond.selects RX10 yX10_rules yX10_rules, Cond.code yX10_rules cX10_rules 6 none, Cond.fieldLink RX10 146 "TalkNetModel" "thrown" "I", Cond.methodLink RX10 150 yX10_within, Cond.static yX10_within, Cond.code yX10_within cX10_within 3 (some .boolean), Cond.methodLink RL 86 yX10_thrown, Cond.instanceMethod yX10_thrown, Cond.selects RX10 yX10_thrown yX10_thrown, Cond.code yX10_thrown cX10_thrown 1 (some .int), Cond.methodLink RL 90 yL_member, Cond.static yL_member, Cond.codeWith yL_member cL_member 5 (some .int) [(0, 7, 10, 13), (0, 7, 14, 15)], Cond.methodLink RL 17 yX9_member]
def wsL_law0_r9 : List Cond := [Cond.instanceMethod yX9_member, Cond.selects RX9 yX9_member yX9_member, Cond.code yX9_member cX9_member 5 none, Cond.fieldLink RX9 65 "TalkNet$Member" "there" "Z", Cond.fieldLink RX9 71 "TalkNet$Member" "priority" "I", Cond.methodLink RX9 61 yX9_memberOf, Cond.instanceMethod yX9_memberOf, Cond.selects RX9 yX9_memberOf yX9_memberOf, Cond.code yX9_memberOf cX9_memberOf 3 (some (.object "TalkNet$Member")), Cond.fieldLink RX9 209 "TalkNet$Party" "members" "[LTalkNet$Member;", Cond.methodLink RL 93 yX10_member, Cond.instanceMethod yX10_member, Cond.selects RX10 yX10_member yX10_member, Cond.code yX10_member cX10_member 4 none, Cond.methodLink RX10 160 yX10_isMember, Cond.static yX10_isMember, Cond.code yX10_isMember cX10_isMember 2 (some .boolean), Cond.methodLink RL 94 yL_leave, Cond.static yL_leave, Cond.codeWith yL_leave cL_leave 5 (some .int) [(0, 17, 20, 13)], Cond.methodLink RL 21 yX9_leave, Cond.instanceMethod yX9_leave, Cond.selects RX9 yX9_leave yX9_leave, Cond.code yX9_leave cX9_leave 4 (some .boolean)]
def wsL_law0_r10 : List Cond := [Cond.fieldLink RX9 78 "TalkNet" "time" "I", Cond.methodLink RX9 75 yX4_goAway, Cond.instanceMethod yX4_goAway, Cond.selects RX4 yX4_goAway yX4_goAway, Cond.code yX4_goAway cX4_goAway 1 none, Cond.fieldLink RX4 25 "TalkNet$Member" "there" "Z", Cond.fieldLink RX4 29 "TalkNet$Listener" "goesOn" "Z", Cond.methodLink RX9 81 yX1_takeBack, Cond.instanceMethod yX1_takeBack, Cond.selects RX1 yX1_takeBack yX1_takeBack, Cond.code yX1_takeBack cX1_takeBack 4 none, Cond.fieldLink RX1 79 "TalkNet$Floor" "waits" "I", Cond.fieldLink RX1 106 "TalkNet$Floor" "grants" "I", Cond.methodLink RX1 99 yX1_placeOf, Cond.instanceMethod yX1_placeOf, Cond.selects RX1 yX1_placeOf yX1_placeOf, Cond.code yX1_placeOf cX1_placeOf 3 (some .int), Cond.methodLink RX1 103 yX1_goFromRow, Cond.instanceMethod yX1_goFromRow, Cond.selects RX1 yX1_goFromRow yX1_goFromRow, Cond.code yX1_goFromRow cX1_goFromRow 3 none, Cond.methodLink RX1 82 yX1_grantTo, Cond.instanceMethod yX1_grantTo, Cond.selects RX1 yX1_grantTo yX1_grantTo]
def wsL_law0_r11 : List Cond := [Cond.code yX1_grantTo cX1_grantTo 3 none, Cond.fieldLink RX1 61 "TalkNet$Claim" "number" "I", Cond.methodLink RX1 126 yX8_copyFrom, Cond.instanceMethod yX8_copyFrom, Cond.selects RX8 yX8_copyFrom yX8_copyFrom, Cond.code yX8_copyFrom cX8_copyFrom 2 none, Cond.methodLink RX8 23 yX8_set, Cond.methodLink RX1 88 yX7_tell, Cond.instanceMethod yX7_tell, Cond.selects RX7 yX7_tell yX7_tell, Cond.code yX7_tell cX7_tell 5 none, Cond.methodLink RX7 26 yX6_send, Cond.instanceMethod yX6_send, Cond.selects RX6 yX6_send yX6_send, Cond.code yX6_send cX6_send 8 none, Cond.fieldLink RX6 22 "TalkNet$Net" "count" "I", Cond.fieldLink RX6 26 "TalkNet$Net" "lostOnes" "I", Cond.fieldLink RX6 29 "TalkNet$Message" "kind" "I", Cond.fieldLink RX6 32 "TalkNet$Message" "group" "I", Cond.fieldLink RX6 35 "TalkNet$Message" "member" "I", Cond.fieldLink RX6 38 "TalkNet$Message" "a" "I", Cond.fieldLink RX6 41 "TalkNet$Message" "b" "I", Cond.fieldLink RX6 44 "TalkNet$Message" "c" "I", Cond.methodLink RX1 113 yX7_tellOthers]
def wsL_law0_r12 : List Cond := [Cond.instanceMethod yX7_tellOthers, Cond.selects RX7 yX7_tellOthers yX7_tellOthers, Cond.code yX7_tellOthers cX7_tellOthers 7 none, Cond.fieldLink RX7 32 "TalkNet$Member" "there" "Z", Cond.methodLink RL 97 yX10_leave, Cond.instanceMethod yX10_leave, Cond.selects RX10 yX10_leave yX10_leave, Cond.code yX10_leave cX10_leave 3 (some .boolean), Cond.methodLink RX10 164 yX10_clear, Cond.instanceMethod yX10_clear, Cond.selects RX10 yX10_clear yX10_clear, Cond.code yX10_clear cX10_clear 3 none, Cond.methodLink RX10 200 yX10_free, Cond.instanceMethod yX10_free, Cond.selects RX10 yX10_free yX10_free, Cond.code yX10_free cX10_free 3 none, Cond.methodLink RX10 194 yX10_waitsAt, Cond.instanceMethod yX10_waitsAt, Cond.selects RX10 yX10_waitsAt yX10_waitsAt, Cond.code yX10_waitsAt cX10_waitsAt 5 (some .int), Cond.methodLink RX10 186 yX10_placeOf, Cond.instanceMethod yX10_placeOf, Cond.selects RX10 yX10_placeOf yX10_placeOf, Cond.code yX10_placeOf cX10_placeOf 6 (some .int)]
def wsL_law0_r13 : List Cond := [Cond.methodLink RX10 182 yX10_above, Cond.instanceMethod yX10_above, Cond.selects RX10 yX10_above yX10_above, Cond.code yX10_above cX10_above 3 (some .int), Cond.methodLink RX10 197 yX10_give, Cond.instanceMethod yX10_give, Cond.selects RX10 yX10_give yX10_give, Cond.code yX10_give cX10_give 3 none, Cond.fieldLink RX10 179 "TalkNetModel" "time" "I", Cond.methodLink RX10 168 yX10_send, Cond.instanceMethod yX10_send, Cond.selects RX10 yX10_send yX10_send, Cond.code yX10_send cX10_send 8 none, Cond.fieldLink RX10 154 "TalkNetModel" "messages" "I", Cond.fieldLink RX10 157 "TalkNetModel" "lost" "I", Cond.methodLink RX10 190 yX10_tellTalker, Cond.instanceMethod yX10_tellTalker, Cond.selects RX10 yX10_tellTalker yX10_tellTalker, Cond.code yX10_tellTalker cX10_tellTalker 3 none, Cond.methodLink RL 98 yL_press, Cond.static yL_press, Cond.codeWith yL_press cL_press 6 (some .int) [(0, 12, 15, 13), (0, 12, 19, 29)], Cond.classLink RL 29 "java/lang/IllegalStateException", Cond.methodLink RL 25 yX9_press]
def wsL_law0_r14 : List Cond := [Cond.instanceMethod yX9_press, Cond.selects RX9 yX9_press yX9_press, Cond.code yX9_press cX9_press 5 (some .int), Cond.fieldLink RX9 88 "TalkNet$Member" "state" "I", Cond.fieldLink RX9 95 "TalkNet$Member" "request" "I", Cond.fieldLink RX9 98 "TalkNet$Member" "emergency" "Z", Cond.methodLink RX9 85 yX9_memberThere, Cond.instanceMethod yX9_memberThere, Cond.selects RX9 yX9_memberThere yX9_memberThere, Cond.code yX9_memberThere cX9_memberThere 4 (some (.object "TalkNet$Member")), Cond.methodLink RX9 91 yX9_needState, Cond.static yX9_needState, Cond.code yX9_needState cX9_needState 1 none, Cond.classLink RX9 226 "java/lang/IllegalStateException", Cond.initialized "java/lang/IllegalStateException", Cond.methodLink RX9 101 yX9_sendRequest, Cond.instanceMethod yX9_sendRequest, Cond.selects RX9 yX9_sendRequest yX9_sendRequest, Cond.code yX9_sendRequest cX9_sendRequest 4 none, Cond.methodLink RX9 109 yX6_send, Cond.methodLink RL 101 yX10_press, Cond.instanceMethod yX10_press, Cond.selects RX10 yX10_press yX10_press, Cond.code yX10_press cX10_press 5 (some .int)]
def wsL_law0_r15 : List Cond := [Cond.methodLink RX10 172 yX10_ask, Cond.instanceMethod yX10_ask, Cond.selects RX10 yX10_ask yX10_ask, Cond.code yX10_ask cX10_ask 4 none, Cond.methodLink RL 102 yL_again, Cond.static yL_again, Cond.codeWith yL_again cL_again 4 (some .int) [(0, 6, 9, 13), (0, 6, 12, 29)], Cond.methodLink RL 31 yX9_again, Cond.instanceMethod yX9_again, Cond.selects RX9 yX9_again yX9_again, Cond.code yX9_again cX9_again 4 none, Cond.methodLink RX9 105 yX4_isAsking, Cond.instanceMethod yX4_isAsking, Cond.selects RX4 yX4_isAsking yX4_isAsking, Cond.code yX4_isAsking cX4_isAsking 1 (some .boolean), Cond.methodLink RL 105 yX10_again, Cond.instanceMethod yX10_again, Cond.selects RX10 yX10_again yX10_again, Cond.code yX10_again cX10_again 4 none, Cond.methodLink RL 106 yL_release, Cond.static yL_release, Cond.codeWith yL_release cL_release 4 (some .int) [(0, 6, 9, 13), (0, 6, 12, 29)], Cond.methodLink RL 35 yX9_release, Cond.instanceMethod yX9_release]
def wsL_law0_r16 : List Cond := [Cond.selects RX9 yX9_release yX9_release, Cond.code yX9_release cX9_release 4 none, Cond.methodLink RL 108 yX10_release, Cond.instanceMethod yX10_release, Cond.selects RX10 yX10_release yX10_release, Cond.code yX10_release cX10_release 4 none, Cond.methodLink RL 109 yL_unit, Cond.static yL_unit, Cond.codeWith yL_unit cL_unit 6 (some .int) [(0, 12, 15, 13), (0, 12, 19, 29), (0, 12, 23, 42)], Cond.classLink RL 42 "java/lang/UnsupportedOperationException", Cond.methodLink RL 38 yX9_unit, Cond.instanceMethod yX9_unit, Cond.selects RX9 yX9_unit yX9_unit, Cond.code yX9_unit cX9_unit 6 (some .int), Cond.classLink RX9 119 "java/lang/UnsupportedOperationException", Cond.initialized "java/lang/UnsupportedOperationException", Cond.fieldLink RX9 116 "TalkNet$Member" "sent" "I", Cond.fieldLink RX9 122 "TalkNet$Member" "grant" "I", Cond.methodLink RX9 113 yX4_isTalking, Cond.instanceMethod yX4_isTalking, Cond.selects RX4 yX4_isTalking yX4_isTalking, Cond.code yX4_isTalking cX4_isTalking 1 (some .boolean), Cond.methodLink RL 112 yX10_unit, Cond.instanceMethod yX10_unit]
def wsL_law0_r17 : List Cond := [Cond.selects RX10 yX10_unit yX10_unit, Cond.code yX10_unit cX10_unit 5 (some .int), Cond.methodLink RL 113 yX9_messages, Cond.instanceMethod yX9_messages, Cond.selects RX9 yX9_messages yX9_messages, Cond.code yX9_messages cX9_messages 1 (some .int), Cond.fieldLink RX9 125 "TalkNet$Net" "count" "I", Cond.methodLink RL 116 yX10_messages, Cond.instanceMethod yX10_messages, Cond.selects RX10 yX10_messages yX10_messages, Cond.code yX10_messages cX10_messages 1 (some .int), Cond.methodLink RL 117 yL_message, Cond.static yL_message, Cond.codeWith yL_message cL_message 5 (some .int) [(0, 10, 13, 13), (0, 10, 17, 48)], Cond.classLink RL 48 "java/lang/IndexOutOfBoundsException", Cond.methodLink RL 44 yX9_message, Cond.instanceMethod yX9_message, Cond.selects RX9 yX9_message yX9_message, Cond.code yX9_message cX9_message 3 (some .int), Cond.methodLink RX9 128 yX9_needMessage, Cond.instanceMethod yX9_needMessage, Cond.selects RX9 yX9_needMessage yX9_needMessage, Cond.code yX9_needMessage cX9_needMessage 2 none, Cond.methodLink RX9 131 yX9_needIndex]
def wsL_law0_r18 : List Cond := [Cond.static yX9_needIndex, Cond.code yX9_needIndex cX9_needIndex 2 none, Cond.classLink RX9 223 "java/lang/IndexOutOfBoundsException", Cond.initialized "java/lang/IndexOutOfBoundsException", Cond.methodLink RX9 134 yX6_at, Cond.instanceMethod yX6_at, Cond.selects RX6 yX6_at yX6_at, Cond.code yX6_at cX6_at 2 (some (.object "TalkNet$Message")), Cond.methodLink RX9 138 yX5_field, Cond.instanceMethod yX5_field, Cond.selects RX5 yX5_field yX5_field, Cond.code yX5_field cX5_field 2 (some .int), Cond.fieldLink RX5 7 "TalkNet$Message" "kind" "I", Cond.fieldLink RX5 13 "TalkNet$Message" "group" "I", Cond.fieldLink RX5 16 "TalkNet$Message" "member" "I", Cond.fieldLink RX5 19 "TalkNet$Message" "a" "I", Cond.fieldLink RX5 22 "TalkNet$Message" "b" "I", Cond.fieldLink RX5 25 "TalkNet$Message" "c" "I", Cond.methodLink RL 119 yX10_message, Cond.instanceMethod yX10_message, Cond.selects RX10 yX10_message yX10_message, Cond.code yX10_message cX10_message 3 (some .int), Cond.methodLink RX10 209 yX10_isMessage, Cond.instanceMethod yX10_isMessage]
def wsL_law0_r19 : List Cond := [Cond.selects RX10 yX10_isMessage yX10_isMessage, Cond.code yX10_isMessage cX10_isMessage 2 (some .boolean), Cond.methodLink RL 120 yL_carry, Cond.static yL_carry, Cond.codeWith yL_carry cL_carry 3 (some .int) [(0, 5, 8, 13)], Cond.methodLink RL 50 yX9_carry, Cond.instanceMethod yX9_carry, Cond.selects RX9 yX9_carry yX9_carry, Cond.code yX9_carry cX9_carry 2 none, Cond.methodLink RX9 144 yX6_takeOut, Cond.instanceMethod yX6_takeOut, Cond.selects RX6 yX6_takeOut yX6_takeOut, Cond.code yX6_takeOut cX6_takeOut 3 (some (.object "TalkNet$Message")), Cond.methodLink RX6 47 arraycopyName, Cond.native arraycopyName, Cond.static arraycopyName, Cond.initialized "java/lang/System", Cond.methodLink RX9 147 yX9_deliver, Cond.instanceMethod yX9_deliver, Cond.selects RX9 yX9_deliver yX9_deliver, Cond.code yX9_deliver cX9_deliver 2 none, Cond.fieldLink RX9 177 "TalkNet$Message" "kind" "I", Cond.fieldLink RX9 180 "TalkNet$Message" "group" "I", Cond.fieldLink RX9 183 "TalkNet$Message" "member" "I"]
def wsL_law0_r20 : List Cond := [Cond.fieldLink RX9 186 "TalkNet$Message" "a" "I", Cond.fieldLink RX9 189 "TalkNet$Message" "b" "I", Cond.fieldLink RX9 202 "TalkNet$Message" "c" "I", Cond.methodLink RX9 192 yX1_hearRequest, Cond.instanceMethod yX1_hearRequest, Cond.selects RX1 yX1_hearRequest yX1_hearRequest, Cond.code yX1_hearRequest cX1_hearRequest 6 none, Cond.fieldLink RX1 49 "TalkNet$Party" "members" "[LTalkNet$Member;", Cond.fieldLink RX1 55 "TalkNet$Member" "there" "Z", Cond.fieldLink RX1 72 "TalkNet$Member" "priority" "I", Cond.fieldLink RX1 85 "TalkNet$Claim" "denied" "Z", Cond.methodLink RX1 64 yX1_answerAgain, Cond.instanceMethod yX1_answerAgain, Cond.selects RX1 yX1_answerAgain yX1_answerAgain, Cond.code yX1_answerAgain cX1_answerAgain 4 none, Cond.methodLink RX1 68 yX1_takeBack, Cond.methodLink RX1 75 yX0_renew, Cond.instanceMethod yX0_renew, Cond.selects RX0 yX0_renew yX0_renew, Cond.code yX0_renew cX0_renew 4 none, Cond.fieldLink RX0 7 "TalkNet$Claim" "number" "I", Cond.fieldLink RX0 13 "TalkNet$Claim" "denied" "Z", Cond.fieldLink RX0 17 "TalkNet$Claim" "emergency" "Z", Cond.fieldLink RX0 20 "TalkNet$Claim" "priority" "I"]
def wsL_law0_r21 : List Cond := [Cond.methodLink RX1 92 yX1_enqueue, Cond.instanceMethod yX1_enqueue, Cond.selects RX1 yX1_enqueue yX1_enqueue, Cond.code yX1_enqueue cX1_enqueue 4 none, Cond.methodLink RX1 130 yX0_isAbove, Cond.instanceMethod yX0_isAbove, Cond.selects RX0 yX0_isAbove yX0_isAbove, Cond.code yX0_isAbove cX0_isAbove 2 (some .boolean), Cond.methodLink RX1 95 yX1_revokeIfBelow, Cond.instanceMethod yX1_revokeIfBelow, Cond.selects RX1 yX1_revokeIfBelow yX1_revokeIfBelow, Cond.code yX1_revokeIfBelow cX1_revokeIfBelow 3 none, Cond.fieldLink RX1 134 "TalkNet$Rules" "preempts" "Z", Cond.methodLink RX9 196 yX1_hearRelease, Cond.instanceMethod yX1_hearRelease, Cond.selects RX1 yX1_hearRelease yX1_hearRelease, Cond.code yX1_hearRelease cX1_hearRelease 5 none, Cond.methodLink RX9 199 yX2_hearGate, Cond.instanceMethod yX2_hearGate, Cond.selects RX2 yX2_hearGate yX2_hearGate, Cond.code yX2_hearGate cX2_hearGate 3 none, Cond.fieldLink RX2 23 "TalkNet$Gate" "grant" "I", Cond.fieldLink RX2 26 "TalkNet$Gate" "passedBits" "J", Cond.methodLink RX9 205 yX2_hearUnit]
def wsL_law0_r22 : List Cond := [Cond.instanceMethod yX2_hearUnit, Cond.selects RX2 yX2_hearUnit yX2_hearUnit, Cond.code yX2_hearUnit cX2_hearUnit 6 none, Cond.fieldLink RX2 34 "TalkNet$Gate" "stopped" "I", Cond.fieldLink RX2 37 "TalkNet$Gate" "passed" "I", Cond.methodLink RX2 30 yX2_lets, Cond.instanceMethod yX2_lets, Cond.selects RX2 yX2_lets yX2_lets, Cond.code yX2_lets cX2_lets 4 (some .boolean), Cond.methodLink RX2 40 yX7_tellOthers, Cond.methodLink RX2 46 yX1_hearPassed, Cond.instanceMethod yX1_hearPassed, Cond.selects RX1 yX1_hearPassed yX1_hearPassed, Cond.code yX1_hearPassed cX1_hearPassed 3 none, Cond.methodLink RX9 213 yX4_hear, Cond.instanceMethod yX4_hear, Cond.selects RX4 yX4_hear yX4_hear, Cond.code yX4_hear cX4_hear 3 none, Cond.fieldLink RX4 32 "TalkNet$Message" "kind" "I", Cond.fieldLink RX4 41 "TalkNet$Member" "grant" "I", Cond.fieldLink RX4 44 "TalkNet$Message" "a" "I", Cond.fieldLink RX4 51 "TalkNet$Message" "b" "I", Cond.fieldLink RX4 58 "TalkNet$Message" "c" "I", Cond.methodLink RX4 37 yX4_hearAnswer]
def wsL_law0_r23 : List Cond := [Cond.instanceMethod yX4_hearAnswer, Cond.selects RX4 yX4_hearAnswer yX4_hearAnswer, Cond.code yX4_hearAnswer cX4_hearAnswer 2 none, Cond.fieldLink RX4 68 "TalkNet$Member" "request" "I", Cond.fieldLink RX4 71 "TalkNet$Member" "sent" "I", Cond.fieldLink RX4 74 "TalkNet$Member" "place" "I", Cond.methodLink RX4 65 yX4_isAsking, Cond.methodLink RX4 47 yX4_isTalking, Cond.methodLink RX4 54 yX4_hearTalker, Cond.instanceMethod yX4_hearTalker, Cond.selects RX4 yX4_hearTalker yX4_hearTalker, Cond.code yX4_hearTalker cX4_hearTalker 3 none, Cond.fieldLink RX4 77 "TalkNet$Member" "seenGrant" "I", Cond.methodLink RX4 61 yX3_hear, Cond.instanceMethod yX3_hear, Cond.selects RX3 yX3_hear yX3_hear, Cond.code yX3_hear cX3_hear 5 none, Cond.fieldLink RX3 15 "TalkNet$Listener" "grant" "I", Cond.fieldLink RX3 19 "TalkNet$Listener" "goesOn" "Z", Cond.fieldLink RX3 23 "TalkNet$Listener" "late" "I", Cond.fieldLink RX3 30 "TalkNet$Listener" "next" "I", Cond.fieldLink RX3 37 "TalkNet$Listener" "keptBits" "I", Cond.methodLink RX3 26 yX3_begin, Cond.instanceMethod yX3_begin]
def wsL_law0_r24 : List Cond := [Cond.selects RX3 yX3_begin yX3_begin, Cond.code yX3_begin cX3_begin 4 none, Cond.fieldLink RX3 47 "TalkNet$Listener" "since" "I", Cond.fieldLink RX3 50 "TalkNet$Listener" "gapsInARow" "I", Cond.methodLink RX3 33 yX3_isKept, Cond.instanceMethod yX3_isKept, Cond.selects RX3 yX3_isKept yX3_isKept, Cond.code yX3_isKept cX3_isKept 2 (some .boolean), Cond.methodLink RX3 40 yX3_bitOf, Cond.static yX3_bitOf, Cond.code yX3_bitOf cX3_bitOf 1 (some .int), Cond.methodLink RX3 44 yX3_slotOf, Cond.static yX3_slotOf, Cond.code yX3_slotOf cX3_slotOf 1 (some .int), Cond.methodLink RL 123 yX10_carry, Cond.instanceMethod yX10_carry, Cond.selects RX10 yX10_carry yX10_carry, Cond.code yX10_carry cX10_carry 2 none, Cond.methodLink RX10 234 yX10_comes, Cond.instanceMethod yX10_comes, Cond.selects RX10 yX10_comes yX10_comes, Cond.code yX10_comes cX10_comes 9 none, Cond.methodLink RX10 213 yX10_takeOut, Cond.instanceMethod yX10_takeOut]
def wsL_law0_r25 : List Cond := [Cond.selects RX10 yX10_takeOut yX10_takeOut, Cond.code yX10_takeOut cX10_takeOut 3 none, Cond.methodLink RX10 216 yX10_requested, Cond.instanceMethod yX10_requested, Cond.selects RX10 yX10_requested yX10_requested, Cond.code yX10_requested cX10_requested 6 none, Cond.fieldLink RX10 206 "TalkNetModel" "heard" "I", Cond.methodLink RX10 203 yX10_waitCount, Cond.instanceMethod yX10_waitCount, Cond.selects RX10 yX10_waitCount yX10_waitCount, Cond.code yX10_waitCount cX10_waitCount 4 (some .int), Cond.methodLink RX10 220 yX10_released, Cond.instanceMethod yX10_released, Cond.selects RX10 yX10_released yX10_released, Cond.code yX10_released cX10_released 5 none, Cond.methodLink RX10 224 yX10_gateComes, Cond.instanceMethod yX10_gateComes, Cond.selects RX10 yX10_gateComes yX10_gateComes, Cond.code yX10_gateComes cX10_gateComes 5 none, Cond.methodLink RX10 227 yX10_unitComes, Cond.instanceMethod yX10_unitComes, Cond.selects RX10 yX10_unitComes yX10_unitComes, Cond.code yX10_unitComes cX10_unitComes 8 none, Cond.methodLink RX10 231 yX10_memberHears]
def wsL_law0_r26 : List Cond := [Cond.instanceMethod yX10_memberHears, Cond.selects RX10 yX10_memberHears yX10_memberHears, Cond.code yX10_memberHears cX10_memberHears 11 none, Cond.methodLink RX10 175 yX10_listen, Cond.instanceMethod yX10_listen, Cond.selects RX10 yX10_listen yX10_listen, Cond.code yX10_listen cX10_listen 6 none, Cond.methodLink RL 124 yL_twice, Cond.static yL_twice, Cond.codeWith yL_twice cL_twice 3 (some .int) [(0, 5, 8, 13)], Cond.methodLink RL 54 yX9_twice, Cond.instanceMethod yX9_twice, Cond.selects RX9 yX9_twice yX9_twice, Cond.code yX9_twice cX9_twice 2 none, Cond.methodLink RL 126 yX10_twice, Cond.instanceMethod yX10_twice, Cond.selects RX10 yX10_twice yX10_twice, Cond.code yX10_twice cX10_twice 2 none, Cond.methodLink RL 127 yL_drop, Cond.static yL_drop, Cond.codeWith yL_drop cL_drop 3 (some .int) [(0, 5, 8, 13)], Cond.methodLink RL 57 yX9_drop, Cond.instanceMethod yX9_drop, Cond.selects RX9 yX9_drop yX9_drop]
def wsL_law0_r27 : List Cond := [Cond.code yX9_drop cX9_drop 2 none, Cond.methodLink RL 129 yX10_drop, Cond.instanceMethod yX10_drop, Cond.selects RX10 yX10_drop yX10_drop, Cond.code yX10_drop cX10_drop 2 none, Cond.methodLink RL 130 yL_run, Cond.static yL_run, Cond.codeWith yL_run cL_run 4 (some .int) [(0, 9, 12, 15)], Cond.methodLink RL 60 yX9_run, Cond.instanceMethod yX9_run, Cond.selects RX9 yX9_run yX9_run, Cond.code yX9_run cX9_run 3 (some .int), Cond.methodLink RL 133 yX10_run, Cond.instanceMethod yX10_run, Cond.selects RX10 yX10_run yX10_run, Cond.code yX10_run cX10_run 3 (some .int), Cond.methodLink RL 134 yX9_tick, Cond.instanceMethod yX9_tick, Cond.selects RX9 yX9_tick yX9_tick, Cond.code yX9_tick cX9_tick 2 (some .int), Cond.methodLink RX9 151 yX1_passTime, Cond.instanceMethod yX1_passTime, Cond.selects RX1 yX1_passTime yX1_passTime, Cond.code yX1_passTime cX1_passTime 2 none]
def wsL_law0_r28 : List Cond := [Cond.methodLink RX1 109 yX1_isOver, Cond.instanceMethod yX1_isOver, Cond.selects RX1 yX1_isOver yX1_isOver, Cond.code yX1_isOver cX1_isOver 3 (some .boolean), Cond.fieldLink RX1 117 "TalkNet$Rules" "grace" "I", Cond.fieldLink RX1 120 "TalkNet$Rules" "longest" "I", Cond.fieldLink RX1 123 "TalkNet$Rules" "idle" "I", Cond.methodLink RX9 154 yX7_play, Cond.instanceMethod yX7_play, Cond.selects RX7 yX7_play yX7_play, Cond.code yX7_play cX7_play 3 none, Cond.fieldLink RX7 36 "TalkNet$Member" "listener" "LTalkNet$Listener;", Cond.methodLink RX7 40 yX3_play, Cond.instanceMethod yX3_play, Cond.selects RX3 yX3_play yX3_play, Cond.code yX3_play cX3_play 2 none, Cond.methodLink RX3 53 yX3_playUnit, Cond.instanceMethod yX3_playUnit, Cond.selects RX3 yX3_playUnit yX3_playUnit, Cond.code yX3_playUnit cX3_playUnit 1 none, Cond.fieldLink RX3 59 "TalkNet$Listener" "played" "I", Cond.methodLink RX3 62 yX3_addToSum, Cond.instanceMethod yX3_addToSum, Cond.selects RX3 yX3_addToSum yX3_addToSum]
def wsL_law0_r29 : List Cond := [Cond.code yX3_addToSum cX3_addToSum 2 none, Cond.fieldLink RX3 69 "TalkNet$Listener" "sum" "I", Cond.methodLink RX3 56 yX3_playGap, Cond.instanceMethod yX3_playGap, Cond.selects RX3 yX3_playGap yX3_playGap, Cond.code yX3_playGap cX3_playGap 1 none, Cond.fieldLink RX3 66 "TalkNet$Listener" "gaps" "I", Cond.methodLink RL 137 yX10_tick, Cond.instanceMethod yX10_tick, Cond.selects RX10 yX10_tick yX10_tick, Cond.code yX10_tick cX10_tick 3 (some .int), Cond.methodLink RX10 238 yX10_serverTick, Cond.instanceMethod yX10_serverTick, Cond.selects RX10 yX10_serverTick yX10_serverTick, Cond.code yX10_serverTick cX10_serverTick 4 none, Cond.methodLink RX10 241 yX10_play, Cond.instanceMethod yX10_play, Cond.selects RX10 yX10_play yX10_play, Cond.code yX10_play cX10_play 4 none, Cond.methodLink RL 138 yL_server, Cond.static yL_server, Cond.codeWith yL_server cL_server 5 (some .int) [(0, 10, 13, 13), (0, 10, 17, 48)], Cond.methodLink RL 64 yX9_server, Cond.instanceMethod yX9_server]
def wsL_law0_r30 : List Cond := [Cond.selects RX9 yX9_server yX9_server, Cond.code yX9_server cX9_server 3 (some .int), Cond.methodLink RX9 157 yX1_field, Cond.instanceMethod yX1_field, Cond.selects RX1 yX1_field yX1_field, Cond.code yX1_field cX1_field 2 (some .int), Cond.methodLink RL 140 yX10_server, Cond.instanceMethod yX10_server, Cond.selects RX10 yX10_server yX10_server, Cond.code yX10_server cX10_server 3 (some .int), Cond.methodLink RL 141 yL_waiting, Cond.static yL_waiting, Cond.codeWith yL_waiting cL_waiting 5 (some .int) [(0, 10, 13, 13), (0, 10, 17, 48)], Cond.methodLink RL 67 yX9_waiting, Cond.instanceMethod yX9_waiting, Cond.selects RX9 yX9_waiting yX9_waiting, Cond.code yX9_waiting cX9_waiting 3 (some .int), Cond.fieldLink RX9 158 "TalkNet$Floor" "waits" "I", Cond.fieldLink RX9 161 "TalkNet$Floor" "row" "[I", Cond.methodLink RL 143 yX10_waiting, Cond.instanceMethod yX10_waiting, Cond.selects RX10 yX10_waiting yX10_waiting, Cond.code yX10_waiting cX10_waiting 3 (some .int), Cond.methodLink RL 144 yL_relay]
def wsL_law0_r31 : List Cond := [Cond.static yL_relay, Cond.codeWith yL_relay cL_relay 5 (some .int) [(0, 10, 13, 13), (0, 10, 17, 48)], Cond.methodLink RL 70 yX9_relay, Cond.instanceMethod yX9_relay, Cond.selects RX9 yX9_relay yX9_relay, Cond.code yX9_relay cX9_relay 3 (some .int), Cond.methodLink RX9 165 yX2_field, Cond.instanceMethod yX2_field, Cond.selects RX2 yX2_field yX2_field, Cond.code yX2_field cX2_field 2 (some .int), Cond.methodLink RL 146 yX10_relay, Cond.instanceMethod yX10_relay, Cond.selects RX10 yX10_relay yX10_relay, Cond.code yX10_relay cX10_relay 3 (some .int), Cond.methodLink RL 147 yL_about, Cond.static yL_about, Cond.codeWith yL_about cL_about 6 (some .int) [(0, 12, 15, 13), (0, 12, 19, 48)], Cond.methodLink RL 73 yX9_about, Cond.instanceMethod yX9_about, Cond.selects RX9 yX9_about yX9_about, Cond.code yX9_about cX9_about 5 (some .int), Cond.fieldLink RX9 167 "TalkNet$Member" "listener" "LTalkNet$Listener;", Cond.methodLink RX9 166 yX4_field, Cond.instanceMethod yX4_field]
def wsL_law0_r32 : List Cond := [Cond.selects RX4 yX4_field yX4_field, Cond.code yX4_field cX4_field 2 (some .int), Cond.fieldLink RX4 80 "TalkNet$Member" "priority" "I", Cond.methodLink RX9 171 yX3_field, Cond.instanceMethod yX3_field, Cond.selects RX3 yX3_field yX3_field, Cond.code yX3_field cX3_field 2 (some .int), Cond.methodLink RL 149 yX10_about, Cond.instanceMethod yX10_about, Cond.selects RX10 yX10_about yX10_about, Cond.code yX10_about cX10_about 5 (some .int), Cond.methodLink RX10 244 yX10_aboutSpurt, Cond.instanceMethod yX10_aboutSpurt, Cond.selects RX10 yX10_aboutSpurt yX10_aboutSpurt, Cond.code yX10_aboutSpurt cX10_aboutSpurt 3 (some .int), Cond.methodLink RL 150 yX9_lost, Cond.instanceMethod yX9_lost, Cond.selects RX9 yX9_lost yX9_lost, Cond.code yX9_lost cX9_lost 1 (some .int), Cond.fieldLink RX9 174 "TalkNet$Net" "lostOnes" "I", Cond.methodLink RL 153 yX10_lost, Cond.instanceMethod yX10_lost, Cond.selects RX10 yX10_lost yX10_lost, Cond.code yX10_lost cX10_lost 1 (some .int)]
def wsL_law0 : List Cond := (wsL_law0_r1 ++ (wsL_law0_r2 ++ (wsL_law0_r3 ++ (wsL_law0_r4 ++ (wsL_law0_r5 ++ (wsL_law0_r6 ++ (wsL_law0_r7 ++ (wsL_law0_r8 ++ (wsL_law0_r9 ++ (wsL_law0_r10 ++ (wsL_law0_r11 ++ (wsL_law0_r12 ++ (wsL_law0_r13 ++ (wsL_law0_r14 ++ (wsL_law0_r15 ++ (wsL_law0_r16 ++ (wsL_law0_r17 ++ (wsL_law0_r18 ++ (wsL_law0_r19 ++ (wsL_law0_r20 ++ (wsL_law0_r21 ++ (wsL_law0_r22 ++ (wsL_law0_r23 ++ (wsL_law0_r24 ++ (wsL_law0_r25 ++ (wsL_law0_r26 ++ (wsL_law0_r27 ++ (wsL_law0_r28 ++ (wsL_law0_r29 ++ (wsL_law0_r30 ++ (wsL_law0_r31 ++ wsL_law0_r32))))))))))))))))))))))))))))))) ++ wsX90 ++ wsX100 ++ wsX60 ++ wsX70 ++ wsX10 ++ wsX20 ++ wsX50 ++ wsX40 ++ wsX30 ++ wsX80 ++ wsX00 ++ ([] : List Cond)
def wsL_law : List Cond := wsL_law0 ++ (vx_at0 RX9 219 "java/util/NoSuchElementException" ["java/lang/RuntimeException", "java/lang/Exception"]).filter goodWord ++ (vx_at0 RX9 222 "java/lang/IllegalArgumentException" ["java/lang/RuntimeException", "java/lang/Exception"]).filter goodWord ++ (vx_at0 RX9 228 "java/lang/IllegalStateException" ["java/lang/RuntimeException", "java/lang/Exception"]).filter goodWord ++ (vx_at0 RX9 121 "java/lang/UnsupportedOperationException" ["java/lang/RuntimeException", "java/lang/Exception"]).filter goodWord ++ (vx_at0 RX9 225 "java/lang/IndexOutOfBoundsException" ["java/lang/RuntimeException", "java/lang/Exception"]).filter goodWord
end
section
theorem wm_1 : ∀ w ∈ wsL_law0_r1, w ∈ lw_tbl := by
  unfold wsL_law0_r1
  exact List.forall_mem_cons.mpr ⟨List.mem_of_getElem? (i := 64) (by decide +kernel), List.forall_mem_cons.mpr ⟨List.mem_of_getElem? (i := 65) (by decide +kernel), List.forall_mem_cons.mpr ⟨List.mem_of_getElem? (i := 44) (by decide +kernel), List.forall_mem_cons.mpr ⟨List.mem_of_getElem? (i := 855) (by decide +kernel), List.forall_mem_cons.mpr ⟨List.mem_of_getElem? (i := 856) (by decide +kernel), List.forall_mem_cons.mpr ⟨List.mem_of_getElem? (i := 54) (by decide +kernel), List.forall_mem_cons.mpr ⟨List.mem_of_getElem? (i := 1187) (by decide +kernel), List.forall_mem_cons.mpr ⟨List.mem_of_getElem? (i := 66) (by decide +kernel), List.forall_mem_cons.mpr ⟨List.mem_of_getElem? (i := 67) (by decide +kernel), List.forall_mem_cons.mpr ⟨List.mem_of_getElem? (i := 68) (by decide +kernel), List.forall_mem_cons.mpr ⟨List.mem_of_getElem? (i := 69) (by decide +kernel), List.forall_mem_cons.mpr ⟨List.mem_of_getElem? (i := 70) (by decide +kernel), List.forall_mem_cons.mpr ⟨List.mem_of_getElem? (i := 71) (by decide +kernel), List.forall_mem_cons.mpr ⟨List.mem_of_getElem? (i := 72) (by decide +kernel), List.forall_mem_cons.mpr ⟨List.mem_of_getElem? (i := 73) (by decide +kernel), List.forall_mem_cons.mpr ⟨List.mem_of_getElem? (i := 45) (by decide +kernel), List.forall_mem_cons.mpr ⟨List.mem_of_getElem? (i := 366) (by decide +kernel), List.forall_mem_cons.mpr ⟨List.mem_of_getElem? (i := 136) (by decide +kernel), List.forall_mem_cons.mpr ⟨List.mem_of_getElem? (i := 367) (by decide +kernel), List.forall_mem_cons.mpr ⟨List.mem_of_getElem? (i := 138) (by decide +kernel), List.forall_mem_cons.mpr ⟨List.mem_of_getElem? (i := 368) (by decide +kernel), List.forall_mem_cons.mpr ⟨List.mem_of_getElem? (i := 140) (by decide +kernel), List.forall_mem_cons.mpr ⟨List.mem_of_getElem? (i := 369) (by decide +kernel), List.forall_mem_cons.mpr ⟨List.mem_of_getElem? (i := 142) (by decide +kernel), fun _ h => absurd h List.not_mem_nil⟩⟩⟩⟩⟩⟩⟩⟩⟩⟩⟩⟩⟩⟩⟩⟩⟩⟩⟩⟩⟩⟩⟩⟩
theorem wm_2 : ∀ w ∈ wsL_law0_r2, w ∈ lw_tbl := by
  unfold wsL_law0_r2
  exact List.forall_mem_cons.mpr ⟨List.mem_of_getElem? (i := 47) (by decide +kernel), List.forall_mem_cons.mpr ⟨List.mem_of_getElem? (i := 252) (by decide +kernel), List.forall_mem_cons.mpr ⟨List.mem_of_getElem? (i := 50) (by decide +kernel), List.forall_mem_cons.mpr ⟨List.mem_of_getElem? (i := 339) (by decide +kernel), List.forall_mem_cons.mpr ⟨List.mem_of_getElem? (i := 53) (by decide +kernel), List.forall_mem_cons.mpr ⟨List.mem_of_getElem? (i := 74) (by decide +kernel), List.forall_mem_cons.mpr ⟨List.mem_of_getElem? (i := 75) (by decide +kernel), List.forall_mem_cons.mpr ⟨List.mem_of_getElem? (i := 76) (by decide +kernel), List.forall_mem_cons.mpr ⟨List.mem_of_getElem? (i := 77) (by decide +kernel), List.forall_mem_cons.mpr ⟨List.mem_of_getElem? (i := 78) (by decide +kernel), List.forall_mem_cons.mpr ⟨List.mem_of_getElem? (i := 121) (by decide +kernel), List.forall_mem_cons.mpr ⟨List.mem_of_getElem? (i := 120) (by decide +kernel), List.forall_mem_cons.mpr ⟨List.mem_of_getElem? (i := 122) (by decide +kernel), List.forall_mem_cons.mpr ⟨List.mem_of_getElem? (i := 80) (by decide +kernel), List.forall_mem_cons.mpr ⟨List.mem_of_getElem? (i := 46) (by decide +kernel), List.forall_mem_cons.mpr ⟨List.mem_of_getElem? (i := 82) (by decide +kernel), List.forall_mem_cons.mpr ⟨List.mem_of_getElem? (i := 83) (by decide +kernel), List.forall_mem_cons.mpr ⟨List.mem_of_getElem? (i := 84) (by decide +kernel), List.forall_mem_cons.mpr ⟨List.mem_of_getElem? (i := 143) (by decide +kernel), List.forall_mem_cons.mpr ⟨List.mem_of_getElem? (i := 144) (by decide +kernel), List.forall_mem_cons.mpr ⟨List.mem_of_getElem? (i := 145) (by decide +kernel), List.forall_mem_cons.mpr ⟨List.mem_of_getElem? (i := 146) (by decide +kernel), List.forall_mem_cons.mpr ⟨List.mem_of_getElem? (i := 240) (by decide +kernel), List.forall_mem_cons.mpr ⟨List.mem_of_getElem? (i := 241) (by decide +kernel), fun _ h => absurd h List.not_mem_nil⟩⟩⟩⟩⟩⟩⟩⟩⟩⟩⟩⟩⟩⟩⟩⟩⟩⟩⟩⟩⟩⟩⟩⟩
theorem wm_3 : ∀ w ∈ wsL_law0_r3, w ∈ lw_tbl := by
  unfold wsL_law0_r3
  exact List.forall_mem_cons.mpr ⟨List.mem_of_getElem? (i := 147) (by decide +kernel), List.forall_mem_cons.mpr ⟨List.mem_of_getElem? (i := 242) (by decide +kernel), List.forall_mem_cons.mpr ⟨List.mem_of_getElem? (i := 149) (by decide +kernel), List.forall_mem_cons.mpr ⟨List.mem_of_getElem? (i := 48) (by decide +kernel), List.forall_mem_cons.mpr ⟨List.mem_of_getElem? (i := 151) (by decide +kernel), List.forall_mem_cons.mpr ⟨List.mem_of_getElem? (i := 152) (by decide +kernel), List.forall_mem_cons.mpr ⟨List.mem_of_getElem? (i := 153) (by decide +kernel), List.forall_mem_cons.mpr ⟨List.mem_of_getElem? (i := 202) (by decide +kernel), List.forall_mem_cons.mpr ⟨List.mem_of_getElem? (i := 213) (by decide +kernel), List.forall_mem_cons.mpr ⟨List.mem_of_getElem? (i := 154) (by decide +kernel), List.forall_mem_cons.mpr ⟨List.mem_of_getElem? (i := 155) (by decide +kernel), List.forall_mem_cons.mpr ⟨List.mem_of_getElem? (i := 49) (by decide +kernel), List.forall_mem_cons.mpr ⟨List.mem_of_getElem? (i := 214) (by decide +kernel), List.forall_mem_cons.mpr ⟨List.mem_of_getElem? (i := 157) (by decide +kernel), List.forall_mem_cons.mpr ⟨List.mem_of_getElem? (i := 158) (by decide +kernel), List.forall_mem_cons.mpr ⟨List.mem_of_getElem? (i := 159) (by decide +kernel), List.forall_mem_cons.mpr ⟨List.mem_of_getElem? (i := 171) (by decide +kernel), List.forall_mem_cons.mpr ⟨List.mem_of_getElem? (i := 253) (by decide +kernel), List.forall_mem_cons.mpr ⟨List.mem_of_getElem? (i := 254) (by decide +kernel), List.forall_mem_cons.mpr ⟨List.mem_of_getElem? (i := 255) (by decide +kernel), List.forall_mem_cons.mpr ⟨List.mem_of_getElem? (i := 256) (by decide +kernel), List.forall_mem_cons.mpr ⟨List.mem_of_getElem? (i := 257) (by decide +kernel), List.forall_mem_cons.mpr ⟨List.mem_of_getElem? (i := 258) (by decide +kernel), List.forall_mem_cons.mpr ⟨List.mem_of_getElem? (i := 51) (by decide +kernel), fun _ h => absurd h List.not_mem_nil⟩⟩⟩⟩⟩⟩⟩⟩⟩⟩⟩⟩⟩⟩⟩⟩⟩⟩⟩⟩⟩⟩⟩⟩
theorem wm_4 : ∀ w ∈ wsL_law0_r4, w ∈ lw_tbl := by
  unfold wsL_law0_r4
  exact List.forall_mem_cons.mpr ⟨List.mem_of_getElem? (i := 303) (by decide +kernel), List.forall_mem_cons.mpr ⟨List.mem_of_getElem? (i := 305) (by decide +kernel), List.forall_mem_cons.mpr ⟨List.mem_of_getElem? (i := 307) (by decide +kernel), List.forall_mem_cons.mpr ⟨List.mem_of_getElem? (i := 312) (by decide +kernel), List.forall_mem_cons.mpr ⟨List.mem_of_getElem? (i := 313) (by decide +kernel), List.forall_mem_cons.mpr ⟨List.mem_of_getElem? (i := 314) (by decide +kernel), List.forall_mem_cons.mpr ⟨List.mem_of_getElem? (i := 315) (by decide +kernel), List.forall_mem_cons.mpr ⟨List.mem_of_getElem? (i := 302) (by decide +kernel), List.forall_mem_cons.mpr ⟨List.mem_of_getElem? (i := 280) (by decide +kernel), List.forall_mem_cons.mpr ⟨List.mem_of_getElem? (i := 306) (by decide +kernel), List.forall_mem_cons.mpr ⟨List.mem_of_getElem? (i := 282) (by decide +kernel), List.forall_mem_cons.mpr ⟨List.mem_of_getElem? (i := 52) (by decide +kernel), List.forall_mem_cons.mpr ⟨List.mem_of_getElem? (i := 260) (by decide +kernel), List.forall_mem_cons.mpr ⟨List.mem_of_getElem? (i := 261) (by decide +kernel), List.forall_mem_cons.mpr ⟨List.mem_of_getElem? (i := 262) (by decide +kernel), List.forall_mem_cons.mpr ⟨List.mem_of_getElem? (i := 265) (by decide +kernel), List.forall_mem_cons.mpr ⟨List.mem_of_getElem? (i := 267) (by decide +kernel), List.forall_mem_cons.mpr ⟨List.mem_of_getElem? (i := 269) (by decide +kernel), List.forall_mem_cons.mpr ⟨List.mem_of_getElem? (i := 284) (by decide +kernel), List.forall_mem_cons.mpr ⟨List.mem_of_getElem? (i := 285) (by decide +kernel), List.forall_mem_cons.mpr ⟨List.mem_of_getElem? (i := 286) (by decide +kernel), List.forall_mem_cons.mpr ⟨List.mem_of_getElem? (i := 340) (by decide +kernel), List.forall_mem_cons.mpr ⟨List.mem_of_getElem? (i := 341) (by decide +kernel), List.forall_mem_cons.mpr ⟨List.mem_of_getElem? (i := 342) (by decide +kernel), fun _ h => absurd h List.not_mem_nil⟩⟩⟩⟩⟩⟩⟩⟩⟩⟩⟩⟩⟩⟩⟩⟩⟩⟩⟩⟩⟩⟩⟩⟩
theorem wm_5 : ∀ w ∈ wsL_law0_r5, w ∈ lw_tbl := by
  unfold wsL_law0_r5
  exact List.forall_mem_cons.mpr ⟨List.mem_of_getElem? (i := 343) (by decide +kernel), List.forall_mem_cons.mpr ⟨List.mem_of_getElem? (i := 347) (by decide +kernel), List.forall_mem_cons.mpr ⟨List.mem_of_getElem? (i := 344) (by decide +kernel), List.forall_mem_cons.mpr ⟨List.mem_of_getElem? (i := 345) (by decide +kernel), List.forall_mem_cons.mpr ⟨List.mem_of_getElem? (i := 857) (by decide +kernel), List.forall_mem_cons.mpr ⟨List.mem_of_getElem? (i := 858) (by decide +kernel), List.forall_mem_cons.mpr ⟨List.mem_of_getElem? (i := 859) (by decide +kernel), List.forall_mem_cons.mpr ⟨List.mem_of_getElem? (i := 860) (by decide +kernel), List.forall_mem_cons.mpr ⟨List.mem_of_getElem? (i := 865) (by decide +kernel), List.forall_mem_cons.mpr ⟨List.mem_of_getElem? (i := 1012) (by decide +kernel), List.forall_mem_cons.mpr ⟨List.mem_of_getElem? (i := 866) (by decide +kernel), List.forall_mem_cons.mpr ⟨List.mem_of_getElem? (i := 867) (by decide +kernel), List.forall_mem_cons.mpr ⟨List.mem_of_getElem? (i := 868) (by decide +kernel), List.forall_mem_cons.mpr ⟨List.mem_of_getElem? (i := 869) (by decide +kernel), List.forall_mem_cons.mpr ⟨List.mem_of_getElem? (i := 870) (by decide +kernel), List.forall_mem_cons.mpr ⟨List.mem_of_getElem? (i := 871) (by decide +kernel), List.forall_mem_cons.mpr ⟨List.mem_of_getElem? (i := 872) (by decide +kernel), List.forall_mem_cons.mpr ⟨List.mem_of_getElem? (i := 873) (by decide +kernel), List.forall_mem_cons.mpr ⟨List.mem_of_getElem? (i := 874) (by decide +kernel), List.forall_mem_cons.mpr ⟨List.mem_of_getElem? (i := 875) (by decide +kernel), List.forall_mem_cons.mpr ⟨List.mem_of_getElem? (i := 876) (by decide +kernel), List.forall_mem_cons.mpr ⟨List.mem_of_getElem? (i := 877) (by decide +kernel), List.forall_mem_cons.mpr ⟨List.mem_of_getElem? (i := 878) (by decide +kernel), List.forall_mem_cons.mpr ⟨List.mem_of_getElem? (i := 879) (by decide +kernel), fun _ h => absurd h List.not_mem_nil⟩⟩⟩⟩⟩⟩⟩⟩⟩⟩⟩⟩⟩⟩⟩⟩⟩⟩⟩⟩⟩⟩⟩⟩
theorem wm_6 : ∀ w ∈ wsL_law0_r6, w ∈ lw_tbl := by
  unfold wsL_law0_r6
  exact List.forall_mem_cons.mpr ⟨List.mem_of_getElem? (i := 880) (by decide +kernel), List.forall_mem_cons.mpr ⟨List.mem_of_getElem? (i := 881) (by decide +kernel), List.forall_mem_cons.mpr ⟨List.mem_of_getElem? (i := 882) (by decide +kernel), List.forall_mem_cons.mpr ⟨List.mem_of_getElem? (i := 883) (by decide +kernel), List.forall_mem_cons.mpr ⟨List.mem_of_getElem? (i := 884) (by decide +kernel), List.forall_mem_cons.mpr ⟨List.mem_of_getElem? (i := 885) (by decide +kernel), List.forall_mem_cons.mpr ⟨List.mem_of_getElem? (i := 886) (by decide +kernel), List.forall_mem_cons.mpr ⟨List.mem_of_getElem? (i := 887) (by decide +kernel), List.forall_mem_cons.mpr ⟨List.mem_of_getElem? (i := 888) (by decide +kernel), List.forall_mem_cons.mpr ⟨List.mem_of_getElem? (i := 889) (by decide +kernel), List.forall_mem_cons.mpr ⟨List.mem_of_getElem? (i := 890) (by decide +kernel), List.forall_mem_cons.mpr ⟨List.mem_of_getElem? (i := 891) (by decide +kernel), List.forall_mem_cons.mpr ⟨List.mem_of_getElem? (i := 892) (by decide +kernel), List.forall_mem_cons.mpr ⟨List.mem_of_getElem? (i := 893) (by decide +kernel), List.forall_mem_cons.mpr ⟨List.mem_of_getElem? (i := 894) (by decide +kernel), List.forall_mem_cons.mpr ⟨List.mem_of_getElem? (i := 895) (by decide +kernel), List.forall_mem_cons.mpr ⟨List.mem_of_getElem? (i := 896) (by decide +kernel), List.forall_mem_cons.mpr ⟨List.mem_of_getElem? (i := 897) (by decide +kernel), List.forall_mem_cons.mpr ⟨List.mem_of_getElem? (i := 898) (by decide +kernel), List.forall_mem_cons.mpr ⟨List.mem_of_getElem? (i := 899) (by decide +kernel), List.forall_mem_cons.mpr ⟨List.mem_of_getElem? (i := 901) (by decide +kernel), List.forall_mem_cons.mpr ⟨List.mem_of_getElem? (i := 902) (by decide +kernel), List.forall_mem_cons.mpr ⟨List.mem_of_getElem? (i := 903) (by decide +kernel), List.forall_mem_cons.mpr ⟨List.mem_of_getElem? (i := 904) (by decide +kernel), fun _ h => absurd h List.not_mem_nil⟩⟩⟩⟩⟩⟩⟩⟩⟩⟩⟩⟩⟩⟩⟩⟩⟩⟩⟩⟩⟩⟩⟩⟩
theorem wm_7 : ∀ w ∈ wsL_law0_r7, w ∈ lw_tbl := by
  unfold wsL_law0_r7
  exact List.forall_mem_cons.mpr ⟨List.mem_of_getElem? (i := 905) (by decide +kernel), List.forall_mem_cons.mpr ⟨List.mem_of_getElem? (i := 906) (by decide +kernel), List.forall_mem_cons.mpr ⟨List.mem_of_getElem? (i := 907) (by decide +kernel), List.forall_mem_cons.mpr ⟨List.mem_of_getElem? (i := 908) (by decide +kernel), List.forall_mem_cons.mpr ⟨List.mem_of_getElem? (i := 909) (by decide +kernel), List.forall_mem_cons.mpr ⟨List.mem_of_getElem? (i := 910) (by decide +kernel), List.forall_mem_cons.mpr ⟨List.mem_of_getElem? (i := 468) (by decide +kernel), List.forall_mem_cons.mpr ⟨List.mem_of_getElem? (i := 469) (by decide +kernel), List.forall_mem_cons.mpr ⟨List.mem_of_getElem? (i := 43) (by decide +kernel), List.forall_mem_cons.mpr ⟨List.mem_of_getElem? (i := 470) (by decide +kernel), List.forall_mem_cons.mpr ⟨List.mem_of_getElem? (i := 471) (by decide +kernel), List.forall_mem_cons.mpr ⟨List.mem_of_getElem? (i := 472) (by decide +kernel), List.forall_mem_cons.mpr ⟨List.mem_of_getElem? (i := 473) (by decide +kernel), List.forall_mem_cons.mpr ⟨List.mem_of_getElem? (i := 474) (by decide +kernel), List.forall_mem_cons.mpr ⟨List.mem_of_getElem? (i := 475) (by decide +kernel), List.forall_mem_cons.mpr ⟨List.mem_of_getElem? (i := 476) (by decide +kernel), List.forall_mem_cons.mpr ⟨List.mem_of_getElem? (i := 304) (by decide +kernel), List.forall_mem_cons.mpr ⟨List.mem_of_getElem? (i := 477) (by decide +kernel), List.forall_mem_cons.mpr ⟨List.mem_of_getElem? (i := 478) (by decide +kernel), List.forall_mem_cons.mpr ⟨List.mem_of_getElem? (i := 479) (by decide +kernel), List.forall_mem_cons.mpr ⟨List.mem_of_getElem? (i := 480) (by decide +kernel), List.forall_mem_cons.mpr ⟨List.mem_of_getElem? (i := 58) (by decide +kernel), List.forall_mem_cons.mpr ⟨List.mem_of_getElem? (i := 545) (by decide +kernel), List.forall_mem_cons.mpr ⟨List.mem_of_getElem? (i := 546) (by decide +kernel), fun _ h => absurd h List.not_mem_nil⟩⟩⟩⟩⟩⟩⟩⟩⟩⟩⟩⟩⟩⟩⟩⟩⟩⟩⟩⟩⟩⟩⟩⟩
theorem wm_8 : ∀ w ∈ wsL_law0_r8, w ∈ lw_tbl := by
  unfold wsL_law0_r8
  exact List.forall_mem_cons.mpr ⟨List.mem_of_getElem? (i := 547) (by decide +kernel), List.forall_mem_cons.mpr ⟨List.mem_of_getElem? (i := 548) (by decide +kernel), List.forall_mem_cons.mpr ⟨List.mem_of_getElem? (i := 59) (by decide +kernel), List.forall_mem_cons.mpr ⟨List.mem_of_getElem? (i := 563) (by decide +kernel), List.forall_mem_cons.mpr ⟨List.mem_of_getElem? (i := 427) (by decide +kernel), List.forall_mem_cons.mpr ⟨List.mem_of_getElem? (i := 428) (by decide +kernel), List.forall_mem_cons.mpr ⟨List.mem_of_getElem? (i := 429) (by decide +kernel), List.forall_mem_cons.mpr ⟨List.mem_of_getElem? (i := 263) (by decide +kernel), List.forall_mem_cons.mpr ⟨List.mem_of_getElem? (i := 1017) (by decide +kernel), List.forall_mem_cons.mpr ⟨List.mem_of_getElem? (i := 1018) (by decide +kernel), List.forall_mem_cons.mpr ⟨List.mem_of_getElem? (i := 1019) (by decide +kernel), List.forall_mem_cons.mpr ⟨List.mem_of_getElem? (i := 1020) (by decide +kernel), List.forall_mem_cons.mpr ⟨List.mem_of_getElem? (i := 861) (by decide +kernel), List.forall_mem_cons.mpr ⟨List.mem_of_getElem? (i := 1021) (by decide +kernel), List.forall_mem_cons.mpr ⟨List.mem_of_getElem? (i := 1022) (by decide +kernel), List.forall_mem_cons.mpr ⟨List.mem_of_getElem? (i := 1023) (by decide +kernel), List.forall_mem_cons.mpr ⟨List.mem_of_getElem? (i := 1013) (by decide +kernel), List.forall_mem_cons.mpr ⟨List.mem_of_getElem? (i := 1014) (by decide +kernel), List.forall_mem_cons.mpr ⟨List.mem_of_getElem? (i := 1015) (by decide +kernel), List.forall_mem_cons.mpr ⟨List.mem_of_getElem? (i := 1016) (by decide +kernel), List.forall_mem_cons.mpr ⟨List.mem_of_getElem? (i := 564) (by decide +kernel), List.forall_mem_cons.mpr ⟨List.mem_of_getElem? (i := 565) (by decide +kernel), List.forall_mem_cons.mpr ⟨List.mem_of_getElem? (i := 566) (by decide +kernel), List.forall_mem_cons.mpr ⟨List.mem_of_getElem? (i := 567) (by decide +kernel), fun _ h => absurd h List.not_mem_nil⟩⟩⟩⟩⟩⟩⟩⟩⟩⟩⟩⟩⟩⟩⟩⟩⟩⟩⟩⟩⟩⟩⟩⟩
theorem wm_9 : ∀ w ∈ wsL_law0_r9, w ∈ lw_tbl := by
  unfold wsL_law0_r9
  exact List.forall_mem_cons.mpr ⟨List.mem_of_getElem? (i := 568) (by decide +kernel), List.forall_mem_cons.mpr ⟨List.mem_of_getElem? (i := 569) (by decide +kernel), List.forall_mem_cons.mpr ⟨List.mem_of_getElem? (i := 570) (by decide +kernel), List.forall_mem_cons.mpr ⟨List.mem_of_getElem? (i := 196) (by decide +kernel), List.forall_mem_cons.mpr ⟨List.mem_of_getElem? (i := 200) (by decide +kernel), List.forall_mem_cons.mpr ⟨List.mem_of_getElem? (i := 571) (by decide +kernel), List.forall_mem_cons.mpr ⟨List.mem_of_getElem? (i := 573) (by decide +kernel), List.forall_mem_cons.mpr ⟨List.mem_of_getElem? (i := 9) (by decide +kernel), List.forall_mem_cons.mpr ⟨List.mem_of_getElem? (i := 574) (by decide +kernel), List.forall_mem_cons.mpr ⟨List.mem_of_getElem? (i := 244) (by decide +kernel), List.forall_mem_cons.mpr ⟨List.mem_of_getElem? (i := 1024) (by decide +kernel), List.forall_mem_cons.mpr ⟨List.mem_of_getElem? (i := 1025) (by decide +kernel), List.forall_mem_cons.mpr ⟨List.mem_of_getElem? (i := 1026) (by decide +kernel), List.forall_mem_cons.mpr ⟨List.mem_of_getElem? (i := 1027) (by decide +kernel), List.forall_mem_cons.mpr ⟨List.mem_of_getElem? (i := 1028) (by decide +kernel), List.forall_mem_cons.mpr ⟨List.mem_of_getElem? (i := 1029) (by decide +kernel), List.forall_mem_cons.mpr ⟨List.mem_of_getElem? (i := 1030) (by decide +kernel), List.forall_mem_cons.mpr ⟨List.mem_of_getElem? (i := 575) (by decide +kernel), List.forall_mem_cons.mpr ⟨List.mem_of_getElem? (i := 576) (by decide +kernel), List.forall_mem_cons.mpr ⟨List.mem_of_getElem? (i := 577) (by decide +kernel), List.forall_mem_cons.mpr ⟨List.mem_of_getElem? (i := 578) (by decide +kernel), List.forall_mem_cons.mpr ⟨List.mem_of_getElem? (i := 579) (by decide +kernel), List.forall_mem_cons.mpr ⟨List.mem_of_getElem? (i := 580) (by decide +kernel), List.forall_mem_cons.mpr ⟨List.mem_of_getElem? (i := 581) (by decide +kernel), fun _ h => absurd h List.not_mem_nil⟩⟩⟩⟩⟩⟩⟩⟩⟩⟩⟩⟩⟩⟩⟩⟩⟩⟩⟩⟩⟩⟩⟩⟩
end
section
theorem wm_10 : ∀ w ∈ wsL_law0_r10, w ∈ lw_tbl := by
  unfold wsL_law0_r10
  exact List.forall_mem_cons.mpr ⟨List.mem_of_getElem? (i := 370) (by decide +kernel), List.forall_mem_cons.mpr ⟨List.mem_of_getElem? (i := 582) (by decide +kernel), List.forall_mem_cons.mpr ⟨List.mem_of_getElem? (i := 583) (by decide +kernel), List.forall_mem_cons.mpr ⟨List.mem_of_getElem? (i := 584) (by decide +kernel), List.forall_mem_cons.mpr ⟨List.mem_of_getElem? (i := 585) (by decide +kernel), List.forall_mem_cons.mpr ⟨List.mem_of_getElem? (i := 198) (by decide +kernel), List.forall_mem_cons.mpr ⟨List.mem_of_getElem? (i := 162) (by decide +kernel), List.forall_mem_cons.mpr ⟨List.mem_of_getElem? (i := 586) (by decide +kernel), List.forall_mem_cons.mpr ⟨List.mem_of_getElem? (i := 407) (by decide +kernel), List.forall_mem_cons.mpr ⟨List.mem_of_getElem? (i := 408) (by decide +kernel), List.forall_mem_cons.mpr ⟨List.mem_of_getElem? (i := 409) (by decide +kernel), List.forall_mem_cons.mpr ⟨List.mem_of_getElem? (i := 309) (by decide +kernel), List.forall_mem_cons.mpr ⟨List.mem_of_getElem? (i := 311) (by decide +kernel), List.forall_mem_cons.mpr ⟨List.mem_of_getElem? (i := 410) (by decide +kernel), List.forall_mem_cons.mpr ⟨List.mem_of_getElem? (i := 412) (by decide +kernel), List.forall_mem_cons.mpr ⟨List.mem_of_getElem? (i := 1) (by decide +kernel), List.forall_mem_cons.mpr ⟨List.mem_of_getElem? (i := 413) (by decide +kernel), List.forall_mem_cons.mpr ⟨List.mem_of_getElem? (i := 414) (by decide +kernel), List.forall_mem_cons.mpr ⟨List.mem_of_getElem? (i := 416) (by decide +kernel), List.forall_mem_cons.mpr ⟨List.mem_of_getElem? (i := 2) (by decide +kernel), List.forall_mem_cons.mpr ⟨List.mem_of_getElem? (i := 417) (by decide +kernel), List.forall_mem_cons.mpr ⟨List.mem_of_getElem? (i := 418) (by decide +kernel), List.forall_mem_cons.mpr ⟨List.mem_of_getElem? (i := 420) (by decide +kernel), List.forall_mem_cons.mpr ⟨List.mem_of_getElem? (i := 3) (by decide +kernel), fun _ h => absurd h List.not_mem_nil⟩⟩⟩⟩⟩⟩⟩⟩⟩⟩⟩⟩⟩⟩⟩⟩⟩⟩⟩⟩⟩⟩⟩⟩
theorem wm_11 : ∀ w ∈ wsL_law0_r11, w ∈ lw_tbl := by
  unfold wsL_law0_r11
  exact List.forall_mem_cons.mpr ⟨List.mem_of_getElem? (i := 421) (by decide +kernel), List.forall_mem_cons.mpr ⟨List.mem_of_getElem? (i := 288) (by decide +kernel), List.forall_mem_cons.mpr ⟨List.mem_of_getElem? (i := 422) (by decide +kernel), List.forall_mem_cons.mpr ⟨List.mem_of_getElem? (i := 423) (by decide +kernel), List.forall_mem_cons.mpr ⟨List.mem_of_getElem? (i := 424) (by decide +kernel), List.forall_mem_cons.mpr ⟨List.mem_of_getElem? (i := 425) (by decide +kernel), List.forall_mem_cons.mpr ⟨List.mem_of_getElem? (i := 426) (by decide +kernel), List.forall_mem_cons.mpr ⟨List.mem_of_getElem? (i := 398) (by decide +kernel), List.forall_mem_cons.mpr ⟨List.mem_of_getElem? (i := 399) (by decide +kernel), List.forall_mem_cons.mpr ⟨List.mem_of_getElem? (i := 400) (by decide +kernel), List.forall_mem_cons.mpr ⟨List.mem_of_getElem? (i := 401) (by decide +kernel), List.forall_mem_cons.mpr ⟨List.mem_of_getElem? (i := 402) (by decide +kernel), List.forall_mem_cons.mpr ⟨List.mem_of_getElem? (i := 403) (by decide +kernel), List.forall_mem_cons.mpr ⟨List.mem_of_getElem? (i := 404) (by decide +kernel), List.forall_mem_cons.mpr ⟨List.mem_of_getElem? (i := 405) (by decide +kernel), List.forall_mem_cons.mpr ⟨List.mem_of_getElem? (i := 123) (by decide +kernel), List.forall_mem_cons.mpr ⟨List.mem_of_getElem? (i := 125) (by decide +kernel), List.forall_mem_cons.mpr ⟨List.mem_of_getElem? (i := 86) (by decide +kernel), List.forall_mem_cons.mpr ⟨List.mem_of_getElem? (i := 90) (by decide +kernel), List.forall_mem_cons.mpr ⟨List.mem_of_getElem? (i := 93) (by decide +kernel), List.forall_mem_cons.mpr ⟨List.mem_of_getElem? (i := 96) (by decide +kernel), List.forall_mem_cons.mpr ⟨List.mem_of_getElem? (i := 100) (by decide +kernel), List.forall_mem_cons.mpr ⟨List.mem_of_getElem? (i := 104) (by decide +kernel), List.forall_mem_cons.mpr ⟨List.mem_of_getElem? (i := 430) (by decide +kernel), fun _ h => absurd h List.not_mem_nil⟩⟩⟩⟩⟩⟩⟩⟩⟩⟩⟩⟩⟩⟩⟩⟩⟩⟩⟩⟩⟩⟩⟩⟩
theorem wm_12 : ∀ w ∈ wsL_law0_r12, w ∈ lw_tbl := by
  unfold wsL_law0_r12
  exact List.forall_mem_cons.mpr ⟨List.mem_of_getElem? (i := 431) (by decide +kernel), List.forall_mem_cons.mpr ⟨List.mem_of_getElem? (i := 432) (by decide +kernel), List.forall_mem_cons.mpr ⟨List.mem_of_getElem? (i := 433) (by decide +kernel), List.forall_mem_cons.mpr ⟨List.mem_of_getElem? (i := 197) (by decide +kernel), List.forall_mem_cons.mpr ⟨List.mem_of_getElem? (i := 1031) (by decide +kernel), List.forall_mem_cons.mpr ⟨List.mem_of_getElem? (i := 1032) (by decide +kernel), List.forall_mem_cons.mpr ⟨List.mem_of_getElem? (i := 1033) (by decide +kernel), List.forall_mem_cons.mpr ⟨List.mem_of_getElem? (i := 1034) (by decide +kernel), List.forall_mem_cons.mpr ⟨List.mem_of_getElem? (i := 1035) (by decide +kernel), List.forall_mem_cons.mpr ⟨List.mem_of_getElem? (i := 1037) (by decide +kernel), List.forall_mem_cons.mpr ⟨List.mem_of_getElem? (i := 21) (by decide +kernel), List.forall_mem_cons.mpr ⟨List.mem_of_getElem? (i := 1038) (by decide +kernel), List.forall_mem_cons.mpr ⟨List.mem_of_getElem? (i := 1039) (by decide +kernel), List.forall_mem_cons.mpr ⟨List.mem_of_getElem? (i := 1041) (by decide +kernel), List.forall_mem_cons.mpr ⟨List.mem_of_getElem? (i := 22) (by decide +kernel), List.forall_mem_cons.mpr ⟨List.mem_of_getElem? (i := 1042) (by decide +kernel), List.forall_mem_cons.mpr ⟨List.mem_of_getElem? (i := 1043) (by decide +kernel), List.forall_mem_cons.mpr ⟨List.mem_of_getElem? (i := 1045) (by decide +kernel), List.forall_mem_cons.mpr ⟨List.mem_of_getElem? (i := 23) (by decide +kernel), List.forall_mem_cons.mpr ⟨List.mem_of_getElem? (i := 1046) (by decide +kernel), List.forall_mem_cons.mpr ⟨List.mem_of_getElem? (i := 1047) (by decide +kernel), List.forall_mem_cons.mpr ⟨List.mem_of_getElem? (i := 1049) (by decide +kernel), List.forall_mem_cons.mpr ⟨List.mem_of_getElem? (i := 24) (by decide +kernel), List.forall_mem_cons.mpr ⟨List.mem_of_getElem? (i := 1050) (by decide +kernel), fun _ h => absurd h List.not_mem_nil⟩⟩⟩⟩⟩⟩⟩⟩⟩⟩⟩⟩⟩⟩⟩⟩⟩⟩⟩⟩⟩⟩⟩⟩
theorem wm_13 : ∀ w ∈ wsL_law0_r13, w ∈ lw_tbl := by
  unfold wsL_law0_r13
  exact List.forall_mem_cons.mpr ⟨List.mem_of_getElem? (i := 1051) (by decide +kernel), List.forall_mem_cons.mpr ⟨List.mem_of_getElem? (i := 1053) (by decide +kernel), List.forall_mem_cons.mpr ⟨List.mem_of_getElem? (i := 25) (by decide +kernel), List.forall_mem_cons.mpr ⟨List.mem_of_getElem? (i := 1054) (by decide +kernel), List.forall_mem_cons.mpr ⟨List.mem_of_getElem? (i := 1055) (by decide +kernel), List.forall_mem_cons.mpr ⟨List.mem_of_getElem? (i := 1057) (by decide +kernel), List.forall_mem_cons.mpr ⟨List.mem_of_getElem? (i := 26) (by decide +kernel), List.forall_mem_cons.mpr ⟨List.mem_of_getElem? (i := 1058) (by decide +kernel), List.forall_mem_cons.mpr ⟨List.mem_of_getElem? (i := 862) (by decide +kernel), List.forall_mem_cons.mpr ⟨List.mem_of_getElem? (i := 1059) (by decide +kernel), List.forall_mem_cons.mpr ⟨List.mem_of_getElem? (i := 1061) (by decide +kernel), List.forall_mem_cons.mpr ⟨List.mem_of_getElem? (i := 27) (by decide +kernel), List.forall_mem_cons.mpr ⟨List.mem_of_getElem? (i := 1062) (by decide +kernel), List.forall_mem_cons.mpr ⟨List.mem_of_getElem? (i := 864) (by decide +kernel), List.forall_mem_cons.mpr ⟨List.mem_of_getElem? (i := 863) (by decide +kernel), List.forall_mem_cons.mpr ⟨List.mem_of_getElem? (i := 1063) (by decide +kernel), List.forall_mem_cons.mpr ⟨List.mem_of_getElem? (i := 1065) (by decide +kernel), List.forall_mem_cons.mpr ⟨List.mem_of_getElem? (i := 28) (by decide +kernel), List.forall_mem_cons.mpr ⟨List.mem_of_getElem? (i := 1066) (by decide +kernel), List.forall_mem_cons.mpr ⟨List.mem_of_getElem? (i := 587) (by decide +kernel), List.forall_mem_cons.mpr ⟨List.mem_of_getElem? (i := 588) (by decide +kernel), List.forall_mem_cons.mpr ⟨List.mem_of_getElem? (i := 589) (by decide +kernel), List.forall_mem_cons.mpr ⟨List.mem_of_getElem? (i := 590) (by decide +kernel), List.forall_mem_cons.mpr ⟨List.mem_of_getElem? (i := 591) (by decide +kernel), fun _ h => absurd h List.not_mem_nil⟩⟩⟩⟩⟩⟩⟩⟩⟩⟩⟩⟩⟩⟩⟩⟩⟩⟩⟩⟩⟩⟩⟩⟩
theorem wm_14 : ∀ w ∈ wsL_law0_r14, w ∈ lw_tbl := by
  unfold wsL_law0_r14
  exact List.forall_mem_cons.mpr ⟨List.mem_of_getElem? (i := 592) (by decide +kernel), List.forall_mem_cons.mpr ⟨List.mem_of_getElem? (i := 593) (by decide +kernel), List.forall_mem_cons.mpr ⟨List.mem_of_getElem? (i := 594) (by decide +kernel), List.forall_mem_cons.mpr ⟨List.mem_of_getElem? (i := 203) (by decide +kernel), List.forall_mem_cons.mpr ⟨List.mem_of_getElem? (i := 204) (by decide +kernel), List.forall_mem_cons.mpr ⟨List.mem_of_getElem? (i := 206) (by decide +kernel), List.forall_mem_cons.mpr ⟨List.mem_of_getElem? (i := 595) (by decide +kernel), List.forall_mem_cons.mpr ⟨List.mem_of_getElem? (i := 597) (by decide +kernel), List.forall_mem_cons.mpr ⟨List.mem_of_getElem? (i := 10) (by decide +kernel), List.forall_mem_cons.mpr ⟨List.mem_of_getElem? (i := 598) (by decide +kernel), List.forall_mem_cons.mpr ⟨List.mem_of_getElem? (i := 599) (by decide +kernel), List.forall_mem_cons.mpr ⟨List.mem_of_getElem? (i := 600) (by decide +kernel), List.forall_mem_cons.mpr ⟨List.mem_of_getElem? (i := 601) (by decide +kernel), List.forall_mem_cons.mpr ⟨List.mem_of_getElem? (i := 602) (by decide +kernel), List.forall_mem_cons.mpr ⟨List.mem_of_getElem? (i := 60) (by decide +kernel), List.forall_mem_cons.mpr ⟨List.mem_of_getElem? (i := 617) (by decide +kernel), List.forall_mem_cons.mpr ⟨List.mem_of_getElem? (i := 619) (by decide +kernel), List.forall_mem_cons.mpr ⟨List.mem_of_getElem? (i := 11) (by decide +kernel), List.forall_mem_cons.mpr ⟨List.mem_of_getElem? (i := 620) (by decide +kernel), List.forall_mem_cons.mpr ⟨List.mem_of_getElem? (i := 621) (by decide +kernel), List.forall_mem_cons.mpr ⟨List.mem_of_getElem? (i := 1067) (by decide +kernel), List.forall_mem_cons.mpr ⟨List.mem_of_getElem? (i := 1068) (by decide +kernel), List.forall_mem_cons.mpr ⟨List.mem_of_getElem? (i := 1069) (by decide +kernel), List.forall_mem_cons.mpr ⟨List.mem_of_getElem? (i := 1070) (by decide +kernel), fun _ h => absurd h List.not_mem_nil⟩⟩⟩⟩⟩⟩⟩⟩⟩⟩⟩⟩⟩⟩⟩⟩⟩⟩⟩⟩⟩⟩⟩⟩
theorem wm_15 : ∀ w ∈ wsL_law0_r15, w ∈ lw_tbl := by
  unfold wsL_law0_r15
  exact List.forall_mem_cons.mpr ⟨List.mem_of_getElem? (i := 1071) (by decide +kernel), List.forall_mem_cons.mpr ⟨List.mem_of_getElem? (i := 1073) (by decide +kernel), List.forall_mem_cons.mpr ⟨List.mem_of_getElem? (i := 29) (by decide +kernel), List.forall_mem_cons.mpr ⟨List.mem_of_getElem? (i := 1074) (by decide +kernel), List.forall_mem_cons.mpr ⟨List.mem_of_getElem? (i := 622) (by decide +kernel), List.forall_mem_cons.mpr ⟨List.mem_of_getElem? (i := 623) (by decide +kernel), List.forall_mem_cons.mpr ⟨List.mem_of_getElem? (i := 624) (by decide +kernel), List.forall_mem_cons.mpr ⟨List.mem_of_getElem? (i := 625) (by decide +kernel), List.forall_mem_cons.mpr ⟨List.mem_of_getElem? (i := 626) (by decide +kernel), List.forall_mem_cons.mpr ⟨List.mem_of_getElem? (i := 627) (by decide +kernel), List.forall_mem_cons.mpr ⟨List.mem_of_getElem? (i := 628) (by decide +kernel), List.forall_mem_cons.mpr ⟨List.mem_of_getElem? (i := 629) (by decide +kernel), List.forall_mem_cons.mpr ⟨List.mem_of_getElem? (i := 630) (by decide +kernel), List.forall_mem_cons.mpr ⟨List.mem_of_getElem? (i := 631) (by decide +kernel), List.forall_mem_cons.mpr ⟨List.mem_of_getElem? (i := 632) (by decide +kernel), List.forall_mem_cons.mpr ⟨List.mem_of_getElem? (i := 1075) (by decide +kernel), List.forall_mem_cons.mpr ⟨List.mem_of_getElem? (i := 1076) (by decide +kernel), List.forall_mem_cons.mpr ⟨List.mem_of_getElem? (i := 1077) (by decide +kernel), List.forall_mem_cons.mpr ⟨List.mem_of_getElem? (i := 1078) (by decide +kernel), List.forall_mem_cons.mpr ⟨List.mem_of_getElem? (i := 633) (by decide +kernel), List.forall_mem_cons.mpr ⟨List.mem_of_getElem? (i := 634) (by decide +kernel), List.forall_mem_cons.mpr ⟨List.mem_of_getElem? (i := 635) (by decide +kernel), List.forall_mem_cons.mpr ⟨List.mem_of_getElem? (i := 636) (by decide +kernel), List.forall_mem_cons.mpr ⟨List.mem_of_getElem? (i := 637) (by decide +kernel), fun _ h => absurd h List.not_mem_nil⟩⟩⟩⟩⟩⟩⟩⟩⟩⟩⟩⟩⟩⟩⟩⟩⟩⟩⟩⟩⟩⟩⟩⟩
theorem wm_16 : ∀ w ∈ wsL_law0_r16, w ∈ lw_tbl := by
  unfold wsL_law0_r16
  exact List.forall_mem_cons.mpr ⟨List.mem_of_getElem? (i := 638) (by decide +kernel), List.forall_mem_cons.mpr ⟨List.mem_of_getElem? (i := 639) (by decide +kernel), List.forall_mem_cons.mpr ⟨List.mem_of_getElem? (i := 1079) (by decide +kernel), List.forall_mem_cons.mpr ⟨List.mem_of_getElem? (i := 1080) (by decide +kernel), List.forall_mem_cons.mpr ⟨List.mem_of_getElem? (i := 1081) (by decide +kernel), List.forall_mem_cons.mpr ⟨List.mem_of_getElem? (i := 1082) (by decide +kernel), List.forall_mem_cons.mpr ⟨List.mem_of_getElem? (i := 640) (by decide +kernel), List.forall_mem_cons.mpr ⟨List.mem_of_getElem? (i := 641) (by decide +kernel), List.forall_mem_cons.mpr ⟨List.mem_of_getElem? (i := 642) (by decide +kernel), List.forall_mem_cons.mpr ⟨List.mem_of_getElem? (i := 643) (by decide +kernel), List.forall_mem_cons.mpr ⟨List.mem_of_getElem? (i := 644) (by decide +kernel), List.forall_mem_cons.mpr ⟨List.mem_of_getElem? (i := 645) (by decide +kernel), List.forall_mem_cons.mpr ⟨List.mem_of_getElem? (i := 646) (by decide +kernel), List.forall_mem_cons.mpr ⟨List.mem_of_getElem? (i := 647) (by decide +kernel), List.forall_mem_cons.mpr ⟨List.mem_of_getElem? (i := 652) (by decide +kernel), List.forall_mem_cons.mpr ⟨List.mem_of_getElem? (i := 61) (by decide +kernel), List.forall_mem_cons.mpr ⟨List.mem_of_getElem? (i := 211) (by decide +kernel), List.forall_mem_cons.mpr ⟨List.mem_of_getElem? (i := 209) (by decide +kernel), List.forall_mem_cons.mpr ⟨List.mem_of_getElem? (i := 648) (by decide +kernel), List.forall_mem_cons.mpr ⟨List.mem_of_getElem? (i := 649) (by decide +kernel), List.forall_mem_cons.mpr ⟨List.mem_of_getElem? (i := 650) (by decide +kernel), List.forall_mem_cons.mpr ⟨List.mem_of_getElem? (i := 651) (by decide +kernel), List.forall_mem_cons.mpr ⟨List.mem_of_getElem? (i := 1083) (by decide +kernel), List.forall_mem_cons.mpr ⟨List.mem_of_getElem? (i := 1084) (by decide +kernel), fun _ h => absurd h List.not_mem_nil⟩⟩⟩⟩⟩⟩⟩⟩⟩⟩⟩⟩⟩⟩⟩⟩⟩⟩⟩⟩⟩⟩⟩⟩
theorem wm_17 : ∀ w ∈ wsL_law0_r17, w ∈ lw_tbl := by
  unfold wsL_law0_r17
  exact List.forall_mem_cons.mpr ⟨List.mem_of_getElem? (i := 1085) (by decide +kernel), List.forall_mem_cons.mpr ⟨List.mem_of_getElem? (i := 1086) (by decide +kernel), List.forall_mem_cons.mpr ⟨List.mem_of_getElem? (i := 382) (by decide +kernel), List.forall_mem_cons.mpr ⟨List.mem_of_getElem? (i := 383) (by decide +kernel), List.forall_mem_cons.mpr ⟨List.mem_of_getElem? (i := 384) (by decide +kernel), List.forall_mem_cons.mpr ⟨List.mem_of_getElem? (i := 385) (by decide +kernel), List.forall_mem_cons.mpr ⟨List.mem_of_getElem? (i := 124) (by decide +kernel), List.forall_mem_cons.mpr ⟨List.mem_of_getElem? (i := 1087) (by decide +kernel), List.forall_mem_cons.mpr ⟨List.mem_of_getElem? (i := 1088) (by decide +kernel), List.forall_mem_cons.mpr ⟨List.mem_of_getElem? (i := 1089) (by decide +kernel), List.forall_mem_cons.mpr ⟨List.mem_of_getElem? (i := 1090) (by decide +kernel), List.forall_mem_cons.mpr ⟨List.mem_of_getElem? (i := 667) (by decide +kernel), List.forall_mem_cons.mpr ⟨List.mem_of_getElem? (i := 668) (by decide +kernel), List.forall_mem_cons.mpr ⟨List.mem_of_getElem? (i := 669) (by decide +kernel), List.forall_mem_cons.mpr ⟨List.mem_of_getElem? (i := 670) (by decide +kernel), List.forall_mem_cons.mpr ⟨List.mem_of_getElem? (i := 671) (by decide +kernel), List.forall_mem_cons.mpr ⟨List.mem_of_getElem? (i := 672) (by decide +kernel), List.forall_mem_cons.mpr ⟨List.mem_of_getElem? (i := 673) (by decide +kernel), List.forall_mem_cons.mpr ⟨List.mem_of_getElem? (i := 674) (by decide +kernel), List.forall_mem_cons.mpr ⟨List.mem_of_getElem? (i := 675) (by decide +kernel), List.forall_mem_cons.mpr ⟨List.mem_of_getElem? (i := 677) (by decide +kernel), List.forall_mem_cons.mpr ⟨List.mem_of_getElem? (i := 12) (by decide +kernel), List.forall_mem_cons.mpr ⟨List.mem_of_getElem? (i := 678) (by decide +kernel), List.forall_mem_cons.mpr ⟨List.mem_of_getElem? (i := 679) (by decide +kernel), fun _ h => absurd h List.not_mem_nil⟩⟩⟩⟩⟩⟩⟩⟩⟩⟩⟩⟩⟩⟩⟩⟩⟩⟩⟩⟩⟩⟩⟩⟩
theorem wm_18 : ∀ w ∈ wsL_law0_r18, w ∈ lw_tbl := by
  unfold wsL_law0_r18
  exact List.forall_mem_cons.mpr ⟨List.mem_of_getElem? (i := 680) (by decide +kernel), List.forall_mem_cons.mpr ⟨List.mem_of_getElem? (i := 681) (by decide +kernel), List.forall_mem_cons.mpr ⟨List.mem_of_getElem? (i := 682) (by decide +kernel), List.forall_mem_cons.mpr ⟨List.mem_of_getElem? (i := 62) (by decide +kernel), List.forall_mem_cons.mpr ⟨List.mem_of_getElem? (i := 697) (by decide +kernel), List.forall_mem_cons.mpr ⟨List.mem_of_getElem? (i := 698) (by decide +kernel), List.forall_mem_cons.mpr ⟨List.mem_of_getElem? (i := 699) (by decide +kernel), List.forall_mem_cons.mpr ⟨List.mem_of_getElem? (i := 700) (by decide +kernel), List.forall_mem_cons.mpr ⟨List.mem_of_getElem? (i := 701) (by decide +kernel), List.forall_mem_cons.mpr ⟨List.mem_of_getElem? (i := 702) (by decide +kernel), List.forall_mem_cons.mpr ⟨List.mem_of_getElem? (i := 703) (by decide +kernel), List.forall_mem_cons.mpr ⟨List.mem_of_getElem? (i := 704) (by decide +kernel), List.forall_mem_cons.mpr ⟨List.mem_of_getElem? (i := 85) (by decide +kernel), List.forall_mem_cons.mpr ⟨List.mem_of_getElem? (i := 89) (by decide +kernel), List.forall_mem_cons.mpr ⟨List.mem_of_getElem? (i := 92) (by decide +kernel), List.forall_mem_cons.mpr ⟨List.mem_of_getElem? (i := 95) (by decide +kernel), List.forall_mem_cons.mpr ⟨List.mem_of_getElem? (i := 99) (by decide +kernel), List.forall_mem_cons.mpr ⟨List.mem_of_getElem? (i := 103) (by decide +kernel), List.forall_mem_cons.mpr ⟨List.mem_of_getElem? (i := 1091) (by decide +kernel), List.forall_mem_cons.mpr ⟨List.mem_of_getElem? (i := 1092) (by decide +kernel), List.forall_mem_cons.mpr ⟨List.mem_of_getElem? (i := 1093) (by decide +kernel), List.forall_mem_cons.mpr ⟨List.mem_of_getElem? (i := 1094) (by decide +kernel), List.forall_mem_cons.mpr ⟨List.mem_of_getElem? (i := 1095) (by decide +kernel), List.forall_mem_cons.mpr ⟨List.mem_of_getElem? (i := 1097) (by decide +kernel), fun _ h => absurd h List.not_mem_nil⟩⟩⟩⟩⟩⟩⟩⟩⟩⟩⟩⟩⟩⟩⟩⟩⟩⟩⟩⟩⟩⟩⟩⟩
end
section
theorem wm_19 : ∀ w ∈ wsL_law0_r19, w ∈ lw_tbl := by
  unfold wsL_law0_r19
  exact List.forall_mem_cons.mpr ⟨List.mem_of_getElem? (i := 30) (by decide +kernel), List.forall_mem_cons.mpr ⟨List.mem_of_getElem? (i := 1098) (by decide +kernel), List.forall_mem_cons.mpr ⟨List.mem_of_getElem? (i := 705) (by decide +kernel), List.forall_mem_cons.mpr ⟨List.mem_of_getElem? (i := 706) (by decide +kernel), List.forall_mem_cons.mpr ⟨List.mem_of_getElem? (i := 707) (by decide +kernel), List.forall_mem_cons.mpr ⟨List.mem_of_getElem? (i := 708) (by decide +kernel), List.forall_mem_cons.mpr ⟨List.mem_of_getElem? (i := 709) (by decide +kernel), List.forall_mem_cons.mpr ⟨List.mem_of_getElem? (i := 710) (by decide +kernel), List.forall_mem_cons.mpr ⟨List.mem_of_getElem? (i := 711) (by decide +kernel), List.forall_mem_cons.mpr ⟨List.mem_of_getElem? (i := 712) (by decide +kernel), List.forall_mem_cons.mpr ⟨List.mem_of_getElem? (i := 713) (by decide +kernel), List.forall_mem_cons.mpr ⟨List.mem_of_getElem? (i := 714) (by decide +kernel), List.forall_mem_cons.mpr ⟨List.mem_of_getElem? (i := 715) (by decide +kernel), List.forall_mem_cons.mpr ⟨List.mem_of_getElem? (i := 716) (by decide +kernel), List.forall_mem_cons.mpr ⟨List.mem_of_getElem? (i := 718) (by decide +kernel), List.forall_mem_cons.mpr ⟨List.mem_of_getElem? (i := 717) (by decide +kernel), List.forall_mem_cons.mpr ⟨List.mem_of_getElem? (i := 63) (by decide +kernel), List.forall_mem_cons.mpr ⟨List.mem_of_getElem? (i := 719) (by decide +kernel), List.forall_mem_cons.mpr ⟨List.mem_of_getElem? (i := 721) (by decide +kernel), List.forall_mem_cons.mpr ⟨List.mem_of_getElem? (i := 13) (by decide +kernel), List.forall_mem_cons.mpr ⟨List.mem_of_getElem? (i := 722) (by decide +kernel), List.forall_mem_cons.mpr ⟨List.mem_of_getElem? (i := 88) (by decide +kernel), List.forall_mem_cons.mpr ⟨List.mem_of_getElem? (i := 91) (by decide +kernel), List.forall_mem_cons.mpr ⟨List.mem_of_getElem? (i := 94) (by decide +kernel), fun _ h => absurd h List.not_mem_nil⟩⟩⟩⟩⟩⟩⟩⟩⟩⟩⟩⟩⟩⟩⟩⟩⟩⟩⟩⟩⟩⟩⟩⟩
theorem wm_20 : ∀ w ∈ wsL_law0_r20, w ∈ lw_tbl := by
  unfold wsL_law0_r20
  exact List.forall_mem_cons.mpr ⟨List.mem_of_getElem? (i := 98) (by decide +kernel), List.forall_mem_cons.mpr ⟨List.mem_of_getElem? (i := 102) (by decide +kernel), List.forall_mem_cons.mpr ⟨List.mem_of_getElem? (i := 106) (by decide +kernel), List.forall_mem_cons.mpr ⟨List.mem_of_getElem? (i := 723) (by decide +kernel), List.forall_mem_cons.mpr ⟨List.mem_of_getElem? (i := 724) (by decide +kernel), List.forall_mem_cons.mpr ⟨List.mem_of_getElem? (i := 725) (by decide +kernel), List.forall_mem_cons.mpr ⟨List.mem_of_getElem? (i := 726) (by decide +kernel), List.forall_mem_cons.mpr ⟨List.mem_of_getElem? (i := 243) (by decide +kernel), List.forall_mem_cons.mpr ⟨List.mem_of_getElem? (i := 195) (by decide +kernel), List.forall_mem_cons.mpr ⟨List.mem_of_getElem? (i := 199) (by decide +kernel), List.forall_mem_cons.mpr ⟨List.mem_of_getElem? (i := 290) (by decide +kernel), List.forall_mem_cons.mpr ⟨List.mem_of_getElem? (i := 727) (by decide +kernel), List.forall_mem_cons.mpr ⟨List.mem_of_getElem? (i := 729) (by decide +kernel), List.forall_mem_cons.mpr ⟨List.mem_of_getElem? (i := 14) (by decide +kernel), List.forall_mem_cons.mpr ⟨List.mem_of_getElem? (i := 730) (by decide +kernel), List.forall_mem_cons.mpr ⟨List.mem_of_getElem? (i := 406) (by decide +kernel), List.forall_mem_cons.mpr ⟨List.mem_of_getElem? (i := 731) (by decide +kernel), List.forall_mem_cons.mpr ⟨List.mem_of_getElem? (i := 732) (by decide +kernel), List.forall_mem_cons.mpr ⟨List.mem_of_getElem? (i := 733) (by decide +kernel), List.forall_mem_cons.mpr ⟨List.mem_of_getElem? (i := 734) (by decide +kernel), List.forall_mem_cons.mpr ⟨List.mem_of_getElem? (i := 287) (by decide +kernel), List.forall_mem_cons.mpr ⟨List.mem_of_getElem? (i := 289) (by decide +kernel), List.forall_mem_cons.mpr ⟨List.mem_of_getElem? (i := 291) (by decide +kernel), List.forall_mem_cons.mpr ⟨List.mem_of_getElem? (i := 292) (by decide +kernel), fun _ h => absurd h List.not_mem_nil⟩⟩⟩⟩⟩⟩⟩⟩⟩⟩⟩⟩⟩⟩⟩⟩⟩⟩⟩⟩⟩⟩⟩⟩
theorem wm_21 : ∀ w ∈ wsL_law0_r21, w ∈ lw_tbl := by
  unfold wsL_law0_r21
  exact List.forall_mem_cons.mpr ⟨List.mem_of_getElem? (i := 735) (by decide +kernel), List.forall_mem_cons.mpr ⟨List.mem_of_getElem? (i := 737) (by decide +kernel), List.forall_mem_cons.mpr ⟨List.mem_of_getElem? (i := 15) (by decide +kernel), List.forall_mem_cons.mpr ⟨List.mem_of_getElem? (i := 738) (by decide +kernel), List.forall_mem_cons.mpr ⟨List.mem_of_getElem? (i := 739) (by decide +kernel), List.forall_mem_cons.mpr ⟨List.mem_of_getElem? (i := 740) (by decide +kernel), List.forall_mem_cons.mpr ⟨List.mem_of_getElem? (i := 741) (by decide +kernel), List.forall_mem_cons.mpr ⟨List.mem_of_getElem? (i := 742) (by decide +kernel), List.forall_mem_cons.mpr ⟨List.mem_of_getElem? (i := 743) (by decide +kernel), List.forall_mem_cons.mpr ⟨List.mem_of_getElem? (i := 745) (by decide +kernel), List.forall_mem_cons.mpr ⟨List.mem_of_getElem? (i := 16) (by decide +kernel), List.forall_mem_cons.mpr ⟨List.mem_of_getElem? (i := 746) (by decide +kernel), List.forall_mem_cons.mpr ⟨List.mem_of_getElem? (i := 264) (by decide +kernel), List.forall_mem_cons.mpr ⟨List.mem_of_getElem? (i := 747) (by decide +kernel), List.forall_mem_cons.mpr ⟨List.mem_of_getElem? (i := 748) (by decide +kernel), List.forall_mem_cons.mpr ⟨List.mem_of_getElem? (i := 749) (by decide +kernel), List.forall_mem_cons.mpr ⟨List.mem_of_getElem? (i := 750) (by decide +kernel), List.forall_mem_cons.mpr ⟨List.mem_of_getElem? (i := 751) (by decide +kernel), List.forall_mem_cons.mpr ⟨List.mem_of_getElem? (i := 752) (by decide +kernel), List.forall_mem_cons.mpr ⟨List.mem_of_getElem? (i := 753) (by decide +kernel), List.forall_mem_cons.mpr ⟨List.mem_of_getElem? (i := 754) (by decide +kernel), List.forall_mem_cons.mpr ⟨List.mem_of_getElem? (i := 346) (by decide +kernel), List.forall_mem_cons.mpr ⟨List.mem_of_getElem? (i := 350) (by decide +kernel), List.forall_mem_cons.mpr ⟨List.mem_of_getElem? (i := 755) (by decide +kernel), fun _ h => absurd h List.not_mem_nil⟩⟩⟩⟩⟩⟩⟩⟩⟩⟩⟩⟩⟩⟩⟩⟩⟩⟩⟩⟩⟩⟩⟩⟩
theorem wm_22 : ∀ w ∈ wsL_law0_r22, w ∈ lw_tbl := by
  unfold wsL_law0_r22
  exact List.forall_mem_cons.mpr ⟨List.mem_of_getElem? (i := 756) (by decide +kernel), List.forall_mem_cons.mpr ⟨List.mem_of_getElem? (i := 757) (by decide +kernel), List.forall_mem_cons.mpr ⟨List.mem_of_getElem? (i := 758) (by decide +kernel), List.forall_mem_cons.mpr ⟨List.mem_of_getElem? (i := 349) (by decide +kernel), List.forall_mem_cons.mpr ⟨List.mem_of_getElem? (i := 348) (by decide +kernel), List.forall_mem_cons.mpr ⟨List.mem_of_getElem? (i := 759) (by decide +kernel), List.forall_mem_cons.mpr ⟨List.mem_of_getElem? (i := 761) (by decide +kernel), List.forall_mem_cons.mpr ⟨List.mem_of_getElem? (i := 17) (by decide +kernel), List.forall_mem_cons.mpr ⟨List.mem_of_getElem? (i := 762) (by decide +kernel), List.forall_mem_cons.mpr ⟨List.mem_of_getElem? (i := 763) (by decide +kernel), List.forall_mem_cons.mpr ⟨List.mem_of_getElem? (i := 764) (by decide +kernel), List.forall_mem_cons.mpr ⟨List.mem_of_getElem? (i := 765) (by decide +kernel), List.forall_mem_cons.mpr ⟨List.mem_of_getElem? (i := 766) (by decide +kernel), List.forall_mem_cons.mpr ⟨List.mem_of_getElem? (i := 767) (by decide +kernel), List.forall_mem_cons.mpr ⟨List.mem_of_getElem? (i := 768) (by decide +kernel), List.forall_mem_cons.mpr ⟨List.mem_of_getElem? (i := 769) (by decide +kernel), List.forall_mem_cons.mpr ⟨List.mem_of_getElem? (i := 770) (by decide +kernel), List.forall_mem_cons.mpr ⟨List.mem_of_getElem? (i := 771) (by decide +kernel), List.forall_mem_cons.mpr ⟨List.mem_of_getElem? (i := 87) (by decide +kernel), List.forall_mem_cons.mpr ⟨List.mem_of_getElem? (i := 208) (by decide +kernel), List.forall_mem_cons.mpr ⟨List.mem_of_getElem? (i := 97) (by decide +kernel), List.forall_mem_cons.mpr ⟨List.mem_of_getElem? (i := 101) (by decide +kernel), List.forall_mem_cons.mpr ⟨List.mem_of_getElem? (i := 105) (by decide +kernel), List.forall_mem_cons.mpr ⟨List.mem_of_getElem? (i := 772) (by decide +kernel), fun _ h => absurd h List.not_mem_nil⟩⟩⟩⟩⟩⟩⟩⟩⟩⟩⟩⟩⟩⟩⟩⟩⟩⟩⟩⟩⟩⟩⟩⟩
theorem wm_23 : ∀ w ∈ wsL_law0_r23, w ∈ lw_tbl := by
  unfold wsL_law0_r23
  exact List.forall_mem_cons.mpr ⟨List.mem_of_getElem? (i := 774) (by decide +kernel), List.forall_mem_cons.mpr ⟨List.mem_of_getElem? (i := 18) (by decide +kernel), List.forall_mem_cons.mpr ⟨List.mem_of_getElem? (i := 775) (by decide +kernel), List.forall_mem_cons.mpr ⟨List.mem_of_getElem? (i := 205) (by decide +kernel), List.forall_mem_cons.mpr ⟨List.mem_of_getElem? (i := 210) (by decide +kernel), List.forall_mem_cons.mpr ⟨List.mem_of_getElem? (i := 207) (by decide +kernel), List.forall_mem_cons.mpr ⟨List.mem_of_getElem? (i := 776) (by decide +kernel), List.forall_mem_cons.mpr ⟨List.mem_of_getElem? (i := 777) (by decide +kernel), List.forall_mem_cons.mpr ⟨List.mem_of_getElem? (i := 778) (by decide +kernel), List.forall_mem_cons.mpr ⟨List.mem_of_getElem? (i := 780) (by decide +kernel), List.forall_mem_cons.mpr ⟨List.mem_of_getElem? (i := 19) (by decide +kernel), List.forall_mem_cons.mpr ⟨List.mem_of_getElem? (i := 781) (by decide +kernel), List.forall_mem_cons.mpr ⟨List.mem_of_getElem? (i := 212) (by decide +kernel), List.forall_mem_cons.mpr ⟨List.mem_of_getElem? (i := 782) (by decide +kernel), List.forall_mem_cons.mpr ⟨List.mem_of_getElem? (i := 783) (by decide +kernel), List.forall_mem_cons.mpr ⟨List.mem_of_getElem? (i := 784) (by decide +kernel), List.forall_mem_cons.mpr ⟨List.mem_of_getElem? (i := 785) (by decide +kernel), List.forall_mem_cons.mpr ⟨List.mem_of_getElem? (i := 160) (by decide +kernel), List.forall_mem_cons.mpr ⟨List.mem_of_getElem? (i := 161) (by decide +kernel), List.forall_mem_cons.mpr ⟨List.mem_of_getElem? (i := 168) (by decide +kernel), List.forall_mem_cons.mpr ⟨List.mem_of_getElem? (i := 163) (by decide +kernel), List.forall_mem_cons.mpr ⟨List.mem_of_getElem? (i := 170) (by decide +kernel), List.forall_mem_cons.mpr ⟨List.mem_of_getElem? (i := 786) (by decide +kernel), List.forall_mem_cons.mpr ⟨List.mem_of_getElem? (i := 788) (by decide +kernel), fun _ h => absurd h List.not_mem_nil⟩⟩⟩⟩⟩⟩⟩⟩⟩⟩⟩⟩⟩⟩⟩⟩⟩⟩⟩⟩⟩⟩⟩⟩
theorem wm_24 : ∀ w ∈ wsL_law0_r24, w ∈ lw_tbl := by
  unfold wsL_law0_r24
  exact List.forall_mem_cons.mpr ⟨List.mem_of_getElem? (i := 20) (by decide +kernel), List.forall_mem_cons.mpr ⟨List.mem_of_getElem? (i := 789) (by decide +kernel), List.forall_mem_cons.mpr ⟨List.mem_of_getElem? (i := 164) (by decide +kernel), List.forall_mem_cons.mpr ⟨List.mem_of_getElem? (i := 165) (by decide +kernel), List.forall_mem_cons.mpr ⟨List.mem_of_getElem? (i := 442) (by decide +kernel), List.forall_mem_cons.mpr ⟨List.mem_of_getElem? (i := 444) (by decide +kernel), List.forall_mem_cons.mpr ⟨List.mem_of_getElem? (i := 4) (by decide +kernel), List.forall_mem_cons.mpr ⟨List.mem_of_getElem? (i := 445) (by decide +kernel), List.forall_mem_cons.mpr ⟨List.mem_of_getElem? (i := 446) (by decide +kernel), List.forall_mem_cons.mpr ⟨List.mem_of_getElem? (i := 447) (by decide +kernel), List.forall_mem_cons.mpr ⟨List.mem_of_getElem? (i := 448) (by decide +kernel), List.forall_mem_cons.mpr ⟨List.mem_of_getElem? (i := 449) (by decide +kernel), List.forall_mem_cons.mpr ⟨List.mem_of_getElem? (i := 450) (by decide +kernel), List.forall_mem_cons.mpr ⟨List.mem_of_getElem? (i := 451) (by decide +kernel), List.forall_mem_cons.mpr ⟨List.mem_of_getElem? (i := 1099) (by decide +kernel), List.forall_mem_cons.mpr ⟨List.mem_of_getElem? (i := 1100) (by decide +kernel), List.forall_mem_cons.mpr ⟨List.mem_of_getElem? (i := 1101) (by decide +kernel), List.forall_mem_cons.mpr ⟨List.mem_of_getElem? (i := 1102) (by decide +kernel), List.forall_mem_cons.mpr ⟨List.mem_of_getElem? (i := 1103) (by decide +kernel), List.forall_mem_cons.mpr ⟨List.mem_of_getElem? (i := 1105) (by decide +kernel), List.forall_mem_cons.mpr ⟨List.mem_of_getElem? (i := 31) (by decide +kernel), List.forall_mem_cons.mpr ⟨List.mem_of_getElem? (i := 1106) (by decide +kernel), List.forall_mem_cons.mpr ⟨List.mem_of_getElem? (i := 1107) (by decide +kernel), List.forall_mem_cons.mpr ⟨List.mem_of_getElem? (i := 1109) (by decide +kernel), fun _ h => absurd h List.not_mem_nil⟩⟩⟩⟩⟩⟩⟩⟩⟩⟩⟩⟩⟩⟩⟩⟩⟩⟩⟩⟩⟩⟩⟩⟩
theorem wm_25 : ∀ w ∈ wsL_law0_r25, w ∈ lw_tbl := by
  unfold wsL_law0_r25
  exact List.forall_mem_cons.mpr ⟨List.mem_of_getElem? (i := 32) (by decide +kernel), List.forall_mem_cons.mpr ⟨List.mem_of_getElem? (i := 1110) (by decide +kernel), List.forall_mem_cons.mpr ⟨List.mem_of_getElem? (i := 1111) (by decide +kernel), List.forall_mem_cons.mpr ⟨List.mem_of_getElem? (i := 1113) (by decide +kernel), List.forall_mem_cons.mpr ⟨List.mem_of_getElem? (i := 33) (by decide +kernel), List.forall_mem_cons.mpr ⟨List.mem_of_getElem? (i := 1114) (by decide +kernel), List.forall_mem_cons.mpr ⟨List.mem_of_getElem? (i := 900) (by decide +kernel), List.forall_mem_cons.mpr ⟨List.mem_of_getElem? (i := 1115) (by decide +kernel), List.forall_mem_cons.mpr ⟨List.mem_of_getElem? (i := 1117) (by decide +kernel), List.forall_mem_cons.mpr ⟨List.mem_of_getElem? (i := 34) (by decide +kernel), List.forall_mem_cons.mpr ⟨List.mem_of_getElem? (i := 1118) (by decide +kernel), List.forall_mem_cons.mpr ⟨List.mem_of_getElem? (i := 1119) (by decide +kernel), List.forall_mem_cons.mpr ⟨List.mem_of_getElem? (i := 1121) (by decide +kernel), List.forall_mem_cons.mpr ⟨List.mem_of_getElem? (i := 35) (by decide +kernel), List.forall_mem_cons.mpr ⟨List.mem_of_getElem? (i := 1122) (by decide +kernel), List.forall_mem_cons.mpr ⟨List.mem_of_getElem? (i := 1123) (by decide +kernel), List.forall_mem_cons.mpr ⟨List.mem_of_getElem? (i := 1125) (by decide +kernel), List.forall_mem_cons.mpr ⟨List.mem_of_getElem? (i := 36) (by decide +kernel), List.forall_mem_cons.mpr ⟨List.mem_of_getElem? (i := 1126) (by decide +kernel), List.forall_mem_cons.mpr ⟨List.mem_of_getElem? (i := 1127) (by decide +kernel), List.forall_mem_cons.mpr ⟨List.mem_of_getElem? (i := 1129) (by decide +kernel), List.forall_mem_cons.mpr ⟨List.mem_of_getElem? (i := 37) (by decide +kernel), List.forall_mem_cons.mpr ⟨List.mem_of_getElem? (i := 1130) (by decide +kernel), List.forall_mem_cons.mpr ⟨List.mem_of_getElem? (i := 1131) (by decide +kernel), fun _ h => absurd h List.not_mem_nil⟩⟩⟩⟩⟩⟩⟩⟩⟩⟩⟩⟩⟩⟩⟩⟩⟩⟩⟩⟩⟩⟩⟩⟩
theorem wm_26 : ∀ w ∈ wsL_law0_r26, w ∈ lw_tbl := by
  unfold wsL_law0_r26
  exact List.forall_mem_cons.mpr ⟨List.mem_of_getElem? (i := 1133) (by decide +kernel), List.forall_mem_cons.mpr ⟨List.mem_of_getElem? (i := 38) (by decide +kernel), List.forall_mem_cons.mpr ⟨List.mem_of_getElem? (i := 1134) (by decide +kernel), List.forall_mem_cons.mpr ⟨List.mem_of_getElem? (i := 1135) (by decide +kernel), List.forall_mem_cons.mpr ⟨List.mem_of_getElem? (i := 1137) (by decide +kernel), List.forall_mem_cons.mpr ⟨List.mem_of_getElem? (i := 39) (by decide +kernel), List.forall_mem_cons.mpr ⟨List.mem_of_getElem? (i := 1138) (by decide +kernel), List.forall_mem_cons.mpr ⟨List.mem_of_getElem? (i := 790) (by decide +kernel), List.forall_mem_cons.mpr ⟨List.mem_of_getElem? (i := 791) (by decide +kernel), List.forall_mem_cons.mpr ⟨List.mem_of_getElem? (i := 792) (by decide +kernel), List.forall_mem_cons.mpr ⟨List.mem_of_getElem? (i := 793) (by decide +kernel), List.forall_mem_cons.mpr ⟨List.mem_of_getElem? (i := 794) (by decide +kernel), List.forall_mem_cons.mpr ⟨List.mem_of_getElem? (i := 795) (by decide +kernel), List.forall_mem_cons.mpr ⟨List.mem_of_getElem? (i := 796) (by decide +kernel), List.forall_mem_cons.mpr ⟨List.mem_of_getElem? (i := 1139) (by decide +kernel), List.forall_mem_cons.mpr ⟨List.mem_of_getElem? (i := 1140) (by decide +kernel), List.forall_mem_cons.mpr ⟨List.mem_of_getElem? (i := 1141) (by decide +kernel), List.forall_mem_cons.mpr ⟨List.mem_of_getElem? (i := 1142) (by decide +kernel), List.forall_mem_cons.mpr ⟨List.mem_of_getElem? (i := 797) (by decide +kernel), List.forall_mem_cons.mpr ⟨List.mem_of_getElem? (i := 798) (by decide +kernel), List.forall_mem_cons.mpr ⟨List.mem_of_getElem? (i := 799) (by decide +kernel), List.forall_mem_cons.mpr ⟨List.mem_of_getElem? (i := 800) (by decide +kernel), List.forall_mem_cons.mpr ⟨List.mem_of_getElem? (i := 801) (by decide +kernel), List.forall_mem_cons.mpr ⟨List.mem_of_getElem? (i := 802) (by decide +kernel), fun _ h => absurd h List.not_mem_nil⟩⟩⟩⟩⟩⟩⟩⟩⟩⟩⟩⟩⟩⟩⟩⟩⟩⟩⟩⟩⟩⟩⟩⟩
theorem wm_27 : ∀ w ∈ wsL_law0_r27, w ∈ lw_tbl := by
  unfold wsL_law0_r27
  exact List.forall_mem_cons.mpr ⟨List.mem_of_getElem? (i := 803) (by decide +kernel), List.forall_mem_cons.mpr ⟨List.mem_of_getElem? (i := 1143) (by decide +kernel), List.forall_mem_cons.mpr ⟨List.mem_of_getElem? (i := 1144) (by decide +kernel), List.forall_mem_cons.mpr ⟨List.mem_of_getElem? (i := 1145) (by decide +kernel), List.forall_mem_cons.mpr ⟨List.mem_of_getElem? (i := 1146) (by decide +kernel), List.forall_mem_cons.mpr ⟨List.mem_of_getElem? (i := 804) (by decide +kernel), List.forall_mem_cons.mpr ⟨List.mem_of_getElem? (i := 805) (by decide +kernel), List.forall_mem_cons.mpr ⟨List.mem_of_getElem? (i := 806) (by decide +kernel), List.forall_mem_cons.mpr ⟨List.mem_of_getElem? (i := 807) (by decide +kernel), List.forall_mem_cons.mpr ⟨List.mem_of_getElem? (i := 808) (by decide +kernel), List.forall_mem_cons.mpr ⟨List.mem_of_getElem? (i := 809) (by decide +kernel), List.forall_mem_cons.mpr ⟨List.mem_of_getElem? (i := 810) (by decide +kernel), List.forall_mem_cons.mpr ⟨List.mem_of_getElem? (i := 1147) (by decide +kernel), List.forall_mem_cons.mpr ⟨List.mem_of_getElem? (i := 1148) (by decide +kernel), List.forall_mem_cons.mpr ⟨List.mem_of_getElem? (i := 1149) (by decide +kernel), List.forall_mem_cons.mpr ⟨List.mem_of_getElem? (i := 1150) (by decide +kernel), List.forall_mem_cons.mpr ⟨List.mem_of_getElem? (i := 386) (by decide +kernel), List.forall_mem_cons.mpr ⟨List.mem_of_getElem? (i := 387) (by decide +kernel), List.forall_mem_cons.mpr ⟨List.mem_of_getElem? (i := 388) (by decide +kernel), List.forall_mem_cons.mpr ⟨List.mem_of_getElem? (i := 389) (by decide +kernel), List.forall_mem_cons.mpr ⟨List.mem_of_getElem? (i := 390) (by decide +kernel), List.forall_mem_cons.mpr ⟨List.mem_of_getElem? (i := 391) (by decide +kernel), List.forall_mem_cons.mpr ⟨List.mem_of_getElem? (i := 392) (by decide +kernel), List.forall_mem_cons.mpr ⟨List.mem_of_getElem? (i := 393) (by decide +kernel), fun _ h => absurd h List.not_mem_nil⟩⟩⟩⟩⟩⟩⟩⟩⟩⟩⟩⟩⟩⟩⟩⟩⟩⟩⟩⟩⟩⟩⟩⟩
end
section
theorem wm_28 : ∀ w ∈ wsL_law0_r28, w ∈ lw_tbl := by
  unfold wsL_law0_r28
  exact List.forall_mem_cons.mpr ⟨List.mem_of_getElem? (i := 394) (by decide +kernel), List.forall_mem_cons.mpr ⟨List.mem_of_getElem? (i := 396) (by decide +kernel), List.forall_mem_cons.mpr ⟨List.mem_of_getElem? (i := 0) (by decide +kernel), List.forall_mem_cons.mpr ⟨List.mem_of_getElem? (i := 397) (by decide +kernel), List.forall_mem_cons.mpr ⟨List.mem_of_getElem? (i := 270) (by decide +kernel), List.forall_mem_cons.mpr ⟨List.mem_of_getElem? (i := 266) (by decide +kernel), List.forall_mem_cons.mpr ⟨List.mem_of_getElem? (i := 268) (by decide +kernel), List.forall_mem_cons.mpr ⟨List.mem_of_getElem? (i := 434) (by decide +kernel), List.forall_mem_cons.mpr ⟨List.mem_of_getElem? (i := 435) (by decide +kernel), List.forall_mem_cons.mpr ⟨List.mem_of_getElem? (i := 436) (by decide +kernel), List.forall_mem_cons.mpr ⟨List.mem_of_getElem? (i := 437) (by decide +kernel), List.forall_mem_cons.mpr ⟨List.mem_of_getElem? (i := 215) (by decide +kernel), List.forall_mem_cons.mpr ⟨List.mem_of_getElem? (i := 438) (by decide +kernel), List.forall_mem_cons.mpr ⟨List.mem_of_getElem? (i := 439) (by decide +kernel), List.forall_mem_cons.mpr ⟨List.mem_of_getElem? (i := 440) (by decide +kernel), List.forall_mem_cons.mpr ⟨List.mem_of_getElem? (i := 441) (by decide +kernel), List.forall_mem_cons.mpr ⟨List.mem_of_getElem? (i := 452) (by decide +kernel), List.forall_mem_cons.mpr ⟨List.mem_of_getElem? (i := 454) (by decide +kernel), List.forall_mem_cons.mpr ⟨List.mem_of_getElem? (i := 5) (by decide +kernel), List.forall_mem_cons.mpr ⟨List.mem_of_getElem? (i := 455) (by decide +kernel), List.forall_mem_cons.mpr ⟨List.mem_of_getElem? (i := 166) (by decide +kernel), List.forall_mem_cons.mpr ⟨List.mem_of_getElem? (i := 456) (by decide +kernel), List.forall_mem_cons.mpr ⟨List.mem_of_getElem? (i := 458) (by decide +kernel), List.forall_mem_cons.mpr ⟨List.mem_of_getElem? (i := 6) (by decide +kernel), fun _ h => absurd h List.not_mem_nil⟩⟩⟩⟩⟩⟩⟩⟩⟩⟩⟩⟩⟩⟩⟩⟩⟩⟩⟩⟩⟩⟩⟩⟩
theorem wm_29 : ∀ w ∈ wsL_law0_r29, w ∈ lw_tbl := by
  unfold wsL_law0_r29
  exact List.forall_mem_cons.mpr ⟨List.mem_of_getElem? (i := 459) (by decide +kernel), List.forall_mem_cons.mpr ⟨List.mem_of_getElem? (i := 169) (by decide +kernel), List.forall_mem_cons.mpr ⟨List.mem_of_getElem? (i := 460) (by decide +kernel), List.forall_mem_cons.mpr ⟨List.mem_of_getElem? (i := 462) (by decide +kernel), List.forall_mem_cons.mpr ⟨List.mem_of_getElem? (i := 7) (by decide +kernel), List.forall_mem_cons.mpr ⟨List.mem_of_getElem? (i := 463) (by decide +kernel), List.forall_mem_cons.mpr ⟨List.mem_of_getElem? (i := 167) (by decide +kernel), List.forall_mem_cons.mpr ⟨List.mem_of_getElem? (i := 1151) (by decide +kernel), List.forall_mem_cons.mpr ⟨List.mem_of_getElem? (i := 1152) (by decide +kernel), List.forall_mem_cons.mpr ⟨List.mem_of_getElem? (i := 1153) (by decide +kernel), List.forall_mem_cons.mpr ⟨List.mem_of_getElem? (i := 1154) (by decide +kernel), List.forall_mem_cons.mpr ⟨List.mem_of_getElem? (i := 1155) (by decide +kernel), List.forall_mem_cons.mpr ⟨List.mem_of_getElem? (i := 1157) (by decide +kernel), List.forall_mem_cons.mpr ⟨List.mem_of_getElem? (i := 40) (by decide +kernel), List.forall_mem_cons.mpr ⟨List.mem_of_getElem? (i := 1158) (by decide +kernel), List.forall_mem_cons.mpr ⟨List.mem_of_getElem? (i := 1159) (by decide +kernel), List.forall_mem_cons.mpr ⟨List.mem_of_getElem? (i := 1161) (by decide +kernel), List.forall_mem_cons.mpr ⟨List.mem_of_getElem? (i := 41) (by decide +kernel), List.forall_mem_cons.mpr ⟨List.mem_of_getElem? (i := 1162) (by decide +kernel), List.forall_mem_cons.mpr ⟨List.mem_of_getElem? (i := 811) (by decide +kernel), List.forall_mem_cons.mpr ⟨List.mem_of_getElem? (i := 812) (by decide +kernel), List.forall_mem_cons.mpr ⟨List.mem_of_getElem? (i := 813) (by decide +kernel), List.forall_mem_cons.mpr ⟨List.mem_of_getElem? (i := 814) (by decide +kernel), List.forall_mem_cons.mpr ⟨List.mem_of_getElem? (i := 815) (by decide +kernel), fun _ h => absurd h List.not_mem_nil⟩⟩⟩⟩⟩⟩⟩⟩⟩⟩⟩⟩⟩⟩⟩⟩⟩⟩⟩⟩⟩⟩⟩⟩
theorem wm_30 : ∀ w ∈ wsL_law0_r30, w ∈ lw_tbl := by
  unfold wsL_law0_r30
  exact List.forall_mem_cons.mpr ⟨List.mem_of_getElem? (i := 816) (by decide +kernel), List.forall_mem_cons.mpr ⟨List.mem_of_getElem? (i := 817) (by decide +kernel), List.forall_mem_cons.mpr ⟨List.mem_of_getElem? (i := 818) (by decide +kernel), List.forall_mem_cons.mpr ⟨List.mem_of_getElem? (i := 819) (by decide +kernel), List.forall_mem_cons.mpr ⟨List.mem_of_getElem? (i := 820) (by decide +kernel), List.forall_mem_cons.mpr ⟨List.mem_of_getElem? (i := 821) (by decide +kernel), List.forall_mem_cons.mpr ⟨List.mem_of_getElem? (i := 1163) (by decide +kernel), List.forall_mem_cons.mpr ⟨List.mem_of_getElem? (i := 1164) (by decide +kernel), List.forall_mem_cons.mpr ⟨List.mem_of_getElem? (i := 1165) (by decide +kernel), List.forall_mem_cons.mpr ⟨List.mem_of_getElem? (i := 1166) (by decide +kernel), List.forall_mem_cons.mpr ⟨List.mem_of_getElem? (i := 822) (by decide +kernel), List.forall_mem_cons.mpr ⟨List.mem_of_getElem? (i := 823) (by decide +kernel), List.forall_mem_cons.mpr ⟨List.mem_of_getElem? (i := 824) (by decide +kernel), List.forall_mem_cons.mpr ⟨List.mem_of_getElem? (i := 825) (by decide +kernel), List.forall_mem_cons.mpr ⟨List.mem_of_getElem? (i := 826) (by decide +kernel), List.forall_mem_cons.mpr ⟨List.mem_of_getElem? (i := 827) (by decide +kernel), List.forall_mem_cons.mpr ⟨List.mem_of_getElem? (i := 828) (by decide +kernel), List.forall_mem_cons.mpr ⟨List.mem_of_getElem? (i := 310) (by decide +kernel), List.forall_mem_cons.mpr ⟨List.mem_of_getElem? (i := 308) (by decide +kernel), List.forall_mem_cons.mpr ⟨List.mem_of_getElem? (i := 1167) (by decide +kernel), List.forall_mem_cons.mpr ⟨List.mem_of_getElem? (i := 1168) (by decide +kernel), List.forall_mem_cons.mpr ⟨List.mem_of_getElem? (i := 1169) (by decide +kernel), List.forall_mem_cons.mpr ⟨List.mem_of_getElem? (i := 1170) (by decide +kernel), List.forall_mem_cons.mpr ⟨List.mem_of_getElem? (i := 829) (by decide +kernel), fun _ h => absurd h List.not_mem_nil⟩⟩⟩⟩⟩⟩⟩⟩⟩⟩⟩⟩⟩⟩⟩⟩⟩⟩⟩⟩⟩⟩⟩⟩
theorem wm_31 : ∀ w ∈ wsL_law0_r31, w ∈ lw_tbl := by
  unfold wsL_law0_r31
  exact List.forall_mem_cons.mpr ⟨List.mem_of_getElem? (i := 830) (by decide +kernel), List.forall_mem_cons.mpr ⟨List.mem_of_getElem? (i := 831) (by decide +kernel), List.forall_mem_cons.mpr ⟨List.mem_of_getElem? (i := 832) (by decide +kernel), List.forall_mem_cons.mpr ⟨List.mem_of_getElem? (i := 833) (by decide +kernel), List.forall_mem_cons.mpr ⟨List.mem_of_getElem? (i := 834) (by decide +kernel), List.forall_mem_cons.mpr ⟨List.mem_of_getElem? (i := 835) (by decide +kernel), List.forall_mem_cons.mpr ⟨List.mem_of_getElem? (i := 836) (by decide +kernel), List.forall_mem_cons.mpr ⟨List.mem_of_getElem? (i := 837) (by decide +kernel), List.forall_mem_cons.mpr ⟨List.mem_of_getElem? (i := 838) (by decide +kernel), List.forall_mem_cons.mpr ⟨List.mem_of_getElem? (i := 839) (by decide +kernel), List.forall_mem_cons.mpr ⟨List.mem_of_getElem? (i := 1171) (by decide +kernel), List.forall_mem_cons.mpr ⟨List.mem_of_getElem? (i := 1172) (by decide +kernel), List.forall_mem_cons.mpr ⟨List.mem_of_getElem? (i := 1173) (by decide +kernel), List.forall_mem_cons.mpr ⟨List.mem_of_getElem? (i := 1174) (by decide +kernel), List.forall_mem_cons.mpr ⟨List.mem_of_getElem? (i := 840) (by decide +kernel), List.forall_mem_cons.mpr ⟨List.mem_of_getElem? (i := 841) (by decide +kernel), List.forall_mem_cons.mpr ⟨List.mem_of_getElem? (i := 842) (by decide +kernel), List.forall_mem_cons.mpr ⟨List.mem_of_getElem? (i := 843) (by decide +kernel), List.forall_mem_cons.mpr ⟨List.mem_of_getElem? (i := 844) (by decide +kernel), List.forall_mem_cons.mpr ⟨List.mem_of_getElem? (i := 845) (by decide +kernel), List.forall_mem_cons.mpr ⟨List.mem_of_getElem? (i := 846) (by decide +kernel), List.forall_mem_cons.mpr ⟨List.mem_of_getElem? (i := 216) (by decide +kernel), List.forall_mem_cons.mpr ⟨List.mem_of_getElem? (i := 847) (by decide +kernel), List.forall_mem_cons.mpr ⟨List.mem_of_getElem? (i := 848) (by decide +kernel), fun _ h => absurd h List.not_mem_nil⟩⟩⟩⟩⟩⟩⟩⟩⟩⟩⟩⟩⟩⟩⟩⟩⟩⟩⟩⟩⟩⟩⟩⟩
theorem wm_32 : ∀ w ∈ wsL_law0_r32, w ∈ lw_tbl := by
  unfold wsL_law0_r32
  exact List.forall_mem_cons.mpr ⟨List.mem_of_getElem? (i := 849) (by decide +kernel), List.forall_mem_cons.mpr ⟨List.mem_of_getElem? (i := 850) (by decide +kernel), List.forall_mem_cons.mpr ⟨List.mem_of_getElem? (i := 201) (by decide +kernel), List.forall_mem_cons.mpr ⟨List.mem_of_getElem? (i := 851) (by decide +kernel), List.forall_mem_cons.mpr ⟨List.mem_of_getElem? (i := 852) (by decide +kernel), List.forall_mem_cons.mpr ⟨List.mem_of_getElem? (i := 853) (by decide +kernel), List.forall_mem_cons.mpr ⟨List.mem_of_getElem? (i := 854) (by decide +kernel), List.forall_mem_cons.mpr ⟨List.mem_of_getElem? (i := 1175) (by decide +kernel), List.forall_mem_cons.mpr ⟨List.mem_of_getElem? (i := 1176) (by decide +kernel), List.forall_mem_cons.mpr ⟨List.mem_of_getElem? (i := 1177) (by decide +kernel), List.forall_mem_cons.mpr ⟨List.mem_of_getElem? (i := 1178) (by decide +kernel), List.forall_mem_cons.mpr ⟨List.mem_of_getElem? (i := 1179) (by decide +kernel), List.forall_mem_cons.mpr ⟨List.mem_of_getElem? (i := 1181) (by decide +kernel), List.forall_mem_cons.mpr ⟨List.mem_of_getElem? (i := 42) (by decide +kernel), List.forall_mem_cons.mpr ⟨List.mem_of_getElem? (i := 1182) (by decide +kernel), List.forall_mem_cons.mpr ⟨List.mem_of_getElem? (i := 464) (by decide +kernel), List.forall_mem_cons.mpr ⟨List.mem_of_getElem? (i := 465) (by decide +kernel), List.forall_mem_cons.mpr ⟨List.mem_of_getElem? (i := 466) (by decide +kernel), List.forall_mem_cons.mpr ⟨List.mem_of_getElem? (i := 467) (by decide +kernel), List.forall_mem_cons.mpr ⟨List.mem_of_getElem? (i := 126) (by decide +kernel), List.forall_mem_cons.mpr ⟨List.mem_of_getElem? (i := 1183) (by decide +kernel), List.forall_mem_cons.mpr ⟨List.mem_of_getElem? (i := 1184) (by decide +kernel), List.forall_mem_cons.mpr ⟨List.mem_of_getElem? (i := 1185) (by decide +kernel), List.forall_mem_cons.mpr ⟨List.mem_of_getElem? (i := 1186) (by decide +kernel), fun _ h => absurd h List.not_mem_nil⟩⟩⟩⟩⟩⟩⟩⟩⟩⟩⟩⟩⟩⟩⟩⟩⟩⟩⟩⟩⟩⟩⟩⟩
end
section
theorem wx_0 : ∀ k, k < 4 → u_lay RX0 TX0 k ∈ lw_tbl := fun k hk => match k, hk with
  | 0, _ => List.mem_of_getElem? (i := 293) (by decide +kernel)
  | 1, _ => List.mem_of_getElem? (i := 295) (by decide +kernel)
  | 2, _ => List.mem_of_getElem? (i := 297) (by decide +kernel)
  | 3, _ => List.mem_of_getElem? (i := 299) (by decide +kernel)
  | n + 4, h => absurd h (by omega)
theorem inX0 : ∀ w ∈ wsX00, w ∈ lw_tbl := fun w h => by
  obtain ⟨k, hk, rfl⟩ := List.mem_map.mp h
  exact wx_0 k (List.mem_range.mp hk)
theorem wx_1 : ∀ k, k < 11 → u_lay RX1 TX1 k ∈ lw_tbl := fun k hk => match k, hk with
  | 0, _ => List.mem_of_getElem? (i := 316) (by decide +kernel)
  | 1, _ => List.mem_of_getElem? (i := 318) (by decide +kernel)
  | 2, _ => List.mem_of_getElem? (i := 320) (by decide +kernel)
  | 3, _ => List.mem_of_getElem? (i := 322) (by decide +kernel)
  | 4, _ => List.mem_of_getElem? (i := 324) (by decide +kernel)
  | 5, _ => List.mem_of_getElem? (i := 326) (by decide +kernel)
  | 6, _ => List.mem_of_getElem? (i := 328) (by decide +kernel)
  | 7, _ => List.mem_of_getElem? (i := 330) (by decide +kernel)
  | 8, _ => List.mem_of_getElem? (i := 332) (by decide +kernel)
  | 9, _ => List.mem_of_getElem? (i := 334) (by decide +kernel)
  | 10, _ => List.mem_of_getElem? (i := 336) (by decide +kernel)
  | n + 11, h => absurd h (by omega)
theorem inX1 : ∀ w ∈ wsX10, w ∈ lw_tbl := fun w h => by
  obtain ⟨k, hk, rfl⟩ := List.mem_map.mp h
  exact wx_1 k (List.mem_range.mp hk)
theorem wx_2 : ∀ k, k < 7 → u_lay RX2 TX2 k ∈ lw_tbl := fun k hk => match k, hk with
  | 0, _ => List.mem_of_getElem? (i := 351) (by decide +kernel)
  | 1, _ => List.mem_of_getElem? (i := 353) (by decide +kernel)
  | 2, _ => List.mem_of_getElem? (i := 355) (by decide +kernel)
  | 3, _ => List.mem_of_getElem? (i := 357) (by decide +kernel)
  | 4, _ => List.mem_of_getElem? (i := 359) (by decide +kernel)
  | 5, _ => List.mem_of_getElem? (i := 361) (by decide +kernel)
  | 6, _ => List.mem_of_getElem? (i := 363) (by decide +kernel)
  | n + 7, h => absurd h (by omega)
theorem inX2 : ∀ w ∈ wsX20, w ∈ lw_tbl := fun w h => by
  obtain ⟨k, hk, rfl⟩ := List.mem_map.mp h
  exact wx_2 k (List.mem_range.mp hk)
theorem wx_3 : ∀ k, k < 11 → u_lay RX3 TX3 k ∈ lw_tbl := fun k hk => match k, hk with
  | 0, _ => List.mem_of_getElem? (i := 172) (by decide +kernel)
  | 1, _ => List.mem_of_getElem? (i := 174) (by decide +kernel)
  | 2, _ => List.mem_of_getElem? (i := 176) (by decide +kernel)
  | 3, _ => List.mem_of_getElem? (i := 178) (by decide +kernel)
  | 4, _ => List.mem_of_getElem? (i := 180) (by decide +kernel)
  | 5, _ => List.mem_of_getElem? (i := 182) (by decide +kernel)
  | 6, _ => List.mem_of_getElem? (i := 184) (by decide +kernel)
  | 7, _ => List.mem_of_getElem? (i := 186) (by decide +kernel)
  | 8, _ => List.mem_of_getElem? (i := 188) (by decide +kernel)
  | 9, _ => List.mem_of_getElem? (i := 190) (by decide +kernel)
  | 10, _ => List.mem_of_getElem? (i := 192) (by decide +kernel)
  | n + 11, h => absurd h (by omega)
theorem inX3 : ∀ w ∈ wsX30, w ∈ lw_tbl := fun w h => by
  obtain ⟨k, hk, rfl⟩ := List.mem_map.mp h
  exact wx_3 k (List.mem_range.mp hk)
theorem wx_4 : ∀ k, k < 11 → u_lay RX4 TX4 k ∈ lw_tbl := fun k hk => match k, hk with
  | 0, _ => List.mem_of_getElem? (i := 217) (by decide +kernel)
  | 1, _ => List.mem_of_getElem? (i := 219) (by decide +kernel)
  | 2, _ => List.mem_of_getElem? (i := 221) (by decide +kernel)
  | 3, _ => List.mem_of_getElem? (i := 223) (by decide +kernel)
  | 4, _ => List.mem_of_getElem? (i := 225) (by decide +kernel)
  | 5, _ => List.mem_of_getElem? (i := 227) (by decide +kernel)
  | 6, _ => List.mem_of_getElem? (i := 229) (by decide +kernel)
  | 7, _ => List.mem_of_getElem? (i := 231) (by decide +kernel)
  | 8, _ => List.mem_of_getElem? (i := 233) (by decide +kernel)
  | 9, _ => List.mem_of_getElem? (i := 235) (by decide +kernel)
  | 10, _ => List.mem_of_getElem? (i := 237) (by decide +kernel)
  | n + 11, h => absurd h (by omega)
theorem inX4 : ∀ w ∈ wsX40, w ∈ lw_tbl := fun w h => by
  obtain ⟨k, hk, rfl⟩ := List.mem_map.mp h
  exact wx_4 k (List.mem_range.mp hk)
theorem wx_5 : ∀ k, k < 6 → u_lay RX5 TX5 k ∈ lw_tbl := fun k hk => match k, hk with
  | 0, _ => List.mem_of_getElem? (i := 107) (by decide +kernel)
  | 1, _ => List.mem_of_getElem? (i := 109) (by decide +kernel)
  | 2, _ => List.mem_of_getElem? (i := 111) (by decide +kernel)
  | 3, _ => List.mem_of_getElem? (i := 113) (by decide +kernel)
  | 4, _ => List.mem_of_getElem? (i := 115) (by decide +kernel)
  | 5, _ => List.mem_of_getElem? (i := 117) (by decide +kernel)
  | n + 6, h => absurd h (by omega)
theorem inX5 : ∀ w ∈ wsX50, w ∈ lw_tbl := fun w h => by
  obtain ⟨k, hk, rfl⟩ := List.mem_map.mp h
  exact wx_5 k (List.mem_range.mp hk)
theorem wx_6 : ∀ k, k < 4 → u_lay RX6 TX6 k ∈ lw_tbl := fun k hk => match k, hk with
  | 0, _ => List.mem_of_getElem? (i := 127) (by decide +kernel)
  | 1, _ => List.mem_of_getElem? (i := 129) (by decide +kernel)
  | 2, _ => List.mem_of_getElem? (i := 131) (by decide +kernel)
  | 3, _ => List.mem_of_getElem? (i := 133) (by decide +kernel)
  | n + 4, h => absurd h (by omega)
theorem inX6 : ∀ w ∈ wsX60, w ∈ lw_tbl := fun w h => by
  obtain ⟨k, hk, rfl⟩ := List.mem_map.mp h
  exact wx_6 k (List.mem_range.mp hk)
theorem wx_7 : ∀ k, k < 3 → u_lay RX7 TX7 k ∈ lw_tbl := fun k hk => match k, hk with
  | 0, _ => List.mem_of_getElem? (i := 245) (by decide +kernel)
  | 1, _ => List.mem_of_getElem? (i := 247) (by decide +kernel)
  | 2, _ => List.mem_of_getElem? (i := 249) (by decide +kernel)
  | n + 3, h => absurd h (by omega)
theorem inX7 : ∀ w ∈ wsX70, w ∈ lw_tbl := fun w h => by
  obtain ⟨k, hk, rfl⟩ := List.mem_map.mp h
  exact wx_7 k (List.mem_range.mp hk)
theorem wx_8 : ∀ k, k < 4 → u_lay RX8 TX8 k ∈ lw_tbl := fun k hk => match k, hk with
  | 0, _ => List.mem_of_getElem? (i := 271) (by decide +kernel)
  | 1, _ => List.mem_of_getElem? (i := 273) (by decide +kernel)
  | 2, _ => List.mem_of_getElem? (i := 275) (by decide +kernel)
  | 3, _ => List.mem_of_getElem? (i := 277) (by decide +kernel)
  | n + 4, h => absurd h (by omega)
theorem inX8 : ∀ w ∈ wsX80, w ∈ lw_tbl := fun w h => by
  obtain ⟨k, hk, rfl⟩ := List.mem_map.mp h
  exact wx_8 k (List.mem_range.mp hk)
theorem wx_9 : ∀ k, k < 5 → u_lay RX9 TX9 k ∈ lw_tbl := fun k hk => match k, hk with
  | 0, _ => List.mem_of_getElem? (i := 371) (by decide +kernel)
  | 1, _ => List.mem_of_getElem? (i := 373) (by decide +kernel)
  | 2, _ => List.mem_of_getElem? (i := 375) (by decide +kernel)
  | 3, _ => List.mem_of_getElem? (i := 377) (by decide +kernel)
  | 4, _ => List.mem_of_getElem? (i := 379) (by decide +kernel)
  | n + 5, h => absurd h (by omega)
theorem inX9 : ∀ w ∈ wsX90, w ∈ lw_tbl := fun w h => by
  obtain ⟨k, hk, rfl⟩ := List.mem_map.mp h
  exact wx_9 k (List.mem_range.mp hk)
theorem wx_10 : ∀ k, k < 50 → u_lay RX10 TX10 k ∈ lw_tbl := fun k hk => match k, hk with
  | 0, _ => List.mem_of_getElem? (i := 911) (by decide +kernel)
  | 1, _ => List.mem_of_getElem? (i := 913) (by decide +kernel)
  | 2, _ => List.mem_of_getElem? (i := 915) (by decide +kernel)
  | 3, _ => List.mem_of_getElem? (i := 917) (by decide +kernel)
  | 4, _ => List.mem_of_getElem? (i := 919) (by decide +kernel)
  | 5, _ => List.mem_of_getElem? (i := 921) (by decide +kernel)
  | 6, _ => List.mem_of_getElem? (i := 923) (by decide +kernel)
  | 7, _ => List.mem_of_getElem? (i := 925) (by decide +kernel)
  | 8, _ => List.mem_of_getElem? (i := 927) (by decide +kernel)
  | 9, _ => List.mem_of_getElem? (i := 929) (by decide +kernel)
  | 10, _ => List.mem_of_getElem? (i := 931) (by decide +kernel)
  | 11, _ => List.mem_of_getElem? (i := 933) (by decide +kernel)
  | 12, _ => List.mem_of_getElem? (i := 935) (by decide +kernel)
  | 13, _ => List.mem_of_getElem? (i := 937) (by decide +kernel)
  | 14, _ => List.mem_of_getElem? (i := 939) (by decide +kernel)
  | 15, _ => List.mem_of_getElem? (i := 941) (by decide +kernel)
  | 16, _ => List.mem_of_getElem? (i := 943) (by decide +kernel)
  | 17, _ => List.mem_of_getElem? (i := 945) (by decide +kernel)
  | 18, _ => List.mem_of_getElem? (i := 947) (by decide +kernel)
  | 19, _ => List.mem_of_getElem? (i := 949) (by decide +kernel)
  | 20, _ => List.mem_of_getElem? (i := 951) (by decide +kernel)
  | 21, _ => List.mem_of_getElem? (i := 953) (by decide +kernel)
  | 22, _ => List.mem_of_getElem? (i := 955) (by decide +kernel)
  | 23, _ => List.mem_of_getElem? (i := 957) (by decide +kernel)
  | 24, _ => List.mem_of_getElem? (i := 959) (by decide +kernel)
  | 25, _ => List.mem_of_getElem? (i := 961) (by decide +kernel)
  | 26, _ => List.mem_of_getElem? (i := 963) (by decide +kernel)
  | 27, _ => List.mem_of_getElem? (i := 965) (by decide +kernel)
  | 28, _ => List.mem_of_getElem? (i := 967) (by decide +kernel)
  | 29, _ => List.mem_of_getElem? (i := 969) (by decide +kernel)
  | 30, _ => List.mem_of_getElem? (i := 971) (by decide +kernel)
  | 31, _ => List.mem_of_getElem? (i := 973) (by decide +kernel)
  | 32, _ => List.mem_of_getElem? (i := 975) (by decide +kernel)
  | 33, _ => List.mem_of_getElem? (i := 977) (by decide +kernel)
  | 34, _ => List.mem_of_getElem? (i := 979) (by decide +kernel)
  | 35, _ => List.mem_of_getElem? (i := 981) (by decide +kernel)
  | 36, _ => List.mem_of_getElem? (i := 983) (by decide +kernel)
  | 37, _ => List.mem_of_getElem? (i := 985) (by decide +kernel)
  | 38, _ => List.mem_of_getElem? (i := 987) (by decide +kernel)
  | 39, _ => List.mem_of_getElem? (i := 989) (by decide +kernel)
  | 40, _ => List.mem_of_getElem? (i := 991) (by decide +kernel)
  | 41, _ => List.mem_of_getElem? (i := 993) (by decide +kernel)
  | 42, _ => List.mem_of_getElem? (i := 995) (by decide +kernel)
  | 43, _ => List.mem_of_getElem? (i := 997) (by decide +kernel)
  | 44, _ => List.mem_of_getElem? (i := 999) (by decide +kernel)
  | 45, _ => List.mem_of_getElem? (i := 1001) (by decide +kernel)
  | 46, _ => List.mem_of_getElem? (i := 1003) (by decide +kernel)
  | 47, _ => List.mem_of_getElem? (i := 1005) (by decide +kernel)
  | 48, _ => List.mem_of_getElem? (i := 1007) (by decide +kernel)
  | 49, _ => List.mem_of_getElem? (i := 1009) (by decide +kernel)
  | n + 50, h => absurd h (by omega)
theorem inX10 : ∀ w ∈ wsX100, w ∈ lw_tbl := fun w h => by
  obtain ⟨k, hk, rfl⟩ := List.mem_map.mp h
  exact wx_10 k (List.mem_range.mp hk)
end
section
theorem wsL_law_x0 : ∀ w ∈ (vx_at0 RX9 219 "java/util/NoSuchElementException" ["java/lang/RuntimeException", "java/lang/Exception"]).filter goodWord, w ∈ lw_tbl := by decide +kernel
theorem wsL_law_x1 : ∀ w ∈ (vx_at0 RX9 222 "java/lang/IllegalArgumentException" ["java/lang/RuntimeException", "java/lang/Exception"]).filter goodWord, w ∈ lw_tbl := by decide +kernel
theorem wsL_law_x2 : ∀ w ∈ (vx_at0 RX9 228 "java/lang/IllegalStateException" ["java/lang/RuntimeException", "java/lang/Exception"]).filter goodWord, w ∈ lw_tbl := by decide +kernel
theorem wsL_law_x3 : ∀ w ∈ (vx_at0 RX9 121 "java/lang/UnsupportedOperationException" ["java/lang/RuntimeException", "java/lang/Exception"]).filter goodWord, w ∈ lw_tbl := by decide +kernel
theorem wsL_law_x4 : ∀ w ∈ (vx_at0 RX9 225 "java/lang/IndexOutOfBoundsException" ["java/lang/RuntimeException", "java/lang/Exception"]).filter goodWord, w ∈ lw_tbl := by decide +kernel
theorem wsL_law_in0 : ∀ w ∈ wsL_law0, w ∈ lw_tbl := fun w => (fun h => (List.mem_append.mp h).elim (fun h => (List.mem_append.mp h).elim (fun h => (List.mem_append.mp h).elim (fun h => (List.mem_append.mp h).elim (fun h => (List.mem_append.mp h).elim (fun h => (List.mem_append.mp h).elim (fun h => (List.mem_append.mp h).elim (fun h => (List.mem_append.mp h).elim (fun h => (List.mem_append.mp h).elim (fun h => (List.mem_append.mp h).elim (fun h => (List.mem_append.mp h).elim (fun h => (List.mem_append.mp h).elim (fun h => (List.mem_append.mp h).elim (wm_1 w) (fun h => (List.mem_append.mp h).elim (wm_2 w) (fun h => (List.mem_append.mp h).elim (wm_3 w) (fun h => (List.mem_append.mp h).elim (wm_4 w) (fun h => (List.mem_append.mp h).elim (wm_5 w) (fun h => (List.mem_append.mp h).elim (wm_6 w) (fun h => (List.mem_append.mp h).elim (wm_7 w) (fun h => (List.mem_append.mp h).elim (wm_8 w) (fun h => (List.mem_append.mp h).elim (wm_9 w) (fun h => (List.mem_append.mp h).elim (wm_10 w) (fun h => (List.mem_append.mp h).elim (wm_11 w) (fun h => (List.mem_append.mp h).elim (wm_12 w) (fun h => (List.mem_append.mp h).elim (wm_13 w) (fun h => (List.mem_append.mp h).elim (wm_14 w) (fun h => (List.mem_append.mp h).elim (wm_15 w) (fun h => (List.mem_append.mp h).elim (wm_16 w) (fun h => (List.mem_append.mp h).elim (wm_17 w) (fun h => (List.mem_append.mp h).elim (wm_18 w) (fun h => (List.mem_append.mp h).elim (wm_19 w) (fun h => (List.mem_append.mp h).elim (wm_20 w) (fun h => (List.mem_append.mp h).elim (wm_21 w) (fun h => (List.mem_append.mp h).elim (wm_22 w) (fun h => (List.mem_append.mp h).elim (wm_23 w) (fun h => (List.mem_append.mp h).elim (wm_24 w) (fun h => (List.mem_append.mp h).elim (wm_25 w) (fun h => (List.mem_append.mp h).elim (wm_26 w) (fun h => (List.mem_append.mp h).elim (wm_27 w) (fun h => (List.mem_append.mp h).elim (wm_28 w) (fun h => (List.mem_append.mp h).elim (wm_29 w) (fun h => (List.mem_append.mp h).elim (wm_30 w) (fun h => (List.mem_append.mp h).elim (wm_31 w) (wm_32 w)))))))))))))))))))))))))))))))) (inX9 w)) (inX10 w)) (inX6 w)) (inX7 w)) (inX1 w)) (inX2 w)) (inX5 w)) (inX4 w)) (inX3 w)) (inX8 w)) (inX0 w)) (fun h => absurd h List.not_mem_nil))
theorem wsL_law_in : ∀ w ∈ wsL_law, w ∈ lw_tbl := fun w h => (List.mem_append.mp h).elim (fun h => (List.mem_append.mp h).elim (fun h => (List.mem_append.mp h).elim (fun h => (List.mem_append.mp h).elim (fun h => (List.mem_append.mp h).elim (fun h => wsL_law_in0 w h) (fun h => wsL_law_x0 w h)) (fun h => wsL_law_x1 w h)) (fun h => wsL_law_x2 w h)) (fun h => wsL_law_x3 w h)) (fun h => wsL_law_x4 w h)
theorem inlX0 : ∀ w ∈ wsX00, w ∈ wsL_law := fun _ h => List.mem_append_left _ (List.mem_append_left _ (List.mem_append_left _ (List.mem_append_left _ (List.mem_append_left _ (List.mem_append_left _ (List.mem_append_right _ h))))))
theorem inlX1 : ∀ w ∈ wsX10, w ∈ wsL_law := fun _ h => List.mem_append_left _ (List.mem_append_left _ (List.mem_append_left _ (List.mem_append_left _ (List.mem_append_left _ (List.mem_append_left _ (List.mem_append_left _ (List.mem_append_left _ (List.mem_append_left _ (List.mem_append_left _ (List.mem_append_left _ (List.mem_append_left _ (List.mem_append_right _ h))))))))))))
theorem inlX2 : ∀ w ∈ wsX20, w ∈ wsL_law := fun _ h => List.mem_append_left _ (List.mem_append_left _ (List.mem_append_left _ (List.mem_append_left _ (List.mem_append_left _ (List.mem_append_left _ (List.mem_append_left _ (List.mem_append_left _ (List.mem_append_left _ (List.mem_append_left _ (List.mem_append_left _ (List.mem_append_right _ h)))))))))))
theorem inlX3 : ∀ w ∈ wsX30, w ∈ wsL_law := fun _ h => List.mem_append_left _ (List.mem_append_left _ (List.mem_append_left _ (List.mem_append_left _ (List.mem_append_left _ (List.mem_append_left _ (List.mem_append_left _ (List.mem_append_left _ (List.mem_append_right _ h))))))))
theorem inlX4 : ∀ w ∈ wsX40, w ∈ wsL_law := fun _ h => List.mem_append_left _ (List.mem_append_left _ (List.mem_append_left _ (List.mem_append_left _ (List.mem_append_left _ (List.mem_append_left _ (List.mem_append_left _ (List.mem_append_left _ (List.mem_append_left _ (List.mem_append_right _ h)))))))))
theorem inlX5 : ∀ w ∈ wsX50, w ∈ wsL_law := fun _ h => List.mem_append_left _ (List.mem_append_left _ (List.mem_append_left _ (List.mem_append_left _ (List.mem_append_left _ (List.mem_append_left _ (List.mem_append_left _ (List.mem_append_left _ (List.mem_append_left _ (List.mem_append_left _ (List.mem_append_right _ h))))))))))
theorem inlX6 : ∀ w ∈ wsX60, w ∈ wsL_law := fun _ h => List.mem_append_left _ (List.mem_append_left _ (List.mem_append_left _ (List.mem_append_left _ (List.mem_append_left _ (List.mem_append_left _ (List.mem_append_left _ (List.mem_append_left _ (List.mem_append_left _ (List.mem_append_left _ (List.mem_append_left _ (List.mem_append_left _ (List.mem_append_left _ (List.mem_append_left _ (List.mem_append_right _ h))))))))))))))
theorem inlX7 : ∀ w ∈ wsX70, w ∈ wsL_law := fun _ h => List.mem_append_left _ (List.mem_append_left _ (List.mem_append_left _ (List.mem_append_left _ (List.mem_append_left _ (List.mem_append_left _ (List.mem_append_left _ (List.mem_append_left _ (List.mem_append_left _ (List.mem_append_left _ (List.mem_append_left _ (List.mem_append_left _ (List.mem_append_left _ (List.mem_append_right _ h)))))))))))))
theorem inlX8 : ∀ w ∈ wsX80, w ∈ wsL_law := fun _ h => List.mem_append_left _ (List.mem_append_left _ (List.mem_append_left _ (List.mem_append_left _ (List.mem_append_left _ (List.mem_append_left _ (List.mem_append_left _ (List.mem_append_right _ h)))))))
theorem inlX9 : ∀ w ∈ wsX90, w ∈ wsL_law := fun _ h => List.mem_append_left _ (List.mem_append_left _ (List.mem_append_left _ (List.mem_append_left _ (List.mem_append_left _ (List.mem_append_left _ (List.mem_append_left _ (List.mem_append_left _ (List.mem_append_left _ (List.mem_append_left _ (List.mem_append_left _ (List.mem_append_left _ (List.mem_append_left _ (List.mem_append_left _ (List.mem_append_left _ (List.mem_append_left _ (List.mem_append_right _ h))))))))))))))))
theorem inlX10 : ∀ w ∈ wsX100, w ∈ wsL_law := fun _ h => List.mem_append_left _ (List.mem_append_left _ (List.mem_append_left _ (List.mem_append_left _ (List.mem_append_left _ (List.mem_append_left _ (List.mem_append_left _ (List.mem_append_left _ (List.mem_append_left _ (List.mem_append_left _ (List.mem_append_left _ (List.mem_append_left _ (List.mem_append_left _ (List.mem_append_left _ (List.mem_append_left _ (List.mem_append_right _ h)))))))))))))))
theorem wsL_good : ∀ w ∈ wsL_law, goodWord w = true := fun w h => List.all_eq_true.mp (show wsL_law.all goodWord = true by decide +kernel) w h
end
section
/-! THE SHORT MACHINE. Values of the walk: references are places in a small heap (a list of cells, in the order in which they are made); .float stands for the law's script, .retAddr for a reference that isn't looked at. -/
def mv (base b : Nat) : Value → Value
  | .ref a => .ref (base + a)
  | .float _ => .ref b
  | .retAddr q => .ref q
  | v => v
abbrev ME : Type := (Nat × vp_A) ⊕ (Nat × List Value)
abbrev MH : Type := List ME
def ma (base : Nat) : vp_A → vp_A
  | (n, .inr (.inr (.inr (.inr f)))) => (n, .inr (.inr (.inr (.inr (fun i => (f i).map (fun a => base + a))))))
  | a => a
def me (cy : Nat → ClassId) (base b : Nat) : ME → va_E
  | .inl (t, a) => .inl (cy t, ma base a)
  | .inr (ci, fs) => .inr (ci, fs.map (mv base b))
def mw (cy : Nat → ClassId) (base b : Nat) (h : MH) : va_W := h.mapIdx (fun i c => (base + i, me cy base b c))
theorem mv_cat (base b : Nat) (v : Value) : (mv base b v).category = v.category := by cases v <;> rfl
theorem mw_get {cy : Nat → ClassId} {base b : Nat} {h : MH} {i : Nat} {c : ME} (hc : h[i]? = some c) : (mw cy base b h)[i]? = some (base + i, me cy base b c) := by
  simp [mw, List.getElem?_mapIdx, hc]
theorem mw_of {cy : Nat → ClassId} {base b : Nat} {h : MH} {i : Nat} {q : Nat × va_E} (hc : (mw cy base b h)[i]? = some q) : ∃ c, h[i]? = some c ∧ q = (base + i, me cy base b c) := by
  simp only [mw, List.getElem?_mapIdx, Option.map_eq_some_iff] at hc
  obtain ⟨c, h1, h2⟩ := hc
  exact ⟨c, h1, h2.symm⟩
theorem mw_set {cy : Nat → ClassId} {base b : Nat} {h : MH} {i : Nat} {c : ME} : (mw cy base b h).set i (base + i, me cy base b c) = mw cy base b (h.set i c) := by
  apply List.ext_getElem?
  intro j
  by_cases hj : i = j
  · subst hj
    by_cases hl : i < h.length
    · simp [mw, List.getElem?_set, List.getElem?_mapIdx, hl]
    · simp [mw, List.getElem?_set, List.getElem?_mapIdx, hl]
  · simp [mw, List.getElem?_set, List.getElem?_mapIdx, hj]
theorem mw_push {cy : Nat → ClassId} {base b : Nat} {h : MH} {c : ME} : mw cy base b (h ++ [c]) = mw cy base b h ++ [(base + h.length, me cy base b c)] := by
  simp [mw, List.mapIdx_append]
theorem mw_D {cy : Nat → ClassId} {base b : Nat} {h : MH} : va_D (fun q : Nat => base ≤ q) (mw cy base b h) := by
  refine ⟨fun i j p q hi hj hpq => ?_, fun k q hk => ?_⟩
  · obtain ⟨c, -, e1⟩ := mw_of hi
    obtain ⟨c', -, e2⟩ := mw_of hj
    rw [e1, e2] at hpq
    simp only at hpq
    omega
  · obtain ⟨c, -, e1⟩ := mw_of hk
    rw [e1]
    simp only
    omega
/-! methods: name, code, locals, answer, table -/
abbrev Mt : Type := MethodName × ByteArray × Nat × Option FieldType × List (Nat × Nat × Nat × Nat)
abbrev Mc (M : Mt) : ByteArray := M.2.1
abbrev Mn (M : Mt) : Nat := M.2.2.1
abbrev Mr (M : Mt) : Option FieldType := M.2.2.2.1
abbrev Mh (M : Mt) : List (Nat × Nat × Nat × Nat) := M.2.2.2.2
def Mw (M : Mt) : Cond := if Mh M = [] then .code M.1 (Mc M) (Mn M) (Mr M) else .codeWith M.1 (Mc M) (Mn M) (Mr M) (Mh M)
def mtys (cy : Nat → ClassId) : List (ClassId × FieldType) := [(cy 0, .int), (cy 1, .boolean), (cy 2, .long), (cy 3, .object RX5), (cy 4, .object RX7), (cy 5, .object RX1), (cy 6, .object RX2), (cy 7, .object RX4), (cy 8, .object RX0)]
/-! what the tables say beyond the good words -/
def eN : String := "java/util/NoSuchElementException"
def eA : String := "java/lang/IllegalArgumentException"
def eS : String := "java/lang/IllegalStateException"
def eI : String := "java/lang/IndexOutOfBoundsException"
def eU : String := "java/lang/UnsupportedOperationException"
def eR : String := "java/lang/RuntimeException"
def eX : String := "java/lang/Exception"
def fwd : List Cond := [.castable eN eN, .castable eA eA, .castable eS eS, .castable eI eI, .castable eU eU, .declares (Bundle.init0 eR), .declares (Bundle.init0 eX), .declares (Bundle.init0 Bundle.tN)]
def nsl : List (String × Nat × MethodName × String) := [(RX6, 21, yX5_init, RX9), (RX7, 25, yX4_init, RX9), (RX4, 20, yX3_init, RX9), (RX1, 11, yX8_init, RX9), (RX1, 48, yX0_init, RX9)]
def aol : List String := [RX5, RX7, RX1, RX2, RX4, RX0]
def ncl : List (String × String) := [(eA, eN), (eS, eN), (eI, eN), (eU, eN), (eU, eS)]
def Kf (D : va_G) (cy : Nat → ClassId) (U : State) : Prop :=
  va_K D vwCl (mtys cy) U ∧ (∀ w ∈ fwd, va_Nw w U) ∧ (∀ q ∈ nsl, va_Nw (.methodLinkNest q.1 q.2.1 q.2.2.1 q.2.2.2) U) ∧ (∀ C ∈ aol, va_AO C U) ∧ ∀ q ∈ ncl, va_Nc q.1 q.2 U
theorem face_at {s U : State} {w : Cond} (hW : s.WarmedH U.vm) (h1 : w.onTables = true) (h2 : w.keepsFace = true) (h : va_Nw w s) : va_Nw w U :=
  va_Nw.same h1 (rfl : (s.setVm U.vm).vm = U.vm) (Cond.before_shiftedFace (State.Shifted.of_warmed hW) w h2 h)
theorem Kf.moved {D : va_G} {cy : Nat → ClassId} {s U : State} (hW : s.WarmedH U.vm) (h : Kf D cy s) : Kf D cy U := by
  obtain ⟨h1, h2, h3, h4, h5⟩ := h
  refine ⟨va_K.moved hW.alike h1, fun w hw => ?_, fun q hq => va_Nw.warmM hW (h3 q hq), fun C hC => va_AO.moved hW.alike (h4 C hC), fun q hq => va_Nc.moved hW.alike (h5 q hq)⟩
  have hk : (fwd.all fun w => w.onTables && w.keepsFace) = true := by decide +kernel
  have := List.all_eq_true.mp hk w hw
  simp only [Bool.and_eq_true] at this
  exact face_at hW this.1 this.2 (h2 w hw)
/-! heap and world -/
def Hd (D : va_G) (cy : Nat → ClassId) (base b : Nat) (h : MH) (H : Heap) : Prop := va_P D vwCl (mw cy base b h) H ∧ base ≤ H.size
abbrev XS : Type := Nat × (Nat → Int32)
def Zs (X : XS) (base b : Nat) (U : State) (H : Heap) : Prop := vx_Zq Bundle.tN "UNASSIGNED_STACK" Bundle.steD (fun q : Nat => base ≤ q) U H ∧ vx_Zq Bundle.tN "SUPPRESSED_SENTINEL" Bundle.listD (fun q : Nat => base ≤ q) U H ∧ va_X b X.1 X.2 U H ∧ b < base
theorem Zs.kept {X : XS} {base b : Nat} {U : State} {H H1 : Heap} (h : Zs X base b U H) (hq : ∀ a : Nat, a < H.size → ¬ base ≤ a → H1[a]? = H[a]?) : Zs X base b U H1 := by
  obtain ⟨h1, h2, h3, h4⟩ := h
  have hb : b < H.size := by
    obtain ⟨scr, e, -⟩ := h3
    exact (Array.getElem?_eq_some_iff.mp e).1
  exact ⟨h1.kept hq, h2.kept hq, h3.kept (hq b hb (by omega)), h4⟩
theorem Zs.moved {X : XS} {base b : Nat} {u U : State} {H : Heap} (hvm : u.vm.Alike U.vm) (h : Zs X base b u H) : Zs X base b U H := ⟨h.1.moved hvm, h.2.1.moved hvm, h.2.2.1.moved hvm, h.2.2.2⟩
/-! contracts -/
abbrev Rs : Type := (Option Value ⊕ String) × MH × Nat × Nat
def PcR (X : XS) (D : va_G) (cy : Nat → ClassId) (base b : Nat) (al : Bool) (args : List Value) (h : MH) : Array Value → State → Prop := fun v U =>
  v = (args.map (mv base b)).toArray ∧ Kf D cy U ∧ Hd D cy base b h U.heap ∧ Zs X base b U U.heap ∧ (al = true → U.heap.size = base + h.length)
def QcR (D : va_G) (cy : Nat → ClassId) (base b : Nat) (r : Rs) : Array Value → State → Outcome → State → Prop := fun _ st oc t =>
  va_F (fun q : Nat => base ≤ q) st t ∧ ∃ v : Option Value, r.1 = .inl v ∧ oc = .returned (v.map (mv base b)) ∧ Hd D cy base b r.2.1 t.heap
def XcR (D : va_G) (cy : Nat → ClassId) (base b : Nat) (r : Rs) : String → State → State → Prop := fun E st t =>
  va_F (fun q : Nat => base ≤ q) st t ∧ r.1 = .inr E ∧ Hd D cy base b r.2.1 t.heap
def rmd (d mc ms : Nat) : Room := { frames := d, cells := mc, slots := ms, locals := 34 * d }
def Call (X : XS) (M : Mt) (al : Bool) (d : Nat) (args : List Value) (h : MH) (r : Rs) : Prop :=
  ∀ (l : Launch) (D : va_G) (cy : Nat → ClassId) (base b : Nat), l.stackTraces = false →
    vx_Met l M.1 (Mw M :: wsL_law) (rmd d r.2.2.1 r.2.2.2) (PcR X D cy base b al args h) (QcR D cy base b r) (XcR D cy base b r) r.2.2.1 r.2.2.2 (fun q : Nat => base ≤ q)
def LV (base b nL : Nat) (ls : Array Slot) (lv : List (Option Value)) : Prop :=
  ls.size = nL ∧ lv_wf ls ∧ ∀ (i : Nat) (v : Value), lv[i]? = some (some v) → v.category = 1 ∧ ls[i]? = some (.val (mv base b v))
def Cx (X : XS) (M : Mt) (d mc ms : Nat) (l : Launch) (D : va_G) (cy : Nat → ClassId) (base b : Nat) (p : Program) (R : Room) (s : State) (m : MethodId) (args : Array Value) (meth : Method) (c : Code) : Prop :=
  p.tables.exec = Jvm.exec ∧ c.code = Mc M ∧ c.maxLocals = Mn M ∧ s.vm.findClass M.1.cls = some m.cls ∧ (∀ w ∈ wsL_law, w.before args s = true) ∧ meth.sig.returnType = Mr M ∧ meth.locks = false ∧ meth.name = M.1.name ∧
  c.exceptionTable.toList = tableOf (Mh M) ∧ (d ≤ R.frames ∧ 34 * d ≤ R.locals ∧ mc ≤ R.cells ∧ ms ≤ R.slots) ∧ l.stackTraces = false ∧ Kf D cy s ∧ Zs X base b s s.heap ∧ base ≤ s.heap.size
def Ex (X : XS) (M : Mt) (al : Bool) (d pc : Nat) (lv : List (Option Value)) (st : List Value) (h : MH) (k n : Nat) (r : Rs) : Prop :=
  ∀ (l : Launch) (D : va_G) (cy : Nat → ClassId) (base b : Nat) (p : Program) (e : Env) (R : Room) (s : State) (m : MethodId) (args : Array Value) (below : List Frame) (meth : Method) (c : Code) (H : Heap) (locs : List Loc) (ls : Array Slot),
    Cx X M d r.2.2.1 r.2.2.2 l D cy base b p R s m args meth c → LV base b (Mn M) ls lv → Hd D cy base b h H → va_S (fun q : Nat => base ≤ q) s.heap H locs → (al = true → s.heap.size + k = base + h.length) →
    W p l e R s m args below meth c H locs k n (vx_MQ below (QcR D cy base b r) (XcR D cy base b r) args s r.2.2.1 r.2.2.2 (fun q : Nat => base ≤ q)) (F0 m pc ls (st.map (mv base b)))
/-! locals -/
def lvl (base b : Nat) (lv : List (Option Value)) : List (Nat × Value) := lv.zipIdx.filterMap (fun q => q.1.map (fun v => (q.2, mv base b v)))
theorem lvl_mem {base b : Nat} {lv : List (Option Value)} {j : Nat} {v : Value} (h : lv[j]? = some (some v)) : (j, mv base b v) ∈ lvl base b lv :=
  List.mem_filterMap.mpr ⟨(some v, j), List.mem_zipIdx_iff_getElem?.mpr h, rfl⟩
theorem LV.has {base b nL : Nat} {ls : Array Slot} {lv : List (Option Value)} (h : LV base b nL ls lv) : lv_has ls nL (lvl base b lv) := by
  refine ⟨h.1, h.2.1, fun q hq => ?_⟩
  obtain ⟨⟨o, j⟩, h1, h2⟩ := List.mem_filterMap.mp hq
  have h3 := List.mem_zipIdx_iff_getElem?.mp h1
  cases o with
  | none => cases h2
  | some v =>
    cases h2
    exact (h.2.2 j v h3).2
theorem LV.put {base b nL : Nat} {ls ls' : Array Slot} {lv : List (Option Value)} {i : Nat} {v : Value} (h : LV base b nL ls lv) (hc : v.category = 1)
    (h' : lv_has ls' nL ((i, mv base b v) :: (lvl base b lv).filter (fun q => !(q.1 == i) && !(q.1 + 1 == i && q.2.category == 2)))) : LV base b nL ls' (lv.set i (some v)) := by
  refine ⟨h'.1, h'.2.1, fun j w hw => ?_⟩
  rw [List.getElem?_set] at hw
  by_cases hj : i = j
  · subst hj
    rw [if_pos rfl] at hw
    by_cases hl : i < lv.length
    · rw [if_pos hl] at hw
      cases hw
      exact ⟨hc, h'.2.2 (i, mv base b v) List.mem_cons_self⟩
    · rw [if_neg hl] at hw
      cases hw
  · rw [if_neg hj] at hw
    have hc1 := (h.2.2 j w hw).1
    refine ⟨hc1, h'.2.2 (j, mv base b w) (List.mem_cons_of_mem _ (List.mem_filter.mpr ⟨lvl_mem hw, ?_⟩))⟩
    have e1 : (j == i) = false := by simp; omega
    have e2 : ((mv base b w).category == 2) = false := by rw [mv_cat, hc1]; rfl
    simp [e1, e2]
end
section
section XR
variable {X : XS} {M : Mt} {al : Bool} {d pc k n : Nat} {lv lv' : List (Option Value)} {st : List Value} {h : MH} {r : Rs}
theorem x_iconst {z : Int} {v : Int32} (hd : decode (Mc M) pc = .ok (.iconst z, 1)) (hv : Int32.ofInt z = v) (kk : Ex X M al d (pc + 1) lv (.int v :: st) h k n r) : Ex X M al d pc lv (st) h k n r := by
  intro l D cy base b p e R s m args below meth c H locs ls C hl hH hS hA
  exact lv_iconst C.1 C.2.1 hd hv (kk l D cy base b p e R s m args below meth c H locs ls C hl hH hS hA)
theorem x_bipush {z : Int} {v : Int32} (hd : decode (Mc M) pc = .ok (.bipush z, 2)) (hv : (Int8.ofInt z).toInt32 = v) (kk : Ex X M al d (pc + 2) lv (.int v :: st) h k n r) : Ex X M al d pc lv (st) h k n r := by
  intro l D cy base b p e R s m args below meth c H locs ls C hl hH hS hA
  exact lv_bipush C.1 C.2.1 hd hv (kk l D cy base b p e R s m args below meth c H locs ls C hl hH hS hA)
theorem x_sipush {z : Int} {v : Int32} (hd : decode (Mc M) pc = .ok (.sipush z, 3)) (hv : (Int16.ofInt z).toInt32 = v) (kk : Ex X M al d (pc + 3) lv (.int v :: st) h k n r) : Ex X M al d pc lv (st) h k n r := by
  intro l D cy base b p e R s m args below meth c H locs ls C hl hH hS hA
  exact lv_sipush C.1 C.2.1 hd hv (kk l D cy base b p e R s m args below meth c H locs ls C hl hH hS hA)
theorem x_lconst {z : Fin 2} {v : Int64} (hd : decode (Mc M) pc = .ok (.lconst z, 1)) (hv : Int64.ofNat (z : Nat) = v) (kk : Ex X M al d (pc + 1) lv (.long v :: st) h k n r) : Ex X M al d pc lv (st) h k n r := by
  intro l D cy base b p e R s m args below meth c H locs ls C hl hH hS hA
  exact lv_lconst C.1 C.2.1 hd hv (kk l D cy base b p e R s m args below meth c H locs ls C hl hH hS hA)
theorem x_iadd {x y : Int32} (hd : decode (Mc M) pc = .ok (.iadd, 1))  (kk : Ex X M al d (pc + 1) lv (.int (x + y) :: st) h k n r) : Ex X M al d pc lv (.int y :: .int x :: st) h k n r := by
  intro l D cy base b p e R s m args below meth c H locs ls C hl hH hS hA
  exact lv_iadd C.1 C.2.1 hd  (kk l D cy base b p e R s m args below meth c H locs ls C hl hH hS hA)
theorem x_isub {x y : Int32} (hd : decode (Mc M) pc = .ok (.isub, 1))  (kk : Ex X M al d (pc + 1) lv (.int (x - y) :: st) h k n r) : Ex X M al d pc lv (.int y :: .int x :: st) h k n r := by
  intro l D cy base b p e R s m args below meth c H locs ls C hl hH hS hA
  exact lv_isub C.1 C.2.1 hd  (kk l D cy base b p e R s m args below meth c H locs ls C hl hH hS hA)
theorem x_imul {x y : Int32} (hd : decode (Mc M) pc = .ok (.imul, 1))  (kk : Ex X M al d (pc + 1) lv (.int (x * y) :: st) h k n r) : Ex X M al d pc lv (.int y :: .int x :: st) h k n r := by
  intro l D cy base b p e R s m args below meth c H locs ls C hl hH hS hA
  exact lv_imul C.1 C.2.1 hd  (kk l D cy base b p e R s m args below meth c H locs ls C hl hH hS hA)
theorem x_iand {x y : Int32} (hd : decode (Mc M) pc = .ok (.iand, 1))  (kk : Ex X M al d (pc + 1) lv (.int (x &&& y) :: st) h k n r) : Ex X M al d pc lv (.int y :: .int x :: st) h k n r := by
  intro l D cy base b p e R s m args below meth c H locs ls C hl hH hS hA
  exact lv_iand C.1 C.2.1 hd  (kk l D cy base b p e R s m args below meth c H locs ls C hl hH hS hA)
theorem x_ior {x y : Int32} (hd : decode (Mc M) pc = .ok (.ior, 1))  (kk : Ex X M al d (pc + 1) lv (.int (x ||| y) :: st) h k n r) : Ex X M al d pc lv (.int y :: .int x :: st) h k n r := by
  intro l D cy base b p e R s m args below meth c H locs ls C hl hH hS hA
  exact lv_ior C.1 C.2.1 hd  (kk l D cy base b p e R s m args below meth c H locs ls C hl hH hS hA)
theorem x_ixor {x y : Int32} (hd : decode (Mc M) pc = .ok (.ixor, 1))  (kk : Ex X M al d (pc + 1) lv (.int (x ^^^ y) :: st) h k n r) : Ex X M al d pc lv (.int y :: .int x :: st) h k n r := by
  intro l D cy base b p e R s m args below meth c H locs ls C hl hH hS hA
  exact lv_ixor C.1 C.2.1 hd  (kk l D cy base b p e R s m args below meth c H locs ls C hl hH hS hA)
theorem x_ishl {x y : Int32} (hd : decode (Mc M) pc = .ok (.ishl, 1))  (kk : Ex X M al d (pc + 1) lv (.int (x <<< (y &&& 31)) :: st) h k n r) : Ex X M al d pc lv (.int y :: .int x :: st) h k n r := by
  intro l D cy base b p e R s m args below meth c H locs ls C hl hH hS hA
  exact lv_ishl C.1 C.2.1 hd  (kk l D cy base b p e R s m args below meth c H locs ls C hl hH hS hA)
theorem x_idiv {x y : Int32} (hd : decode (Mc M) pc = .ok (.idiv, 1)) (hne : ¬ y = 0) (kk : Ex X M al d (pc + 1) lv (.int (x / y) :: st) h k n r) : Ex X M al d pc lv (.int y :: .int x :: st) h k n r := by
  intro l D cy base b p e R s m args below meth c H locs ls C hl hH hS hA
  exact lv_idiv C.1 C.2.1 hd hne (kk l D cy base b p e R s m args below meth c H locs ls C hl hH hS hA)
theorem x_irem {x y : Int32} (hd : decode (Mc M) pc = .ok (.irem, 1)) (hne : ¬ y = 0) (kk : Ex X M al d (pc + 1) lv (.int (x - x / y * y) :: st) h k n r) : Ex X M al d pc lv (.int y :: .int x :: st) h k n r := by
  intro l D cy base b p e R s m args below meth c H locs ls C hl hH hS hA
  exact lv_irem C.1 C.2.1 hd hne (kk l D cy base b p e R s m args below meth c H locs ls C hl hH hS hA)
theorem x_land {x y : Int64} (hd : decode (Mc M) pc = .ok (.land, 1))  (kk : Ex X M al d (pc + 1) lv (.long (x &&& y) :: st) h k n r) : Ex X M al d pc lv (.long y :: .long x :: st) h k n r := by
  intro l D cy base b p e R s m args below meth c H locs ls C hl hH hS hA
  exact lv_land C.1 C.2.1 hd  (kk l D cy base b p e R s m args below meth c H locs ls C hl hH hS hA)
theorem x_lor {x y : Int64} (hd : decode (Mc M) pc = .ok (.lor, 1))  (kk : Ex X M al d (pc + 1) lv (.long (x ||| y) :: st) h k n r) : Ex X M al d pc lv (.long y :: .long x :: st) h k n r := by
  intro l D cy base b p e R s m args below meth c H locs ls C hl hH hS hA
  exact lv_lor C.1 C.2.1 hd  (kk l D cy base b p e R s m args below meth c H locs ls C hl hH hS hA)
theorem x_lshl {x : Int64} {y : Int32} (hd : decode (Mc M) pc = .ok (.lshl, 1))  (kk : Ex X M al d (pc + 1) lv (.long (x <<< (y.toInt64 &&& 63)) :: st) h k n r) : Ex X M al d pc lv (.int y :: .long x :: st) h k n r := by
  intro l D cy base b p e R s m args below meth c H locs ls C hl hH hS hA
  exact lv_lshl C.1 C.2.1 hd rfl (kk l D cy base b p e R s m args below meth c H locs ls C hl hH hS hA)
theorem x_i2l {x : Int32} (hd : decode (Mc M) pc = .ok (.i2l, 1))  (kk : Ex X M al d (pc + 1) lv (.long x.toInt64 :: st) h k n r) : Ex X M al d pc lv (.int x :: st) h k n r := by
  intro l D cy base b p e R s m args below meth c H locs ls C hl hH hS hA
  exact lv_i2l C.1 C.2.1 hd rfl (kk l D cy base b p e R s m args below meth c H locs ls C hl hH hS hA)
theorem x_lcmp {x y : Int64} (hd : decode (Mc M) pc = .ok (.lcmp, 1))  (kk : Ex X M al d (pc + 1) lv (.int (lg_cmp x y) :: st) h k n r) : Ex X M al d pc lv (.long y :: .long x :: st) h k n r := by
  intro l D cy base b p e R s m args below meth c H locs ls C hl hH hS hA
  exact W.lcmp C.1 C.2.1 hd  (kk l D cy base b p e R s m args below meth c H locs ls C hl hH hS hA)
theorem x_dup {v : Value} (hd : decode (Mc M) pc = .ok (.dup, 1)) (hc : v.category = 1) (kk : Ex X M al d (pc + 1) lv (v :: v :: st) h k n r) : Ex X M al d pc lv (v :: st) h k n r := by
  intro l D cy base b p e R s m args below meth c H locs ls C hl hH hS hA
  exact lv_dup C.1 C.2.1 hd ((mv_cat base b v).trans hc) (kk l D cy base b p e R s m args below meth c H locs ls C hl hH hS hA)
theorem x_pop {v : Value} (hd : decode (Mc M) pc = .ok (.pop, 1)) (hc : v.category = 1) (kk : Ex X M al d (pc + 1) lv (st) h k n r) : Ex X M al d pc lv (v :: st) h k n r := by
  intro l D cy base b p e R s m args below meth c H locs ls C hl hH hS hA
  exact lv_pop C.1 C.2.1 hd ((mv_cat base b v).trans hc) (kk l D cy base b p e R s m args below meth c H locs ls C hl hH hS hA)
theorem x_dup2 {v w : Value} (hd : decode (Mc M) pc = .ok (.dup2, 1)) (hc : v.category = 1) (hc2 : w.category = 1) (kk : Ex X M al d (pc + 1) lv (v :: w :: v :: w :: st) h k n r) : Ex X M al d pc lv (v :: w :: st) h k n r := by
  intro l D cy base b p e R s m args below meth c H locs ls C hl hH hS hA
  exact lv_dup2_11 C.1 C.2.1 hd ((mv_cat base b v).trans hc) ((mv_cat base b w).trans hc2) (kk l D cy base b p e R s m args below meth c H locs ls C hl hH hS hA)
theorem x_iload_n {x : Int32} {q : Fin 4} (hd : decode (Mc M) pc = .ok (.iload_n q, 1)) (hv : lv[(q : Nat)]? = some (some (.int x))) (kk : Ex X M al d (pc + 1) lv (.int x :: st) h k n r) : Ex X M al d pc lv st h k n r := by
  intro l D cy base b p e R s m args below meth c H locs ls C hl hH hS hA
  exact lv_iload_n C.1 C.2.1 hd rfl (hl.2.2 _ _ hv).2 (kk l D cy base b p e R s m args below meth c H locs ls C hl hH hS hA)
theorem x_iload {x : Int32} {q : Nat} (hd : decode (Mc M) pc = .ok (.iload q, 2)) (hv : lv[q]? = some (some (.int x))) (kk : Ex X M al d (pc + 2) lv (.int x :: st) h k n r) : Ex X M al d pc lv st h k n r := by
  intro l D cy base b p e R s m args below meth c H locs ls C hl hH hS hA
  exact lv_iload C.1 C.2.1 hd (hl.2.2 _ _ hv).2 (kk l D cy base b p e R s m args below meth c H locs ls C hl hH hS hA)
theorem x_aload_n {x : Nat} {q : Fin 4} (hd : decode (Mc M) pc = .ok (.aload_n q, 1)) (hv : lv[(q : Nat)]? = some (some (.ref x))) (kk : Ex X M al d (pc + 1) lv (.ref x :: st) h k n r) : Ex X M al d pc lv st h k n r := by
  intro l D cy base b p e R s m args below meth c H locs ls C hl hH hS hA
  exact lv_aload_n C.1 C.2.1 hd rfl (hl.2.2 _ _ hv).2 (kk l D cy base b p e R s m args below meth c H locs ls C hl hH hS hA)
theorem x_aload {x : Nat} {q : Nat} (hd : decode (Mc M) pc = .ok (.aload q, 2)) (hv : lv[q]? = some (some (.ref x))) (kk : Ex X M al d (pc + 2) lv (.ref x :: st) h k n r) : Ex X M al d pc lv st h k n r := by
  intro l D cy base b p e R s m args below meth c H locs ls C hl hH hS hA
  exact lv_aload C.1 C.2.1 hd (hl.2.2 _ _ hv).2 (kk l D cy base b p e R s m args below meth c H locs ls C hl hH hS hA)
theorem x_aload_ns {x : UInt32} {q : Fin 4} (hd : decode (Mc M) pc = .ok (.aload_n q, 1)) (hv : lv[(q : Nat)]? = some (some (.float x))) (kk : Ex X M al d (pc + 1) lv (.float x :: st) h k n r) : Ex X M al d pc lv st h k n r := by
  intro l D cy base b p e R s m args below meth c H locs ls C hl hH hS hA
  exact lv_aload_n C.1 C.2.1 hd rfl (hl.2.2 _ _ hv).2 (kk l D cy base b p e R s m args below meth c H locs ls C hl hH hS hA)
theorem x_istore_n {x : Int32} {q : Fin 4} (hd : decode (Mc M) pc = .ok (.istore_n q, 1)) (hn : (q : Nat) < Mn M) (hlv : lv.set (q : Nat) (some (.int x)) = lv') (kk : Ex X M al d (pc + 1) lv' st h k n r) : Ex X M al d pc lv (.int x :: st) h k n r := by
  intro l D cy base b p e R s m args below meth c H locs ls C hl hH hS hA
  exact lv_istore_n C.1 C.2.1 hd rfl hl.has hn rfl (fun ls2 h2 => kk l D cy base b p e R s m args below meth c H locs ls2 C (hlv ▸ hl.put rfl h2) hH hS hA)
theorem x_istore {x : Int32} {q : Nat} (hd : decode (Mc M) pc = .ok (.istore q, 2)) (hn : q < Mn M) (hlv : lv.set q (some (.int x)) = lv') (kk : Ex X M al d (pc + 2) lv' st h k n r) : Ex X M al d pc lv (.int x :: st) h k n r := by
  intro l D cy base b p e R s m args below meth c H locs ls C hl hH hS hA
  exact lv_istore C.1 C.2.1 hd hl.has hn rfl (fun ls2 h2 => kk l D cy base b p e R s m args below meth c H locs ls2 C (hlv ▸ hl.put rfl h2) hH hS hA)
theorem x_astore_n {x : Nat} {q : Fin 4} (hd : decode (Mc M) pc = .ok (.astore_n q, 1)) (hn : (q : Nat) < Mn M) (hlv : lv.set (q : Nat) (some (.ref x)) = lv') (kk : Ex X M al d (pc + 1) lv' st h k n r) : Ex X M al d pc lv (.ref x :: st) h k n r := by
  intro l D cy base b p e R s m args below meth c H locs ls C hl hH hS hA
  exact lv_astore_n C.1 C.2.1 hd rfl hl.has hn rfl (fun ls2 h2 => kk l D cy base b p e R s m args below meth c H locs ls2 C (hlv ▸ hl.put rfl h2) hH hS hA)
theorem x_astore {x : Nat} {q : Nat} (hd : decode (Mc M) pc = .ok (.astore q, 2)) (hn : q < Mn M) (hlv : lv.set q (some (.ref x)) = lv') (kk : Ex X M al d (pc + 2) lv' st h k n r) : Ex X M al d pc lv (.ref x :: st) h k n r := by
  intro l D cy base b p e R s m args below meth c H locs ls C hl hH hS hA
  exact lv_astore C.1 C.2.1 hd hl.has hn rfl (fun ls2 h2 => kk l D cy base b p e R s m args below meth c H locs ls2 C (hlv ▸ hl.put rfl h2) hH hS hA)
theorem x_astore_nx {x : Nat} {q : Fin 4} (hd : decode (Mc M) pc = .ok (.astore_n q, 1)) (hn : (q : Nat) < Mn M) (hlv : lv.set (q : Nat) (some (.retAddr x)) = lv') (kk : Ex X M al d (pc + 1) lv' st h k n r) : Ex X M al d pc lv (.retAddr x :: st) h k n r := by
  intro l D cy base b p e R s m args below meth c H locs ls C hl hH hS hA
  exact lv_astore_n C.1 C.2.1 hd rfl hl.has hn rfl (fun ls2 h2 => kk l D cy base b p e R s m args below meth c H locs ls2 C (hlv ▸ hl.put rfl h2) hH hS hA)
theorem x_astorex {x : Nat} {q : Nat} (hd : decode (Mc M) pc = .ok (.astore q, 2)) (hn : q < Mn M) (hlv : lv.set q (some (.retAddr x)) = lv') (kk : Ex X M al d (pc + 2) lv' st h k n r) : Ex X M al d pc lv (.retAddr x :: st) h k n r := by
  intro l D cy base b p e R s m args below meth c H locs ls C hl hH hS hA
  exact lv_astore C.1 C.2.1 hd hl.has hn rfl (fun ls2 h2 => kk l D cy base b p e R s m args below meth c H locs ls2 C (hlv ▸ hl.put rfl h2) hH hS hA)
theorem x_iinc {x v : Int32} {q : Nat} {z : Int} (hd : decode (Mc M) pc = .ok (.iinc q z, 3)) (hv : lv[q]? = some (some (.int x))) (hx : x + Int32.ofInt z = v) (hn : q < Mn M) (hlv : lv.set q (some (.int v)) = lv') (kk : Ex X M al d (pc + 3) lv' st h k n r) : Ex X M al d pc lv st h k n r := by
  intro l D cy base b p e R s m args below meth c H locs ls C hl hH hS hA
  obtain ⟨j, hj⟩ := List.getElem?_of_mem (lvl_mem (base := base) (b := b) hv)
  exact lv_iinc C.1 C.2.1 hd hl.has hj hx hn rfl (fun ls2 h2 => kk l D cy base b p e R s m args below meth c H locs ls2 C (hlv ▸ hl.put rfl h2) hH hS hA)
theorem x_goto {off : Int} {tgt : Nat} (hd : decode (Mc M) pc = .ok (.goto off, 3)) (ht : (pc : Int) + off = (tgt : Int)) (kk : Ex X M al d tgt lv st h k n r) : Ex X M al d pc lv st h k n r := by
  intro l D cy base b p e R s m args below meth c H locs ls C hl hH hS hA
  exact lv_goto C.1 C.2.1 hd ht (kk l D cy base b p e R s m args below meth c H locs ls C hl hH hS hA)
theorem x_if_eq {x : Int32} {off : Int} {tgt : Nat} (hd : decode (Mc M) pc = .ok (.ifCond .eq off, 3)) (ht : (pc : Int) + off = (tgt : Int)) (kt : x = 0 → Ex X M al d tgt lv st h k n r) (kf : ¬ x = 0 → Ex X M al d (pc + 3) lv st h k n r) : Ex X M al d pc lv (.int x :: st) h k n r := by
  intro l D cy base b p e R s m args below meth c H locs ls C hl hH hS hA
  exact lv_if_eq C.1 C.2.1 hd ht (fun hc => kt hc l D cy base b p e R s m args below meth c H locs ls C hl hH hS hA) (fun hc => kf hc l D cy base b p e R s m args below meth c H locs ls C hl hH hS hA)
theorem x_if_ne {x : Int32} {off : Int} {tgt : Nat} (hd : decode (Mc M) pc = .ok (.ifCond .ne off, 3)) (ht : (pc : Int) + off = (tgt : Int)) (kt : ¬ x = 0 → Ex X M al d tgt lv st h k n r) (kf : x = 0 → Ex X M al d (pc + 3) lv st h k n r) : Ex X M al d pc lv (.int x :: st) h k n r := by
  intro l D cy base b p e R s m args below meth c H locs ls C hl hH hS hA
  exact lv_if_ne C.1 C.2.1 hd ht (fun hc => kt hc l D cy base b p e R s m args below meth c H locs ls C hl hH hS hA) (fun hc => kf hc l D cy base b p e R s m args below meth c H locs ls C hl hH hS hA)
theorem x_if_lt {x : Int32} {off : Int} {tgt : Nat} (hd : decode (Mc M) pc = .ok (.ifCond .lt off, 3)) (ht : (pc : Int) + off = (tgt : Int)) (kt : x < 0 → Ex X M al d tgt lv st h k n r) (kf : ¬ x < 0 → Ex X M al d (pc + 3) lv st h k n r) : Ex X M al d pc lv (.int x :: st) h k n r := by
  intro l D cy base b p e R s m args below meth c H locs ls C hl hH hS hA
  exact lv_if_lt C.1 C.2.1 hd ht (fun hc => kt hc l D cy base b p e R s m args below meth c H locs ls C hl hH hS hA) (fun hc => kf hc l D cy base b p e R s m args below meth c H locs ls C hl hH hS hA)
theorem x_if_ge {x : Int32} {off : Int} {tgt : Nat} (hd : decode (Mc M) pc = .ok (.ifCond .ge off, 3)) (ht : (pc : Int) + off = (tgt : Int)) (kt : 0 ≤ x → Ex X M al d tgt lv st h k n r) (kf : ¬ 0 ≤ x → Ex X M al d (pc + 3) lv st h k n r) : Ex X M al d pc lv (.int x :: st) h k n r := by
  intro l D cy base b p e R s m args below meth c H locs ls C hl hH hS hA
  exact lv_if_ge C.1 C.2.1 hd ht (fun hc => kt hc l D cy base b p e R s m args below meth c H locs ls C hl hH hS hA) (fun hc => kf hc l D cy base b p e R s m args below meth c H locs ls C hl hH hS hA)
theorem x_if_gt {x : Int32} {off : Int} {tgt : Nat} (hd : decode (Mc M) pc = .ok (.ifCond .gt off, 3)) (ht : (pc : Int) + off = (tgt : Int)) (kt : 0 < x → Ex X M al d tgt lv st h k n r) (kf : ¬ 0 < x → Ex X M al d (pc + 3) lv st h k n r) : Ex X M al d pc lv (.int x :: st) h k n r := by
  intro l D cy base b p e R s m args below meth c H locs ls C hl hH hS hA
  exact lv_if_gt C.1 C.2.1 hd ht (fun hc => kt hc l D cy base b p e R s m args below meth c H locs ls C hl hH hS hA) (fun hc => kf hc l D cy base b p e R s m args below meth c H locs ls C hl hH hS hA)
theorem x_if_le {x : Int32} {off : Int} {tgt : Nat} (hd : decode (Mc M) pc = .ok (.ifCond .le off, 3)) (ht : (pc : Int) + off = (tgt : Int)) (kt : x ≤ 0 → Ex X M al d tgt lv st h k n r) (kf : ¬ x ≤ 0 → Ex X M al d (pc + 3) lv st h k n r) : Ex X M al d pc lv (.int x :: st) h k n r := by
  intro l D cy base b p e R s m args below meth c H locs ls C hl hH hS hA
  exact lv_if_le C.1 C.2.1 hd ht (fun hc => kt hc l D cy base b p e R s m args below meth c H locs ls C hl hH hS hA) (fun hc => kf hc l D cy base b p e R s m args below meth c H locs ls C hl hH hS hA)
theorem x_icmp_eq {x y : Int32} {off : Int} {tgt : Nat} (hd : decode (Mc M) pc = .ok (.if_icmp .eq off, 3)) (ht : (pc : Int) + off = (tgt : Int)) (kt : x = y → Ex X M al d tgt lv st h k n r) (kf : ¬ x = y → Ex X M al d (pc + 3) lv st h k n r) : Ex X M al d pc lv (.int y :: .int x :: st) h k n r := by
  intro l D cy base b p e R s m args below meth c H locs ls C hl hH hS hA
  exact lv_icmp_eq C.1 C.2.1 hd ht (fun hc => kt hc l D cy base b p e R s m args below meth c H locs ls C hl hH hS hA) (fun hc => kf hc l D cy base b p e R s m args below meth c H locs ls C hl hH hS hA)
theorem x_icmp_ne {x y : Int32} {off : Int} {tgt : Nat} (hd : decode (Mc M) pc = .ok (.if_icmp .ne off, 3)) (ht : (pc : Int) + off = (tgt : Int)) (kt : ¬ x = y → Ex X M al d tgt lv st h k n r) (kf : x = y → Ex X M al d (pc + 3) lv st h k n r) : Ex X M al d pc lv (.int y :: .int x :: st) h k n r := by
  intro l D cy base b p e R s m args below meth c H locs ls C hl hH hS hA
  exact lv_icmp_ne C.1 C.2.1 hd ht (fun hc => kt hc l D cy base b p e R s m args below meth c H locs ls C hl hH hS hA) (fun hc => kf hc l D cy base b p e R s m args below meth c H locs ls C hl hH hS hA)
theorem x_icmp_lt {x y : Int32} {off : Int} {tgt : Nat} (hd : decode (Mc M) pc = .ok (.if_icmp .lt off, 3)) (ht : (pc : Int) + off = (tgt : Int)) (kt : x < y → Ex X M al d tgt lv st h k n r) (kf : ¬ x < y → Ex X M al d (pc + 3) lv st h k n r) : Ex X M al d pc lv (.int y :: .int x :: st) h k n r := by
  intro l D cy base b p e R s m args below meth c H locs ls C hl hH hS hA
  exact lv_icmp_lt C.1 C.2.1 hd ht (fun hc => kt hc l D cy base b p e R s m args below meth c H locs ls C hl hH hS hA) (fun hc => kf hc l D cy base b p e R s m args below meth c H locs ls C hl hH hS hA)
theorem x_icmp_ge {x y : Int32} {off : Int} {tgt : Nat} (hd : decode (Mc M) pc = .ok (.if_icmp .ge off, 3)) (ht : (pc : Int) + off = (tgt : Int)) (kt : y ≤ x → Ex X M al d tgt lv st h k n r) (kf : ¬ y ≤ x → Ex X M al d (pc + 3) lv st h k n r) : Ex X M al d pc lv (.int y :: .int x :: st) h k n r := by
  intro l D cy base b p e R s m args below meth c H locs ls C hl hH hS hA
  exact lv_icmp_ge C.1 C.2.1 hd ht (fun hc => kt hc l D cy base b p e R s m args below meth c H locs ls C hl hH hS hA) (fun hc => kf hc l D cy base b p e R s m args below meth c H locs ls C hl hH hS hA)
theorem x_icmp_gt {x y : Int32} {off : Int} {tgt : Nat} (hd : decode (Mc M) pc = .ok (.if_icmp .gt off, 3)) (ht : (pc : Int) + off = (tgt : Int)) (kt : y < x → Ex X M al d tgt lv st h k n r) (kf : ¬ y < x → Ex X M al d (pc + 3) lv st h k n r) : Ex X M al d pc lv (.int y :: .int x :: st) h k n r := by
  intro l D cy base b p e R s m args below meth c H locs ls C hl hH hS hA
  exact lv_icmp_gt C.1 C.2.1 hd ht (fun hc => kt hc l D cy base b p e R s m args below meth c H locs ls C hl hH hS hA) (fun hc => kf hc l D cy base b p e R s m args below meth c H locs ls C hl hH hS hA)
theorem x_icmp_le {x y : Int32} {off : Int} {tgt : Nat} (hd : decode (Mc M) pc = .ok (.if_icmp .le off, 3)) (ht : (pc : Int) + off = (tgt : Int)) (kt : x ≤ y → Ex X M al d tgt lv st h k n r) (kf : ¬ x ≤ y → Ex X M al d (pc + 3) lv st h k n r) : Ex X M al d pc lv (.int y :: .int x :: st) h k n r := by
  intro l D cy base b p e R s m args below meth c H locs ls C hl hH hS hA
  exact lv_icmp_le C.1 C.2.1 hd ht (fun hc => kt hc l D cy base b p e R s m args below meth c H locs ls C hl hH hS hA) (fun hc => kf hc l D cy base b p e R s m args below meth c H locs ls C hl hH hS hA)
theorem x_lookup {dflt off : Int} {ps : Array (Int × Int)} {len tgt : Nat} {x : Int32} (hd : decode (Mc M) pc = .ok (.lookupswitch dflt ps, len)) (hp : (ps.toList.zip (ps.toList.drop 1)).all (fun (a, next) => a.1 < next.1) = true) (ho : Op.lookupswitch.offset ps.toList dflt x.toInt = off) (ht : (pc : Int) + off = (tgt : Int)) (kk : Ex X M al d tgt lv st h k n r) : Ex X M al d pc lv (.int x :: st) h k n r := by
  intro l D cy base b p e R s m args below meth c H locs ls C hl hH hS hA
  exact lv_lookup C.1 C.2.1 hd hp ho ht (kk l D cy base b p e R s m args below meth c H locs ls C hl hH hS hA)
theorem x_tableIn {dflt lo hi off : Int} {offs : Array Int} {len tgt : Nat} {x : Int32} (hd : decode (Mc M) pc = .ok (.tableswitch dflt lo hi offs, len)) (h1 : ¬ x.toInt < lo) (h2 : ¬ hi < x.toInt) (ho : offs[(x.toInt - lo).toNat]? = some off) (ht : (pc : Int) + off = (tgt : Int)) (kk : Ex X M al d tgt lv st h k n r) : Ex X M al d pc lv (.int x :: st) h k n r := by
  intro l D cy base b p e R s m args below meth c H locs ls C hl hH hS hA
  exact lv_tableIn C.1 C.2.1 hd h1 h2 ho ht (kk l D cy base b p e R s m args below meth c H locs ls C hl hH hS hA)
theorem x_tableOut {dflt lo hi : Int} {offs : Array Int} {len tgt : Nat} {x : Int32} (hd : decode (Mc M) pc = .ok (.tableswitch dflt lo hi offs, len)) (h1 : x.toInt < lo ∨ hi < x.toInt) (ht : (pc : Int) + dflt = (tgt : Int)) (kk : Ex X M al d tgt lv st h k n r) : Ex X M al d pc lv (.int x :: st) h k n r := by
  intro l D cy base b p e R s m args below meth c H locs ls C hl hH hS hA
  exact lv_tableOut C.1 C.2.1 hd h1 ht (kk l D cy base b p e R s m args below meth c H locs ls C hl hH hS hA)
end XR
end
section
section XH
variable {X : XS} {M : Mt} {al : Bool} {d pc k n : Nat} {lv lv' : List (Option Value)} {st : List Value} {h : MH} {r : Rs}
def CLq (q : vw_C) : Prop := (∀ w ∈ u_ws q.1 q.2.1 q.2.2, w ∈ wsL_law) ∧ (∃ ty0 : Nat → FieldType, ∀ k, k < q.2.2 → parseFieldDescriptor (q.2.1 k).2.2.1 = some (ty0 k)) ∧ ∀ a, a < q.2.2 → ∀ b, b < q.2.2 → a ≠ b → (q.2.1 a).2.1 ≠ (q.2.1 b).2.1
theorem cl_all {ci : Nat} {q : vw_C} (h : vwCl[ci]? = some q) : CLq q := match ci, h with
  | 0, h => by cases h; exact ⟨inlX0, ⟨tyX0, tyX0_ok⟩, nmX0⟩
  | 1, h => by cases h; exact ⟨inlX1, ⟨tyX1, tyX1_ok⟩, nmX1⟩
  | 2, h => by cases h; exact ⟨inlX2, ⟨tyX2, tyX2_ok⟩, nmX2⟩
  | 3, h => by cases h; exact ⟨inlX3, ⟨tyX3, tyX3_ok⟩, nmX3⟩
  | 4, h => by cases h; exact ⟨inlX4, ⟨tyX4, tyX4_ok⟩, nmX4⟩
  | 5, h => by cases h; exact ⟨inlX5, ⟨tyX5, tyX5_ok⟩, nmX5⟩
  | 6, h => by cases h; exact ⟨inlX6, ⟨tyX6, tyX6_ok⟩, nmX6⟩
  | 7, h => by cases h; exact ⟨inlX7, ⟨tyX7, tyX7_ok⟩, nmX7⟩
  | 8, h => by cases h; exact ⟨inlX8, ⟨tyX8, tyX8_ok⟩, nmX8⟩
  | 9, h => by cases h; exact ⟨inlX9, ⟨tyX9, tyX9_ok⟩, nmX9⟩
  | 10, h => by cases h; exact ⟨inlX10, ⟨tyX10, tyX10_ok⟩, nmX10⟩
  | n + 11, h => by simp [vwCl] at h
/-- a field's entry: of class ci, its field kf -/
def FL (own : String) (idx ci kf : Nat) : Prop := ∃ q : vw_C, vwCl[ci]? = some q ∧ kf < q.2.2 ∧ Cond.fieldLink own idx (q.2.1 kf).1 (q.2.1 kf).2.1 (q.2.1 kf).2.2.1 ∈ wsL_law
theorem Cx.K {d mc ms : Nat} {l : Launch} {D : va_G} {cy : Nat → ClassId} {base b : Nat} {p : Program} {R : Room} {s : State} {m : MethodId} {args : Array Value} {meth : Method} {c : Code} (C : Cx X M d mc ms l D cy base b p R s m args meth c) : Kf D cy s := C.2.2.2.2.2.2.2.2.2.2.2.1
theorem Cx.Z {d mc ms : Nat} {l : Launch} {D : va_G} {cy : Nat → ClassId} {base b : Nat} {p : Program} {R : Room} {s : State} {m : MethodId} {args : Array Value} {meth : Method} {c : Code} (C : Cx X M d mc ms l D cy base b p R s m args meth c) : Zs X base b s s.heap := C.2.2.2.2.2.2.2.2.2.2.2.2.1
theorem Cx.R {d mc ms : Nat} {l : Launch} {D : va_G} {cy : Nat → ClassId} {base b : Nat} {p : Program} {R : Room} {s : State} {m : MethodId} {args : Array Value} {meth : Method} {c : Code} (C : Cx X M d mc ms l D cy base b p R s m args meth c) : d ≤ R.frames ∧ 34 * d ≤ R.locals ∧ mc ≤ R.cells ∧ ms ≤ R.slots := C.2.2.2.2.2.2.2.2.2.1
theorem Cx.T {d mc ms : Nat} {l : Launch} {D : va_G} {cy : Nat → ClassId} {base b : Nat} {p : Program} {R : Room} {s : State} {m : MethodId} {args : Array Value} {meth : Method} {c : Code} (C : Cx X M d mc ms l D cy base b p R s m args meth c) : c.exceptionTable.toList = tableOf (Mh M) := C.2.2.2.2.2.2.2.2.1
theorem x_get {a ci kf idx : Nat} {fs : List Value} {v : Value} (hd : decode (Mc M) pc = .ok (.getfield idx, 3)) (hf : FL M.1.cls idx ci kf) (hc : h[a]? = some (.inr (ci, fs))) (hv : fs[kf]? = some v)
    (kk : Ex X M al d (pc + 3) lv (v :: st) h k n r) : Ex X M al d pc lv (.ref a :: st) h k n r := by
  intro l D cy base b p e R s m args below meth c H locs ls C hl hH hS hA
  obtain ⟨⟨C0, T0, N0⟩, hq, hk, hlk⟩ := hf
  exact va_get C.1 C.2.1 C.2.2.2.2.1 (cl_all hq).1 C.2.2.2.1 C.K.1 hH.1 a (mw_get hc) hq kf hk (C.2.2.2.2.1 _ hlk) (fun _ z => z) (v := mv base b v) (by rw [List.getElem?_map, hv]; rfl) hd
    (kk l D cy base b p e R s m args below meth c H locs ls C hl hH hS hA)
/-- a field that is written: its type, and whether it is final -/
def FP (own : String) (idx ci kf : Nat) (fin : Bool) (ty : FieldType) : Prop := ∃ q : vw_C, vwCl[ci]? = some q ∧ kf < q.2.2 ∧ Cond.fieldLink own idx (q.2.1 kf).1 (q.2.1 kf).2.1 (q.2.1 kf).2.2.1 ∈ wsL_law ∧ (q.2.1 kf).2.2.2 = fin ∧ parseFieldDescriptor (q.2.1 kf).2.2.1 = some ty ∧ (q.2.1 kf).1 = q.1
theorem mw_put {cy : Nat → ClassId} {base b a ci kf : Nat} {fs : List Value} {v : Value} : (mw cy base b h).set a (base + a, .inr (ci, (fs.map (mv base b)).set kf (mv base b v))) = mw cy base b (h.set a (.inr (ci, fs.set kf v))) := by
  rw [← mw_set]
  simp only [me, List.map_set]
theorem x_put {a ci kf idx : Nat} {fs : List Value} {v : Value} {ty : FieldType} (hd : decode (Mc M) pc = .ok (.putfield idx, 3)) (hf : FP M.1.cls idx ci kf false ty) (hc : h[a]? = some (.inr (ci, fs))) (hlen : kf < fs.length)
    (hv : ∀ base b : Nat, narrow ty (mv base b v) = mv base b v ∧ fits ty (mv base b v) = true)
    (kk : Ex X M al d (pc + 3) lv st (h.set a (.inr (ci, fs.set kf v))) k n r) : Ex X M al d pc lv (v :: .ref a :: st) h k n r := by
  intro l D cy base b p e R s m args below meth c H locs ls C hl hH hS hA
  obtain ⟨⟨C0, T0, N0⟩, hq, hk, hlk, hfin, hty, -⟩ := hf
  obtain ⟨hin, ⟨ty0, hty0⟩, hnm⟩ := cl_all hq
  refine va_put C.1 C.2.1 C.2.2.2.2.1 hin ty0 hty0 hnm C.2.2.2.1 C.K.1 hH.1 mw_D hS a (mw_get hc) hq kf hk (C.2.2.2.2.1 _ hlk) (fun _ z => z) hfin hty (hv base b).1 (hv base b).2 (by rw [List.length_map]; exact hlen) hd (fun H1 locs1 hP hD hS1 => ?_)
  rw [mw_put] at hP
  exact kk l D cy base b p e R s m args below meth c H1 locs1 ls C hl ⟨hP, Nat.le_trans C.2.2.2.2.2.2.2.2.2.2.2.2.2 hS1.1⟩ hS1 (fun z => by rw [List.length_set]; exact hA z)
theorem x_putF {a ci kf idx : Nat} {fs : List Value} {v : Value} {ty : FieldType} (hd : decode (Mc M) pc = .ok (.putfield idx, 3)) (hf : FP M.1.cls idx ci kf true ty) (hc : h[a]? = some (.inr (ci, fs))) (hlen : kf < fs.length)
    (hi : M.1.name = "<init>") (ho : ∀ q, vwCl[ci]? = some q → q.1 = M.1.cls) (hv : ∀ base b : Nat, narrow ty (mv base b v) = mv base b v ∧ fits ty (mv base b v) = true)
    (kk : Ex X M al d (pc + 3) lv st (h.set a (.inr (ci, fs.set kf v))) k n r) : Ex X M al d pc lv (v :: .ref a :: st) h k n r := by
  intro l D cy base b p e R s m args below meth c H locs ls C hl hH hS hA
  obtain ⟨⟨C0, T0, N0⟩, hq, hk, hlk, hfin, hty, hdc⟩ := hf
  obtain ⟨hin, ⟨ty0, hty0⟩, hnm⟩ := cl_all hq
  refine va_putF C.1 C.2.1 C.2.2.2.2.1 hin ty0 hty0 hnm C.2.2.2.1 C.K.1 hH.1 mw_D hS a (mw_get hc) hq kf hk (C.2.2.2.2.1 _ hlk) (fun _ z => z) hfin (C.2.2.2.2.2.2.2.1.trans hi) (hdc.trans (ho _ hq)) hty (hv base b).1 (hv base b).2 (by rw [List.length_map]; exact hlen) hd (fun H1 locs1 hP hD hS1 => ?_)
  rw [mw_put] at hP
  exact kk l D cy base b p e R s m args below meth c H1 locs1 ls C hl ⟨hP, Nat.le_trans C.2.2.2.2.2.2.2.2.2.2.2.2.2 hS1.1⟩ hS1 (fun z => by rw [List.length_set]; exact hA z)
/-! arrays -/
theorem x_iald {a N : Nat} {f : Nat → Int32} {i : Int32} (hd : decode (Mc M) pc = .ok (.iaload, 1)) (hc : h[a]? = some (.inl (0, N, .inl f))) (hin : vp_in i N)
    (kk : Ex X M al d (pc + 1) lv (.int (f i.toNatClampNeg) :: st) h k n r) : Ex X M al d pc lv (.int i :: .ref a :: st) h k n r := by
  intro l D cy base b p e R s m args below meth c H locs ls C hl hH hS hA
  exact va_iald C.1 C.2.1 C.K.1 hH.1 a 0 (mw_get hc) rfl hin hd (kk l D cy base b p e R s m args below meth c H locs ls C hl hH hS hA)
theorem x_zald {a N : Nat} {f : Nat → Int32} {i : Int32} (hd : decode (Mc M) pc = .ok (.baload, 1)) (hc : h[a]? = some (.inl (1, N, .inl f))) (hin : vp_in i N)
    (kk : Ex X M al d (pc + 1) lv (.int (f i.toNatClampNeg) :: st) h k n r) : Ex X M al d pc lv (.int i :: .ref a :: st) h k n r := by
  intro l D cy base b p e R s m args below meth c H locs ls C hl hH hS hA
  exact va_zald C.1 C.2.1 C.K.1 hH.1 a 1 (mw_get hc) rfl hin hd (kk l D cy base b p e R s m args below meth c H locs ls C hl hH hS hA)
theorem x_lald {a N : Nat} {f : Nat → Int64} {i : Int32} (hd : decode (Mc M) pc = .ok (.laload, 1)) (hc : h[a]? = some (.inl (2, N, .inr (.inl f)))) (hin : vp_in i N)
    (kk : Ex X M al d (pc + 1) lv (.long (f i.toNatClampNeg) :: st) h k n r) : Ex X M al d pc lv (.int i :: .ref a :: st) h k n r := by
  intro l D cy base b p e R s m args below meth c H locs ls C hl hH hS hA
  exact va_lald C.1 C.2.1 C.K.1 hH.1 a 2 (mw_get hc) rfl hin hd (kk l D cy base b p e R s m args below meth c H locs ls C hl hH hS hA)
theorem x_aald {a a2 t N : Nat} {C0 : String} {f : Nat → Option Nat} {i : Int32} (hd : decode (Mc M) pc = .ok (.aaload, 1)) (ht : ∀ cy, (mtys cy)[t]? = some (cy t, .object C0)) (hc : h[a]? = some (.inl (t, N, .inr (.inr (.inr (.inr f)))))) (hin : vp_in i N) (hv : f i.toNatClampNeg = some a2)
    (kk : Ex X M al d (pc + 1) lv (.ref a2 :: st) h k n r) : Ex X M al d pc lv (.int i :: .ref a :: st) h k n r := by
  intro l D cy base b p e R s m args below meth c H locs ls C hl hH hS hA
  refine va_aldq C.1 C.2.1 C.K.1 hH.1 a t (mw_get hc) (ht cy) hin hd ?_
  rw [hv]
  exact kk l D cy base b p e R s m args below meth c H locs ls C hl hH hS hA
theorem x_iast {a N : Nat} {f : Nat → Int32} {i x : Int32} (hd : decode (Mc M) pc = .ok (.iastore, 1)) (hc : h[a]? = some (.inl (0, N, .inl f))) (hin : vp_in i N)
    (kk : Ex X M al d (pc + 1) lv st (h.set a (.inl (0, N, .inl (upd f i.toNatClampNeg x)))) k n r) : Ex X M al d pc lv (.int x :: .int i :: .ref a :: st) h k n r := by
  intro l D cy base b p e R s m args below meth c H locs ls C hl hH hS hA
  refine va_iast C.1 C.2.1 C.K.1 hH.1 mw_D hS a 0 (mw_get hc) rfl hin hd (fun H1 locs1 hP hD hS1 => ?_)
  have hP : va_P D vwCl ((mw cy base b h).set a (base + a, me cy base b (.inl (0, N, .inl (upd f i.toNatClampNeg x))))) H1 := hP
  rw [mw_set] at hP
  exact kk l D cy base b p e R s m args below meth c H1 locs1 ls C hl ⟨hP, Nat.le_trans C.2.2.2.2.2.2.2.2.2.2.2.2.2 hS1.1⟩ hS1 (fun z => by rw [List.length_set]; exact hA z)
theorem x_zast {a N : Nat} {f : Nat → Int32} {i x : Int32} (hd : decode (Mc M) pc = .ok (.bastore, 1)) (hc : h[a]? = some (.inl (1, N, .inl f))) (hin : vp_in i N) (hx : vp_nar .boolean x = x)
    (kk : Ex X M al d (pc + 1) lv st (h.set a (.inl (1, N, .inl (upd f i.toNatClampNeg x)))) k n r) : Ex X M al d pc lv (.int x :: .int i :: .ref a :: st) h k n r := by
  intro l D cy base b p e R s m args below meth c H locs ls C hl hH hS hA
  refine va_zast C.1 C.2.1 C.K.1 hH.1 mw_D hS a 1 (mw_get hc) rfl hin hd (fun H1 locs1 hP hD hS1 => ?_)
  rw [hx] at hP
  have hP : va_P D vwCl ((mw cy base b h).set a (base + a, me cy base b (.inl (1, N, .inl (upd f i.toNatClampNeg x))))) H1 := hP
  rw [mw_set] at hP
  exact kk l D cy base b p e R s m args below meth c H1 locs1 ls C hl ⟨hP, Nat.le_trans C.2.2.2.2.2.2.2.2.2.2.2.2.2 hS1.1⟩ hS1 (fun z => by rw [List.length_set]; exact hA z)
theorem x_last {a N : Nat} {f : Nat → Int64} {i : Int32} {x : Int64} (hd : decode (Mc M) pc = .ok (.lastore, 1)) (hc : h[a]? = some (.inl (2, N, .inr (.inl f)))) (hin : vp_in i N)
    (kk : Ex X M al d (pc + 1) lv st (h.set a (.inl (2, N, .inr (.inl (vp_updL f i.toNatClampNeg x))))) k n r) : Ex X M al d pc lv (.long x :: .int i :: .ref a :: st) h k n r := by
  intro l D cy base b p e R s m args below meth c H locs ls C hl hH hS hA
  refine va_last C.1 C.2.1 C.K.1 hH.1 mw_D hS a 2 (mw_get hc) rfl hin hd (fun H1 locs1 hP hD hS1 => ?_)
  have hP : va_P D vwCl ((mw cy base b h).set a (base + a, me cy base b (.inl (2, N, .inr (.inl (vp_updL f i.toNatClampNeg x)))))) H1 := hP
  rw [mw_set] at hP
  exact kk l D cy base b p e R s m args below meth c H1 locs1 ls C hl ⟨hP, Nat.le_trans C.2.2.2.2.2.2.2.2.2.2.2.2.2 hS1.1⟩ hS1 (fun z => by rw [List.length_set]; exact hA z)
theorem x_aast {a a2 t N ci : Nat} {q : vw_C} {vs : List Value} {f : Nat → Option Nat} {i : Int32} (hd : decode (Mc M) pc = .ok (.aastore, 1)) (ht : ∀ cy, (mtys cy)[t]? = some (cy t, .object q.1)) (hc : h[a]? = some (.inl (t, N, .inr (.inr (.inr (.inr f)))))) (hc2 : h[a2]? = some (.inr (ci, vs))) (hq : vwCl[ci]? = some q) (hin : vp_in i N)
    (kk : Ex X M al d (pc + 1) lv st (h.set a (.inl (t, N, .inr (.inr (.inr (.inr (va_up f i.toNatClampNeg (some a2)))))))) k n r) : Ex X M al d pc lv (.ref a2 :: .int i :: .ref a :: st) h k n r := by
  intro l D cy base b p e R s m args below meth c H locs ls C hl hH hS hA
  refine va_astq C.1 C.2.1 C.K.1 hH.1 mw_D hS a t a2 ci (mw_get hc) (ht cy) (mw_get hc2) hq hin hd (fun H1 locs1 hP hD hS1 => ?_)
  have e1 : va_up (fun i => (f i).map (fun a => base + a)) i.toNatClampNeg (some (base + a2)) = fun j => ((va_up f i.toNatClampNeg (some a2)) j).map (fun a => base + a) := by
    funext j
    by_cases hj : j = i.toNatClampNeg <;> simp [va_up, hj]
  rw [e1] at hP
  have hP : va_P D vwCl ((mw cy base b h).set a (base + a, me cy base b (.inl (t, N, .inr (.inr (.inr (.inr (va_up f i.toNatClampNeg (some a2))))))))) H1 := hP
  rw [mw_set] at hP
  exact kk l D cy base b p e R s m args below meth c H1 locs1 ls C hl ⟨hP, Nat.le_trans C.2.2.2.2.2.2.2.2.2.2.2.2.2 hS1.1⟩ hS1 (fun z => by rw [List.length_set]; exact hA z)
theorem x_sld {u : UInt32} {i : Int32} (hd : decode (Mc M) pc = .ok (.iaload, 1)) (hin : vp_in i X.1) (kk : Ex X M al d (pc + 1) lv (.int (X.2 i.toNatClampNeg) :: st) h k n r) : Ex X M al d pc lv (.int i :: .float u :: st) h k n r := by
  intro l D cy base b p e R s m args below meth c H locs ls C hl hH hS hA
  exact va_sld C.1 C.2.1 C.Z.2.2.1 (Nat.lt_of_lt_of_le C.Z.2.2.2 C.2.2.2.2.2.2.2.2.2.2.2.2.2) (Nat.not_le.mpr C.Z.2.2.2) hS hin hd (kk l D cy base b p e R s m args below meth c H locs ls C hl hH hS hA)
theorem x_slen {u : UInt32} (hd : decode (Mc M) pc = .ok (.arraylength, 1)) (kk : Ex X M al d (pc + 1) lv (.int (Int32.ofNat X.1) :: st) h k n r) : Ex X M al d pc lv (.float u :: st) h k n r := by
  intro l D cy base b p e R s m args below meth c H locs ls C hl hH hS hA
  exact va_slen C.1 C.2.1 C.Z.2.2.1 (Nat.lt_of_lt_of_le C.Z.2.2.2 C.2.2.2.2.2.2.2.2.2.2.2.2.2) (Nat.not_le.mpr C.Z.2.2.2) hS hd (kk l D cy base b p e R s m args below meth c H locs ls C hl hH hS hA)
theorem x_acopy {a N idx : Nat} {f : Nat → Int32} {sp dp m0 : Int32} (hd : decode (Mc M) pc = .ok (.invokestatic idx, 3)) (hlk : Cond.methodLink M.1.cls idx arraycopyName ∈ wsL_law) (hnt : Cond.native arraycopyName ∈ wsL_law) (hst : Cond.static arraycopyName ∈ wsL_law) (hini : Cond.initialized "java/lang/System" ∈ wsL_law)
    (hc : h[a]? = some (.inl (0, N, .inl f))) (h1 : ¬ sp < 0) (h2 : ¬ dp < 0) (h3 : ¬ m0 < 0) (h4 : sp.toNatClampNeg + m0.toNatClampNeg ≤ N) (h5 : dp.toNatClampNeg + m0.toNatClampNeg ≤ N) (hdp : 1 ≤ d) (hrs : (st.map fun v => v.category).sum + (nativeFrameWords "java/lang/System" "arraycopy" 5 + 11) ≤ 34)
    (kk : Ex X M al d (pc + 3) lv st (h.set a (.inl (0, N, .inl (va_cpy f f sp.toNatClampNeg dp.toNatClampNeg m0.toNatClampNeg)))) k n r) : Ex X M al d pc lv (.int m0 :: .int dp :: .ref a :: .int sp :: .ref a :: st) h k n r := by
  intro l D cy base b p e R s m args below meth c H locs ls C hl hH hS hA
  have hrr := C.R
  have hsum : ((st.map (mv base b)).map fun v => v.category) = st.map fun v => v.category := by
    rw [List.map_map]
    exact List.map_congr_left (fun v _ => mv_cat base b v)
  refine va_copyi (ty := .int) C.1 C.2.1 (C.2.2.1.trans hl.1.symm) C.2.2.2.1 (C.2.2.2.2.1 _ hlk) (C.2.2.2.2.1 _ hnt) (C.2.2.2.2.1 _ hst) (C.2.2.2.2.1 _ hini) C.K.1 hH.1 mw_D hS a a 0 0 (mw_get hc) (mw_get hc) rfl rfl rfl h1 h2 h3 h4 h5 (fun _ _ => rfl) (by omega) (by rw [hsum]; omega) hd (fun H1 locs1 hP hD hS1 => ?_)
  have hP : va_P D vwCl ((mw cy base b h).set a (base + a, me cy base b (.inl (0, N, .inl (va_cpy f f sp.toNatClampNeg dp.toNatClampNeg m0.toNatClampNeg))))) H1 := hP
  rw [mw_set] at hP
  exact kk l D cy base b p e R s m args below meth c H1 locs1 ls C hl ⟨hP, Nat.le_trans C.2.2.2.2.2.2.2.2.2.2.2.2.2 hS1.1⟩ hS1 (fun z => by rw [List.length_set]; exact hA z)
/-! ends -/
theorem x_zret {v : Int32} {ty : FieldType} {mc ms : Nat} (hd : decode (Mc M) pc = .ok (.ireturn, 1)) (hr : Mr M = some ty) (hn : narrow ty (.int v) = .int v) (h1 : k ≤ mc) (h2 : n ≤ ms) : Ex X M al d pc lv [.int v] h k n (.inl (some (.int v)), h, mc, ms) := by
  intro l D cy base b p e R s m args below meth c H locs ls C hl hH hS hA
  refine vx_ret (W.widen h1 h2 ?_)
  exact W.zret C.1 C.2.1 (C.2.2.2.2.2.1.trans hr) hn (fun t ht hW => ⟨hS.F ht, some (.int v), rfl, rfl, by rw [ht]; exact hH⟩) hS.2.2 hd C.2.2.2.2.2.2.1
theorem x_vret {mc ms : Nat} (hd : decode (Mc M) pc = .ok (.return_, 1)) (hr : Mr M = none) (h1 : k ≤ mc) (h2 : n ≤ ms) : Ex X M al d pc lv [] h k n (.inl none, h, mc, ms) := by
  intro l D cy base b p e R s m args below meth c H locs ls C hl hH hS hA
  refine vx_ret (W.widen h1 h2 ?_)
  exact W.vret C.1 C.2.1 (C.2.2.2.2.2.1.trans hr) (fun t ht hW => ⟨hS.F ht, none, rfl, rfl, by rw [ht]; exact hH⟩) hS.2.2 hd C.2.2.2.2.2.2.1
theorem x_aret {a : Nat} {C0 : String} {mc ms : Nat} (hd : decode (Mc M) pc = .ok (.areturn, 1)) (hr : Mr M = some (.object C0)) (h1 : k ≤ mc) (h2 : n ≤ ms) : Ex X M al d pc lv [.ref a] h k n (.inl (some (.ref a)), h, mc, ms) := by
  intro l D cy base b p e R s m args below meth c H locs ls C hl hH hS hA
  refine vx_ret (W.widen h1 h2 ?_)
  exact W.aret C.1 C.2.1 (C.2.2.2.2.2.1.trans hr) (Or.inl ⟨_, rfl⟩) (Or.inr ⟨_, rfl⟩) (fun t ht hW => ⟨hS.F ht, some (.ref a), rfl, rfl, by rw [ht]; exact hH⟩) hS.2.2 hd C.2.2.2.2.2.2.1
theorem x_objInit {a idx : Nat} (hd : decode (Mc M) pc = .ok (.invokespecial idx, 3)) (hlk : Cond.methodLink M.1.cls idx objectInit ∈ wsL_law) (hin : Cond.instanceMethod objectInit ∈ wsL_law) (hco : Cond.code objectInit ⟨#[0xb1]⟩ 1 none ∈ wsL_law) (hdp : 1 ≤ d) (hrs : (st.map fun v => v.category).sum + 12 ≤ 34)
    (kk : Ex X M al d (pc + 3) lv st h k n r) : Ex X M al d pc lv (.ref a :: st) h k n r := by
  intro l D cy base b p e R s m args below meth c H locs ls C hl hH hS hA
  have hrr := C.R
  have hsum : ((st.map (mv base b)).map fun v => v.category) = st.map fun v => v.category := by
    rw [List.map_map]
    exact List.map_congr_left (fun v _ => mv_cat base b v)
  exact W.objInit C.1 C.2.1 C.2.2.2.1 (C.2.2.2.2.1 _ hlk) (C.2.2.2.2.1 _ hin) (C.2.2.2.2.1 _ hco) (g := F0 m pc ls (.ref (base + a) :: st.map (mv base b))) rfl (hl.1.trans C.2.2.1.symm) rfl hd (by omega) (by rw [hsum]; show 2 * 0 + _ + 12 ≤ _; omega)
    (kk l D cy base b p e R s m args below meth c H locs ls C hl hH hS hA)
end XH
end
section
section XC
variable {X : XS} {M N : Mt} {al : Bool} {d pc k n : Nat} {lv lv' : List (Option Value)} {st : List Value} {h : MH} {r r1 : Rs}
theorem cats (base b : Nat) (st : List Value) : ((st.map (mv base b)).map fun v => v.category) = st.map fun v => v.category := by
  rw [List.map_map]
  exact List.map_congr_left (fun v _ => mv_cat base b v)
/-- while nothing was thrown, the heap ends where the small heap ends -/
theorem W.size {p : Program} {l : Launch} {e : Env} {R : Room} {s : State} {m : MethodId} {args : Array Value} {below : List Frame} {meth : Method} {c : Code} {H : Heap} {locs : List Loc} {cells slots : Nat} {Q : State → Prop} {g : JFrame}
    (kk : H.size ≤ s.heap.size + cells → W p l e R s m args below meth c H locs cells slots Q g) : W p l e R s m args below meth c H locs cells slots Q g := fun T hT Y => kk (by rw [← hT]; exact Y.heapSize) T hT Y
theorem Hd.top {D : va_G} {cy : Nat → ClassId} {base b : Nat} {H : Heap} (hH : Hd D cy base b h H) : base + h.length ≤ H.size := by
  by_cases h0 : h.length = 0
  · rw [h0]; exact hH.2
  · have hl : h.length - 1 < h.length := by omega
    have h1 : h[h.length - 1]? = some (h[h.length - 1]) := List.getElem?_eq_getElem hl
    have := (hH.1 _ _ (mw_get (cy := cy) (base := base) (b := b) h1)).lt
    simp only at this
    omega
/-- a class's entry for 'new' -/
def NW (own : String) (idx ci : Nat) (fs : List Value) : Prop := ∃ q : vw_C, vwCl[ci]? = some q ∧ Cond.classLink own idx q.1 ∈ wsL_law ∧ Cond.instantiable q.1 q.2.2 ∈ wsL_law ∧ Cond.initialized q.1 ∈ wsL_law ∧ fs.length = q.2.2 ∧ ∃ ty0 : Nat → FieldType, (∀ k, k < q.2.2 → parseFieldDescriptor (q.2.1 k).2.2.1 = some (ty0 k)) ∧ ∀ j, j < q.2.2 → ∀ base b : Nat, defaultValue (ty0 j) = vp_V (fs.map (mv base b)) j
theorem x_new {idx ci : Nat} {fs : List Value} (hd : decode (Mc M) pc = .ok (.new idx, 3)) (hw : NW M.1.cls idx ci fs) (hk1 : k + 1 ≤ r.2.2.1) (hn1 : n + fs.length ≤ r.2.2.2)
    (kk : Ex X M true d (pc + 3) lv (.ref h.length :: st) (h ++ [.inr (ci, fs)]) (k + 1) (n + fs.length) r) : Ex X M true d pc lv st h k n r := by
  intro l D cy base b p e R s m args below meth c H locs ls C hl hH hS hA
  obtain ⟨⟨C0, T0, N0⟩, hq, hcl, hins, hini, hlen, ty0, hty, hdf⟩ := hw
  have hrr := C.R
  refine W.size fun hsz => ?_
  have hz : H.size = base + h.length := Nat.le_antisymm (by have := hA rfl; omega) hH.top
  have hKn := C.K.1.1 ci _ hq
  have hlen : fs.length = N0 := hlen
  refine W.newcK C.1 C.2.1 C.2.2.2.1 (C.2.2.2.2.1 _ hcl) (C.2.2.2.2.1 _ hins) (C.2.2.2.2.1 _ hini) (g := F0 m pc ls (st.map (mv base b))) rfl hd (by omega) (by omega) hKn.2.1 rfl fun H1 kC hkC e1 z1 o1 => ?_
  have hk : ∀ (j : Nat) (x : Nat × va_E), (mw cy base b h)[j]? = some x → H1[x.1]? = H[x.1]? := fun j x hx => o1 x.1 ((hH.1 j x hx).lt)
  have hP1 : va_P D vwCl (mw cy base b (h ++ [.inr (ci, fs)])) H1 := by
    rw [mw_push]
    refine (hH.1.kept hk).app (fun j x hx => ?_)
    have hz0 : j < 1 := (List.getElem?_eq_some_iff.mp hx).1
    rw [show j = 0 by omega] at hx
    cases hx
    rw [hz] at e1
    exact ⟨_, hq, (u_born ty0 C.2.2.2.2.1 (cl_all hq).1 hKn hkC e1 hty).to (fun j hj => hdf j hj base b)⟩
  rw [hz, ← hlen]
  exact kk l D cy base b p e R s m args below meth c H1 locs ls C hl ⟨hP1, by omega⟩ ⟨Nat.le_trans hS.1 (by omega), fun x h1 h2 => (o1 x (Nat.lt_of_lt_of_le h1 hS.1)).trans (hS.2.1 x h1 h2), hS.2.2⟩ (fun z => by have := hA z; simp; omega)
theorem x_newarr {t N' : Nat} {ty : FieldType} {atype : ArrayType} {n0 : Int32} {a0 : vp_A} (hd : decode (Mc M) pc = .ok (.newarray atype, 2)) (hw : Cond.arrayClass ty ∈ wsL_law) (hty : newarray.typeOf atype = ty) (ht : ∀ cy, (mtys cy)[t]? = some (cy t, ty)) (hpr : refKind ty = false)
    (ha : ∀ (base : Nat) (cA : ClassId), vp_cell cA (ma base a0) = arrV cA N' (fun _ => defaultValue ty)) (hn : ¬ n0 < 0) (hN : n0.toNatClampNeg = N') (hbytes : N' * componentBytes ty ≤ 536870912) (hk1 : k + 1 ≤ r.2.2.1) (hn1 : n + N' ≤ r.2.2.2)
    (kk : Ex X M true d (pc + 2) lv (.ref h.length :: st) (h ++ [.inl (t, a0)]) (k + 1) (n + N') r) : Ex X M true d pc lv (.int n0 :: st) h k n r := by
  intro l D cy base b p e R s m args below meth c H locs ls C hl hH hS hA
  have hrr := C.R
  subst hty
  refine W.size fun hsz => ?_
  have hz : H.size = base + h.length := Nat.le_antisymm (by have := hA rfl; omega) hH.top
  refine va_newaK C.1 C.2.1 (C.2.2.2.2.1 _ hw) (g := F0 m pc ls (.int n0 :: st.map (mv base b))) rfl hd rfl hn hN hbytes (by omega) (by omega) hz fun H1 cA e1 z1 o1 hAr hNm => ?_
  have hcy : cA = cy t := by
    have h2 := (C.K.1.2 t _ (ht cy)).2
    have h3 : s.vm.findClass ("[" ++ (newarray.typeOf atype).toString) = some (cy t) := by cases atype <;> exact h2
    exact Option.some.inj (hNm.symm.trans h3)
  have hk : ∀ (j : Nat) (x : Nat × va_E), (mw cy base b h)[j]? = some x → H1[x.1]? = H[x.1]? := fun j x hx => o1 x.1 (by rw [← hz]; exact (hH.1 j x hx).lt)
  have hP1 : va_P D vwCl (mw cy base b (h ++ [.inl (t, a0)])) H1 := by
    rw [mw_push]
    refine (hH.1.kept hk).app (fun j x hx => ?_)
    have hz0 : j < 1 := (List.getElem?_eq_some_iff.mp hx).1
    rw [show j = 0 by omega] at hx
    cases hx
    show H1[base + h.length]? = some (vp_cell (cy t) (ma base a0))
    rw [ha, ← hcy]
    exact e1
  exact kk l D cy base b p e R s m args below meth c H1 locs ls C hl ⟨hP1, by omega⟩ ⟨Nat.le_trans hS.1 (by omega), fun x h1 h2 => (o1 x (by rw [← hz]; exact Nat.lt_of_lt_of_le h1 hS.1)).trans (hS.2.1 x h1 h2), hS.2.2⟩ (fun z => by have := hA z; simp; omega)
theorem x_anew {t N' idx : Nat} {C0 : String} {n0 : Int32} (hd : decode (Mc M) pc = .ok (.anewarray idx, 3)) (hcl : Cond.classLink M.1.cls idx C0 ∈ wsL_law) (hao : C0 ∈ aol) (ht : ∀ cy, (mtys cy)[t]? = some (cy t, .object C0)) (hn : ¬ n0 < 0) (hN : n0.toNatClampNeg = N') (hbytes : N' * 4 ≤ 536870912) (hk1 : k + 1 ≤ r.2.2.1) (hn1 : n + N' ≤ r.2.2.2)
    (kk : Ex X M true d (pc + 3) lv (.ref h.length :: st) (h ++ [.inl (t, N', .inr (.inr (.inr (.inr (fun _ => none)))))]) (k + 1) (n + N') r) : Ex X M true d pc lv (.int n0 :: st) h k n r := by
  intro l D cy base b p e R s m args below meth c H locs ls C hl hH hS hA
  have hrr := C.R
  subst hN
  refine W.size fun hsz => ?_
  have hz : H.size = base + h.length := Nat.le_antisymm (by have := hA rfl; omega) hH.top
  refine W.anew C.1 C.2.1 C.2.2.2.1 (C.2.2.2.2.1 _ hcl) (va_AO.use (C.K.2.2.2.1 _ hao)) (g := F0 m pc ls (.int n0 :: st.map (mv base b))) rfl hd rfl hn hbytes (by omega) (by omega) fun cA kA comp f1 f2 f3 f4 => ?_
  have hcy : cA = cy t := by
    obtain ⟨kA2, comp2, g1, g2, g3, g4⟩ := (C.K.1.2 t _ (ht cy)).2
    exact Option.some.inj (f1.symm.trans g4)
  generalize hH1 : H.push ({ cls := cA, slots := Array.replicate n0.toNatClampNeg .null, vm := .none } : Cell) = H1
  have z1 : H1.size = H.size + 1 := by rw [← hH1, Array.size_push]
  have e1 : H1[H.size]? = some (arrV cA n0.toNatClampNeg (fun _ => .null)) := by rw [← hH1, Array.getElem?_push_size, ← arrV_new]
  have o1 : ∀ q : Nat, q < H.size → H1[q]? = H[q]? := fun q hq => by rw [← hH1, Array.getElem?_push, if_neg (Nat.ne_of_lt hq)]
  have hk : ∀ (j : Nat) (x : Nat × va_E), (mw cy base b h)[j]? = some x → H1[x.1]? = H[x.1]? := fun j x hx => o1 x.1 ((hH.1 j x hx).lt)
  have hP1 : va_P D vwCl (mw cy base b (h ++ [.inl (t, n0.toNatClampNeg, .inr (.inr (.inr (.inr (fun _ => none)))))])) H1 := by
    rw [mw_push]
    refine (hH.1.kept hk).app (fun j x hx => ?_)
    have hz0 : j < 1 := (List.getElem?_eq_some_iff.mp hx).1
    rw [show j = 0 by omega] at hx
    cases hx
    show H1[base + h.length]? = some (vp_cell (cy t) (n0.toNatClampNeg, .inr (.inr (.inr (.inr (fun _ => none))))))
    rw [vp_cell_q, ← hcy, ← hz]
    exact e1
  rw [hz]
  exact kk l D cy base b p e R s m args below meth c H1 locs ls C hl ⟨hP1, by omega⟩ ⟨Nat.le_trans hS.1 (by omega), fun x h1 h2 => (o1 x (Nat.lt_of_lt_of_le h1 hS.1)).trans (hS.2.1 x h1 h2), hS.2.2⟩ (fun z => by have := hA z; simp; omega)
/-- the phase of making is over -/
theorem x_made (kk : Ex X M false d pc lv st h k n r) : Ex X M al d pc lv st h k n r := by
  intro l D cy base b p e R s m args below meth c H locs ls C hl hH hS hA
  exact kk l D cy base b p e R s m args below meth c H locs ls C hl hH hS (fun z => by cases z)
/-! throws -/
def TH (own : String) (ik ic : Nat) (E : String) : Prop := Bundle.fit E = true ∧ Cond.classLink own ik E ∈ wsL_law ∧ Cond.initialized E ∈ wsL_law ∧ (∀ w ∈ (vx_at0 own ic E [eR, eX]).filter goodWord, w ∈ wsL_law) ∧ (∀ w ∈ (vx_at0 own ic E [eR, eX]).filter (fun w => !goodWord w), w ∈ fwd) ∧ ∀ w ∈ Cond.classLink own ik E :: Cond.initialized E :: vx_at0 own ic E [eR, eX], vx_ot w = true
theorem x_throw {ik ic mc ms : Nat} {E : String} (hth : TH M.1.cls ik ic E) (hm : Mh M = []) (d0 : decode (Mc M) pc = .ok (.new ik, 3)) (d3 : decode (Mc M) (pc + 3) = .ok (.dup, 1)) (d4 : decode (Mc M) (pc + 4) = .ok (.invokespecial ic, 3)) (d7 : decode (Mc M) (pc + 7) = .ok (.athrow, 1))
    (hdp : 6 ≤ d) (hrs : (st.map fun v => v.category).sum ≤ 100) (h1 : k + 1 ≤ mc) (h2 : n + 6 ≤ ms) : Ex X M al d pc lv st h k n (.inr E, h, mc, ms) := by
  intro l D cy base b p e R s m args below meth c H locs ls C hl hH hS hA
  obtain ⟨hfit, hcl, hini, hgw, hbw, hot⟩ := hth
  have hrr : d ≤ R.frames ∧ 34 * d ≤ R.locals ∧ mc ≤ R.cells ∧ ms ≤ R.slots := C.R
  refine vx_throw0 (names := [eR, eX]) C.1 C.2.1 C.2.2.2.2.2.2.2.2.2.2.1 C.2.2.2.1 hfit (by decide) (C.2.2.2.2.1 _ hcl) (C.2.2.2.2.1 _ hini)
    (vx_hat (fun w hw => C.2.2.2.2.1 w (hgw w hw)) hbw (fun w hw => va_Nw.use (by have hk : (fwd.all fun w => w.onTables) = true := by decide +kernel
                                                                                  exact List.all_eq_true.mp hk w hw) (C.K.2.1 w hw))) hot C.Z.1 C.Z.2.1 hS (hl.1.trans C.2.2.1.symm) d0 d3 d4 d7
    (fun x hx => by rw [C.T, hm] at hx; cases hx) (by show 2 + 3 < R.frames; omega) (by rw [cats]; show _ + (13 * 3 + 42) ≤ _; omega) (by omega) (by omega) C.2.2.2.2.2.2.1 (fun t hvm hz hk => ⟨⟨Nat.le_trans hS.1 hz, fun q hq1 hq2 => ?_⟩, rfl, hH.1.kept (fun j x hx => hk x.1 (hH.1 j x hx).lt), Nat.le_trans hH.2 hz⟩) hS.2.2 h1 h2
  rw [hk q (Nat.lt_of_lt_of_le hq1 hS.1)]
  exact hS.2.1 q hq1 hq2
/-! calls -/
/-- what is known of a method that is called: np its parameters' number -/
def MF (N : Mt) (np : Nat) : Prop := Mw N ∈ wsL_law ∧ Cond.initialized N.1.cls ∈ wsL_law ∧ (N.1.cls ≠ "java/lang/invoke/MethodHandle" ∧ N.1.cls ≠ "java/lang/invoke/VarHandle" ∧ (parseMethodDescriptor N.1.desc).map (fun d => d.parameters.length) = some np) ∧ Mn N ≤ 15
theorem goodC (h0 : Mw N ∈ wsL_law) : GoodIn wsL_law (Mw N :: wsL_law) := fun w hw => by
  have h1 : w ∈ wsL_law := (List.mem_cons.mp hw).elim (fun e => e ▸ h0) id
  exact ⟨h1, good_of_word (wsL_good w h1)⟩
theorem Mw_plain (hm : Mh N = []) : Mw N = .code N.1 (Mc N) (Mn N) (Mr N) := by unfold Mw; rw [if_pos hm]
theorem PcR.blind {X : XS} {D : va_G} {cy : Nat → ClassId} {base b : Nat} {al : Bool} {as : List Value} {h : MH} : FrameBlind (PcR X D cy base b al as h) := fun a U g mk q => by
  obtain ⟨q1, q2, q3, q4, q5⟩ := q
  exact ⟨q1, Kf.moved (U := U.calling g mk a) (State.WarmedH.refl U) q2, q3, Zs.moved (U := U.calling g mk a) (Vm.Alike.refl U.vm) q4, q5⟩
theorem PcR.now {X : XS} {M : Mt} {d mc ms : Nat} {l : Launch} {D : va_G} {cy : Nat → ClassId} {base b : Nat} {p : Program} {R : Room} {s : State} {m : MethodId} {args : Array Value} {meth : Method} {c : Code} {as : List Value} {H : Heap} {locs : List Loc}
    (C : Cx X M d mc ms l D cy base b p R s m args meth c) (hH : Hd D cy base b h H) (hS : va_S (fun q : Nat => base ≤ q) s.heap H locs) (hz : al = true → H.size = base + h.length) (U : State) (hU : U.heap = H) (hW : s.WarmedH U.vm) : PcR X D cy base b al as h (as.map (mv base b)).toArray U :=
  ⟨rfl, C.K.moved hW, by rw [hU]; exact hH, by rw [hU]; exact (C.Z.kept hS.2.1).moved hW.alike, fun z => by rw [hU]; exact hz z⟩
/-- behind a call that answers -/
theorem x_back {v : Option Value} {p : Program} {l : Launch} {e : Env} {R : Room} {s : State} {m : MethodId} {args : Array Value} {below : List Frame} {meth : Method} {c : Code} {H : Heap} {locs : List Loc} {ls : Array Slot} {D : va_G} {cy : Nat → ClassId} {base b : Nat} {st0 : List Value} {a : Array Value}
    (hr : vx_Run p l e R s m args below meth c H locs k n r1.2.2.1 r1.2.2.2 (F0 m pc ls st0) (st.map (mv base b)) (QcR D cy base b r1 a) (XcR D cy base b r1) (fun q : Nat => base ≤ q)) (hv : r1.1 = .inl v)
    (C : Cx X M d r.2.2.1 r.2.2.2 l D cy base b p R s m args meth c) (hl : LV base b (Mn M) ls lv) (hS : va_S (fun q : Nat => base ≤ q) s.heap H locs) (hA : al = true → s.heap.size + (k + r1.2.2.1) = base + r1.2.1.length)
    (kk : Ex X M al d (pc + 3) lv (v.toList ++ st) r1.2.1 (k + r1.2.2.1) (n + r1.2.2.2) r) :
    W p l e R s m args below meth c H locs k n (vx_MQ below (QcR D cy base b r) (XcR D cy base b r) args s r.2.2.1 r.2.2.2 (fun q : Nat => base ≤ q)) (F0 m pc ls st0) := by
  intro T hT Y
  rcases hr T hT Y with ⟨w, st₀, t, T', L, h0, Y', hL, e1, e2, ⟨hF, v', hv', ho, hd'⟩, go⟩ | ⟨q, st₀, t, T', L, E, ce, h0, Y', hL, e1, e2, ⟨hF, hv', -⟩, -⟩
  · rw [hv] at hv'
    cases hv'
    cases ho
    obtain ⟨k1, k2, k3⟩ := vx_keep h0 e1 hS (fun q _ z => z) (fun q z => z) hL hF
    obtain ⟨t2, a1, b1⟩ := kk l D cy base b p e R s m args below meth c T'.heap (locs ++ L) ls C hl (by rw [e1]; exact hd') k3 hA T' rfl Y'
    refine ⟨t2, go t2 ?_, b1⟩
    cases v with
    | none => exact a1
    | some v => exact a1
  · rw [hv] at hv'
    cases hv'
/-- behind a call that throws, in a method without a table -/
theorem x_backT {E : String} {mc ms : Nat} {p : Program} {l : Launch} {e : Env} {R : Room} {s : State} {m : MethodId} {args : Array Value} {below : List Frame} {meth : Method} {c : Code} {H : Heap} {locs : List Loc} {ls : Array Slot} {D : va_G} {cy : Nat → ClassId} {base b : Nat} {st0 : List Value} {a : Array Value}
    (hr : vx_Run p l e R s m args below meth c H locs k n r1.2.2.1 r1.2.2.2 (F0 m pc ls st0) (st.map (mv base b)) (QcR D cy base b r1 a) (XcR D cy base b r1) (fun q : Nat => base ≤ q)) (hv : r1.1 = .inr E) (hm : Mh M = [])
    (C : Cx X M d mc ms l D cy base b p R s m args meth c) (hS : va_S (fun q : Nat => base ≤ q) s.heap H locs) (h1 : k + r1.2.2.1 ≤ mc) (h2 : n + r1.2.2.2 ≤ ms) :
    W p l e R s m args below meth c H locs k n (vx_MQ below (QcR D cy base b (.inr E, r1.2.1, mc, ms)) (XcR D cy base b (.inr E, r1.2.1, mc, ms)) args s mc ms (fun q : Nat => base ≤ q)) (F0 m pc ls st0) := by
  intro T hT Y
  rcases hr T hT Y with ⟨w, st₀, t, T', L, h0, Y', hL, e1, e2, ⟨hF, v', hv', -⟩, go⟩ | ⟨q, st₀, t, T', L, E', ce, h0, Y', hL, e1, e2, ⟨hF, hv', hd'⟩, hce, hcv, hcl, go⟩
  · rw [hv] at hv'
    cases hv'
  · rw [hv] at hv'
    cases hv'
    obtain ⟨k1, k2, k3⟩ := vx_keep h0 e1 hS (fun q _ z => z) (fun q z => z) hL hF
    have K : vx_W p l e R s m args below meth c T'.heap (locs ++ L) (k + r1.2.2.1) (n + r1.2.2.2) (vx_MQ below (QcR D cy base b (.inr E, r1.2.1, mc, ms)) (XcR D cy base b (.inr E, r1.2.1, mc, ms)) args s mc ms (fun q : Nat => base ≤ q)) (F0 m pc ls (st.map (mv base b))) q :=
      vx_out (fun x hx => by rw [C.T, hm] at hx; cases hx) C.2.2.2.2.2.2.1 (by rw [e1]; exact hce) hcv hcl (fun t2 ht2 hvm => ⟨k3.F ht2, rfl, by rw [ht2, e1]; exact hd'⟩) k3.2.2 h1 h2
    obtain ⟨t2, a1, b1⟩ := K T' rfl Y'
    exact ⟨t2, go.trans a1, b1⟩
/-- behind a call that throws: caught by a row of this method's table -/
theorem x_backC {E nm : String} {p : Program} {l : Launch} {e : Env} {R : Room} {s : State} {m : MethodId} {args : Array Value} {below : List Frame} {meth : Method} {c : Code} {H : Heap} {locs : List Loc} {ls : Array Slot} {D : va_G} {cy : Nat → ClassId} {base b : Nat} {st0 : List Value} {a : Array Value}
    (hr : vx_Run p l e R s m args below meth c H locs k n r1.2.2.1 r1.2.2.2 (F0 m pc ls st0) (st.map (mv base b)) (QcR D cy base b r1 a) (XcR D cy base b r1) (fun q : Nat => base ≤ q)) (hv : r1.1 = .inr E)
    (pre : List ExceptionTableEntry) (x : ExceptionTableEntry) (suf : List ExceptionTableEntry) (hsplit : tableOf (Mh M) = pre ++ x :: suf)
    (hpass : ∀ z ∈ pre, covers z pc = false ∨ (z.catchType ≠ 0 ∧ ∃ nm : String, Cond.classLink M.1.cls z.catchType nm ∈ wsL_law ∧ (E, nm) ∈ ncl)) (hx : covers x pc = true) (h0 : x.catchType ≠ 0) (hlink : Cond.classLink M.1.cls x.catchType nm ∈ wsL_law) (hcast : Cond.castable E nm ∈ fwd)
    (C : Cx X M d r.2.2.1 r.2.2.2 l D cy base b p R s m args meth c) (hl : LV base b (Mn M) ls lv) (hS : va_S (fun q : Nat => base ≤ q) s.heap H locs)
    (kk : ∀ q : Nat, Ex X M false d x.handlerPc lv [.retAddr q] r1.2.1 (k + r1.2.2.1) (n + r1.2.2.2) r) :
    W p l e R s m args below meth c H locs k n (vx_MQ below (QcR D cy base b r) (XcR D cy base b r) args s r.2.2.1 r.2.2.2 (fun q : Nat => base ≤ q)) (F0 m pc ls st0) := by
  intro T hT Y
  rcases hr T hT Y with ⟨w, st₀, t, T', L, h0', Y', hL, e1, e2, ⟨hF, v', hv', -⟩, go⟩ | ⟨q, st₀, t, T', L, E', ce, h0', Y', hL, e1, e2, ⟨hF, hv', hd'⟩, hce, hcv, hcl, go⟩
  · rw [hv] at hv'
    cases hv'
  · rw [hv] at hv'
    cases hv'
    obtain ⟨k1, k2, k3⟩ := vx_keep h0' e1 hS (fun q _ z => z) (fun q z => z) hL hF
    have K : vx_W p l e R s m args below meth c T'.heap (locs ++ L) (k + r1.2.2.1) (n + r1.2.2.2) (vx_MQ below (QcR D cy base b r) (XcR D cy base b r) args s r.2.2.1 r.2.2.2 (fun q : Nat => base ≤ q)) (F0 m pc ls (st.map (mv base b))) q :=
      vx_catch C.2.2.2.1 pre x suf (C.T.trans hsplit) (fun z hz => (hpass z hz).elim Or.inl (fun ⟨a1, nm2, a2, a3⟩ => Or.inr ⟨a1, nm2, C.2.2.2.2.1 _ a2, C.K.2.2.2.2 _ a3⟩)) hx h0 (C.2.2.2.2.1 _ hlink)
        (va_Nw.use rfl (C.K.2.1 _ hcast)) (by rw [e1]; exact hce) hcv hcl (kk q l D cy base b p e R s m args below meth c T'.heap (locs ++ L) ls C hl (by rw [e1]; exact hd') k3 (fun z => by cases z))
    obtain ⟨t2, a1, b1⟩ := K T' rfl Y'
    exact ⟨t2, go.trans a1, b1⟩
/-- the entry of a virtual call -/
def LKV (own : String) (idx : Nat) (N : Mt) : Prop := Cond.methodLink own idx N.1 ∈ wsL_law ∧ Cond.instanceMethod N.1 ∈ wsL_law ∧ Cond.selects N.1.cls N.1 N.1 ∈ wsL_law
def LKS (own : String) (idx : Nat) (N : Mt) : Prop := Cond.methodLink own idx N.1 ∈ wsL_law ∧ Cond.static N.1 ∈ wsL_law
theorem cb_of {p : Program} {l : Launch} {R : Room} {s : State} {m : MethodId} {args : Array Value} {meth : Method} {c : Code} {D : va_G} {cy : Nat → ClassId} {base b np idx mc ms : Nat} (C : Cx X M (d + 1) mc ms l D cy base b p R s m args meth c) (hN : MF N np) (hm : Mh N = []) (hlk : Cond.methodLink M.1.cls idx N.1 ∈ wsL_law) (mc1 ms1 : Nat) :
    CallB R s args M.1.cls idx N.1 (Mc N) (Mn N) (Mr N) (Mw N :: wsL_law) (rmd d mc1 ms1) mc1 ms1 np := by
  have hrr := C.R
  exact callB_of np C.2.2.2.2.1 (goodC hN.1) (by rw [Mw_plain hm]) rfl rfl (C.2.2.2.2.1 _ hN.2.1) (C.2.2.2.2.1 _ hlk) hN.2.2.1 ⟨by show d + 1 ≤ R.frames; omega, by have := hN.2.2.2; show 8 + (Mn N + 11) + 34 * d ≤ R.locals; omega⟩
theorem run_V {as : List Value} {p : Program} {l : Launch} {e : Env} {R : Room} {s : State} {m : MethodId} {args : Array Value} {below : List Frame} {meth : Method} {c : Code} {H : Heap} {locs : List Loc} {ls : Array Slot} {D : va_G} {cy : Nat → ClassId} {base b np idx a ci mc ms : Nat} {fs : List Value} {q : vw_C}
    (hd : decode (Mc M) pc = .ok (.invokevirtual idx, 3)) (hN : MF N np) (hm : Mh N = []) (hlk : LKV M.1.cls idx N) (hnp : as.length = np) (hc : h[a]? = some (.inr (ci, fs))) (hq : vwCl[ci]? = some q) (hqn : q.1 = N.1.cls) (hrs : (st.map fun v => v.category).sum ≤ 8) (hC : Call X N al d (.ref a :: as) h r1) (h1 : k + r1.2.2.1 ≤ mc) (h2 : n + r1.2.2.2 ≤ ms)
    (C : Cx X M (d + 1) mc ms l D cy base b p R s m args meth c) (hl : LV base b (Mn M) ls lv) (hH : Hd D cy base b h H) (hS : va_S (fun q : Nat => base ≤ q) s.heap H locs) (hz : al = true → H.size = base + h.length) :
    vx_Run p l e R s m args below meth c H locs k n r1.2.2.1 r1.2.2.2 (F0 m pc ls ((as.reverse ++ .ref a :: st).map (mv base b))) (st.map (mv base b)) (QcR D cy base b r1 (Value.ref (base + a) :: as.map (mv base b)).toArray) (XcR D cy base b r1) (fun q : Nat => base ≤ q) := by
  have hrr := C.R
  have hcb := cb_of C hN hm hlk.1 r1.2.2.1 r1.2.2.2
  refine vx_runV (As := as.map (mv base b)) ⟨C.1, C.2.1, C.2.2.1, C.2.2.2.1, C.2.2.2.2.1⟩ (hC l D cy base b C.2.2.2.2.2.2.2.2.2.2.1) ⟨hcb, C.2.2.2.2.1 _ hlk.2.1, C.2.2.2.2.1 _ hlk.2.2⟩ ⟨PcR.blind, ?_, fun U hU hW => PcR.now C hH hS hz U hU hW⟩ rfl (by rw [List.length_map]; exact hnp) hl.1 (by rw [List.map_append, List.map_reverse]; rfl) (by rw [cats]; exact lv_room (m := m) (pc := pc) (ls := ls) (rest := []) hrs) hd ⟨by omega, by omega⟩
  have := va_recv C.K.1 hH.1 hq (mw_get (cy := cy) (base := base) (b := b) hc)
  rw [hqn] at this
  exact this
theorem x_invV {as : List Value} {v : Option Value} {np idx a ci : Nat} {fs : List Value} {q : vw_C} (hd : decode (Mc M) pc = .ok (.invokevirtual idx, 3)) (hN : MF N np) (hm : Mh N = []) (hlk : LKV M.1.cls idx N) (hnp : as.length = np) (hc : h[a]? = some (.inr (ci, fs))) (hq : vwCl[ci]? = some q) (hqn : q.1 = N.1.cls) (hrs : (st.map fun v => v.category).sum ≤ 8)
    (hC : Call X N al d (.ref a :: as) h r1) (hv : r1.1 = .inl v) (hlen : al = true → r1.2.1.length = h.length + r1.2.2.1) (h1 : k + r1.2.2.1 ≤ r.2.2.1) (h2 : n + r1.2.2.2 ≤ r.2.2.2)
    (kk : Ex X M al (d + 1) (pc + 3) lv (v.toList ++ st) r1.2.1 (k + r1.2.2.1) (n + r1.2.2.2) r) : Ex X M al (d + 1) pc lv (as.reverse ++ .ref a :: st) h k n r := by
  intro l D cy base b p e R s m args below meth c H locs ls C hl hH hS hA
  refine W.size fun hsz => ?_
  exact x_back (run_V hd hN hm hlk hnp hc hq hqn hrs hC h1 h2 C hl hH hS (fun z => Nat.le_antisymm (by have := hA z; omega) hH.top)) hv C hl hS (fun z => by rw [hlen z]; have := hA z; omega) kk
theorem x_invVT {as : List Value} {E : String} {np idx a ci mc ms : Nat} {fs : List Value} {q : vw_C} (hd : decode (Mc M) pc = .ok (.invokevirtual idx, 3)) (hN : MF N np) (hm : Mh N = []) (hmM : Mh M = []) (hlk : LKV M.1.cls idx N) (hnp : as.length = np) (hc : h[a]? = some (.inr (ci, fs))) (hq : vwCl[ci]? = some q) (hqn : q.1 = N.1.cls) (hrs : (st.map fun v => v.category).sum ≤ 8)
    (hC : Call X N al d (.ref a :: as) h r1) (hv : r1.1 = .inr E) (h1 : k + r1.2.2.1 ≤ mc) (h2 : n + r1.2.2.2 ≤ ms) : Ex X M al (d + 1) pc lv (as.reverse ++ .ref a :: st) h k n (.inr E, r1.2.1, mc, ms) := by
  intro l D cy base b p e R s m args below meth c H locs ls C hl hH hS hA
  refine W.size fun hsz => ?_
  exact x_backT (run_V hd hN hm hlk hnp hc hq hqn hrs hC h1 h2 C hl hH hS (fun z => Nat.le_antisymm (by have := hA z; omega) hH.top)) hv hmM C hS h1 h2
theorem x_invVC {as : List Value} {E nm : String} {np idx a ci : Nat} {fs : List Value} {q : vw_C} (hd : decode (Mc M) pc = .ok (.invokevirtual idx, 3)) (hN : MF N np) (hm : Mh N = []) (hlk : LKV M.1.cls idx N) (hnp : as.length = np) (hc : h[a]? = some (.inr (ci, fs))) (hq : vwCl[ci]? = some q) (hqn : q.1 = N.1.cls) (hrs : (st.map fun v => v.category).sum ≤ 8)
    (hC : Call X N al d (.ref a :: as) h r1) (hv : r1.1 = .inr E) (h1 : k + r1.2.2.1 ≤ r.2.2.1) (h2 : n + r1.2.2.2 ≤ r.2.2.2)
    (pre : List ExceptionTableEntry) (x : ExceptionTableEntry) (suf : List ExceptionTableEntry) (hsplit : tableOf (Mh M) = pre ++ x :: suf)
    (hpass : ∀ z ∈ pre, covers z pc = false ∨ (z.catchType ≠ 0 ∧ ∃ nm : String, Cond.classLink M.1.cls z.catchType nm ∈ wsL_law ∧ (E, nm) ∈ ncl)) (hx : covers x pc = true) (h0 : x.catchType ≠ 0) (hlink : Cond.classLink M.1.cls x.catchType nm ∈ wsL_law) (hcast : Cond.castable E nm ∈ fwd)
    (kk : ∀ q : Nat, Ex X M false (d + 1) x.handlerPc lv [.retAddr q] r1.2.1 (k + r1.2.2.1) (n + r1.2.2.2) r) : Ex X M al (d + 1) pc lv (as.reverse ++ .ref a :: st) h k n r := by
  intro l D cy base b p e R s m args below meth c H locs ls C hl hH hS hA
  refine W.size fun hsz => ?_
  exact x_backC (run_V hd hN hm hlk hnp hc hq hqn hrs hC h1 h2 C hl hH hS (fun z => Nat.le_antisymm (by have := hA z; omega) hH.top)) hv pre x suf hsplit hpass hx h0 hlink hcast C hl hS kk
theorem run_S {as : List Value} {p : Program} {l : Launch} {e : Env} {R : Room} {s : State} {m : MethodId} {args : Array Value} {below : List Frame} {meth : Method} {c : Code} {H : Heap} {locs : List Loc} {ls : Array Slot} {D : va_G} {cy : Nat → ClassId} {base b np idx mc ms : Nat}
    (hd : decode (Mc M) pc = .ok (.invokestatic idx, 3)) (hN : MF N np) (hm : Mh N = []) (hlk : LKS M.1.cls idx N) (hnp : as.length = np) (hrs : (st.map fun v => v.category).sum ≤ 8) (hC : Call X N al d as h r1) (h1 : k + r1.2.2.1 ≤ mc) (h2 : n + r1.2.2.2 ≤ ms)
    (C : Cx X M (d + 1) mc ms l D cy base b p R s m args meth c) (hl : LV base b (Mn M) ls lv) (hH : Hd D cy base b h H) (hS : va_S (fun q : Nat => base ≤ q) s.heap H locs) (hz : al = true → H.size = base + h.length) :
    vx_Run p l e R s m args below meth c H locs k n r1.2.2.1 r1.2.2.2 (F0 m pc ls ((as.reverse ++ st).map (mv base b))) (st.map (mv base b)) (QcR D cy base b r1 (as.map (mv base b)).toArray) (XcR D cy base b r1) (fun q : Nat => base ≤ q) := by
  have hrr := C.R
  have hcb := cb_of C hN hm hlk.1 r1.2.2.1 r1.2.2.2
  exact vx_runS (As := as.map (mv base b)) ⟨C.1, C.2.1, C.2.2.1, C.2.2.2.1, C.2.2.2.2.1⟩ (hC l D cy base b C.2.2.2.2.2.2.2.2.2.2.1) ⟨hcb, C.2.2.2.2.1 _ hlk.2⟩ ⟨PcR.blind, fun U hU hW => PcR.now C hH hS hz U hU hW⟩ rfl (by rw [List.length_map]; exact hnp) hl.1 (by rw [List.map_append, List.map_reverse]) (by rw [cats]; exact lv_room (m := m) (pc := pc) (ls := ls) (rest := []) hrs) hd ⟨by omega, by omega⟩
theorem x_invS {as : List Value} {v : Option Value} {np idx : Nat} (hd : decode (Mc M) pc = .ok (.invokestatic idx, 3)) (hN : MF N np) (hm : Mh N = []) (hlk : LKS M.1.cls idx N) (hnp : as.length = np) (hrs : (st.map fun v => v.category).sum ≤ 8)
    (hC : Call X N al d as h r1) (hv : r1.1 = .inl v) (hlen : al = true → r1.2.1.length = h.length + r1.2.2.1) (h1 : k + r1.2.2.1 ≤ r.2.2.1) (h2 : n + r1.2.2.2 ≤ r.2.2.2)
    (kk : Ex X M al (d + 1) (pc + 3) lv (v.toList ++ st) r1.2.1 (k + r1.2.2.1) (n + r1.2.2.2) r) : Ex X M al (d + 1) pc lv (as.reverse ++ st) h k n r := by
  intro l D cy base b p e R s m args below meth c H locs ls C hl hH hS hA
  refine W.size fun hsz => ?_
  exact x_back (run_S hd hN hm hlk hnp hrs hC h1 h2 C hl hH hS (fun z => Nat.le_antisymm (by have := hA z; omega) hH.top)) hv C hl hS (fun z => by rw [hlen z]; have := hA z; omega) kk
theorem x_invST {as : List Value} {E : String} {np idx mc ms : Nat} (hd : decode (Mc M) pc = .ok (.invokestatic idx, 3)) (hN : MF N np) (hm : Mh N = []) (hmM : Mh M = []) (hlk : LKS M.1.cls idx N) (hnp : as.length = np) (hrs : (st.map fun v => v.category).sum ≤ 8)
    (hC : Call X N al d as h r1) (hv : r1.1 = .inr E) (h1 : k + r1.2.2.1 ≤ mc) (h2 : n + r1.2.2.2 ≤ ms) : Ex X M al (d + 1) pc lv (as.reverse ++ st) h k n (.inr E, r1.2.1, mc, ms) := by
  intro l D cy base b p e R s m args below meth c H locs ls C hl hH hS hA
  refine W.size fun hsz => ?_
  exact x_backT (run_S hd hN hm hlk hnp hrs hC h1 h2 C hl hH hS (fun z => Nat.le_antisymm (by have := hA z; omega) hH.top)) hv hmM C hS h1 h2
/-- a static call of a method with a table -/
theorem x_invSH {as : List Value} {v : Option Value} {np idx : Nat} (hd : decode (Mc M) pc = .ok (.invokestatic idx, 3)) (hN : MF N np) (hm : ¬ Mh N = []) (hlk : LKS M.1.cls idx N) (hnp : as.length = np) (hrs : (st.map fun v => v.category).sum ≤ 8)
    (hC : Call X N al d as h r1) (hv : r1.1 = .inl v) (hlen : al = true → r1.2.1.length = h.length + r1.2.2.1) (h1 : k + r1.2.2.1 ≤ r.2.2.1) (h2 : n + r1.2.2.2 ≤ r.2.2.2)
    (kk : Ex X M al (d + 1) (pc + 3) lv (v.toList ++ st) r1.2.1 (k + r1.2.2.1) (n + r1.2.2.2) r) : Ex X M al (d + 1) pc lv (as.reverse ++ st) h k n r := by
  intro l D cy base b p e R s m args below meth c H locs ls C hl hH hS hA
  refine W.size fun hsz => ?_
  have hz : al = true → H.size = base + h.length := fun z => Nat.le_antisymm (by have := hA z; omega) hH.top
  have hrr := C.R
  have hMw : Mw N = .codeWith N.1 (Mc N) (Mn N) (Mr N) (Mh N) := by unfold Mw; rw [if_neg hm]
  have ht := C.2.2.2.2.1
  have hcs : vx_CSW R s args M.1.cls idx N.1 (Mc N) (Mn N) (Mr N) (Mh N) (Mw N :: wsL_law) (rmd d r1.2.2.1 r1.2.2.2) r1.2.2.1 r1.2.2.2 np := by
    refine ⟨⟨rfl, rfl, by show d + 1 ≤ R.frames; omega, by have := hN.2.2.2; show 8 + (Mn N + 11) + 34 * d ≤ R.locals; omega, pay_in ht (goodC hN.1), by rw [hMw]; exact List.mem_cons_self⟩, by rw [← hMw]; exact ht _ hN.1, ht _ hN.2.1, ⟨hN.2.2.1.1, hN.2.2.1.2.1⟩, fun sig hs => ?_, ht _ hlk.1, ht _ hlk.2⟩
    have h9 := hN.2.2.1.2.2
    rw [hs] at h9
    exact (Option.some.inj h9).symm
  have hrun : vx_Run p l e R s m args below meth c H locs k n r1.2.2.1 r1.2.2.2 (F0 m pc ls ((as.reverse ++ st).map (mv base b))) (st.map (mv base b)) (QcR D cy base b r1 (as.map (mv base b)).toArray) (XcR D cy base b r1) (fun q : Nat => base ≤ q) :=
    vx_runSX (As := as.map (mv base b)) ⟨C.1, C.2.1, C.2.2.1, C.2.2.2.1, C.2.2.2.2.1⟩ (hC l D cy base b C.2.2.2.2.2.2.2.2.2.2.1) hcs ⟨PcR.blind, fun U hU hW => PcR.now C hH hS hz U hU hW⟩ rfl (by rw [List.length_map]; exact hnp) hl.1 (by rw [List.map_append, List.map_reverse]) (by rw [cats]; exact lv_room (m := m) (pc := pc) (ls := ls) (rest := []) hrs) hd ⟨by omega, by omega⟩
  exact x_back hrun hv C hl hS (fun z => by rw [hlen z]; have := hA z; omega) kk
/-! constructors, and what a contract is -/
theorem met_of {l : Launch} {y : MethodName} {ws : List Cond} {rm : Room} {Pc : Array Value → State → Prop} {D : va_G} {cy : Nat → ClassId} {base b mc ms : Nat} {free : Addr → Prop} {v : Option Value} (hv : r1.1 = .inl v) (hM : vx_Met l y ws rm Pc (QcR D cy base b r1) (XcR D cy base b r1) mc ms free) : Met l y ws rm Pc (QcR D cy base b r1) mc ms free := by
  intro p e ha hc hk s m args below hf happ hP htr
  obtain ⟨j, o, h1, h2, h3, hQ⟩ := hM p e ha hc hk s m args below hf happ hP htr
  refine ⟨j, o, h1, h2, h3, ?_⟩
  rcases hQ with hQ | ⟨q, ho, E, ce, L, ⟨-, hx, -⟩, -⟩
  · exact hQ
  · rw [hv] at hx
    cases hx
theorem va_backR {v : Option Value} {p : Program} {l : Launch} {e : Env} {R : Room} {s : State} {m : MethodId} {args : Array Value} {below : List Frame} {meth : Method} {c : Code} {H : Heap} {locs : List Loc} {g : JFrame} {rest : List Value} {D : va_G} {cy : Nat → ClassId} {base b mc ms : Nat} {a : Array Value} {free : Addr → Prop} (hr : va_Run p l e R s m args below meth c H locs k n mc ms g rest (QcR D cy base b r1 a) free) :
    vx_Run p l e R s m args below meth c H locs k n mc ms g rest (QcR D cy base b r1 a) (XcR D cy base b r1) free := fun T hT Y => Or.inl (hr T hT Y)
def LKI (own : String) (idx : Nat) (N : Mt) : Prop := Cond.instanceMethod N.1 ∈ wsL_law ∧ N.1.name = "<init>" ∧ Mr N = none ∧ (Cond.methodLink own idx N.1 ∈ wsL_law ∨ ∃ host, (own, idx, N.1, host) ∈ nsl)
theorem x_invI {as : List Value} {np idx a : Nat} (hd : decode (Mc M) pc = .ok (.invokespecial idx, 3)) (hN : MF N np) (hm : Mh N = []) (hlk : LKI M.1.cls idx N) (hnp : as.length = np) (hrs : (st.map fun v => v.category).sum ≤ 8)
    (hC : Call X N al d (.ref a :: as) h r1) (hv : r1.1 = .inl none) (hlen : al = true → r1.2.1.length = h.length + r1.2.2.1) (h1 : k + r1.2.2.1 ≤ r.2.2.1) (h2 : n + r1.2.2.2 ≤ r.2.2.2)
    (kk : Ex X M al (d + 1) (pc + 3) lv st r1.2.1 (k + r1.2.2.1) (n + r1.2.2.2) r) : Ex X M al (d + 1) pc lv (as.reverse ++ .ref a :: st) h k n r := by
  intro l D cy base b p e R s m args below meth c H locs ls C hl hH hS hA
  refine W.size fun hsz => ?_
  have hz : al = true → H.size = base + h.length := fun z => Nat.le_antisymm (by have := hA z; omega) hH.top
  have hrr := C.R
  obtain ⟨hin, hnm, hrt, hlk⟩ := hlk
  have ht := C.2.2.2.2.1
  have hMet := met_of hv (hC l D cy base b C.2.2.2.2.2.2.2.2.2.2.1)
  have hR : (rmd d r1.2.2.1 r1.2.2.2).frames + 1 ≤ R.frames ∧ 8 + (Mn N + 11) + (rmd d r1.2.2.1 r1.2.2.2).locals ≤ R.locals := ⟨by show d + 1 ≤ R.frames; omega, by have := hN.2.2.2; show 8 + (Mn N + 11) + 34 * d ≤ R.locals; omega⟩
  have hMw := Mw_plain hm
  rw [hrt] at hMw
  have hrun : va_Run p l e R s m args below meth c H locs k n r1.2.2.1 r1.2.2.2 (F0 m pc ls ((as.reverse ++ .ref a :: st).map (mv base b))) (st.map (mv base b)) (QcR D cy base b r1 (Value.ref (base + a) :: as.map (mv base b)).toArray) (fun q : Nat => base ≤ q) := by
    rcases hlk with hlk | ⟨host, hlk⟩
    · exact va_runI (As := as.map (mv base b)) ⟨C.1, C.2.1, C.2.2.1, C.2.2.2.1, ht⟩ hMet ⟨callB_of np ht (goodC hN.1) (by rw [hMw]) rfl rfl (ht _ hN.2.1) (ht _ hlk) hN.2.2.1 hR, hnm, ht _ hin⟩ ⟨PcR.blind, fun U hU hW => PcR.now C hH hS hz U hU hW⟩ rfl (by rw [List.length_map]; exact hnp) hl.1 (by rw [List.map_append, List.map_reverse]; rfl) (by rw [cats]; exact lv_room (m := m) (pc := pc) (ls := ls) (rest := []) hrs) hd ⟨by omega, by omega⟩
    · exact va_runIN (As := as.map (mv base b)) ⟨C.1, C.2.1, C.2.2.1, C.2.2.2.1, ht⟩ hMet ⟨va_cnB np ht (goodC hN.1) (by rw [hMw]) rfl rfl (C.K.2.2.1 _ hlk) (ht _ hN.2.1) hN.2.2.1 hR, hnm, ht _ hin⟩ ⟨PcR.blind, fun U hU hW => PcR.now C hH hS hz U hU hW⟩ rfl (by rw [List.length_map]; exact hnp) hl.1 (by rw [List.map_append, List.map_reverse]; rfl) (by rw [cats]; exact lv_room (m := m) (pc := pc) (ls := ls) (rest := []) hrs) hd ⟨by omega, by omega⟩
  exact x_back (v := none) (va_backR (v := none) hrun) hv C hl hS (fun z => by rw [hlen z]; have := hA z; omega) kk
theorem args_at : ∀ (vs : List Value) (j i : Nat) (v : Value), (∀ v ∈ vs, v.category = 1) → vs[i]? = some v → (j + i, v) ∈ lv_args j vs
  | [], j, i, v, _, h => by simp at h
  | w :: vs, j, i, v, hc, h => by
    have hw : w.category = 1 := hc w List.mem_cons_self
    cases i with
    | zero =>
      simp at h
      subst h
      simp [lv_args]
    | succ i =>
      have h1 : vs[i]? = some v := by simpa using h
      have h2 := args_at vs (j + 1) i v (fun v hv => hc v (List.mem_cons_of_mem _ hv)) h1
      have e1 : j + 1 + i = j + (i + 1) := by omega
      rw [e1] at h2
      simp only [lv_args, hw]
      exact List.mem_cons_of_mem _ h2
theorem LV.entry {base b nL : Nat} {as : List Value} (hc : ∀ v ∈ as, v.category = 1) (hl : as.length ≤ nL) : LV base b nL ((lg_sl (as.map (mv base b)) ++ List.replicate (nL - (lg_sl (as.map (mv base b))).length) Slot.unset).toArray) (as.map some ++ List.replicate (nL - as.length) none) := by
  have hc2 : ∀ v ∈ as.map (mv base b), v.category = 1 := fun v hv => by
    obtain ⟨w, hw, rfl⟩ := List.mem_map.mp hv
    rw [mv_cat]; exact hc w hw
  have hlen : ∀ vs : List Value, (∀ v ∈ vs, v.category = 1) → (lg_sl vs).length = vs.length := by
    intro vs
    induction vs with
    | nil => intro _; rfl
    | cons w vs ih =>
      intro h
      have hw : w.category = 1 := h w List.mem_cons_self
      have h2 := ih (fun v hv => h v (List.mem_cons_of_mem _ hv))
      simp only [lg_sl] at h2 ⊢
      simp [List.flatMap_cons, hw, h2]
  have hE := lv_entry (as.map (mv base b)) (n := nL) (by rw [hlen _ hc2, List.length_map]; exact hl)
  refine ⟨hE.1, hE.2.1, fun i v hv => ?_⟩
  have hi : as[i]? = some v := by
    by_cases h1 : i < as.length
    · rw [List.getElem?_append_left (by simpa using h1), List.getElem?_map] at hv
      cases h2 : as[i]? with
      | none => rw [h2] at hv; cases hv
      | some w => rw [h2] at hv; cases hv; rfl
    · rw [List.getElem?_append_right (by simpa using h1)] at hv
      rw [List.getElem?_replicate] at hv
      split at hv <;> cases hv
  have hm : (as.map (mv base b))[i]? = some (mv base b v) := by rw [List.getElem?_map, hi]; rfl
  have h3 := args_at (as.map (mv base b)) 0 i (mv base b v) hc2 hm
  rw [Nat.zero_add] at h3
  exact ⟨hc v (List.mem_of_getElem? hi), hE.2.2 _ h3⟩
theorem Call.of {np : Nat} {as : List Value} (hN : MF M np) (hp : plainName M.1.cls = true) (hm : Mh M = []) (hc : ∀ v ∈ as, v.category = 1) (hl : as.length ≤ Mn M) (hlv : as.map some ++ List.replicate (Mn M - as.length) none = lv)
    (E : Ex X M al d 0 lv [] h 0 0 r) : Call X M al d as h r := by
  intro l D cy base b hst
  refine vx_ofW (cc := Mc M) (maxL := Mn M) (ret := Mr M) hp (by rw [Mw_plain hm]) ?_
  intro p e s m args below meth c s₁ B hml ht hv
  obtain ⟨rfl, hK, hH, hZ, hA⟩ := hv
  have hts := atoms_spec (ws := Mw M :: wsL_law) B.pre
  have htab : c.exceptionTable.toList = tableOf (Mh M) := by
    rw [hm]
    cases hq : c.exceptionTable.toList with
    | nil => rfl
    | cons x t => exact (ht x (by rw [hq]; exact List.mem_cons_self)).elim
  rw [lg_entry_eq]
  have hb0 : base ≤ s.heap.size := hH.2
  exact E l D cy base b p e _ s m _ below meth c s.heap [] _ ⟨B.exec, B.bytes, hml, findClass_of_methodNamed B.named, fun w hw => hts w (List.mem_cons_of_mem _ hw), B.returns, B.notSynchronized, (name_of_methodNamed B.named B.method).1, htab, ⟨Nat.le_refl _, Nat.le_refl _, Nat.le_refl _, Nat.le_refl _⟩, hst, hK, hZ, hb0⟩
    (hlv ▸ LV.entry hc hl) hH va_S.rf (fun z => by rw [hA z]; rfl)
theorem Call.ofH {np : Nat} {as : List Value} (hN : MF M np) (hp : plainName M.1.cls = true) (hm : ¬ Mh M = []) (hc : ∀ v ∈ as, v.category = 1) (hl : as.length ≤ Mn M) (hlv : as.map some ++ List.replicate (Mn M - as.length) none = lv)
    (E : Ex X M al d 0 lv [] h 0 0 r) : Call X M al d as h r := by
  intro l D cy base b hst
  have hMw : Mw M = .codeWith M.1 (Mc M) (Mn M) (Mr M) (Mh M) := by unfold Mw; rw [if_neg hm]
  refine vx_ofWH (cc := Mc M) (maxL := Mn M) (ret := Mr M) (hh := Mh M) hp (by rw [hMw]) ?_
  intro p e s m args below meth c s₁ B hml hv
  obtain ⟨rfl, hK, hH, hZ, hA⟩ := hv
  have hts := atoms_spec (ws := Mw M :: wsL_law) B.pre
  have htab : c.exceptionTable.toList = tableOf (Mh M) := vx_table (x := M.1) B (by rw [← hMw]; exact hts _ List.mem_cons_self)
  rw [lg_entry_eq]
  have hb0 : base ≤ s.heap.size := hH.2
  exact E l D cy base b p e _ s m _ below meth c s.heap [] _ ⟨B.exec, B.bytes, hml, findClass_of_methodNamed B.named, fun w hw => hts w (List.mem_cons_of_mem _ hw), B.returns, B.notSynchronized, (name_of_methodNamed B.named B.method).1, htab, ⟨Nat.le_refl _, Nat.le_refl _, Nat.le_refl _, Nat.le_refl _⟩, hst, hK, hZ, hb0⟩
    (hlv ▸ LV.entry hc hl) hH va_S.rf (fun z => by rw [hA z]; rfl)
end XC
end
section
theorem rin_1 : ∀ w ∈ wsL_law0_r1, w ∈ wsL_law := fun w h => (List.mem_append_left _ (List.mem_append_left _ (List.mem_append_left _ (List.mem_append_left _ (List.mem_append_left _ (List.mem_append_left _ (List.mem_append_left _ (List.mem_append_left _ (List.mem_append_left _ (List.mem_append_left _ (List.mem_append_left _ (List.mem_append_left _ (List.mem_append_left _ (List.mem_append_left _ (List.mem_append_left _ (List.mem_append_left _ (List.mem_append_left _ (List.mem_append_left _ h))))))))))))))))))
theorem rin_2 : ∀ w ∈ wsL_law0_r2, w ∈ wsL_law := fun w h => (List.mem_append_left _ (List.mem_append_left _ (List.mem_append_left _ (List.mem_append_left _ (List.mem_append_left _ (List.mem_append_left _ (List.mem_append_left _ (List.mem_append_left _ (List.mem_append_left _ (List.mem_append_left _ (List.mem_append_left _ (List.mem_append_left _ (List.mem_append_left _ (List.mem_append_left _ (List.mem_append_left _ (List.mem_append_left _ (List.mem_append_left _ (List.mem_append_right _ (List.mem_append_left _ h)))))))))))))))))))
theorem rin_3 : ∀ w ∈ wsL_law0_r3, w ∈ wsL_law := fun w h => (List.mem_append_left _ (List.mem_append_left _ (List.mem_append_left _ (List.mem_append_left _ (List.mem_append_left _ (List.mem_append_left _ (List.mem_append_left _ (List.mem_append_left _ (List.mem_append_left _ (List.mem_append_left _ (List.mem_append_left _ (List.mem_append_left _ (List.mem_append_left _ (List.mem_append_left _ (List.mem_append_left _ (List.mem_append_left _ (List.mem_append_left _ (List.mem_append_right _ (List.mem_append_right _ (List.mem_append_left _ h))))))))))))))))))))
theorem rin_4 : ∀ w ∈ wsL_law0_r4, w ∈ wsL_law := fun w h => (List.mem_append_left _ (List.mem_append_left _ (List.mem_append_left _ (List.mem_append_left _ (List.mem_append_left _ (List.mem_append_left _ (List.mem_append_left _ (List.mem_append_left _ (List.mem_append_left _ (List.mem_append_left _ (List.mem_append_left _ (List.mem_append_left _ (List.mem_append_left _ (List.mem_append_left _ (List.mem_append_left _ (List.mem_append_left _ (List.mem_append_left _ (List.mem_append_right _ (List.mem_append_right _ (List.mem_append_right _ (List.mem_append_left _ h)))))))))))))))))))))
theorem rin_5 : ∀ w ∈ wsL_law0_r5, w ∈ wsL_law := fun w h => (List.mem_append_left _ (List.mem_append_left _ (List.mem_append_left _ (List.mem_append_left _ (List.mem_append_left _ (List.mem_append_left _ (List.mem_append_left _ (List.mem_append_left _ (List.mem_append_left _ (List.mem_append_left _ (List.mem_append_left _ (List.mem_append_left _ (List.mem_append_left _ (List.mem_append_left _ (List.mem_append_left _ (List.mem_append_left _ (List.mem_append_left _ (List.mem_append_right _ (List.mem_append_right _ (List.mem_append_right _ (List.mem_append_right _ (List.mem_append_left _ h))))))))))))))))))))))
theorem rin_6 : ∀ w ∈ wsL_law0_r6, w ∈ wsL_law := fun w h => (List.mem_append_left _ (List.mem_append_left _ (List.mem_append_left _ (List.mem_append_left _ (List.mem_append_left _ (List.mem_append_left _ (List.mem_append_left _ (List.mem_append_left _ (List.mem_append_left _ (List.mem_append_left _ (List.mem_append_left _ (List.mem_append_left _ (List.mem_append_left _ (List.mem_append_left _ (List.mem_append_left _ (List.mem_append_left _ (List.mem_append_left _ (List.mem_append_right _ (List.mem_append_right _ (List.mem_append_right _ (List.mem_append_right _ (List.mem_append_right _ (List.mem_append_left _ h)))))))))))))))))))))))
theorem rin_7 : ∀ w ∈ wsL_law0_r7, w ∈ wsL_law := fun w h => (List.mem_append_left _ (List.mem_append_left _ (List.mem_append_left _ (List.mem_append_left _ (List.mem_append_left _ (List.mem_append_left _ (List.mem_append_left _ (List.mem_append_left _ (List.mem_append_left _ (List.mem_append_left _ (List.mem_append_left _ (List.mem_append_left _ (List.mem_append_left _ (List.mem_append_left _ (List.mem_append_left _ (List.mem_append_left _ (List.mem_append_left _ (List.mem_append_right _ (List.mem_append_right _ (List.mem_append_right _ (List.mem_append_right _ (List.mem_append_right _ (List.mem_append_right _ (List.mem_append_left _ h))))))))))))))))))))))))
theorem rin_8 : ∀ w ∈ wsL_law0_r8, w ∈ wsL_law := fun w h => (List.mem_append_left _ (List.mem_append_left _ (List.mem_append_left _ (List.mem_append_left _ (List.mem_append_left _ (List.mem_append_left _ (List.mem_append_left _ (List.mem_append_left _ (List.mem_append_left _ (List.mem_append_left _ (List.mem_append_left _ (List.mem_append_left _ (List.mem_append_left _ (List.mem_append_left _ (List.mem_append_left _ (List.mem_append_left _ (List.mem_append_left _ (List.mem_append_right _ (List.mem_append_right _ (List.mem_append_right _ (List.mem_append_right _ (List.mem_append_right _ (List.mem_append_right _ (List.mem_append_right _ (List.mem_append_left _ h)))))))))))))))))))))))))
theorem rin_9 : ∀ w ∈ wsL_law0_r9, w ∈ wsL_law := fun w h => (List.mem_append_left _ (List.mem_append_left _ (List.mem_append_left _ (List.mem_append_left _ (List.mem_append_left _ (List.mem_append_left _ (List.mem_append_left _ (List.mem_append_left _ (List.mem_append_left _ (List.mem_append_left _ (List.mem_append_left _ (List.mem_append_left _ (List.mem_append_left _ (List.mem_append_left _ (List.mem_append_left _ (List.mem_append_left _ (List.mem_append_left _ (List.mem_append_right _ (List.mem_append_right _ (List.mem_append_right _ (List.mem_append_right _ (List.mem_append_right _ (List.mem_append_right _ (List.mem_append_right _ (List.mem_append_right _ (List.mem_append_left _ h))))))))))))))))))))))))))
theorem rin_10 : ∀ w ∈ wsL_law0_r10, w ∈ wsL_law := fun w h => (List.mem_append_left _ (List.mem_append_left _ (List.mem_append_left _ (List.mem_append_left _ (List.mem_append_left _ (List.mem_append_left _ (List.mem_append_left _ (List.mem_append_left _ (List.mem_append_left _ (List.mem_append_left _ (List.mem_append_left _ (List.mem_append_left _ (List.mem_append_left _ (List.mem_append_left _ (List.mem_append_left _ (List.mem_append_left _ (List.mem_append_left _ (List.mem_append_right _ (List.mem_append_right _ (List.mem_append_right _ (List.mem_append_right _ (List.mem_append_right _ (List.mem_append_right _ (List.mem_append_right _ (List.mem_append_right _ (List.mem_append_right _ (List.mem_append_left _ h)))))))))))))))))))))))))))
theorem rin_11 : ∀ w ∈ wsL_law0_r11, w ∈ wsL_law := fun w h => (List.mem_append_left _ (List.mem_append_left _ (List.mem_append_left _ (List.mem_append_left _ (List.mem_append_left _ (List.mem_append_left _ (List.mem_append_left _ (List.mem_append_left _ (List.mem_append_left _ (List.mem_append_left _ (List.mem_append_left _ (List.mem_append_left _ (List.mem_append_left _ (List.mem_append_left _ (List.mem_append_left _ (List.mem_append_left _ (List.mem_append_left _ (List.mem_append_right _ (List.mem_append_right _ (List.mem_append_right _ (List.mem_append_right _ (List.mem_append_right _ (List.mem_append_right _ (List.mem_append_right _ (List.mem_append_right _ (List.mem_append_right _ (List.mem_append_right _ (List.mem_append_left _ h))))))))))))))))))))))))))))
theorem rin_12 : ∀ w ∈ wsL_law0_r12, w ∈ wsL_law := fun w h => (List.mem_append_left _ (List.mem_append_left _ (List.mem_append_left _ (List.mem_append_left _ (List.mem_append_left _ (List.mem_append_left _ (List.mem_append_left _ (List.mem_append_left _ (List.mem_append_left _ (List.mem_append_left _ (List.mem_append_left _ (List.mem_append_left _ (List.mem_append_left _ (List.mem_append_left _ (List.mem_append_left _ (List.mem_append_left _ (List.mem_append_left _ (List.mem_append_right _ (List.mem_append_right _ (List.mem_append_right _ (List.mem_append_right _ (List.mem_append_right _ (List.mem_append_right _ (List.mem_append_right _ (List.mem_append_right _ (List.mem_append_right _ (List.mem_append_right _ (List.mem_append_right _ (List.mem_append_left _ h)))))))))))))))))))))))))))))
theorem rin_13 : ∀ w ∈ wsL_law0_r13, w ∈ wsL_law := fun w h => (List.mem_append_left _ (List.mem_append_left _ (List.mem_append_left _ (List.mem_append_left _ (List.mem_append_left _ (List.mem_append_left _ (List.mem_append_left _ (List.mem_append_left _ (List.mem_append_left _ (List.mem_append_left _ (List.mem_append_left _ (List.mem_append_left _ (List.mem_append_left _ (List.mem_append_left _ (List.mem_append_left _ (List.mem_append_left _ (List.mem_append_left _ (List.mem_append_right _ (List.mem_append_right _ (List.mem_append_right _ (List.mem_append_right _ (List.mem_append_right _ (List.mem_append_right _ (List.mem_append_right _ (List.mem_append_right _ (List.mem_append_right _ (List.mem_append_right _ (List.mem_append_right _ (List.mem_append_right _ (List.mem_append_left _ h))))))))))))))))))))))))))))))
theorem rin_14 : ∀ w ∈ wsL_law0_r14, w ∈ wsL_law := fun w h => (List.mem_append_left _ (List.mem_append_left _ (List.mem_append_left _ (List.mem_append_left _ (List.mem_append_left _ (List.mem_append_left _ (List.mem_append_left _ (List.mem_append_left _ (List.mem_append_left _ (List.mem_append_left _ (List.mem_append_left _ (List.mem_append_left _ (List.mem_append_left _ (List.mem_append_left _ (List.mem_append_left _ (List.mem_append_left _ (List.mem_append_left _ (List.mem_append_right _ (List.mem_append_right _ (List.mem_append_right _ (List.mem_append_right _ (List.mem_append_right _ (List.mem_append_right _ (List.mem_append_right _ (List.mem_append_right _ (List.mem_append_right _ (List.mem_append_right _ (List.mem_append_right _ (List.mem_append_right _ (List.mem_append_right _ (List.mem_append_left _ h)))))))))))))))))))))))))))))))
theorem rin_15 : ∀ w ∈ wsL_law0_r15, w ∈ wsL_law := fun w h => (List.mem_append_left _ (List.mem_append_left _ (List.mem_append_left _ (List.mem_append_left _ (List.mem_append_left _ (List.mem_append_left _ (List.mem_append_left _ (List.mem_append_left _ (List.mem_append_left _ (List.mem_append_left _ (List.mem_append_left _ (List.mem_append_left _ (List.mem_append_left _ (List.mem_append_left _ (List.mem_append_left _ (List.mem_append_left _ (List.mem_append_left _ (List.mem_append_right _ (List.mem_append_right _ (List.mem_append_right _ (List.mem_append_right _ (List.mem_append_right _ (List.mem_append_right _ (List.mem_append_right _ (List.mem_append_right _ (List.mem_append_right _ (List.mem_append_right _ (List.mem_append_right _ (List.mem_append_right _ (List.mem_append_right _ (List.mem_append_right _ (List.mem_append_left _ h))))))))))))))))))))))))))))))))
theorem rin_16 : ∀ w ∈ wsL_law0_r16, w ∈ wsL_law := fun w h => (List.mem_append_left _ (List.mem_append_left _ (List.mem_append_left _ (List.mem_append_left _ (List.mem_append_left _ (List.mem_append_left _ (List.mem_append_left _ (List.mem_append_left _ (List.mem_append_left _ (List.mem_append_left _ (List.mem_append_left _ (List.mem_append_left _ (List.mem_append_left _ (List.mem_append_left _ (List.mem_append_left _ (List.mem_append_left _ (List.mem_append_left _ (List.mem_append_right _ (List.mem_append_right _ (List.mem_append_right _ (List.mem_append_right _ (List.mem_append_right _ (List.mem_append_right _ (List.mem_append_right _ (List.mem_append_right _ (List.mem_append_right _ (List.mem_append_right _ (List.mem_append_right _ (List.mem_append_right _ (List.mem_append_right _ (List.mem_append_right _ (List.mem_append_right _ (List.mem_append_left _ h)))))))))))))))))))))))))))))))))
theorem rin_17 : ∀ w ∈ wsL_law0_r17, w ∈ wsL_law := fun w h => (List.mem_append_left _ (List.mem_append_left _ (List.mem_append_left _ (List.mem_append_left _ (List.mem_append_left _ (List.mem_append_left _ (List.mem_append_left _ (List.mem_append_left _ (List.mem_append_left _ (List.mem_append_left _ (List.mem_append_left _ (List.mem_append_left _ (List.mem_append_left _ (List.mem_append_left _ (List.mem_append_left _ (List.mem_append_left _ (List.mem_append_left _ (List.mem_append_right _ (List.mem_append_right _ (List.mem_append_right _ (List.mem_append_right _ (List.mem_append_right _ (List.mem_append_right _ (List.mem_append_right _ (List.mem_append_right _ (List.mem_append_right _ (List.mem_append_right _ (List.mem_append_right _ (List.mem_append_right _ (List.mem_append_right _ (List.mem_append_right _ (List.mem_append_right _ (List.mem_append_right _ (List.mem_append_left _ h))))))))))))))))))))))))))))))))))
theorem rin_18 : ∀ w ∈ wsL_law0_r18, w ∈ wsL_law := fun w h => (List.mem_append_left _ (List.mem_append_left _ (List.mem_append_left _ (List.mem_append_left _ (List.mem_append_left _ (List.mem_append_left _ (List.mem_append_left _ (List.mem_append_left _ (List.mem_append_left _ (List.mem_append_left _ (List.mem_append_left _ (List.mem_append_left _ (List.mem_append_left _ (List.mem_append_left _ (List.mem_append_left _ (List.mem_append_left _ (List.mem_append_left _ (List.mem_append_right _ (List.mem_append_right _ (List.mem_append_right _ (List.mem_append_right _ (List.mem_append_right _ (List.mem_append_right _ (List.mem_append_right _ (List.mem_append_right _ (List.mem_append_right _ (List.mem_append_right _ (List.mem_append_right _ (List.mem_append_right _ (List.mem_append_right _ (List.mem_append_right _ (List.mem_append_right _ (List.mem_append_right _ (List.mem_append_right _ (List.mem_append_left _ h)))))))))))))))))))))))))))))))))))
theorem rin_19 : ∀ w ∈ wsL_law0_r19, w ∈ wsL_law := fun w h => (List.mem_append_left _ (List.mem_append_left _ (List.mem_append_left _ (List.mem_append_left _ (List.mem_append_left _ (List.mem_append_left _ (List.mem_append_left _ (List.mem_append_left _ (List.mem_append_left _ (List.mem_append_left _ (List.mem_append_left _ (List.mem_append_left _ (List.mem_append_left _ (List.mem_append_left _ (List.mem_append_left _ (List.mem_append_left _ (List.mem_append_left _ (List.mem_append_right _ (List.mem_append_right _ (List.mem_append_right _ (List.mem_append_right _ (List.mem_append_right _ (List.mem_append_right _ (List.mem_append_right _ (List.mem_append_right _ (List.mem_append_right _ (List.mem_append_right _ (List.mem_append_right _ (List.mem_append_right _ (List.mem_append_right _ (List.mem_append_right _ (List.mem_append_right _ (List.mem_append_right _ (List.mem_append_right _ (List.mem_append_right _ (List.mem_append_left _ h))))))))))))))))))))))))))))))))))))
theorem rin_20 : ∀ w ∈ wsL_law0_r20, w ∈ wsL_law := fun w h => (List.mem_append_left _ (List.mem_append_left _ (List.mem_append_left _ (List.mem_append_left _ (List.mem_append_left _ (List.mem_append_left _ (List.mem_append_left _ (List.mem_append_left _ (List.mem_append_left _ (List.mem_append_left _ (List.mem_append_left _ (List.mem_append_left _ (List.mem_append_left _ (List.mem_append_left _ (List.mem_append_left _ (List.mem_append_left _ (List.mem_append_left _ (List.mem_append_right _ (List.mem_append_right _ (List.mem_append_right _ (List.mem_append_right _ (List.mem_append_right _ (List.mem_append_right _ (List.mem_append_right _ (List.mem_append_right _ (List.mem_append_right _ (List.mem_append_right _ (List.mem_append_right _ (List.mem_append_right _ (List.mem_append_right _ (List.mem_append_right _ (List.mem_append_right _ (List.mem_append_right _ (List.mem_append_right _ (List.mem_append_right _ (List.mem_append_right _ (List.mem_append_left _ h)))))))))))))))))))))))))))))))))))))
theorem rin_21 : ∀ w ∈ wsL_law0_r21, w ∈ wsL_law := fun w h => (List.mem_append_left _ (List.mem_append_left _ (List.mem_append_left _ (List.mem_append_left _ (List.mem_append_left _ (List.mem_append_left _ (List.mem_append_left _ (List.mem_append_left _ (List.mem_append_left _ (List.mem_append_left _ (List.mem_append_left _ (List.mem_append_left _ (List.mem_append_left _ (List.mem_append_left _ (List.mem_append_left _ (List.mem_append_left _ (List.mem_append_left _ (List.mem_append_right _ (List.mem_append_right _ (List.mem_append_right _ (List.mem_append_right _ (List.mem_append_right _ (List.mem_append_right _ (List.mem_append_right _ (List.mem_append_right _ (List.mem_append_right _ (List.mem_append_right _ (List.mem_append_right _ (List.mem_append_right _ (List.mem_append_right _ (List.mem_append_right _ (List.mem_append_right _ (List.mem_append_right _ (List.mem_append_right _ (List.mem_append_right _ (List.mem_append_right _ (List.mem_append_right _ (List.mem_append_left _ h))))))))))))))))))))))))))))))))))))))
theorem rin_22 : ∀ w ∈ wsL_law0_r22, w ∈ wsL_law := fun w h => (List.mem_append_left _ (List.mem_append_left _ (List.mem_append_left _ (List.mem_append_left _ (List.mem_append_left _ (List.mem_append_left _ (List.mem_append_left _ (List.mem_append_left _ (List.mem_append_left _ (List.mem_append_left _ (List.mem_append_left _ (List.mem_append_left _ (List.mem_append_left _ (List.mem_append_left _ (List.mem_append_left _ (List.mem_append_left _ (List.mem_append_left _ (List.mem_append_right _ (List.mem_append_right _ (List.mem_append_right _ (List.mem_append_right _ (List.mem_append_right _ (List.mem_append_right _ (List.mem_append_right _ (List.mem_append_right _ (List.mem_append_right _ (List.mem_append_right _ (List.mem_append_right _ (List.mem_append_right _ (List.mem_append_right _ (List.mem_append_right _ (List.mem_append_right _ (List.mem_append_right _ (List.mem_append_right _ (List.mem_append_right _ (List.mem_append_right _ (List.mem_append_right _ (List.mem_append_right _ (List.mem_append_left _ h)))))))))))))))))))))))))))))))))))))))
theorem rin_23 : ∀ w ∈ wsL_law0_r23, w ∈ wsL_law := fun w h => (List.mem_append_left _ (List.mem_append_left _ (List.mem_append_left _ (List.mem_append_left _ (List.mem_append_left _ (List.mem_append_left _ (List.mem_append_left _ (List.mem_append_left _ (List.mem_append_left _ (List.mem_append_left _ (List.mem_append_left _ (List.mem_append_left _ (List.mem_append_left _ (List.mem_append_left _ (List.mem_append_left _ (List.mem_append_left _ (List.mem_append_left _ (List.mem_append_right _ (List.mem_append_right _ (List.mem_append_right _ (List.mem_append_right _ (List.mem_append_right _ (List.mem_append_right _ (List.mem_append_right _ (List.mem_append_right _ (List.mem_append_right _ (List.mem_append_right _ (List.mem_append_right _ (List.mem_append_right _ (List.mem_append_right _ (List.mem_append_right _ (List.mem_append_right _ (List.mem_append_right _ (List.mem_append_right _ (List.mem_append_right _ (List.mem_append_right _ (List.mem_append_right _ (List.mem_append_right _ (List.mem_append_right _ (List.mem_append_left _ h))))))))))))))))))))))))))))))))))))))))
theorem rin_24 : ∀ w ∈ wsL_law0_r24, w ∈ wsL_law := fun w h => (List.mem_append_left _ (List.mem_append_left _ (List.mem_append_left _ (List.mem_append_left _ (List.mem_append_left _ (List.mem_append_left _ (List.mem_append_left _ (List.mem_append_left _ (List.mem_append_left _ (List.mem_append_left _ (List.mem_append_left _ (List.mem_append_left _ (List.mem_append_left _ (List.mem_append_left _ (List.mem_append_left _ (List.mem_append_left _ (List.mem_append_left _ (List.mem_append_right _ (List.mem_append_right _ (List.mem_append_right _ (List.mem_append_right _ (List.mem_append_right _ (List.mem_append_right _ (List.mem_append_right _ (List.mem_append_right _ (List.mem_append_right _ (List.mem_append_right _ (List.mem_append_right _ (List.mem_append_right _ (List.mem_append_right _ (List.mem_append_right _ (List.mem_append_right _ (List.mem_append_right _ (List.mem_append_right _ (List.mem_append_right _ (List.mem_append_right _ (List.mem_append_right _ (List.mem_append_right _ (List.mem_append_right _ (List.mem_append_right _ (List.mem_append_left _ h)))))))))))))))))))))))))))))))))))))))))
theorem rin_25 : ∀ w ∈ wsL_law0_r25, w ∈ wsL_law := fun w h => (List.mem_append_left _ (List.mem_append_left _ (List.mem_append_left _ (List.mem_append_left _ (List.mem_append_left _ (List.mem_append_left _ (List.mem_append_left _ (List.mem_append_left _ (List.mem_append_left _ (List.mem_append_left _ (List.mem_append_left _ (List.mem_append_left _ (List.mem_append_left _ (List.mem_append_left _ (List.mem_append_left _ (List.mem_append_left _ (List.mem_append_left _ (List.mem_append_right _ (List.mem_append_right _ (List.mem_append_right _ (List.mem_append_right _ (List.mem_append_right _ (List.mem_append_right _ (List.mem_append_right _ (List.mem_append_right _ (List.mem_append_right _ (List.mem_append_right _ (List.mem_append_right _ (List.mem_append_right _ (List.mem_append_right _ (List.mem_append_right _ (List.mem_append_right _ (List.mem_append_right _ (List.mem_append_right _ (List.mem_append_right _ (List.mem_append_right _ (List.mem_append_right _ (List.mem_append_right _ (List.mem_append_right _ (List.mem_append_right _ (List.mem_append_right _ (List.mem_append_left _ h))))))))))))))))))))))))))))))))))))))))))
theorem rin_26 : ∀ w ∈ wsL_law0_r26, w ∈ wsL_law := fun w h => (List.mem_append_left _ (List.mem_append_left _ (List.mem_append_left _ (List.mem_append_left _ (List.mem_append_left _ (List.mem_append_left _ (List.mem_append_left _ (List.mem_append_left _ (List.mem_append_left _ (List.mem_append_left _ (List.mem_append_left _ (List.mem_append_left _ (List.mem_append_left _ (List.mem_append_left _ (List.mem_append_left _ (List.mem_append_left _ (List.mem_append_left _ (List.mem_append_right _ (List.mem_append_right _ (List.mem_append_right _ (List.mem_append_right _ (List.mem_append_right _ (List.mem_append_right _ (List.mem_append_right _ (List.mem_append_right _ (List.mem_append_right _ (List.mem_append_right _ (List.mem_append_right _ (List.mem_append_right _ (List.mem_append_right _ (List.mem_append_right _ (List.mem_append_right _ (List.mem_append_right _ (List.mem_append_right _ (List.mem_append_right _ (List.mem_append_right _ (List.mem_append_right _ (List.mem_append_right _ (List.mem_append_right _ (List.mem_append_right _ (List.mem_append_right _ (List.mem_append_right _ (List.mem_append_left _ h)))))))))))))))))))))))))))))))))))))))))))
theorem rin_27 : ∀ w ∈ wsL_law0_r27, w ∈ wsL_law := fun w h => (List.mem_append_left _ (List.mem_append_left _ (List.mem_append_left _ (List.mem_append_left _ (List.mem_append_left _ (List.mem_append_left _ (List.mem_append_left _ (List.mem_append_left _ (List.mem_append_left _ (List.mem_append_left _ (List.mem_append_left _ (List.mem_append_left _ (List.mem_append_left _ (List.mem_append_left _ (List.mem_append_left _ (List.mem_append_left _ (List.mem_append_left _ (List.mem_append_right _ (List.mem_append_right _ (List.mem_append_right _ (List.mem_append_right _ (List.mem_append_right _ (List.mem_append_right _ (List.mem_append_right _ (List.mem_append_right _ (List.mem_append_right _ (List.mem_append_right _ (List.mem_append_right _ (List.mem_append_right _ (List.mem_append_right _ (List.mem_append_right _ (List.mem_append_right _ (List.mem_append_right _ (List.mem_append_right _ (List.mem_append_right _ (List.mem_append_right _ (List.mem_append_right _ (List.mem_append_right _ (List.mem_append_right _ (List.mem_append_right _ (List.mem_append_right _ (List.mem_append_right _ (List.mem_append_right _ (List.mem_append_left _ h))))))))))))))))))))))))))))))))))))))))))))
theorem rin_28 : ∀ w ∈ wsL_law0_r28, w ∈ wsL_law := fun w h => (List.mem_append_left _ (List.mem_append_left _ (List.mem_append_left _ (List.mem_append_left _ (List.mem_append_left _ (List.mem_append_left _ (List.mem_append_left _ (List.mem_append_left _ (List.mem_append_left _ (List.mem_append_left _ (List.mem_append_left _ (List.mem_append_left _ (List.mem_append_left _ (List.mem_append_left _ (List.mem_append_left _ (List.mem_append_left _ (List.mem_append_left _ (List.mem_append_right _ (List.mem_append_right _ (List.mem_append_right _ (List.mem_append_right _ (List.mem_append_right _ (List.mem_append_right _ (List.mem_append_right _ (List.mem_append_right _ (List.mem_append_right _ (List.mem_append_right _ (List.mem_append_right _ (List.mem_append_right _ (List.mem_append_right _ (List.mem_append_right _ (List.mem_append_right _ (List.mem_append_right _ (List.mem_append_right _ (List.mem_append_right _ (List.mem_append_right _ (List.mem_append_right _ (List.mem_append_right _ (List.mem_append_right _ (List.mem_append_right _ (List.mem_append_right _ (List.mem_append_right _ (List.mem_append_right _ (List.mem_append_right _ (List.mem_append_left _ h)))))))))))))))))))))))))))))))))))))))))))))
theorem rin_29 : ∀ w ∈ wsL_law0_r29, w ∈ wsL_law := fun w h => (List.mem_append_left _ (List.mem_append_left _ (List.mem_append_left _ (List.mem_append_left _ (List.mem_append_left _ (List.mem_append_left _ (List.mem_append_left _ (List.mem_append_left _ (List.mem_append_left _ (List.mem_append_left _ (List.mem_append_left _ (List.mem_append_left _ (List.mem_append_left _ (List.mem_append_left _ (List.mem_append_left _ (List.mem_append_left _ (List.mem_append_left _ (List.mem_append_right _ (List.mem_append_right _ (List.mem_append_right _ (List.mem_append_right _ (List.mem_append_right _ (List.mem_append_right _ (List.mem_append_right _ (List.mem_append_right _ (List.mem_append_right _ (List.mem_append_right _ (List.mem_append_right _ (List.mem_append_right _ (List.mem_append_right _ (List.mem_append_right _ (List.mem_append_right _ (List.mem_append_right _ (List.mem_append_right _ (List.mem_append_right _ (List.mem_append_right _ (List.mem_append_right _ (List.mem_append_right _ (List.mem_append_right _ (List.mem_append_right _ (List.mem_append_right _ (List.mem_append_right _ (List.mem_append_right _ (List.mem_append_right _ (List.mem_append_right _ (List.mem_append_left _ h))))))))))))))))))))))))))))))))))))))))))))))
theorem rin_30 : ∀ w ∈ wsL_law0_r30, w ∈ wsL_law := fun w h => (List.mem_append_left _ (List.mem_append_left _ (List.mem_append_left _ (List.mem_append_left _ (List.mem_append_left _ (List.mem_append_left _ (List.mem_append_left _ (List.mem_append_left _ (List.mem_append_left _ (List.mem_append_left _ (List.mem_append_left _ (List.mem_append_left _ (List.mem_append_left _ (List.mem_append_left _ (List.mem_append_left _ (List.mem_append_left _ (List.mem_append_left _ (List.mem_append_right _ (List.mem_append_right _ (List.mem_append_right _ (List.mem_append_right _ (List.mem_append_right _ (List.mem_append_right _ (List.mem_append_right _ (List.mem_append_right _ (List.mem_append_right _ (List.mem_append_right _ (List.mem_append_right _ (List.mem_append_right _ (List.mem_append_right _ (List.mem_append_right _ (List.mem_append_right _ (List.mem_append_right _ (List.mem_append_right _ (List.mem_append_right _ (List.mem_append_right _ (List.mem_append_right _ (List.mem_append_right _ (List.mem_append_right _ (List.mem_append_right _ (List.mem_append_right _ (List.mem_append_right _ (List.mem_append_right _ (List.mem_append_right _ (List.mem_append_right _ (List.mem_append_right _ (List.mem_append_left _ h)))))))))))))))))))))))))))))))))))))))))))))))
theorem rin_31 : ∀ w ∈ wsL_law0_r31, w ∈ wsL_law := fun w h => (List.mem_append_left _ (List.mem_append_left _ (List.mem_append_left _ (List.mem_append_left _ (List.mem_append_left _ (List.mem_append_left _ (List.mem_append_left _ (List.mem_append_left _ (List.mem_append_left _ (List.mem_append_left _ (List.mem_append_left _ (List.mem_append_left _ (List.mem_append_left _ (List.mem_append_left _ (List.mem_append_left _ (List.mem_append_left _ (List.mem_append_left _ (List.mem_append_right _ (List.mem_append_right _ (List.mem_append_right _ (List.mem_append_right _ (List.mem_append_right _ (List.mem_append_right _ (List.mem_append_right _ (List.mem_append_right _ (List.mem_append_right _ (List.mem_append_right _ (List.mem_append_right _ (List.mem_append_right _ (List.mem_append_right _ (List.mem_append_right _ (List.mem_append_right _ (List.mem_append_right _ (List.mem_append_right _ (List.mem_append_right _ (List.mem_append_right _ (List.mem_append_right _ (List.mem_append_right _ (List.mem_append_right _ (List.mem_append_right _ (List.mem_append_right _ (List.mem_append_right _ (List.mem_append_right _ (List.mem_append_right _ (List.mem_append_right _ (List.mem_append_right _ (List.mem_append_right _ (List.mem_append_left _ h))))))))))))))))))))))))))))))))))))))))))))))))
theorem rin_32 : ∀ w ∈ wsL_law0_r32, w ∈ wsL_law := fun w h => (List.mem_append_left _ (List.mem_append_left _ (List.mem_append_left _ (List.mem_append_left _ (List.mem_append_left _ (List.mem_append_left _ (List.mem_append_left _ (List.mem_append_left _ (List.mem_append_left _ (List.mem_append_left _ (List.mem_append_left _ (List.mem_append_left _ (List.mem_append_left _ (List.mem_append_left _ (List.mem_append_left _ (List.mem_append_left _ (List.mem_append_left _ (List.mem_append_right _ (List.mem_append_right _ (List.mem_append_right _ (List.mem_append_right _ (List.mem_append_right _ (List.mem_append_right _ (List.mem_append_right _ (List.mem_append_right _ (List.mem_append_right _ (List.mem_append_right _ (List.mem_append_right _ (List.mem_append_right _ (List.mem_append_right _ (List.mem_append_right _ (List.mem_append_right _ (List.mem_append_right _ (List.mem_append_right _ (List.mem_append_right _ (List.mem_append_right _ (List.mem_append_right _ (List.mem_append_right _ (List.mem_append_right _ (List.mem_append_right _ (List.mem_append_right _ (List.mem_append_right _ (List.mem_append_right _ (List.mem_append_right _ (List.mem_append_right _ (List.mem_append_right _ (List.mem_append_right _ (List.mem_append_right _ h))))))))))))))))))))))))))))))))))))))))))))))))
def mX9_init : Mt := (yX9_init, cX9_init, 2, none, [])
def mX6_init : Mt := (yX6_init, cX6_init, 2, none, [])
def mX5_init : Mt := (yX5_init, cX5_init, 1, none, [])
def mX7_init : Mt := (yX7_init, cX7_init, 4, none, [])
def mX4_init : Mt := (yX4_init, cX4_init, 1, none, [])
def mX3_init : Mt := (yX3_init, cX3_init, 1, none, [])
def mX1_init : Mt := (yX1_init, cX1_init, 3, none, [])
def mX8_init : Mt := (yX8_init, cX8_init, 1, none, [])
def mX0_init : Mt := (yX0_init, cX0_init, 1, none, [])
def mX2_init : Mt := (yX2_init, cX2_init, 3, none, [])
def mX10_init : Mt := (yX10_init, cX10_init, 2, none, [])
def mL_rules : Mt := (yL_rules, cL_rules, 7, (some .int), [(0, 11, 14, 13), (0, 11, 18, 15)])
def mX9_rules : Mt := (yX9_rules, cX9_rules, 6, none, [])
def mX9_needGroup : Mt := (yX9_needGroup, cX9_needGroup, 1, none, [])
def mX9_needArgument : Mt := (yX9_needArgument, cX9_needArgument, 3, none, [])
def mX8_set : Mt := (yX8_set, cX8_set, 5, none, [])
def mX10_rules : Mt := (yX10_rules, cX10_rules, 6, none, [])
def mX10_within : Mt := (yX10_within, cX10_within, 3, (some .boolean), [])
def mX10_thrown : Mt := (yX10_thrown, cX10_thrown, 1, (some .int), [])
def mL_member : Mt := (yL_member, cL_member, 5, (some .int), [(0, 7, 10, 13), (0, 7, 14, 15)])
def mX9_member : Mt := (yX9_member, cX9_member, 5, none, [])
def mX9_memberOf : Mt := (yX9_memberOf, cX9_memberOf, 3, (some (.object "TalkNet$Member")), [])
def mX10_member : Mt := (yX10_member, cX10_member, 4, none, [])
def mX10_isMember : Mt := (yX10_isMember, cX10_isMember, 2, (some .boolean), [])
def mL_leave : Mt := (yL_leave, cL_leave, 5, (some .int), [(0, 17, 20, 13)])
def mX9_leave : Mt := (yX9_leave, cX9_leave, 4, (some .boolean), [])
def mX4_goAway : Mt := (yX4_goAway, cX4_goAway, 1, none, [])
def mX1_takeBack : Mt := (yX1_takeBack, cX1_takeBack, 4, none, [])
def mX1_placeOf : Mt := (yX1_placeOf, cX1_placeOf, 3, (some .int), [])
def mX1_goFromRow : Mt := (yX1_goFromRow, cX1_goFromRow, 3, none, [])
def mX1_grantTo : Mt := (yX1_grantTo, cX1_grantTo, 3, none, [])
def mX8_copyFrom : Mt := (yX8_copyFrom, cX8_copyFrom, 2, none, [])
def mX7_tell : Mt := (yX7_tell, cX7_tell, 5, none, [])
def mX6_send : Mt := (yX6_send, cX6_send, 8, none, [])
def mX7_tellOthers : Mt := (yX7_tellOthers, cX7_tellOthers, 7, none, [])
def mX10_leave : Mt := (yX10_leave, cX10_leave, 3, (some .boolean), [])
def mX10_clear : Mt := (yX10_clear, cX10_clear, 3, none, [])
def mX10_free : Mt := (yX10_free, cX10_free, 3, none, [])
def mX10_waitsAt : Mt := (yX10_waitsAt, cX10_waitsAt, 5, (some .int), [])
def mX10_placeOf : Mt := (yX10_placeOf, cX10_placeOf, 6, (some .int), [])
def mX10_above : Mt := (yX10_above, cX10_above, 3, (some .int), [])
def mX10_give : Mt := (yX10_give, cX10_give, 3, none, [])
def mX10_send : Mt := (yX10_send, cX10_send, 8, none, [])
def mX10_tellTalker : Mt := (yX10_tellTalker, cX10_tellTalker, 3, none, [])
def mL_press : Mt := (yL_press, cL_press, 6, (some .int), [(0, 12, 15, 13), (0, 12, 19, 29)])
def mX9_press : Mt := (yX9_press, cX9_press, 5, (some .int), [])
def mX9_memberThere : Mt := (yX9_memberThere, cX9_memberThere, 4, (some (.object "TalkNet$Member")), [])
def mX9_needState : Mt := (yX9_needState, cX9_needState, 1, none, [])
def mX9_sendRequest : Mt := (yX9_sendRequest, cX9_sendRequest, 4, none, [])
def mX10_press : Mt := (yX10_press, cX10_press, 5, (some .int), [])
def mX10_ask : Mt := (yX10_ask, cX10_ask, 4, none, [])
def mL_again : Mt := (yL_again, cL_again, 4, (some .int), [(0, 6, 9, 13), (0, 6, 12, 29)])
def mX9_again : Mt := (yX9_again, cX9_again, 4, none, [])
def mX4_isAsking : Mt := (yX4_isAsking, cX4_isAsking, 1, (some .boolean), [])
def mX10_again : Mt := (yX10_again, cX10_again, 4, none, [])
def mL_release : Mt := (yL_release, cL_release, 4, (some .int), [(0, 6, 9, 13), (0, 6, 12, 29)])
def mX9_release : Mt := (yX9_release, cX9_release, 4, none, [])
def mX10_release : Mt := (yX10_release, cX10_release, 4, none, [])
def mL_unit : Mt := (yL_unit, cL_unit, 6, (some .int), [(0, 12, 15, 13), (0, 12, 19, 29), (0, 12, 23, 42)])
def mX9_unit : Mt := (yX9_unit, cX9_unit, 6, (some .int), [])
def mX4_isTalking : Mt := (yX4_isTalking, cX4_isTalking, 1, (some .boolean), [])
def mX10_unit : Mt := (yX10_unit, cX10_unit, 5, (some .int), [])
def mX9_messages : Mt := (yX9_messages, cX9_messages, 1, (some .int), [])
def mX10_messages : Mt := (yX10_messages, cX10_messages, 1, (some .int), [])
def mL_message : Mt := (yL_message, cL_message, 5, (some .int), [(0, 10, 13, 13), (0, 10, 17, 48)])
def mX9_message : Mt := (yX9_message, cX9_message, 3, (some .int), [])
def mX9_needMessage : Mt := (yX9_needMessage, cX9_needMessage, 2, none, [])
def mX9_needIndex : Mt := (yX9_needIndex, cX9_needIndex, 2, none, [])
def mX6_at : Mt := (yX6_at, cX6_at, 2, (some (.object "TalkNet$Message")), [])
def mX5_field : Mt := (yX5_field, cX5_field, 2, (some .int), [])
def mX10_message : Mt := (yX10_message, cX10_message, 3, (some .int), [])
def mX10_isMessage : Mt := (yX10_isMessage, cX10_isMessage, 2, (some .boolean), [])
def mL_carry : Mt := (yL_carry, cL_carry, 3, (some .int), [(0, 5, 8, 13)])
def mX9_carry : Mt := (yX9_carry, cX9_carry, 2, none, [])
def mX6_takeOut : Mt := (yX6_takeOut, cX6_takeOut, 3, (some (.object "TalkNet$Message")), [])
def mX9_deliver : Mt := (yX9_deliver, cX9_deliver, 2, none, [])
def mX1_hearRequest : Mt := (yX1_hearRequest, cX1_hearRequest, 6, none, [])
def mX1_answerAgain : Mt := (yX1_answerAgain, cX1_answerAgain, 4, none, [])
def mX0_renew : Mt := (yX0_renew, cX0_renew, 4, none, [])
def mX1_enqueue : Mt := (yX1_enqueue, cX1_enqueue, 4, none, [])
def mX0_isAbove : Mt := (yX0_isAbove, cX0_isAbove, 2, (some .boolean), [])
def mX1_revokeIfBelow : Mt := (yX1_revokeIfBelow, cX1_revokeIfBelow, 3, none, [])
def mX1_hearRelease : Mt := (yX1_hearRelease, cX1_hearRelease, 5, none, [])
def mX2_hearGate : Mt := (yX2_hearGate, cX2_hearGate, 3, none, [])
def mX2_hearUnit : Mt := (yX2_hearUnit, cX2_hearUnit, 6, none, [])
def mX2_lets : Mt := (yX2_lets, cX2_lets, 4, (some .boolean), [])
def mX1_hearPassed : Mt := (yX1_hearPassed, cX1_hearPassed, 3, none, [])
def mX4_hear : Mt := (yX4_hear, cX4_hear, 3, none, [])
def mX4_hearAnswer : Mt := (yX4_hearAnswer, cX4_hearAnswer, 2, none, [])
def mX4_hearTalker : Mt := (yX4_hearTalker, cX4_hearTalker, 3, none, [])
def mX3_hear : Mt := (yX3_hear, cX3_hear, 5, none, [])
def mX3_begin : Mt := (yX3_begin, cX3_begin, 4, none, [])
def mX3_isKept : Mt := (yX3_isKept, cX3_isKept, 2, (some .boolean), [])
def mX3_bitOf : Mt := (yX3_bitOf, cX3_bitOf, 1, (some .int), [])
def mX3_slotOf : Mt := (yX3_slotOf, cX3_slotOf, 1, (some .int), [])
def mX10_carry : Mt := (yX10_carry, cX10_carry, 2, none, [])
def mX10_comes : Mt := (yX10_comes, cX10_comes, 9, none, [])
def mX10_takeOut : Mt := (yX10_takeOut, cX10_takeOut, 3, none, [])
def mX10_requested : Mt := (yX10_requested, cX10_requested, 6, none, [])
def mX10_waitCount : Mt := (yX10_waitCount, cX10_waitCount, 4, (some .int), [])
def mX10_released : Mt := (yX10_released, cX10_released, 5, none, [])
def mX10_gateComes : Mt := (yX10_gateComes, cX10_gateComes, 5, none, [])
def mX10_unitComes : Mt := (yX10_unitComes, cX10_unitComes, 8, none, [])
def mX10_memberHears : Mt := (yX10_memberHears, cX10_memberHears, 11, none, [])
def mX10_listen : Mt := (yX10_listen, cX10_listen, 6, none, [])
def mL_twice : Mt := (yL_twice, cL_twice, 3, (some .int), [(0, 5, 8, 13)])
def mX9_twice : Mt := (yX9_twice, cX9_twice, 2, none, [])
def mX10_twice : Mt := (yX10_twice, cX10_twice, 2, none, [])
def mL_drop : Mt := (yL_drop, cL_drop, 3, (some .int), [(0, 5, 8, 13)])
def mX9_drop : Mt := (yX9_drop, cX9_drop, 2, none, [])
def mX10_drop : Mt := (yX10_drop, cX10_drop, 2, none, [])
def mL_run : Mt := (yL_run, cL_run, 4, (some .int), [(0, 9, 12, 15)])
def mX9_run : Mt := (yX9_run, cX9_run, 3, (some .int), [])
def mX10_run : Mt := (yX10_run, cX10_run, 3, (some .int), [])
def mX9_tick : Mt := (yX9_tick, cX9_tick, 2, (some .int), [])
def mX1_passTime : Mt := (yX1_passTime, cX1_passTime, 2, none, [])
def mX1_isOver : Mt := (yX1_isOver, cX1_isOver, 3, (some .boolean), [])
def mX7_play : Mt := (yX7_play, cX7_play, 3, none, [])
def mX3_play : Mt := (yX3_play, cX3_play, 2, none, [])
def mX3_playUnit : Mt := (yX3_playUnit, cX3_playUnit, 1, none, [])
def mX3_addToSum : Mt := (yX3_addToSum, cX3_addToSum, 2, none, [])
def mX3_playGap : Mt := (yX3_playGap, cX3_playGap, 1, none, [])
def mX10_tick : Mt := (yX10_tick, cX10_tick, 3, (some .int), [])
def mX10_serverTick : Mt := (yX10_serverTick, cX10_serverTick, 4, none, [])
def mX10_play : Mt := (yX10_play, cX10_play, 4, none, [])
def mL_server : Mt := (yL_server, cL_server, 5, (some .int), [(0, 10, 13, 13), (0, 10, 17, 48)])
def mX9_server : Mt := (yX9_server, cX9_server, 3, (some .int), [])
def mX1_field : Mt := (yX1_field, cX1_field, 2, (some .int), [])
def mX10_server : Mt := (yX10_server, cX10_server, 3, (some .int), [])
def mL_waiting : Mt := (yL_waiting, cL_waiting, 5, (some .int), [(0, 10, 13, 13), (0, 10, 17, 48)])
def mX9_waiting : Mt := (yX9_waiting, cX9_waiting, 3, (some .int), [])
def mX10_waiting : Mt := (yX10_waiting, cX10_waiting, 3, (some .int), [])
def mL_relay : Mt := (yL_relay, cL_relay, 5, (some .int), [(0, 10, 13, 13), (0, 10, 17, 48)])
def mX9_relay : Mt := (yX9_relay, cX9_relay, 3, (some .int), [])
def mX2_field : Mt := (yX2_field, cX2_field, 2, (some .int), [])
def mX10_relay : Mt := (yX10_relay, cX10_relay, 3, (some .int), [])
def mL_about : Mt := (yL_about, cL_about, 6, (some .int), [(0, 12, 15, 13), (0, 12, 19, 48)])
def mX9_about : Mt := (yX9_about, cX9_about, 5, (some .int), [])
def mX4_field : Mt := (yX4_field, cX4_field, 2, (some .int), [])
def mX3_field : Mt := (yX3_field, cX3_field, 2, (some .int), [])
def mX10_about : Mt := (yX10_about, cX10_about, 5, (some .int), [])
def mX10_aboutSpurt : Mt := (yX10_aboutSpurt, cX10_aboutSpurt, 3, (some .int), [])
def mX9_lost : Mt := (yX9_lost, cX9_lost, 1, (some .int), [])
def mX10_lost : Mt := (yX10_lost, cX10_lost, 1, (some .int), [])
def mL_law : Mt := (yL_law, cL_law, 7, (some .boolean), [])
theorem fX9_init : MF mX9_init 0 := ⟨by rw [Mw_plain rfl]; exact rin_1 _ (List.mem_of_getElem? (i := 9) rfl), rin_1 _ (List.mem_of_getElem? (i := 2) rfl), by decide +kernel, by decide⟩
theorem fX6_init : MF mX6_init 0 := ⟨by rw [Mw_plain rfl]; exact rin_2 _ (List.mem_of_getElem? (i := 7) rfl), rin_1 _ (List.mem_of_getElem? (i := 15) rfl), by decide +kernel, by decide⟩
theorem fX5_init : MF mX5_init 0 := ⟨by rw [Mw_plain rfl]; exact rin_2 _ (List.mem_of_getElem? (i := 16) rfl), rin_2 _ (List.mem_of_getElem? (i := 14) rfl), by decide +kernel, by decide⟩
theorem fX7_init : MF mX7_init 2 := ⟨by rw [Mw_plain rfl]; exact rin_2 _ (List.mem_of_getElem? (i := 20) rfl), rin_2 _ (List.mem_of_getElem? (i := 0) rfl), by decide +kernel, by decide⟩
theorem fX4_init : MF mX4_init 0 := ⟨by rw [Mw_plain rfl]; exact rin_3 _ (List.mem_of_getElem? (i := 5) rfl), rin_3 _ (List.mem_of_getElem? (i := 3) rfl), by decide +kernel, by decide⟩
theorem fX3_init : MF mX3_init 0 := ⟨by rw [Mw_plain rfl]; exact rin_3 _ (List.mem_of_getElem? (i := 14) rfl), rin_3 _ (List.mem_of_getElem? (i := 11) rfl), by decide +kernel, by decide⟩
theorem fX1_init : MF mX1_init 1 := ⟨by rw [Mw_plain rfl]; exact rin_3 _ (List.mem_of_getElem? (i := 19) rfl), rin_2 _ (List.mem_of_getElem? (i := 2) rfl), by decide +kernel, by decide⟩
theorem fX8_init : MF mX8_init 0 := ⟨by rw [Mw_plain rfl]; exact rin_4 _ (List.mem_of_getElem? (i := 13) rfl), rin_3 _ (List.mem_of_getElem? (i := 23) rfl), by decide +kernel, by decide⟩
theorem fX0_init : MF mX0_init 0 := ⟨by rw [Mw_plain rfl]; exact rin_4 _ (List.mem_of_getElem? (i := 19) rfl), rin_4 _ (List.mem_of_getElem? (i := 11) rfl), by decide +kernel, by decide⟩
theorem fX2_init : MF mX2_init 2 := ⟨by rw [Mw_plain rfl]; exact rin_4 _ (List.mem_of_getElem? (i := 23) rfl), rin_2 _ (List.mem_of_getElem? (i := 4) rfl), by decide +kernel, by decide⟩
theorem fX10_init : MF mX10_init 0 := ⟨by rw [Mw_plain rfl]; exact rin_5 _ (List.mem_of_getElem? (i := 6) rfl), rin_1 _ (List.mem_of_getElem? (i := 5) rfl), by decide +kernel, by decide⟩
theorem fL_rules : MF mL_rules 6 := ⟨by unfold Mw; rw [if_neg (by decide)]; exact rin_7 _ (List.mem_of_getElem? (i := 9) rfl), rin_7 _ (List.mem_of_getElem? (i := 8) rfl), by decide +kernel, by decide⟩
theorem fX9_rules : MF mX9_rules 5 := ⟨by rw [Mw_plain rfl]; exact rin_7 _ (List.mem_of_getElem? (i := 15) rfl), rin_1 _ (List.mem_of_getElem? (i := 2) rfl), by decide +kernel, by decide⟩
theorem fX9_needGroup : MF mX9_needGroup 1 := ⟨by rw [Mw_plain rfl]; exact rin_7 _ (List.mem_of_getElem? (i := 19) rfl), rin_1 _ (List.mem_of_getElem? (i := 2) rfl), by decide +kernel, by decide⟩
theorem fX9_needArgument : MF mX9_needArgument 3 := ⟨by rw [Mw_plain rfl]; exact rin_8 _ (List.mem_of_getElem? (i := 0) rfl), rin_1 _ (List.mem_of_getElem? (i := 2) rfl), by decide +kernel, by decide⟩
theorem fX8_set : MF mX8_set 4 := ⟨by rw [Mw_plain rfl]; exact rin_8 _ (List.mem_of_getElem? (i := 6) rfl), rin_3 _ (List.mem_of_getElem? (i := 23) rfl), by decide +kernel, by decide⟩
theorem fX10_rules : MF mX10_rules 5 := ⟨by rw [Mw_plain rfl]; exact rin_8 _ (List.mem_of_getElem? (i := 11) rfl), rin_1 _ (List.mem_of_getElem? (i := 5) rfl), by decide +kernel, by decide⟩
theorem fX10_within : MF mX10_within 3 := ⟨by rw [Mw_plain rfl]; exact rin_8 _ (List.mem_of_getElem? (i := 15) rfl), rin_1 _ (List.mem_of_getElem? (i := 5) rfl), by decide +kernel, by decide⟩
theorem fX10_thrown : MF mX10_thrown 0 := ⟨by rw [Mw_plain rfl]; exact rin_8 _ (List.mem_of_getElem? (i := 19) rfl), rin_1 _ (List.mem_of_getElem? (i := 5) rfl), by decide +kernel, by decide⟩
theorem fL_member : MF mL_member 4 := ⟨by unfold Mw; rw [if_neg (by decide)]; exact rin_8 _ (List.mem_of_getElem? (i := 22) rfl), rin_7 _ (List.mem_of_getElem? (i := 8) rfl), by decide +kernel, by decide⟩
theorem fX9_member : MF mX9_member 3 := ⟨by rw [Mw_plain rfl]; exact rin_9 _ (List.mem_of_getElem? (i := 2) rfl), rin_1 _ (List.mem_of_getElem? (i := 2) rfl), by decide +kernel, by decide⟩
theorem fX9_memberOf : MF mX9_memberOf 2 := ⟨by rw [Mw_plain rfl]; exact rin_9 _ (List.mem_of_getElem? (i := 8) rfl), rin_1 _ (List.mem_of_getElem? (i := 2) rfl), by decide +kernel, by decide⟩
theorem fX10_member : MF mX10_member 3 := ⟨by rw [Mw_plain rfl]; exact rin_9 _ (List.mem_of_getElem? (i := 13) rfl), rin_1 _ (List.mem_of_getElem? (i := 5) rfl), by decide +kernel, by decide⟩
theorem fX10_isMember : MF mX10_isMember 2 := ⟨by rw [Mw_plain rfl]; exact rin_9 _ (List.mem_of_getElem? (i := 16) rfl), rin_1 _ (List.mem_of_getElem? (i := 5) rfl), by decide +kernel, by decide⟩
theorem fL_leave : MF mL_leave 4 := ⟨by unfold Mw; rw [if_neg (by decide)]; exact rin_9 _ (List.mem_of_getElem? (i := 19) rfl), rin_7 _ (List.mem_of_getElem? (i := 8) rfl), by decide +kernel, by decide⟩
theorem fX9_leave : MF mX9_leave 2 := ⟨by rw [Mw_plain rfl]; exact rin_9 _ (List.mem_of_getElem? (i := 23) rfl), rin_1 _ (List.mem_of_getElem? (i := 2) rfl), by decide +kernel, by decide⟩
theorem fX4_goAway : MF mX4_goAway 0 := ⟨by rw [Mw_plain rfl]; exact rin_10 _ (List.mem_of_getElem? (i := 4) rfl), rin_3 _ (List.mem_of_getElem? (i := 3) rfl), by decide +kernel, by decide⟩
theorem fX1_takeBack : MF mX1_takeBack 2 := ⟨by rw [Mw_plain rfl]; exact rin_10 _ (List.mem_of_getElem? (i := 10) rfl), rin_2 _ (List.mem_of_getElem? (i := 2) rfl), by decide +kernel, by decide⟩
theorem fX1_placeOf : MF mX1_placeOf 1 := ⟨by rw [Mw_plain rfl]; exact rin_10 _ (List.mem_of_getElem? (i := 16) rfl), rin_2 _ (List.mem_of_getElem? (i := 2) rfl), by decide +kernel, by decide⟩
theorem fX1_goFromRow : MF mX1_goFromRow 1 := ⟨by rw [Mw_plain rfl]; exact rin_10 _ (List.mem_of_getElem? (i := 20) rfl), rin_2 _ (List.mem_of_getElem? (i := 2) rfl), by decide +kernel, by decide⟩
theorem fX1_grantTo : MF mX1_grantTo 2 := ⟨by rw [Mw_plain rfl]; exact rin_11 _ (List.mem_of_getElem? (i := 0) rfl), rin_2 _ (List.mem_of_getElem? (i := 2) rfl), by decide +kernel, by decide⟩
theorem fX8_copyFrom : MF mX8_copyFrom 1 := ⟨by rw [Mw_plain rfl]; exact rin_11 _ (List.mem_of_getElem? (i := 5) rfl), rin_3 _ (List.mem_of_getElem? (i := 23) rfl), by decide +kernel, by decide⟩
theorem fX7_tell : MF mX7_tell 4 := ⟨by rw [Mw_plain rfl]; exact rin_11 _ (List.mem_of_getElem? (i := 10) rfl), rin_2 _ (List.mem_of_getElem? (i := 0) rfl), by decide +kernel, by decide⟩
theorem fX6_send : MF mX6_send 6 := ⟨by rw [Mw_plain rfl]; exact rin_11 _ (List.mem_of_getElem? (i := 14) rfl), rin_1 _ (List.mem_of_getElem? (i := 15) rfl), by decide +kernel, by decide⟩
theorem fX7_tellOthers : MF mX7_tellOthers 5 := ⟨by rw [Mw_plain rfl]; exact rin_12 _ (List.mem_of_getElem? (i := 2) rfl), rin_2 _ (List.mem_of_getElem? (i := 0) rfl), by decide +kernel, by decide⟩
theorem fX10_leave : MF mX10_leave 2 := ⟨by rw [Mw_plain rfl]; exact rin_12 _ (List.mem_of_getElem? (i := 7) rfl), rin_1 _ (List.mem_of_getElem? (i := 5) rfl), by decide +kernel, by decide⟩
theorem fX10_clear : MF mX10_clear 2 := ⟨by rw [Mw_plain rfl]; exact rin_12 _ (List.mem_of_getElem? (i := 11) rfl), rin_1 _ (List.mem_of_getElem? (i := 5) rfl), by decide +kernel, by decide⟩
theorem fX10_free : MF mX10_free 1 := ⟨by rw [Mw_plain rfl]; exact rin_12 _ (List.mem_of_getElem? (i := 15) rfl), rin_1 _ (List.mem_of_getElem? (i := 5) rfl), by decide +kernel, by decide⟩
theorem fX10_waitsAt : MF mX10_waitsAt 2 := ⟨by rw [Mw_plain rfl]; exact rin_12 _ (List.mem_of_getElem? (i := 19) rfl), rin_1 _ (List.mem_of_getElem? (i := 5) rfl), by decide +kernel, by decide⟩
theorem fX10_placeOf : MF mX10_placeOf 1 := ⟨by rw [Mw_plain rfl]; exact rin_12 _ (List.mem_of_getElem? (i := 23) rfl), rin_1 _ (List.mem_of_getElem? (i := 5) rfl), by decide +kernel, by decide⟩
theorem fX10_above : MF mX10_above 2 := ⟨by rw [Mw_plain rfl]; exact rin_13 _ (List.mem_of_getElem? (i := 3) rfl), rin_1 _ (List.mem_of_getElem? (i := 5) rfl), by decide +kernel, by decide⟩
theorem fX10_give : MF mX10_give 2 := ⟨by rw [Mw_plain rfl]; exact rin_13 _ (List.mem_of_getElem? (i := 7) rfl), rin_1 _ (List.mem_of_getElem? (i := 5) rfl), by decide +kernel, by decide⟩
theorem fX10_send : MF mX10_send 6 := ⟨by rw [Mw_plain rfl]; exact rin_13 _ (List.mem_of_getElem? (i := 12) rfl), rin_1 _ (List.mem_of_getElem? (i := 5) rfl), by decide +kernel, by decide⟩
theorem fX10_tellTalker : MF mX10_tellTalker 1 := ⟨by rw [Mw_plain rfl]; exact rin_13 _ (List.mem_of_getElem? (i := 18) rfl), rin_1 _ (List.mem_of_getElem? (i := 5) rfl), by decide +kernel, by decide⟩
theorem fL_press : MF mL_press 5 := ⟨by unfold Mw; rw [if_neg (by decide)]; exact rin_13 _ (List.mem_of_getElem? (i := 21) rfl), rin_7 _ (List.mem_of_getElem? (i := 8) rfl), by decide +kernel, by decide⟩
theorem fX9_press : MF mX9_press 3 := ⟨by rw [Mw_plain rfl]; exact rin_14 _ (List.mem_of_getElem? (i := 2) rfl), rin_1 _ (List.mem_of_getElem? (i := 2) rfl), by decide +kernel, by decide⟩
theorem fX9_memberThere : MF mX9_memberThere 2 := ⟨by rw [Mw_plain rfl]; exact rin_14 _ (List.mem_of_getElem? (i := 9) rfl), rin_1 _ (List.mem_of_getElem? (i := 2) rfl), by decide +kernel, by decide⟩
theorem fX9_needState : MF mX9_needState 1 := ⟨by rw [Mw_plain rfl]; exact rin_14 _ (List.mem_of_getElem? (i := 12) rfl), rin_1 _ (List.mem_of_getElem? (i := 2) rfl), by decide +kernel, by decide⟩
theorem fX9_sendRequest : MF mX9_sendRequest 3 := ⟨by rw [Mw_plain rfl]; exact rin_14 _ (List.mem_of_getElem? (i := 18) rfl), rin_1 _ (List.mem_of_getElem? (i := 2) rfl), by decide +kernel, by decide⟩
theorem fX10_press : MF mX10_press 3 := ⟨by rw [Mw_plain rfl]; exact rin_14 _ (List.mem_of_getElem? (i := 23) rfl), rin_1 _ (List.mem_of_getElem? (i := 5) rfl), by decide +kernel, by decide⟩
theorem fX10_ask : MF mX10_ask 2 := ⟨by rw [Mw_plain rfl]; exact rin_15 _ (List.mem_of_getElem? (i := 3) rfl), rin_1 _ (List.mem_of_getElem? (i := 5) rfl), by decide +kernel, by decide⟩
theorem fL_again : MF mL_again 3 := ⟨by unfold Mw; rw [if_neg (by decide)]; exact rin_15 _ (List.mem_of_getElem? (i := 6) rfl), rin_7 _ (List.mem_of_getElem? (i := 8) rfl), by decide +kernel, by decide⟩
theorem fX9_again : MF mX9_again 2 := ⟨by rw [Mw_plain rfl]; exact rin_15 _ (List.mem_of_getElem? (i := 10) rfl), rin_1 _ (List.mem_of_getElem? (i := 2) rfl), by decide +kernel, by decide⟩
theorem fX4_isAsking : MF mX4_isAsking 0 := ⟨by rw [Mw_plain rfl]; exact rin_15 _ (List.mem_of_getElem? (i := 14) rfl), rin_3 _ (List.mem_of_getElem? (i := 3) rfl), by decide +kernel, by decide⟩
theorem fX10_again : MF mX10_again 2 := ⟨by rw [Mw_plain rfl]; exact rin_15 _ (List.mem_of_getElem? (i := 18) rfl), rin_1 _ (List.mem_of_getElem? (i := 5) rfl), by decide +kernel, by decide⟩
theorem fL_release : MF mL_release 3 := ⟨by unfold Mw; rw [if_neg (by decide)]; exact rin_15 _ (List.mem_of_getElem? (i := 21) rfl), rin_7 _ (List.mem_of_getElem? (i := 8) rfl), by decide +kernel, by decide⟩
theorem fX9_release : MF mX9_release 2 := ⟨by rw [Mw_plain rfl]; exact rin_16 _ (List.mem_of_getElem? (i := 1) rfl), rin_1 _ (List.mem_of_getElem? (i := 2) rfl), by decide +kernel, by decide⟩
theorem fX10_release : MF mX10_release 2 := ⟨by rw [Mw_plain rfl]; exact rin_16 _ (List.mem_of_getElem? (i := 5) rfl), rin_1 _ (List.mem_of_getElem? (i := 5) rfl), by decide +kernel, by decide⟩
theorem fL_unit : MF mL_unit 5 := ⟨by unfold Mw; rw [if_neg (by decide)]; exact rin_16 _ (List.mem_of_getElem? (i := 8) rfl), rin_7 _ (List.mem_of_getElem? (i := 8) rfl), by decide +kernel, by decide⟩
theorem fX9_unit : MF mX9_unit 3 := ⟨by rw [Mw_plain rfl]; exact rin_16 _ (List.mem_of_getElem? (i := 13) rfl), rin_1 _ (List.mem_of_getElem? (i := 2) rfl), by decide +kernel, by decide⟩
theorem fX4_isTalking : MF mX4_isTalking 0 := ⟨by rw [Mw_plain rfl]; exact rin_16 _ (List.mem_of_getElem? (i := 21) rfl), rin_3 _ (List.mem_of_getElem? (i := 3) rfl), by decide +kernel, by decide⟩
theorem fX10_unit : MF mX10_unit 3 := ⟨by rw [Mw_plain rfl]; exact rin_17 _ (List.mem_of_getElem? (i := 1) rfl), rin_1 _ (List.mem_of_getElem? (i := 5) rfl), by decide +kernel, by decide⟩
theorem fX9_messages : MF mX9_messages 0 := ⟨by rw [Mw_plain rfl]; exact rin_17 _ (List.mem_of_getElem? (i := 5) rfl), rin_1 _ (List.mem_of_getElem? (i := 2) rfl), by decide +kernel, by decide⟩
theorem fX10_messages : MF mX10_messages 0 := ⟨by rw [Mw_plain rfl]; exact rin_17 _ (List.mem_of_getElem? (i := 10) rfl), rin_1 _ (List.mem_of_getElem? (i := 5) rfl), by decide +kernel, by decide⟩
theorem fL_message : MF mL_message 4 := ⟨by unfold Mw; rw [if_neg (by decide)]; exact rin_17 _ (List.mem_of_getElem? (i := 13) rfl), rin_7 _ (List.mem_of_getElem? (i := 8) rfl), by decide +kernel, by decide⟩
theorem fX9_message : MF mX9_message 2 := ⟨by rw [Mw_plain rfl]; exact rin_17 _ (List.mem_of_getElem? (i := 18) rfl), rin_1 _ (List.mem_of_getElem? (i := 2) rfl), by decide +kernel, by decide⟩
theorem fX9_needMessage : MF mX9_needMessage 1 := ⟨by rw [Mw_plain rfl]; exact rin_17 _ (List.mem_of_getElem? (i := 22) rfl), rin_1 _ (List.mem_of_getElem? (i := 2) rfl), by decide +kernel, by decide⟩
theorem fX9_needIndex : MF mX9_needIndex 2 := ⟨by rw [Mw_plain rfl]; exact rin_18 _ (List.mem_of_getElem? (i := 1) rfl), rin_1 _ (List.mem_of_getElem? (i := 2) rfl), by decide +kernel, by decide⟩
theorem fX6_at : MF mX6_at 1 := ⟨by rw [Mw_plain rfl]; exact rin_18 _ (List.mem_of_getElem? (i := 7) rfl), rin_1 _ (List.mem_of_getElem? (i := 15) rfl), by decide +kernel, by decide⟩
theorem fX5_field : MF mX5_field 1 := ⟨by rw [Mw_plain rfl]; exact rin_18 _ (List.mem_of_getElem? (i := 11) rfl), rin_2 _ (List.mem_of_getElem? (i := 14) rfl), by decide +kernel, by decide⟩
theorem fX10_message : MF mX10_message 2 := ⟨by rw [Mw_plain rfl]; exact rin_18 _ (List.mem_of_getElem? (i := 21) rfl), rin_1 _ (List.mem_of_getElem? (i := 5) rfl), by decide +kernel, by decide⟩
theorem fX10_isMessage : MF mX10_isMessage 1 := ⟨by rw [Mw_plain rfl]; exact rin_19 _ (List.mem_of_getElem? (i := 1) rfl), rin_1 _ (List.mem_of_getElem? (i := 5) rfl), by decide +kernel, by decide⟩
theorem fL_carry : MF mL_carry 2 := ⟨by unfold Mw; rw [if_neg (by decide)]; exact rin_19 _ (List.mem_of_getElem? (i := 4) rfl), rin_7 _ (List.mem_of_getElem? (i := 8) rfl), by decide +kernel, by decide⟩
theorem fX9_carry : MF mX9_carry 1 := ⟨by rw [Mw_plain rfl]; exact rin_19 _ (List.mem_of_getElem? (i := 8) rfl), rin_1 _ (List.mem_of_getElem? (i := 2) rfl), by decide +kernel, by decide⟩
theorem fX6_takeOut : MF mX6_takeOut 1 := ⟨by rw [Mw_plain rfl]; exact rin_19 _ (List.mem_of_getElem? (i := 12) rfl), rin_1 _ (List.mem_of_getElem? (i := 15) rfl), by decide +kernel, by decide⟩
theorem fX9_deliver : MF mX9_deliver 1 := ⟨by rw [Mw_plain rfl]; exact rin_19 _ (List.mem_of_getElem? (i := 20) rfl), rin_1 _ (List.mem_of_getElem? (i := 2) rfl), by decide +kernel, by decide⟩
theorem fX1_hearRequest : MF mX1_hearRequest 4 := ⟨by rw [Mw_plain rfl]; exact rin_20 _ (List.mem_of_getElem? (i := 6) rfl), rin_2 _ (List.mem_of_getElem? (i := 2) rfl), by decide +kernel, by decide⟩
theorem fX1_answerAgain : MF mX1_answerAgain 1 := ⟨by rw [Mw_plain rfl]; exact rin_20 _ (List.mem_of_getElem? (i := 14) rfl), rin_2 _ (List.mem_of_getElem? (i := 2) rfl), by decide +kernel, by decide⟩
theorem fX0_renew : MF mX0_renew 3 := ⟨by rw [Mw_plain rfl]; exact rin_20 _ (List.mem_of_getElem? (i := 19) rfl), rin_4 _ (List.mem_of_getElem? (i := 11) rfl), by decide +kernel, by decide⟩
theorem fX1_enqueue : MF mX1_enqueue 1 := ⟨by rw [Mw_plain rfl]; exact rin_21 _ (List.mem_of_getElem? (i := 3) rfl), rin_2 _ (List.mem_of_getElem? (i := 2) rfl), by decide +kernel, by decide⟩
theorem fX0_isAbove : MF mX0_isAbove 1 := ⟨by rw [Mw_plain rfl]; exact rin_21 _ (List.mem_of_getElem? (i := 7) rfl), rin_4 _ (List.mem_of_getElem? (i := 11) rfl), by decide +kernel, by decide⟩
theorem fX1_revokeIfBelow : MF mX1_revokeIfBelow 2 := ⟨by rw [Mw_plain rfl]; exact rin_21 _ (List.mem_of_getElem? (i := 11) rfl), rin_2 _ (List.mem_of_getElem? (i := 2) rfl), by decide +kernel, by decide⟩
theorem fX1_hearRelease : MF mX1_hearRelease 3 := ⟨by rw [Mw_plain rfl]; exact rin_21 _ (List.mem_of_getElem? (i := 16) rfl), rin_2 _ (List.mem_of_getElem? (i := 2) rfl), by decide +kernel, by decide⟩
theorem fX2_hearGate : MF mX2_hearGate 2 := ⟨by rw [Mw_plain rfl]; exact rin_21 _ (List.mem_of_getElem? (i := 20) rfl), rin_2 _ (List.mem_of_getElem? (i := 4) rfl), by decide +kernel, by decide⟩
theorem fX2_hearUnit : MF mX2_hearUnit 5 := ⟨by rw [Mw_plain rfl]; exact rin_22 _ (List.mem_of_getElem? (i := 2) rfl), rin_2 _ (List.mem_of_getElem? (i := 4) rfl), by decide +kernel, by decide⟩
theorem fX2_lets : MF mX2_lets 3 := ⟨by rw [Mw_plain rfl]; exact rin_22 _ (List.mem_of_getElem? (i := 8) rfl), rin_2 _ (List.mem_of_getElem? (i := 4) rfl), by decide +kernel, by decide⟩
theorem fX1_hearPassed : MF mX1_hearPassed 2 := ⟨by rw [Mw_plain rfl]; exact rin_22 _ (List.mem_of_getElem? (i := 13) rfl), rin_2 _ (List.mem_of_getElem? (i := 2) rfl), by decide +kernel, by decide⟩
theorem fX4_hear : MF mX4_hear 2 := ⟨by rw [Mw_plain rfl]; exact rin_22 _ (List.mem_of_getElem? (i := 17) rfl), rin_3 _ (List.mem_of_getElem? (i := 3) rfl), by decide +kernel, by decide⟩
theorem fX4_hearAnswer : MF mX4_hearAnswer 1 := ⟨by rw [Mw_plain rfl]; exact rin_23 _ (List.mem_of_getElem? (i := 2) rfl), rin_3 _ (List.mem_of_getElem? (i := 3) rfl), by decide +kernel, by decide⟩
theorem fX4_hearTalker : MF mX4_hearTalker 2 := ⟨by rw [Mw_plain rfl]; exact rin_23 _ (List.mem_of_getElem? (i := 11) rfl), rin_3 _ (List.mem_of_getElem? (i := 3) rfl), by decide +kernel, by decide⟩
theorem fX3_hear : MF mX3_hear 4 := ⟨by rw [Mw_plain rfl]; exact rin_23 _ (List.mem_of_getElem? (i := 16) rfl), rin_3 _ (List.mem_of_getElem? (i := 11) rfl), by decide +kernel, by decide⟩
theorem fX3_begin : MF mX3_begin 3 := ⟨by rw [Mw_plain rfl]; exact rin_24 _ (List.mem_of_getElem? (i := 1) rfl), rin_3 _ (List.mem_of_getElem? (i := 11) rfl), by decide +kernel, by decide⟩
theorem fX3_isKept : MF mX3_isKept 1 := ⟨by rw [Mw_plain rfl]; exact rin_24 _ (List.mem_of_getElem? (i := 7) rfl), rin_3 _ (List.mem_of_getElem? (i := 11) rfl), by decide +kernel, by decide⟩
theorem fX3_bitOf : MF mX3_bitOf 1 := ⟨by rw [Mw_plain rfl]; exact rin_24 _ (List.mem_of_getElem? (i := 10) rfl), rin_3 _ (List.mem_of_getElem? (i := 11) rfl), by decide +kernel, by decide⟩
theorem fX3_slotOf : MF mX3_slotOf 1 := ⟨by rw [Mw_plain rfl]; exact rin_24 _ (List.mem_of_getElem? (i := 13) rfl), rin_3 _ (List.mem_of_getElem? (i := 11) rfl), by decide +kernel, by decide⟩
theorem fX10_carry : MF mX10_carry 1 := ⟨by rw [Mw_plain rfl]; exact rin_24 _ (List.mem_of_getElem? (i := 17) rfl), rin_1 _ (List.mem_of_getElem? (i := 5) rfl), by decide +kernel, by decide⟩
theorem fX10_comes : MF mX10_comes 2 := ⟨by rw [Mw_plain rfl]; exact rin_24 _ (List.mem_of_getElem? (i := 21) rfl), rin_1 _ (List.mem_of_getElem? (i := 5) rfl), by decide +kernel, by decide⟩
theorem fX10_takeOut : MF mX10_takeOut 1 := ⟨by rw [Mw_plain rfl]; exact rin_25 _ (List.mem_of_getElem? (i := 1) rfl), rin_1 _ (List.mem_of_getElem? (i := 5) rfl), by decide +kernel, by decide⟩
theorem fX10_requested : MF mX10_requested 4 := ⟨by rw [Mw_plain rfl]; exact rin_25 _ (List.mem_of_getElem? (i := 5) rfl), rin_1 _ (List.mem_of_getElem? (i := 5) rfl), by decide +kernel, by decide⟩
theorem fX10_waitCount : MF mX10_waitCount 1 := ⟨by rw [Mw_plain rfl]; exact rin_25 _ (List.mem_of_getElem? (i := 10) rfl), rin_1 _ (List.mem_of_getElem? (i := 5) rfl), by decide +kernel, by decide⟩
theorem fX10_released : MF mX10_released 3 := ⟨by rw [Mw_plain rfl]; exact rin_25 _ (List.mem_of_getElem? (i := 14) rfl), rin_1 _ (List.mem_of_getElem? (i := 5) rfl), by decide +kernel, by decide⟩
theorem fX10_gateComes : MF mX10_gateComes 3 := ⟨by rw [Mw_plain rfl]; exact rin_25 _ (List.mem_of_getElem? (i := 18) rfl), rin_1 _ (List.mem_of_getElem? (i := 5) rfl), by decide +kernel, by decide⟩
theorem fX10_unitComes : MF mX10_unitComes 5 := ⟨by rw [Mw_plain rfl]; exact rin_25 _ (List.mem_of_getElem? (i := 22) rfl), rin_1 _ (List.mem_of_getElem? (i := 5) rfl), by decide +kernel, by decide⟩
theorem fX10_memberHears : MF mX10_memberHears 6 := ⟨by rw [Mw_plain rfl]; exact rin_26 _ (List.mem_of_getElem? (i := 2) rfl), rin_1 _ (List.mem_of_getElem? (i := 5) rfl), by decide +kernel, by decide⟩
theorem fX10_listen : MF mX10_listen 4 := ⟨by rw [Mw_plain rfl]; exact rin_26 _ (List.mem_of_getElem? (i := 6) rfl), rin_1 _ (List.mem_of_getElem? (i := 5) rfl), by decide +kernel, by decide⟩
theorem fL_twice : MF mL_twice 2 := ⟨by unfold Mw; rw [if_neg (by decide)]; exact rin_26 _ (List.mem_of_getElem? (i := 9) rfl), rin_7 _ (List.mem_of_getElem? (i := 8) rfl), by decide +kernel, by decide⟩
theorem fX9_twice : MF mX9_twice 1 := ⟨by rw [Mw_plain rfl]; exact rin_26 _ (List.mem_of_getElem? (i := 13) rfl), rin_1 _ (List.mem_of_getElem? (i := 2) rfl), by decide +kernel, by decide⟩
theorem fX10_twice : MF mX10_twice 1 := ⟨by rw [Mw_plain rfl]; exact rin_26 _ (List.mem_of_getElem? (i := 17) rfl), rin_1 _ (List.mem_of_getElem? (i := 5) rfl), by decide +kernel, by decide⟩
theorem fL_drop : MF mL_drop 2 := ⟨by unfold Mw; rw [if_neg (by decide)]; exact rin_26 _ (List.mem_of_getElem? (i := 20) rfl), rin_7 _ (List.mem_of_getElem? (i := 8) rfl), by decide +kernel, by decide⟩
theorem fX9_drop : MF mX9_drop 1 := ⟨by rw [Mw_plain rfl]; exact rin_27 _ (List.mem_of_getElem? (i := 0) rfl), rin_1 _ (List.mem_of_getElem? (i := 2) rfl), by decide +kernel, by decide⟩
theorem fX10_drop : MF mX10_drop 1 := ⟨by rw [Mw_plain rfl]; exact rin_27 _ (List.mem_of_getElem? (i := 4) rfl), rin_1 _ (List.mem_of_getElem? (i := 5) rfl), by decide +kernel, by decide⟩
theorem fL_run : MF mL_run 3 := ⟨by unfold Mw; rw [if_neg (by decide)]; exact rin_27 _ (List.mem_of_getElem? (i := 7) rfl), rin_7 _ (List.mem_of_getElem? (i := 8) rfl), by decide +kernel, by decide⟩
theorem fX9_run : MF mX9_run 1 := ⟨by rw [Mw_plain rfl]; exact rin_27 _ (List.mem_of_getElem? (i := 11) rfl), rin_1 _ (List.mem_of_getElem? (i := 2) rfl), by decide +kernel, by decide⟩
theorem fX10_run : MF mX10_run 1 := ⟨by rw [Mw_plain rfl]; exact rin_27 _ (List.mem_of_getElem? (i := 15) rfl), rin_1 _ (List.mem_of_getElem? (i := 5) rfl), by decide +kernel, by decide⟩
theorem fX9_tick : MF mX9_tick 0 := ⟨by rw [Mw_plain rfl]; exact rin_27 _ (List.mem_of_getElem? (i := 19) rfl), rin_1 _ (List.mem_of_getElem? (i := 2) rfl), by decide +kernel, by decide⟩
theorem fX1_passTime : MF mX1_passTime 1 := ⟨by rw [Mw_plain rfl]; exact rin_27 _ (List.mem_of_getElem? (i := 23) rfl), rin_2 _ (List.mem_of_getElem? (i := 2) rfl), by decide +kernel, by decide⟩
theorem fX1_isOver : MF mX1_isOver 1 := ⟨by rw [Mw_plain rfl]; exact rin_28 _ (List.mem_of_getElem? (i := 3) rfl), rin_2 _ (List.mem_of_getElem? (i := 2) rfl), by decide +kernel, by decide⟩
theorem fX7_play : MF mX7_play 1 := ⟨by rw [Mw_plain rfl]; exact rin_28 _ (List.mem_of_getElem? (i := 10) rfl), rin_2 _ (List.mem_of_getElem? (i := 0) rfl), by decide +kernel, by decide⟩
theorem fX3_play : MF mX3_play 1 := ⟨by rw [Mw_plain rfl]; exact rin_28 _ (List.mem_of_getElem? (i := 15) rfl), rin_3 _ (List.mem_of_getElem? (i := 11) rfl), by decide +kernel, by decide⟩
theorem fX3_playUnit : MF mX3_playUnit 0 := ⟨by rw [Mw_plain rfl]; exact rin_28 _ (List.mem_of_getElem? (i := 19) rfl), rin_3 _ (List.mem_of_getElem? (i := 11) rfl), by decide +kernel, by decide⟩
theorem fX3_addToSum : MF mX3_addToSum 1 := ⟨by rw [Mw_plain rfl]; exact rin_29 _ (List.mem_of_getElem? (i := 0) rfl), rin_3 _ (List.mem_of_getElem? (i := 11) rfl), by decide +kernel, by decide⟩
theorem fX3_playGap : MF mX3_playGap 0 := ⟨by rw [Mw_plain rfl]; exact rin_29 _ (List.mem_of_getElem? (i := 5) rfl), rin_3 _ (List.mem_of_getElem? (i := 11) rfl), by decide +kernel, by decide⟩
theorem fX10_tick : MF mX10_tick 0 := ⟨by rw [Mw_plain rfl]; exact rin_29 _ (List.mem_of_getElem? (i := 10) rfl), rin_1 _ (List.mem_of_getElem? (i := 5) rfl), by decide +kernel, by decide⟩
theorem fX10_serverTick : MF mX10_serverTick 1 := ⟨by rw [Mw_plain rfl]; exact rin_29 _ (List.mem_of_getElem? (i := 14) rfl), rin_1 _ (List.mem_of_getElem? (i := 5) rfl), by decide +kernel, by decide⟩
theorem fX10_play : MF mX10_play 1 := ⟨by rw [Mw_plain rfl]; exact rin_29 _ (List.mem_of_getElem? (i := 18) rfl), rin_1 _ (List.mem_of_getElem? (i := 5) rfl), by decide +kernel, by decide⟩
theorem fL_server : MF mL_server 4 := ⟨by unfold Mw; rw [if_neg (by decide)]; exact rin_29 _ (List.mem_of_getElem? (i := 21) rfl), rin_7 _ (List.mem_of_getElem? (i := 8) rfl), by decide +kernel, by decide⟩
theorem fX9_server : MF mX9_server 2 := ⟨by rw [Mw_plain rfl]; exact rin_30 _ (List.mem_of_getElem? (i := 1) rfl), rin_1 _ (List.mem_of_getElem? (i := 2) rfl), by decide +kernel, by decide⟩
theorem fX1_field : MF mX1_field 1 := ⟨by rw [Mw_plain rfl]; exact rin_30 _ (List.mem_of_getElem? (i := 5) rfl), rin_2 _ (List.mem_of_getElem? (i := 2) rfl), by decide +kernel, by decide⟩
theorem fX10_server : MF mX10_server 2 := ⟨by rw [Mw_plain rfl]; exact rin_30 _ (List.mem_of_getElem? (i := 9) rfl), rin_1 _ (List.mem_of_getElem? (i := 5) rfl), by decide +kernel, by decide⟩
theorem fL_waiting : MF mL_waiting 4 := ⟨by unfold Mw; rw [if_neg (by decide)]; exact rin_30 _ (List.mem_of_getElem? (i := 12) rfl), rin_7 _ (List.mem_of_getElem? (i := 8) rfl), by decide +kernel, by decide⟩
theorem fX9_waiting : MF mX9_waiting 2 := ⟨by rw [Mw_plain rfl]; exact rin_30 _ (List.mem_of_getElem? (i := 16) rfl), rin_1 _ (List.mem_of_getElem? (i := 2) rfl), by decide +kernel, by decide⟩
theorem fX10_waiting : MF mX10_waiting 2 := ⟨by rw [Mw_plain rfl]; exact rin_30 _ (List.mem_of_getElem? (i := 22) rfl), rin_1 _ (List.mem_of_getElem? (i := 5) rfl), by decide +kernel, by decide⟩
theorem fL_relay : MF mL_relay 4 := ⟨by unfold Mw; rw [if_neg (by decide)]; exact rin_31 _ (List.mem_of_getElem? (i := 1) rfl), rin_7 _ (List.mem_of_getElem? (i := 8) rfl), by decide +kernel, by decide⟩
theorem fX9_relay : MF mX9_relay 2 := ⟨by rw [Mw_plain rfl]; exact rin_31 _ (List.mem_of_getElem? (i := 5) rfl), rin_1 _ (List.mem_of_getElem? (i := 2) rfl), by decide +kernel, by decide⟩
theorem fX2_field : MF mX2_field 1 := ⟨by rw [Mw_plain rfl]; exact rin_31 _ (List.mem_of_getElem? (i := 9) rfl), rin_2 _ (List.mem_of_getElem? (i := 4) rfl), by decide +kernel, by decide⟩
theorem fX10_relay : MF mX10_relay 2 := ⟨by rw [Mw_plain rfl]; exact rin_31 _ (List.mem_of_getElem? (i := 13) rfl), rin_1 _ (List.mem_of_getElem? (i := 5) rfl), by decide +kernel, by decide⟩
theorem fL_about : MF mL_about 5 := ⟨by unfold Mw; rw [if_neg (by decide)]; exact rin_31 _ (List.mem_of_getElem? (i := 16) rfl), rin_7 _ (List.mem_of_getElem? (i := 8) rfl), by decide +kernel, by decide⟩
theorem fX9_about : MF mX9_about 3 := ⟨by rw [Mw_plain rfl]; exact rin_31 _ (List.mem_of_getElem? (i := 20) rfl), rin_1 _ (List.mem_of_getElem? (i := 2) rfl), by decide +kernel, by decide⟩
theorem fX4_field : MF mX4_field 1 := ⟨by rw [Mw_plain rfl]; exact rin_32 _ (List.mem_of_getElem? (i := 1) rfl), rin_3 _ (List.mem_of_getElem? (i := 3) rfl), by decide +kernel, by decide⟩
theorem fX3_field : MF mX3_field 1 := ⟨by rw [Mw_plain rfl]; exact rin_32 _ (List.mem_of_getElem? (i := 6) rfl), rin_3 _ (List.mem_of_getElem? (i := 11) rfl), by decide +kernel, by decide⟩
theorem fX10_about : MF mX10_about 3 := ⟨by rw [Mw_plain rfl]; exact rin_32 _ (List.mem_of_getElem? (i := 10) rfl), rin_1 _ (List.mem_of_getElem? (i := 5) rfl), by decide +kernel, by decide⟩
theorem fX10_aboutSpurt : MF mX10_aboutSpurt 2 := ⟨by rw [Mw_plain rfl]; exact rin_32 _ (List.mem_of_getElem? (i := 14) rfl), rin_1 _ (List.mem_of_getElem? (i := 5) rfl), by decide +kernel, by decide⟩
theorem fX9_lost : MF mX9_lost 0 := ⟨by rw [Mw_plain rfl]; exact rin_32 _ (List.mem_of_getElem? (i := 18) rfl), rin_1 _ (List.mem_of_getElem? (i := 2) rfl), by decide +kernel, by decide⟩
theorem fX10_lost : MF mX10_lost 0 := ⟨by rw [Mw_plain rfl]; exact rin_32 _ (List.mem_of_getElem? (i := 23) rfl), rin_1 _ (List.mem_of_getElem? (i := 5) rfl), by decide +kernel, by decide⟩
theorem fp_RX0_7 : FP RX0 7 0 0 false .int := ⟨_, rfl, by decide, rin_20 _ (List.mem_of_getElem? (i := 20) rfl), rfl, by decide +kernel, rfl⟩
theorem fp_RX0_13 : FP RX0 13 0 1 false .boolean := ⟨_, rfl, by decide, rin_20 _ (List.mem_of_getElem? (i := 21) rfl), rfl, by decide +kernel, rfl⟩
theorem fl_RX0_17 : FL RX0 17 0 2 := ⟨_, rfl, by decide, rin_20 _ (List.mem_of_getElem? (i := 22) rfl)⟩
theorem fp_RX0_17 : FP RX0 17 0 2 false .boolean := ⟨_, rfl, by decide, rin_20 _ (List.mem_of_getElem? (i := 22) rfl), rfl, by decide +kernel, rfl⟩
theorem fl_RX0_20 : FL RX0 20 0 3 := ⟨_, rfl, by decide, rin_20 _ (List.mem_of_getElem? (i := 23) rfl)⟩
theorem fp_RX0_20 : FP RX0 20 0 3 false .int := ⟨_, rfl, by decide, rin_20 _ (List.mem_of_getElem? (i := 23) rfl), rfl, by decide +kernel, rfl⟩
theorem fl_RX1_12 : FL RX1 12 1 1 := ⟨_, rfl, by decide, rin_4 _ (List.mem_of_getElem? (i := 0) rfl)⟩
theorem fp_RX1_12 : FP RX1 12 1 1 true (.object "TalkNet$Rules") := ⟨_, rfl, by decide, rin_4 _ (List.mem_of_getElem? (i := 0) rfl), rfl, by decide +kernel, rfl⟩
theorem fl_RX1_18 : FL RX1 18 1 2 := ⟨_, rfl, by decide, rin_4 _ (List.mem_of_getElem? (i := 1) rfl)⟩
theorem fp_RX1_18 : FP RX1 18 1 2 true (.object "TalkNet$Rules") := ⟨_, rfl, by decide, rin_4 _ (List.mem_of_getElem? (i := 1) rfl), rfl, by decide +kernel, rfl⟩
theorem fl_RX1_21 : FL RX1 21 1 4 := ⟨_, rfl, by decide, rin_4 _ (List.mem_of_getElem? (i := 2) rfl)⟩
theorem fp_RX1_21 : FP RX1 21 1 4 true (.array .int) := ⟨_, rfl, by decide, rin_4 _ (List.mem_of_getElem? (i := 2) rfl), rfl, by decide +kernel, rfl⟩
theorem fl_RX1_25 : FL RX1 25 1 7 := ⟨_, rfl, by decide, rin_4 _ (List.mem_of_getElem? (i := 3) rfl)⟩
theorem fp_RX1_25 : FP RX1 25 1 7 false .int := ⟨_, rfl, by decide, rin_4 _ (List.mem_of_getElem? (i := 3) rfl), rfl, by decide +kernel, rfl⟩
theorem fl_RX1_29 : FL RX1 29 1 8 := ⟨_, rfl, by decide, rin_4 _ (List.mem_of_getElem? (i := 4) rfl)⟩
theorem fp_RX1_29 : FP RX1 29 1 8 false .int := ⟨_, rfl, by decide, rin_4 _ (List.mem_of_getElem? (i := 4) rfl), rfl, by decide +kernel, rfl⟩
theorem fl_RX1_32 : FL RX1 32 1 9 := ⟨_, rfl, by decide, rin_4 _ (List.mem_of_getElem? (i := 5) rfl)⟩
theorem fp_RX1_32 : FP RX1 32 1 9 false .int := ⟨_, rfl, by decide, rin_4 _ (List.mem_of_getElem? (i := 5) rfl), rfl, by decide +kernel, rfl⟩
theorem fl_RX1_35 : FL RX1 35 1 10 := ⟨_, rfl, by decide, rin_4 _ (List.mem_of_getElem? (i := 6) rfl)⟩
theorem fp_RX1_35 : FP RX1 35 1 10 false .int := ⟨_, rfl, by decide, rin_4 _ (List.mem_of_getElem? (i := 6) rfl), rfl, by decide +kernel, rfl⟩
theorem fl_RX1_38 : FL RX1 38 1 0 := ⟨_, rfl, by decide, rin_4 _ (List.mem_of_getElem? (i := 7) rfl)⟩
theorem fp_RX1_38 : FP RX1 38 1 0 true (.object "TalkNet$Party") := ⟨_, rfl, by decide, rin_4 _ (List.mem_of_getElem? (i := 7) rfl), rfl, by decide +kernel, rfl⟩
theorem fl_RX1_44 : FL RX1 44 1 3 := ⟨_, rfl, by decide, rin_4 _ (List.mem_of_getElem? (i := 9) rfl)⟩
theorem fp_RX1_44 : FP RX1 44 1 3 true (.array (.object "TalkNet$Claim")) := ⟨_, rfl, by decide, rin_4 _ (List.mem_of_getElem? (i := 9) rfl), rfl, by decide +kernel, rfl⟩
theorem fl_RX1_49 : FL RX1 49 7 2 := ⟨_, rfl, by decide, rin_20 _ (List.mem_of_getElem? (i := 7) rfl)⟩
theorem fl_RX1_55 : FL RX1 55 4 0 := ⟨_, rfl, by decide, rin_20 _ (List.mem_of_getElem? (i := 8) rfl)⟩
theorem fl_RX1_61 : FL RX1 61 0 0 := ⟨_, rfl, by decide, rin_11 _ (List.mem_of_getElem? (i := 1) rfl)⟩
theorem fl_RX1_72 : FL RX1 72 4 1 := ⟨_, rfl, by decide, rin_20 _ (List.mem_of_getElem? (i := 9) rfl)⟩
theorem fl_RX1_79 : FL RX1 79 1 5 := ⟨_, rfl, by decide, rin_10 _ (List.mem_of_getElem? (i := 11) rfl)⟩
theorem fp_RX1_79 : FP RX1 79 1 5 false .int := ⟨_, rfl, by decide, rin_10 _ (List.mem_of_getElem? (i := 11) rfl), rfl, by decide +kernel, rfl⟩
theorem fl_RX1_85 : FL RX1 85 0 1 := ⟨_, rfl, by decide, rin_20 _ (List.mem_of_getElem? (i := 10) rfl)⟩
theorem fp_RX1_85 : FP RX1 85 0 1 false .boolean := ⟨_, rfl, by decide, rin_20 _ (List.mem_of_getElem? (i := 10) rfl), rfl, by decide +kernel, rfl⟩
theorem fl_RX1_106 : FL RX1 106 1 6 := ⟨_, rfl, by decide, rin_10 _ (List.mem_of_getElem? (i := 12) rfl)⟩
theorem fp_RX1_106 : FP RX1 106 1 6 false .int := ⟨_, rfl, by decide, rin_10 _ (List.mem_of_getElem? (i := 12) rfl), rfl, by decide +kernel, rfl⟩
theorem fl_RX1_117 : FL RX1 117 8 3 := ⟨_, rfl, by decide, rin_28 _ (List.mem_of_getElem? (i := 4) rfl)⟩
theorem fl_RX1_120 : FL RX1 120 8 1 := ⟨_, rfl, by decide, rin_28 _ (List.mem_of_getElem? (i := 5) rfl)⟩
theorem fl_RX1_123 : FL RX1 123 8 2 := ⟨_, rfl, by decide, rin_28 _ (List.mem_of_getElem? (i := 6) rfl)⟩
theorem fl_RX1_134 : FL RX1 134 8 0 := ⟨_, rfl, by decide, rin_21 _ (List.mem_of_getElem? (i := 12) rfl)⟩
theorem fl_RX10_7 : FL RX10 7 10 4 := ⟨_, rfl, by decide, rin_5 _ (List.mem_of_getElem? (i := 8) rfl)⟩
theorem fp_RX10_7 : FP RX10 7 10 4 true (.array .int) := ⟨_, rfl, by decide, rin_5 _ (List.mem_of_getElem? (i := 8) rfl), rfl, by decide +kernel, rfl⟩
theorem fl_RX10_13 : FL RX10 13 10 5 := ⟨_, rfl, by decide, rin_5 _ (List.mem_of_getElem? (i := 10) rfl)⟩
theorem fp_RX10_13 : FP RX10 13 10 5 true (.array .boolean) := ⟨_, rfl, by decide, rin_5 _ (List.mem_of_getElem? (i := 10) rfl), rfl, by decide +kernel, rfl⟩
theorem fl_RX10_17 : FL RX10 17 10 6 := ⟨_, rfl, by decide, rin_5 _ (List.mem_of_getElem? (i := 11) rfl)⟩
theorem fp_RX10_17 : FP RX10 17 10 6 true (.array .int) := ⟨_, rfl, by decide, rin_5 _ (List.mem_of_getElem? (i := 11) rfl), rfl, by decide +kernel, rfl⟩
theorem fl_RX10_20 : FL RX10 20 10 7 := ⟨_, rfl, by decide, rin_5 _ (List.mem_of_getElem? (i := 12) rfl)⟩
theorem fp_RX10_20 : FP RX10 20 10 7 true (.array .int) := ⟨_, rfl, by decide, rin_5 _ (List.mem_of_getElem? (i := 12) rfl), rfl, by decide +kernel, rfl⟩
theorem fl_RX10_23 : FL RX10 23 10 8 := ⟨_, rfl, by decide, rin_5 _ (List.mem_of_getElem? (i := 13) rfl)⟩
theorem fp_RX10_23 : FP RX10 23 10 8 true (.array .int) := ⟨_, rfl, by decide, rin_5 _ (List.mem_of_getElem? (i := 13) rfl), rfl, by decide +kernel, rfl⟩
theorem fl_RX10_26 : FL RX10 26 10 9 := ⟨_, rfl, by decide, rin_5 _ (List.mem_of_getElem? (i := 14) rfl)⟩
theorem fp_RX10_26 : FP RX10 26 10 9 true (.array .boolean) := ⟨_, rfl, by decide, rin_5 _ (List.mem_of_getElem? (i := 14) rfl), rfl, by decide +kernel, rfl⟩
theorem fl_RX10_29 : FL RX10 29 10 10 := ⟨_, rfl, by decide, rin_5 _ (List.mem_of_getElem? (i := 15) rfl)⟩
theorem fp_RX10_29 : FP RX10 29 10 10 true (.array .int) := ⟨_, rfl, by decide, rin_5 _ (List.mem_of_getElem? (i := 15) rfl), rfl, by decide +kernel, rfl⟩
theorem fl_RX10_32 : FL RX10 32 10 11 := ⟨_, rfl, by decide, rin_5 _ (List.mem_of_getElem? (i := 16) rfl)⟩
theorem fp_RX10_32 : FP RX10 32 10 11 true (.array .int) := ⟨_, rfl, by decide, rin_5 _ (List.mem_of_getElem? (i := 16) rfl), rfl, by decide +kernel, rfl⟩
theorem fl_RX10_35 : FL RX10 35 10 12 := ⟨_, rfl, by decide, rin_5 _ (List.mem_of_getElem? (i := 17) rfl)⟩
theorem fp_RX10_35 : FP RX10 35 10 12 true (.array .int) := ⟨_, rfl, by decide, rin_5 _ (List.mem_of_getElem? (i := 17) rfl), rfl, by decide +kernel, rfl⟩
theorem fl_RX10_38 : FL RX10 38 10 13 := ⟨_, rfl, by decide, rin_5 _ (List.mem_of_getElem? (i := 18) rfl)⟩
theorem fp_RX10_38 : FP RX10 38 10 13 true (.array .int) := ⟨_, rfl, by decide, rin_5 _ (List.mem_of_getElem? (i := 18) rfl), rfl, by decide +kernel, rfl⟩
theorem fl_RX10_41 : FL RX10 41 10 14 := ⟨_, rfl, by decide, rin_5 _ (List.mem_of_getElem? (i := 19) rfl)⟩
theorem fp_RX10_41 : FP RX10 41 10 14 true (.array .int) := ⟨_, rfl, by decide, rin_5 _ (List.mem_of_getElem? (i := 19) rfl), rfl, by decide +kernel, rfl⟩
theorem fl_RX10_44 : FL RX10 44 10 15 := ⟨_, rfl, by decide, rin_5 _ (List.mem_of_getElem? (i := 20) rfl)⟩
theorem fp_RX10_44 : FP RX10 44 10 15 true (.array .int) := ⟨_, rfl, by decide, rin_5 _ (List.mem_of_getElem? (i := 20) rfl), rfl, by decide +kernel, rfl⟩
theorem fl_RX10_47 : FL RX10 47 10 16 := ⟨_, rfl, by decide, rin_5 _ (List.mem_of_getElem? (i := 21) rfl)⟩
theorem fp_RX10_47 : FP RX10 47 10 16 true (.array .boolean) := ⟨_, rfl, by decide, rin_5 _ (List.mem_of_getElem? (i := 21) rfl), rfl, by decide +kernel, rfl⟩
theorem fl_RX10_50 : FL RX10 50 10 17 := ⟨_, rfl, by decide, rin_5 _ (List.mem_of_getElem? (i := 22) rfl)⟩
theorem fp_RX10_50 : FP RX10 50 10 17 true (.array .int) := ⟨_, rfl, by decide, rin_5 _ (List.mem_of_getElem? (i := 22) rfl), rfl, by decide +kernel, rfl⟩
theorem fl_RX10_53 : FL RX10 53 10 18 := ⟨_, rfl, by decide, rin_5 _ (List.mem_of_getElem? (i := 23) rfl)⟩
theorem fp_RX10_53 : FP RX10 53 10 18 true (.array .int) := ⟨_, rfl, by decide, rin_5 _ (List.mem_of_getElem? (i := 23) rfl), rfl, by decide +kernel, rfl⟩
theorem fl_RX10_56 : FL RX10 56 10 19 := ⟨_, rfl, by decide, rin_6 _ (List.mem_of_getElem? (i := 0) rfl)⟩
theorem fp_RX10_56 : FP RX10 56 10 19 true (.array .int) := ⟨_, rfl, by decide, rin_6 _ (List.mem_of_getElem? (i := 0) rfl), rfl, by decide +kernel, rfl⟩
theorem fl_RX10_59 : FL RX10 59 10 20 := ⟨_, rfl, by decide, rin_6 _ (List.mem_of_getElem? (i := 1) rfl)⟩
theorem fp_RX10_59 : FP RX10 59 10 20 true (.array .int) := ⟨_, rfl, by decide, rin_6 _ (List.mem_of_getElem? (i := 1) rfl), rfl, by decide +kernel, rfl⟩
theorem fl_RX10_62 : FL RX10 62 10 21 := ⟨_, rfl, by decide, rin_6 _ (List.mem_of_getElem? (i := 2) rfl)⟩
theorem fp_RX10_62 : FP RX10 62 10 21 true (.array .int) := ⟨_, rfl, by decide, rin_6 _ (List.mem_of_getElem? (i := 2) rfl), rfl, by decide +kernel, rfl⟩
theorem fl_RX10_65 : FL RX10 65 10 22 := ⟨_, rfl, by decide, rin_6 _ (List.mem_of_getElem? (i := 3) rfl)⟩
theorem fp_RX10_65 : FP RX10 65 10 22 true (.array .int) := ⟨_, rfl, by decide, rin_6 _ (List.mem_of_getElem? (i := 3) rfl), rfl, by decide +kernel, rfl⟩
theorem fl_RX10_68 : FL RX10 68 10 23 := ⟨_, rfl, by decide, rin_6 _ (List.mem_of_getElem? (i := 4) rfl)⟩
theorem fp_RX10_68 : FP RX10 68 10 23 true (.array .int) := ⟨_, rfl, by decide, rin_6 _ (List.mem_of_getElem? (i := 4) rfl), rfl, by decide +kernel, rfl⟩
theorem fl_RX10_71 : FL RX10 71 10 24 := ⟨_, rfl, by decide, rin_6 _ (List.mem_of_getElem? (i := 5) rfl)⟩
theorem fp_RX10_71 : FP RX10 71 10 24 true (.array .boolean) := ⟨_, rfl, by decide, rin_6 _ (List.mem_of_getElem? (i := 5) rfl), rfl, by decide +kernel, rfl⟩
theorem fl_RX10_74 : FL RX10 74 10 25 := ⟨_, rfl, by decide, rin_6 _ (List.mem_of_getElem? (i := 6) rfl)⟩
theorem fp_RX10_74 : FP RX10 74 10 25 true (.array .int) := ⟨_, rfl, by decide, rin_6 _ (List.mem_of_getElem? (i := 6) rfl), rfl, by decide +kernel, rfl⟩
theorem fl_RX10_77 : FL RX10 77 10 26 := ⟨_, rfl, by decide, rin_6 _ (List.mem_of_getElem? (i := 7) rfl)⟩
theorem fp_RX10_77 : FP RX10 77 10 26 true (.array .boolean) := ⟨_, rfl, by decide, rin_6 _ (List.mem_of_getElem? (i := 7) rfl), rfl, by decide +kernel, rfl⟩
theorem fl_RX10_80 : FL RX10 80 10 27 := ⟨_, rfl, by decide, rin_6 _ (List.mem_of_getElem? (i := 8) rfl)⟩
theorem fp_RX10_80 : FP RX10 80 10 27 true (.array .int) := ⟨_, rfl, by decide, rin_6 _ (List.mem_of_getElem? (i := 8) rfl), rfl, by decide +kernel, rfl⟩
theorem fl_RX10_83 : FL RX10 83 10 28 := ⟨_, rfl, by decide, rin_6 _ (List.mem_of_getElem? (i := 9) rfl)⟩
theorem fp_RX10_83 : FP RX10 83 10 28 true (.array .int) := ⟨_, rfl, by decide, rin_6 _ (List.mem_of_getElem? (i := 9) rfl), rfl, by decide +kernel, rfl⟩
theorem fl_RX10_86 : FL RX10 86 10 29 := ⟨_, rfl, by decide, rin_6 _ (List.mem_of_getElem? (i := 10) rfl)⟩
theorem fp_RX10_86 : FP RX10 86 10 29 true (.array .int) := ⟨_, rfl, by decide, rin_6 _ (List.mem_of_getElem? (i := 10) rfl), rfl, by decide +kernel, rfl⟩
theorem fl_RX10_89 : FL RX10 89 10 30 := ⟨_, rfl, by decide, rin_6 _ (List.mem_of_getElem? (i := 11) rfl)⟩
theorem fp_RX10_89 : FP RX10 89 10 30 true (.array .boolean) := ⟨_, rfl, by decide, rin_6 _ (List.mem_of_getElem? (i := 11) rfl), rfl, by decide +kernel, rfl⟩
theorem fl_RX10_92 : FL RX10 92 10 31 := ⟨_, rfl, by decide, rin_6 _ (List.mem_of_getElem? (i := 12) rfl)⟩
theorem fp_RX10_92 : FP RX10 92 10 31 true (.array .int) := ⟨_, rfl, by decide, rin_6 _ (List.mem_of_getElem? (i := 12) rfl), rfl, by decide +kernel, rfl⟩
theorem fl_RX10_95 : FL RX10 95 10 32 := ⟨_, rfl, by decide, rin_6 _ (List.mem_of_getElem? (i := 13) rfl)⟩
theorem fp_RX10_95 : FP RX10 95 10 32 true (.array .int) := ⟨_, rfl, by decide, rin_6 _ (List.mem_of_getElem? (i := 13) rfl), rfl, by decide +kernel, rfl⟩
theorem fl_RX10_98 : FL RX10 98 10 33 := ⟨_, rfl, by decide, rin_6 _ (List.mem_of_getElem? (i := 14) rfl)⟩
theorem fp_RX10_98 : FP RX10 98 10 33 true (.array .int) := ⟨_, rfl, by decide, rin_6 _ (List.mem_of_getElem? (i := 14) rfl), rfl, by decide +kernel, rfl⟩
theorem fl_RX10_101 : FL RX10 101 10 34 := ⟨_, rfl, by decide, rin_6 _ (List.mem_of_getElem? (i := 15) rfl)⟩
theorem fp_RX10_101 : FP RX10 101 10 34 true (.array .int) := ⟨_, rfl, by decide, rin_6 _ (List.mem_of_getElem? (i := 15) rfl), rfl, by decide +kernel, rfl⟩
theorem fl_RX10_104 : FL RX10 104 10 35 := ⟨_, rfl, by decide, rin_6 _ (List.mem_of_getElem? (i := 16) rfl)⟩
theorem fp_RX10_104 : FP RX10 104 10 35 true (.array .int) := ⟨_, rfl, by decide, rin_6 _ (List.mem_of_getElem? (i := 16) rfl), rfl, by decide +kernel, rfl⟩
theorem fl_RX10_107 : FL RX10 107 10 36 := ⟨_, rfl, by decide, rin_6 _ (List.mem_of_getElem? (i := 17) rfl)⟩
theorem fp_RX10_107 : FP RX10 107 10 36 true (.array .int) := ⟨_, rfl, by decide, rin_6 _ (List.mem_of_getElem? (i := 17) rfl), rfl, by decide +kernel, rfl⟩
theorem fl_RX10_110 : FL RX10 110 10 37 := ⟨_, rfl, by decide, rin_6 _ (List.mem_of_getElem? (i := 18) rfl)⟩
theorem fp_RX10_110 : FP RX10 110 10 37 true (.array .int) := ⟨_, rfl, by decide, rin_6 _ (List.mem_of_getElem? (i := 18) rfl), rfl, by decide +kernel, rfl⟩
theorem fl_RX10_113 : FL RX10 113 10 38 := ⟨_, rfl, by decide, rin_6 _ (List.mem_of_getElem? (i := 19) rfl)⟩
theorem fp_RX10_113 : FP RX10 113 10 38 true (.array .int) := ⟨_, rfl, by decide, rin_6 _ (List.mem_of_getElem? (i := 19) rfl), rfl, by decide +kernel, rfl⟩
theorem fl_RX10_116 : FL RX10 116 10 40 := ⟨_, rfl, by decide, rin_6 _ (List.mem_of_getElem? (i := 20) rfl)⟩
theorem fp_RX10_116 : FP RX10 116 10 40 true (.array .int) := ⟨_, rfl, by decide, rin_6 _ (List.mem_of_getElem? (i := 20) rfl), rfl, by decide +kernel, rfl⟩
theorem fl_RX10_119 : FL RX10 119 10 41 := ⟨_, rfl, by decide, rin_6 _ (List.mem_of_getElem? (i := 21) rfl)⟩
theorem fp_RX10_119 : FP RX10 119 10 41 true (.array .boolean) := ⟨_, rfl, by decide, rin_6 _ (List.mem_of_getElem? (i := 21) rfl), rfl, by decide +kernel, rfl⟩
theorem fl_RX10_122 : FL RX10 122 10 42 := ⟨_, rfl, by decide, rin_6 _ (List.mem_of_getElem? (i := 22) rfl)⟩
theorem fp_RX10_122 : FP RX10 122 10 42 true (.array .boolean) := ⟨_, rfl, by decide, rin_6 _ (List.mem_of_getElem? (i := 22) rfl), rfl, by decide +kernel, rfl⟩
theorem fl_RX10_125 : FL RX10 125 10 43 := ⟨_, rfl, by decide, rin_6 _ (List.mem_of_getElem? (i := 23) rfl)⟩
theorem fp_RX10_125 : FP RX10 125 10 43 true (.array .int) := ⟨_, rfl, by decide, rin_6 _ (List.mem_of_getElem? (i := 23) rfl), rfl, by decide +kernel, rfl⟩
theorem fl_RX10_128 : FL RX10 128 10 44 := ⟨_, rfl, by decide, rin_7 _ (List.mem_of_getElem? (i := 0) rfl)⟩
theorem fp_RX10_128 : FP RX10 128 10 44 true (.array .int) := ⟨_, rfl, by decide, rin_7 _ (List.mem_of_getElem? (i := 0) rfl), rfl, by decide +kernel, rfl⟩
theorem fl_RX10_131 : FL RX10 131 10 45 := ⟨_, rfl, by decide, rin_7 _ (List.mem_of_getElem? (i := 1) rfl)⟩
theorem fp_RX10_131 : FP RX10 131 10 45 true (.array .int) := ⟨_, rfl, by decide, rin_7 _ (List.mem_of_getElem? (i := 1) rfl), rfl, by decide +kernel, rfl⟩
theorem fl_RX10_134 : FL RX10 134 10 46 := ⟨_, rfl, by decide, rin_7 _ (List.mem_of_getElem? (i := 2) rfl)⟩
theorem fp_RX10_134 : FP RX10 134 10 46 true (.array .int) := ⟨_, rfl, by decide, rin_7 _ (List.mem_of_getElem? (i := 2) rfl), rfl, by decide +kernel, rfl⟩
theorem fl_RX10_137 : FL RX10 137 10 47 := ⟨_, rfl, by decide, rin_7 _ (List.mem_of_getElem? (i := 3) rfl)⟩
theorem fp_RX10_137 : FP RX10 137 10 47 true (.array .int) := ⟨_, rfl, by decide, rin_7 _ (List.mem_of_getElem? (i := 3) rfl), rfl, by decide +kernel, rfl⟩
theorem fl_RX10_140 : FL RX10 140 10 48 := ⟨_, rfl, by decide, rin_7 _ (List.mem_of_getElem? (i := 4) rfl)⟩
theorem fp_RX10_140 : FP RX10 140 10 48 true (.array .int) := ⟨_, rfl, by decide, rin_7 _ (List.mem_of_getElem? (i := 4) rfl), rfl, by decide +kernel, rfl⟩
theorem fl_RX10_143 : FL RX10 143 10 49 := ⟨_, rfl, by decide, rin_7 _ (List.mem_of_getElem? (i := 5) rfl)⟩
theorem fp_RX10_143 : FP RX10 143 10 49 true (.array .boolean) := ⟨_, rfl, by decide, rin_7 _ (List.mem_of_getElem? (i := 5) rfl), rfl, by decide +kernel, rfl⟩
theorem fl_RX10_146 : FL RX10 146 10 0 := ⟨_, rfl, by decide, rin_8 _ (List.mem_of_getElem? (i := 12) rfl)⟩
theorem fp_RX10_146 : FP RX10 146 10 0 false .int := ⟨_, rfl, by decide, rin_8 _ (List.mem_of_getElem? (i := 12) rfl), rfl, by decide +kernel, rfl⟩
theorem fl_RX10_154 : FL RX10 154 10 3 := ⟨_, rfl, by decide, rin_13 _ (List.mem_of_getElem? (i := 13) rfl)⟩
theorem fp_RX10_154 : FP RX10 154 10 3 false .int := ⟨_, rfl, by decide, rin_13 _ (List.mem_of_getElem? (i := 13) rfl), rfl, by decide +kernel, rfl⟩
theorem fl_RX10_157 : FL RX10 157 10 2 := ⟨_, rfl, by decide, rin_13 _ (List.mem_of_getElem? (i := 14) rfl)⟩
theorem fp_RX10_157 : FP RX10 157 10 2 false .int := ⟨_, rfl, by decide, rin_13 _ (List.mem_of_getElem? (i := 14) rfl), rfl, by decide +kernel, rfl⟩
theorem fl_RX10_179 : FL RX10 179 10 1 := ⟨_, rfl, by decide, rin_13 _ (List.mem_of_getElem? (i := 8) rfl)⟩
theorem fp_RX10_179 : FP RX10 179 10 1 false .int := ⟨_, rfl, by decide, rin_13 _ (List.mem_of_getElem? (i := 8) rfl), rfl, by decide +kernel, rfl⟩
theorem fl_RX10_206 : FL RX10 206 10 39 := ⟨_, rfl, by decide, rin_25 _ (List.mem_of_getElem? (i := 6) rfl)⟩
theorem fp_RX10_206 : FP RX10 206 10 39 false .int := ⟨_, rfl, by decide, rin_25 _ (List.mem_of_getElem? (i := 6) rfl), rfl, by decide +kernel, rfl⟩
theorem fl_RX2_9 : FL RX2 9 2 3 := ⟨_, rfl, by decide, rin_5 _ (List.mem_of_getElem? (i := 1) rfl)⟩
theorem fp_RX2_9 : FP RX2 9 2 3 false .int := ⟨_, rfl, by decide, rin_5 _ (List.mem_of_getElem? (i := 1) rfl), rfl, by decide +kernel, rfl⟩
theorem fl_RX2_15 : FL RX2 15 2 0 := ⟨_, rfl, by decide, rin_5 _ (List.mem_of_getElem? (i := 2) rfl)⟩
theorem fp_RX2_15 : FP RX2 15 2 0 true (.object "TalkNet$Party") := ⟨_, rfl, by decide, rin_5 _ (List.mem_of_getElem? (i := 2) rfl), rfl, by decide +kernel, rfl⟩
theorem fl_RX2_19 : FL RX2 19 2 1 := ⟨_, rfl, by decide, rin_5 _ (List.mem_of_getElem? (i := 3) rfl)⟩
theorem fp_RX2_19 : FP RX2 19 2 1 true (.object "TalkNet$Floor") := ⟨_, rfl, by decide, rin_5 _ (List.mem_of_getElem? (i := 3) rfl), rfl, by decide +kernel, rfl⟩
theorem fl_RX2_23 : FL RX2 23 2 2 := ⟨_, rfl, by decide, rin_21 _ (List.mem_of_getElem? (i := 21) rfl)⟩
theorem fp_RX2_23 : FP RX2 23 2 2 false .int := ⟨_, rfl, by decide, rin_21 _ (List.mem_of_getElem? (i := 21) rfl), rfl, by decide +kernel, rfl⟩
theorem fl_RX2_26 : FL RX2 26 2 6 := ⟨_, rfl, by decide, rin_21 _ (List.mem_of_getElem? (i := 22) rfl)⟩
theorem fp_RX2_26 : FP RX2 26 2 6 false .long := ⟨_, rfl, by decide, rin_21 _ (List.mem_of_getElem? (i := 22) rfl), rfl, by decide +kernel, rfl⟩
theorem fl_RX2_34 : FL RX2 34 2 5 := ⟨_, rfl, by decide, rin_22 _ (List.mem_of_getElem? (i := 3) rfl)⟩
theorem fp_RX2_34 : FP RX2 34 2 5 false .int := ⟨_, rfl, by decide, rin_22 _ (List.mem_of_getElem? (i := 3) rfl), rfl, by decide +kernel, rfl⟩
theorem fl_RX2_37 : FL RX2 37 2 4 := ⟨_, rfl, by decide, rin_22 _ (List.mem_of_getElem? (i := 4) rfl)⟩
theorem fp_RX2_37 : FP RX2 37 2 4 false .int := ⟨_, rfl, by decide, rin_22 _ (List.mem_of_getElem? (i := 4) rfl), rfl, by decide +kernel, rfl⟩
theorem fl_RX3_9 : FL RX3 9 3 10 := ⟨_, rfl, by decide, rin_3 _ (List.mem_of_getElem? (i := 16) rfl)⟩
theorem fp_RX3_9 : FP RX3 9 3 10 true (.array .int) := ⟨_, rfl, by decide, rin_3 _ (List.mem_of_getElem? (i := 16) rfl), rfl, by decide +kernel, rfl⟩
theorem fl_RX3_15 : FL RX3 15 3 0 := ⟨_, rfl, by decide, rin_23 _ (List.mem_of_getElem? (i := 17) rfl)⟩
theorem fp_RX3_15 : FP RX3 15 3 0 false .int := ⟨_, rfl, by decide, rin_23 _ (List.mem_of_getElem? (i := 17) rfl), rfl, by decide +kernel, rfl⟩
theorem fl_RX3_19 : FL RX3 19 3 1 := ⟨_, rfl, by decide, rin_23 _ (List.mem_of_getElem? (i := 18) rfl)⟩
theorem fp_RX3_19 : FP RX3 19 3 1 false .boolean := ⟨_, rfl, by decide, rin_23 _ (List.mem_of_getElem? (i := 18) rfl), rfl, by decide +kernel, rfl⟩
theorem fl_RX3_23 : FL RX3 23 3 7 := ⟨_, rfl, by decide, rin_23 _ (List.mem_of_getElem? (i := 19) rfl)⟩
theorem fp_RX3_23 : FP RX3 23 3 7 false .int := ⟨_, rfl, by decide, rin_23 _ (List.mem_of_getElem? (i := 19) rfl), rfl, by decide +kernel, rfl⟩
theorem fl_RX3_30 : FL RX3 30 3 2 := ⟨_, rfl, by decide, rin_23 _ (List.mem_of_getElem? (i := 20) rfl)⟩
theorem fp_RX3_30 : FP RX3 30 3 2 false .int := ⟨_, rfl, by decide, rin_23 _ (List.mem_of_getElem? (i := 20) rfl), rfl, by decide +kernel, rfl⟩
theorem fl_RX3_37 : FL RX3 37 3 9 := ⟨_, rfl, by decide, rin_23 _ (List.mem_of_getElem? (i := 21) rfl)⟩
theorem fp_RX3_37 : FP RX3 37 3 9 false .int := ⟨_, rfl, by decide, rin_23 _ (List.mem_of_getElem? (i := 21) rfl), rfl, by decide +kernel, rfl⟩
theorem fl_RX3_47 : FL RX3 47 3 3 := ⟨_, rfl, by decide, rin_24 _ (List.mem_of_getElem? (i := 2) rfl)⟩
theorem fp_RX3_47 : FP RX3 47 3 3 false .int := ⟨_, rfl, by decide, rin_24 _ (List.mem_of_getElem? (i := 2) rfl), rfl, by decide +kernel, rfl⟩
theorem fl_RX3_50 : FL RX3 50 3 4 := ⟨_, rfl, by decide, rin_24 _ (List.mem_of_getElem? (i := 3) rfl)⟩
theorem fp_RX3_50 : FP RX3 50 3 4 false .int := ⟨_, rfl, by decide, rin_24 _ (List.mem_of_getElem? (i := 3) rfl), rfl, by decide +kernel, rfl⟩
theorem fl_RX3_59 : FL RX3 59 3 5 := ⟨_, rfl, by decide, rin_28 _ (List.mem_of_getElem? (i := 20) rfl)⟩
theorem fp_RX3_59 : FP RX3 59 3 5 false .int := ⟨_, rfl, by decide, rin_28 _ (List.mem_of_getElem? (i := 20) rfl), rfl, by decide +kernel, rfl⟩
theorem fl_RX3_66 : FL RX3 66 3 6 := ⟨_, rfl, by decide, rin_29 _ (List.mem_of_getElem? (i := 6) rfl)⟩
theorem fp_RX3_66 : FP RX3 66 3 6 false .int := ⟨_, rfl, by decide, rin_29 _ (List.mem_of_getElem? (i := 6) rfl), rfl, by decide +kernel, rfl⟩
theorem fl_RX3_69 : FL RX3 69 3 8 := ⟨_, rfl, by decide, rin_29 _ (List.mem_of_getElem? (i := 1) rfl)⟩
theorem fp_RX3_69 : FP RX3 69 3 8 false .int := ⟨_, rfl, by decide, rin_29 _ (List.mem_of_getElem? (i := 1) rfl), rfl, by decide +kernel, rfl⟩
theorem fl_RX4_9 : FL RX4 9 4 2 := ⟨_, rfl, by decide, rin_3 _ (List.mem_of_getElem? (i := 7) rfl)⟩
theorem fp_RX4_9 : FP RX4 9 4 2 false .int := ⟨_, rfl, by decide, rin_3 _ (List.mem_of_getElem? (i := 7) rfl), rfl, by decide +kernel, rfl⟩
theorem fl_RX4_15 : FL RX4 15 4 9 := ⟨_, rfl, by decide, rin_3 _ (List.mem_of_getElem? (i := 8) rfl)⟩
theorem fp_RX4_15 : FP RX4 15 4 9 false .int := ⟨_, rfl, by decide, rin_3 _ (List.mem_of_getElem? (i := 8) rfl), rfl, by decide +kernel, rfl⟩
theorem fl_RX4_21 : FL RX4 21 4 10 := ⟨_, rfl, by decide, rin_3 _ (List.mem_of_getElem? (i := 12) rfl)⟩
theorem fp_RX4_21 : FP RX4 21 4 10 true (.object "TalkNet$Listener") := ⟨_, rfl, by decide, rin_3 _ (List.mem_of_getElem? (i := 12) rfl), rfl, by decide +kernel, rfl⟩
theorem fl_RX4_25 : FL RX4 25 4 0 := ⟨_, rfl, by decide, rin_10 _ (List.mem_of_getElem? (i := 5) rfl)⟩
theorem fp_RX4_25 : FP RX4 25 4 0 false .boolean := ⟨_, rfl, by decide, rin_10 _ (List.mem_of_getElem? (i := 5) rfl), rfl, by decide +kernel, rfl⟩
theorem fp_RX4_29 : FP RX4 29 3 1 false .boolean := ⟨_, rfl, by decide, rin_10 _ (List.mem_of_getElem? (i := 6) rfl), rfl, by decide +kernel, rfl⟩
theorem fl_RX4_32 : FL RX4 32 5 0 := ⟨_, rfl, by decide, rin_22 _ (List.mem_of_getElem? (i := 18) rfl)⟩
theorem fl_RX4_41 : FL RX4 41 4 6 := ⟨_, rfl, by decide, rin_22 _ (List.mem_of_getElem? (i := 19) rfl)⟩
theorem fp_RX4_41 : FP RX4 41 4 6 false .int := ⟨_, rfl, by decide, rin_22 _ (List.mem_of_getElem? (i := 19) rfl), rfl, by decide +kernel, rfl⟩
theorem fl_RX4_44 : FL RX4 44 5 3 := ⟨_, rfl, by decide, rin_22 _ (List.mem_of_getElem? (i := 20) rfl)⟩
theorem fl_RX4_51 : FL RX4 51 5 4 := ⟨_, rfl, by decide, rin_22 _ (List.mem_of_getElem? (i := 21) rfl)⟩
theorem fl_RX4_58 : FL RX4 58 5 5 := ⟨_, rfl, by decide, rin_22 _ (List.mem_of_getElem? (i := 22) rfl)⟩
theorem fl_RX4_68 : FL RX4 68 4 3 := ⟨_, rfl, by decide, rin_23 _ (List.mem_of_getElem? (i := 3) rfl)⟩
theorem fl_RX4_71 : FL RX4 71 4 7 := ⟨_, rfl, by decide, rin_23 _ (List.mem_of_getElem? (i := 4) rfl)⟩
theorem fp_RX4_71 : FP RX4 71 4 7 false .int := ⟨_, rfl, by decide, rin_23 _ (List.mem_of_getElem? (i := 4) rfl), rfl, by decide +kernel, rfl⟩
theorem fl_RX4_74 : FL RX4 74 4 5 := ⟨_, rfl, by decide, rin_23 _ (List.mem_of_getElem? (i := 5) rfl)⟩
theorem fp_RX4_74 : FP RX4 74 4 5 false .int := ⟨_, rfl, by decide, rin_23 _ (List.mem_of_getElem? (i := 5) rfl), rfl, by decide +kernel, rfl⟩
theorem fl_RX4_77 : FL RX4 77 4 8 := ⟨_, rfl, by decide, rin_23 _ (List.mem_of_getElem? (i := 12) rfl)⟩
theorem fp_RX4_77 : FP RX4 77 4 8 false .int := ⟨_, rfl, by decide, rin_23 _ (List.mem_of_getElem? (i := 12) rfl), rfl, by decide +kernel, rfl⟩
theorem fl_RX4_80 : FL RX4 80 4 1 := ⟨_, rfl, by decide, rin_32 _ (List.mem_of_getElem? (i := 2) rfl)⟩
theorem fl_RX5_7 : FL RX5 7 5 0 := ⟨_, rfl, by decide, rin_18 _ (List.mem_of_getElem? (i := 12) rfl)⟩
theorem fl_RX5_13 : FL RX5 13 5 1 := ⟨_, rfl, by decide, rin_18 _ (List.mem_of_getElem? (i := 13) rfl)⟩
theorem fl_RX5_16 : FL RX5 16 5 2 := ⟨_, rfl, by decide, rin_18 _ (List.mem_of_getElem? (i := 14) rfl)⟩
theorem fl_RX5_19 : FL RX5 19 5 3 := ⟨_, rfl, by decide, rin_18 _ (List.mem_of_getElem? (i := 15) rfl)⟩
theorem fl_RX5_22 : FL RX5 22 5 4 := ⟨_, rfl, by decide, rin_18 _ (List.mem_of_getElem? (i := 16) rfl)⟩
theorem fl_RX5_25 : FL RX5 25 5 5 := ⟨_, rfl, by decide, rin_18 _ (List.mem_of_getElem? (i := 17) rfl)⟩
theorem fl_RX6_13 : FL RX6 13 6 0 := ⟨_, rfl, by decide, rin_2 _ (List.mem_of_getElem? (i := 10) rfl)⟩
theorem fp_RX6_13 : FP RX6 13 6 0 true (.array (.object "TalkNet$Message")) := ⟨_, rfl, by decide, rin_2 _ (List.mem_of_getElem? (i := 10) rfl), rfl, by decide +kernel, rfl⟩
theorem fl_RX6_17 : FL RX6 17 6 1 := ⟨_, rfl, by decide, rin_2 _ (List.mem_of_getElem? (i := 12) rfl)⟩
theorem fp_RX6_17 : FP RX6 17 6 1 true (.array .int) := ⟨_, rfl, by decide, rin_2 _ (List.mem_of_getElem? (i := 12) rfl), rfl, by decide +kernel, rfl⟩
theorem fl_RX6_22 : FL RX6 22 6 2 := ⟨_, rfl, by decide, rin_11 _ (List.mem_of_getElem? (i := 15) rfl)⟩
theorem fp_RX6_22 : FP RX6 22 6 2 false .int := ⟨_, rfl, by decide, rin_11 _ (List.mem_of_getElem? (i := 15) rfl), rfl, by decide +kernel, rfl⟩
theorem fl_RX6_26 : FL RX6 26 6 3 := ⟨_, rfl, by decide, rin_11 _ (List.mem_of_getElem? (i := 16) rfl)⟩
theorem fp_RX6_26 : FP RX6 26 6 3 false .int := ⟨_, rfl, by decide, rin_11 _ (List.mem_of_getElem? (i := 16) rfl), rfl, by decide +kernel, rfl⟩
theorem fp_RX6_29 : FP RX6 29 5 0 false .int := ⟨_, rfl, by decide, rin_11 _ (List.mem_of_getElem? (i := 17) rfl), rfl, by decide +kernel, rfl⟩
theorem fp_RX6_32 : FP RX6 32 5 1 false .int := ⟨_, rfl, by decide, rin_11 _ (List.mem_of_getElem? (i := 18) rfl), rfl, by decide +kernel, rfl⟩
theorem fp_RX6_35 : FP RX6 35 5 2 false .int := ⟨_, rfl, by decide, rin_11 _ (List.mem_of_getElem? (i := 19) rfl), rfl, by decide +kernel, rfl⟩
theorem fp_RX6_38 : FP RX6 38 5 3 false .int := ⟨_, rfl, by decide, rin_11 _ (List.mem_of_getElem? (i := 20) rfl), rfl, by decide +kernel, rfl⟩
theorem fp_RX6_41 : FP RX6 41 5 4 false .int := ⟨_, rfl, by decide, rin_11 _ (List.mem_of_getElem? (i := 21) rfl), rfl, by decide +kernel, rfl⟩
theorem fp_RX6_44 : FP RX6 44 5 5 false .int := ⟨_, rfl, by decide, rin_11 _ (List.mem_of_getElem? (i := 22) rfl), rfl, by decide +kernel, rfl⟩
theorem fl_RX7_9 : FL RX7 9 7 0 := ⟨_, rfl, by decide, rin_2 _ (List.mem_of_getElem? (i := 22) rfl)⟩
theorem fp_RX7_9 : FP RX7 9 7 0 true (.object "TalkNet$Net") := ⟨_, rfl, by decide, rin_2 _ (List.mem_of_getElem? (i := 22) rfl), rfl, by decide +kernel, rfl⟩
theorem fl_RX7_15 : FL RX7 15 7 1 := ⟨_, rfl, by decide, rin_2 _ (List.mem_of_getElem? (i := 23) rfl)⟩
theorem fp_RX7_15 : FP RX7 15 7 1 true .int := ⟨_, rfl, by decide, rin_2 _ (List.mem_of_getElem? (i := 23) rfl), rfl, by decide +kernel, rfl⟩
theorem fl_RX7_21 : FL RX7 21 7 2 := ⟨_, rfl, by decide, rin_3 _ (List.mem_of_getElem? (i := 1) rfl)⟩
theorem fp_RX7_21 : FP RX7 21 7 2 true (.array (.object "TalkNet$Member")) := ⟨_, rfl, by decide, rin_3 _ (List.mem_of_getElem? (i := 1) rfl), rfl, by decide +kernel, rfl⟩
theorem fl_RX7_32 : FL RX7 32 4 0 := ⟨_, rfl, by decide, rin_12 _ (List.mem_of_getElem? (i := 3) rfl)⟩
theorem fl_RX7_36 : FL RX7 36 4 10 := ⟨_, rfl, by decide, rin_28 _ (List.mem_of_getElem? (i := 11) rfl)⟩
theorem fl_RX8_7 : FL RX8 7 8 1 := ⟨_, rfl, by decide, rin_4 _ (List.mem_of_getElem? (i := 15) rfl)⟩
theorem fp_RX8_7 : FP RX8 7 8 1 false .int := ⟨_, rfl, by decide, rin_4 _ (List.mem_of_getElem? (i := 15) rfl), rfl, by decide +kernel, rfl⟩
theorem fl_RX8_13 : FL RX8 13 8 2 := ⟨_, rfl, by decide, rin_4 _ (List.mem_of_getElem? (i := 16) rfl)⟩
theorem fp_RX8_13 : FP RX8 13 8 2 false .int := ⟨_, rfl, by decide, rin_4 _ (List.mem_of_getElem? (i := 16) rfl), rfl, by decide +kernel, rfl⟩
theorem fl_RX8_16 : FL RX8 16 8 3 := ⟨_, rfl, by decide, rin_4 _ (List.mem_of_getElem? (i := 17) rfl)⟩
theorem fp_RX8_16 : FP RX8 16 8 3 false .int := ⟨_, rfl, by decide, rin_4 _ (List.mem_of_getElem? (i := 17) rfl), rfl, by decide +kernel, rfl⟩
theorem fl_RX8_19 : FL RX8 19 8 0 := ⟨_, rfl, by decide, rin_8 _ (List.mem_of_getElem? (i := 7) rfl)⟩
theorem fp_RX8_19 : FP RX8 19 8 0 false .boolean := ⟨_, rfl, by decide, rin_8 _ (List.mem_of_getElem? (i := 7) rfl), rfl, by decide +kernel, rfl⟩
theorem fl_RX9_10 : FL RX9 10 9 0 := ⟨_, rfl, by decide, rin_1 _ (List.mem_of_getElem? (i := 16) rfl)⟩
theorem fp_RX9_10 : FP RX9 10 9 0 true (.object "TalkNet$Net") := ⟨_, rfl, by decide, rin_1 _ (List.mem_of_getElem? (i := 16) rfl), rfl, by decide +kernel, rfl⟩
theorem fl_RX9_18 : FL RX9 18 9 1 := ⟨_, rfl, by decide, rin_1 _ (List.mem_of_getElem? (i := 18) rfl)⟩
theorem fp_RX9_18 : FP RX9 18 9 1 true (.array (.object "TalkNet$Party")) := ⟨_, rfl, by decide, rin_1 _ (List.mem_of_getElem? (i := 18) rfl), rfl, by decide +kernel, rfl⟩
theorem fl_RX9_24 : FL RX9 24 9 2 := ⟨_, rfl, by decide, rin_1 _ (List.mem_of_getElem? (i := 20) rfl)⟩
theorem fp_RX9_24 : FP RX9 24 9 2 true (.array (.object "TalkNet$Floor")) := ⟨_, rfl, by decide, rin_1 _ (List.mem_of_getElem? (i := 20) rfl), rfl, by decide +kernel, rfl⟩
theorem fl_RX9_30 : FL RX9 30 9 3 := ⟨_, rfl, by decide, rin_1 _ (List.mem_of_getElem? (i := 22) rfl)⟩
theorem fp_RX9_30 : FP RX9 30 9 3 true (.array (.object "TalkNet$Gate")) := ⟨_, rfl, by decide, rin_1 _ (List.mem_of_getElem? (i := 22) rfl), rfl, by decide +kernel, rfl⟩
theorem fl_RX9_51 : FL RX9 51 1 1 := ⟨_, rfl, by decide, rin_7 _ (List.mem_of_getElem? (i := 16) rfl)⟩
theorem fl_RX9_65 : FL RX9 65 4 0 := ⟨_, rfl, by decide, rin_9 _ (List.mem_of_getElem? (i := 3) rfl)⟩
theorem fp_RX9_65 : FP RX9 65 4 0 false .boolean := ⟨_, rfl, by decide, rin_9 _ (List.mem_of_getElem? (i := 3) rfl), rfl, by decide +kernel, rfl⟩
theorem fp_RX9_71 : FP RX9 71 4 1 false .int := ⟨_, rfl, by decide, rin_9 _ (List.mem_of_getElem? (i := 4) rfl), rfl, by decide +kernel, rfl⟩
theorem fl_RX9_78 : FL RX9 78 9 4 := ⟨_, rfl, by decide, rin_10 _ (List.mem_of_getElem? (i := 0) rfl)⟩
theorem fp_RX9_78 : FP RX9 78 9 4 false .int := ⟨_, rfl, by decide, rin_10 _ (List.mem_of_getElem? (i := 0) rfl), rfl, by decide +kernel, rfl⟩
theorem fl_RX9_88 : FL RX9 88 4 2 := ⟨_, rfl, by decide, rin_14 _ (List.mem_of_getElem? (i := 3) rfl)⟩
theorem fp_RX9_88 : FP RX9 88 4 2 false .int := ⟨_, rfl, by decide, rin_14 _ (List.mem_of_getElem? (i := 3) rfl), rfl, by decide +kernel, rfl⟩
theorem fl_RX9_95 : FL RX9 95 4 3 := ⟨_, rfl, by decide, rin_14 _ (List.mem_of_getElem? (i := 4) rfl)⟩
theorem fp_RX9_95 : FP RX9 95 4 3 false .int := ⟨_, rfl, by decide, rin_14 _ (List.mem_of_getElem? (i := 4) rfl), rfl, by decide +kernel, rfl⟩
theorem fl_RX9_98 : FL RX9 98 4 4 := ⟨_, rfl, by decide, rin_14 _ (List.mem_of_getElem? (i := 5) rfl)⟩
theorem fp_RX9_98 : FP RX9 98 4 4 false .boolean := ⟨_, rfl, by decide, rin_14 _ (List.mem_of_getElem? (i := 5) rfl), rfl, by decide +kernel, rfl⟩
theorem fl_RX9_116 : FL RX9 116 4 7 := ⟨_, rfl, by decide, rin_16 _ (List.mem_of_getElem? (i := 16) rfl)⟩
theorem fp_RX9_116 : FP RX9 116 4 7 false .int := ⟨_, rfl, by decide, rin_16 _ (List.mem_of_getElem? (i := 16) rfl), rfl, by decide +kernel, rfl⟩
theorem fl_RX9_122 : FL RX9 122 4 6 := ⟨_, rfl, by decide, rin_16 _ (List.mem_of_getElem? (i := 17) rfl)⟩
theorem fl_RX9_125 : FL RX9 125 6 2 := ⟨_, rfl, by decide, rin_17 _ (List.mem_of_getElem? (i := 6) rfl)⟩
theorem fl_RX9_158 : FL RX9 158 1 5 := ⟨_, rfl, by decide, rin_30 _ (List.mem_of_getElem? (i := 17) rfl)⟩
theorem fl_RX9_161 : FL RX9 161 1 4 := ⟨_, rfl, by decide, rin_30 _ (List.mem_of_getElem? (i := 18) rfl)⟩
theorem fl_RX9_167 : FL RX9 167 4 10 := ⟨_, rfl, by decide, rin_31 _ (List.mem_of_getElem? (i := 21) rfl)⟩
theorem fl_RX9_174 : FL RX9 174 6 3 := ⟨_, rfl, by decide, rin_32 _ (List.mem_of_getElem? (i := 19) rfl)⟩
theorem fl_RX9_177 : FL RX9 177 5 0 := ⟨_, rfl, by decide, rin_19 _ (List.mem_of_getElem? (i := 21) rfl)⟩
theorem fl_RX9_180 : FL RX9 180 5 1 := ⟨_, rfl, by decide, rin_19 _ (List.mem_of_getElem? (i := 22) rfl)⟩
theorem fl_RX9_183 : FL RX9 183 5 2 := ⟨_, rfl, by decide, rin_19 _ (List.mem_of_getElem? (i := 23) rfl)⟩
theorem fl_RX9_186 : FL RX9 186 5 3 := ⟨_, rfl, by decide, rin_20 _ (List.mem_of_getElem? (i := 0) rfl)⟩
theorem fl_RX9_189 : FL RX9 189 5 4 := ⟨_, rfl, by decide, rin_20 _ (List.mem_of_getElem? (i := 1) rfl)⟩
theorem fl_RX9_202 : FL RX9 202 5 5 := ⟨_, rfl, by decide, rin_20 _ (List.mem_of_getElem? (i := 2) rfl)⟩
theorem fl_RX9_209 : FL RX9 209 7 2 := ⟨_, rfl, by decide, rin_9 _ (List.mem_of_getElem? (i := 9) rfl)⟩
theorem lk_RX1_11 : LKI RX1 11 mX8_init := ⟨rin_4 _ (List.mem_of_getElem? (i := 12) rfl), rfl, rfl, Or.inr ⟨RX9, by decide +kernel⟩⟩
theorem lk_RX1_48 : LKI RX1 48 mX0_init := ⟨rin_4 _ (List.mem_of_getElem? (i := 18) rfl), rfl, rfl, Or.inr ⟨RX9, by decide +kernel⟩⟩
theorem lk_RX1_64 : LKV RX1 64 mX1_answerAgain := ⟨rin_20 _ (List.mem_of_getElem? (i := 11) rfl), rin_20 _ (List.mem_of_getElem? (i := 12) rfl), rin_20 _ (List.mem_of_getElem? (i := 13) rfl)⟩
theorem lk_RX1_68 : LKV RX1 68 mX1_takeBack := ⟨rin_20 _ (List.mem_of_getElem? (i := 15) rfl), rin_10 _ (List.mem_of_getElem? (i := 8) rfl), rin_10 _ (List.mem_of_getElem? (i := 9) rfl)⟩
theorem lk_RX1_75 : LKV RX1 75 mX0_renew := ⟨rin_20 _ (List.mem_of_getElem? (i := 16) rfl), rin_20 _ (List.mem_of_getElem? (i := 17) rfl), rin_20 _ (List.mem_of_getElem? (i := 18) rfl)⟩
theorem lk_RX1_82 : LKV RX1 82 mX1_grantTo := ⟨rin_10 _ (List.mem_of_getElem? (i := 21) rfl), rin_10 _ (List.mem_of_getElem? (i := 22) rfl), rin_10 _ (List.mem_of_getElem? (i := 23) rfl)⟩
theorem lk_RX1_88 : LKV RX1 88 mX7_tell := ⟨rin_11 _ (List.mem_of_getElem? (i := 7) rfl), rin_11 _ (List.mem_of_getElem? (i := 8) rfl), rin_11 _ (List.mem_of_getElem? (i := 9) rfl)⟩
theorem lk_RX1_92 : LKV RX1 92 mX1_enqueue := ⟨rin_21 _ (List.mem_of_getElem? (i := 0) rfl), rin_21 _ (List.mem_of_getElem? (i := 1) rfl), rin_21 _ (List.mem_of_getElem? (i := 2) rfl)⟩
theorem lk_RX1_95 : LKV RX1 95 mX1_revokeIfBelow := ⟨rin_21 _ (List.mem_of_getElem? (i := 8) rfl), rin_21 _ (List.mem_of_getElem? (i := 9) rfl), rin_21 _ (List.mem_of_getElem? (i := 10) rfl)⟩
theorem lk_RX1_99 : LKV RX1 99 mX1_placeOf := ⟨rin_10 _ (List.mem_of_getElem? (i := 13) rfl), rin_10 _ (List.mem_of_getElem? (i := 14) rfl), rin_10 _ (List.mem_of_getElem? (i := 15) rfl)⟩
theorem lk_RX1_103 : LKV RX1 103 mX1_goFromRow := ⟨rin_10 _ (List.mem_of_getElem? (i := 17) rfl), rin_10 _ (List.mem_of_getElem? (i := 18) rfl), rin_10 _ (List.mem_of_getElem? (i := 19) rfl)⟩
theorem lk_RX1_109 : LKV RX1 109 mX1_isOver := ⟨rin_28 _ (List.mem_of_getElem? (i := 0) rfl), rin_28 _ (List.mem_of_getElem? (i := 1) rfl), rin_28 _ (List.mem_of_getElem? (i := 2) rfl)⟩
theorem lk_RX1_113 : LKV RX1 113 mX7_tellOthers := ⟨rin_11 _ (List.mem_of_getElem? (i := 23) rfl), rin_12 _ (List.mem_of_getElem? (i := 0) rfl), rin_12 _ (List.mem_of_getElem? (i := 1) rfl)⟩
theorem lk_RX1_126 : LKV RX1 126 mX8_copyFrom := ⟨rin_11 _ (List.mem_of_getElem? (i := 2) rfl), rin_11 _ (List.mem_of_getElem? (i := 3) rfl), rin_11 _ (List.mem_of_getElem? (i := 4) rfl)⟩
theorem lk_RX1_130 : LKV RX1 130 mX0_isAbove := ⟨rin_21 _ (List.mem_of_getElem? (i := 4) rfl), rin_21 _ (List.mem_of_getElem? (i := 5) rfl), rin_21 _ (List.mem_of_getElem? (i := 6) rfl)⟩
theorem lk_RX2_30 : LKV RX2 30 mX2_lets := ⟨rin_22 _ (List.mem_of_getElem? (i := 5) rfl), rin_22 _ (List.mem_of_getElem? (i := 6) rfl), rin_22 _ (List.mem_of_getElem? (i := 7) rfl)⟩
theorem lk_RX2_40 : LKV RX2 40 mX7_tellOthers := ⟨rin_22 _ (List.mem_of_getElem? (i := 9) rfl), rin_12 _ (List.mem_of_getElem? (i := 0) rfl), rin_12 _ (List.mem_of_getElem? (i := 1) rfl)⟩
theorem lk_RX2_46 : LKV RX2 46 mX1_hearPassed := ⟨rin_22 _ (List.mem_of_getElem? (i := 10) rfl), rin_22 _ (List.mem_of_getElem? (i := 11) rfl), rin_22 _ (List.mem_of_getElem? (i := 12) rfl)⟩
theorem lk_RX3_26 : LKV RX3 26 mX3_begin := ⟨rin_23 _ (List.mem_of_getElem? (i := 22) rfl), rin_23 _ (List.mem_of_getElem? (i := 23) rfl), rin_24 _ (List.mem_of_getElem? (i := 0) rfl)⟩
theorem lk_RX3_33 : LKV RX3 33 mX3_isKept := ⟨rin_24 _ (List.mem_of_getElem? (i := 4) rfl), rin_24 _ (List.mem_of_getElem? (i := 5) rfl), rin_24 _ (List.mem_of_getElem? (i := 6) rfl)⟩
theorem lk_RX3_40 : LKS RX3 40 mX3_bitOf := ⟨rin_24 _ (List.mem_of_getElem? (i := 8) rfl), rin_24 _ (List.mem_of_getElem? (i := 9) rfl)⟩
theorem lk_RX3_44 : LKS RX3 44 mX3_slotOf := ⟨rin_24 _ (List.mem_of_getElem? (i := 11) rfl), rin_24 _ (List.mem_of_getElem? (i := 12) rfl)⟩
theorem lk_RX3_53 : LKV RX3 53 mX3_playUnit := ⟨rin_28 _ (List.mem_of_getElem? (i := 16) rfl), rin_28 _ (List.mem_of_getElem? (i := 17) rfl), rin_28 _ (List.mem_of_getElem? (i := 18) rfl)⟩
theorem lk_RX3_56 : LKV RX3 56 mX3_playGap := ⟨rin_29 _ (List.mem_of_getElem? (i := 2) rfl), rin_29 _ (List.mem_of_getElem? (i := 3) rfl), rin_29 _ (List.mem_of_getElem? (i := 4) rfl)⟩
theorem lk_RX3_62 : LKV RX3 62 mX3_addToSum := ⟨rin_28 _ (List.mem_of_getElem? (i := 21) rfl), rin_28 _ (List.mem_of_getElem? (i := 22) rfl), rin_28 _ (List.mem_of_getElem? (i := 23) rfl)⟩
theorem lk_RX4_20 : LKI RX4 20 mX3_init := ⟨rin_3 _ (List.mem_of_getElem? (i := 13) rfl), rfl, rfl, Or.inr ⟨RX9, by decide +kernel⟩⟩
theorem lk_RX4_37 : LKV RX4 37 mX4_hearAnswer := ⟨rin_22 _ (List.mem_of_getElem? (i := 23) rfl), rin_23 _ (List.mem_of_getElem? (i := 0) rfl), rin_23 _ (List.mem_of_getElem? (i := 1) rfl)⟩
theorem lk_RX4_47 : LKV RX4 47 mX4_isTalking := ⟨rin_23 _ (List.mem_of_getElem? (i := 7) rfl), rin_16 _ (List.mem_of_getElem? (i := 19) rfl), rin_16 _ (List.mem_of_getElem? (i := 20) rfl)⟩
theorem lk_RX4_54 : LKV RX4 54 mX4_hearTalker := ⟨rin_23 _ (List.mem_of_getElem? (i := 8) rfl), rin_23 _ (List.mem_of_getElem? (i := 9) rfl), rin_23 _ (List.mem_of_getElem? (i := 10) rfl)⟩
theorem lk_RX4_61 : LKV RX4 61 mX3_hear := ⟨rin_23 _ (List.mem_of_getElem? (i := 13) rfl), rin_23 _ (List.mem_of_getElem? (i := 14) rfl), rin_23 _ (List.mem_of_getElem? (i := 15) rfl)⟩
theorem lk_RX4_65 : LKV RX4 65 mX4_isAsking := ⟨rin_23 _ (List.mem_of_getElem? (i := 6) rfl), rin_15 _ (List.mem_of_getElem? (i := 12) rfl), rin_15 _ (List.mem_of_getElem? (i := 13) rfl)⟩
theorem lk_RX6_21 : LKI RX6 21 mX5_init := ⟨rin_2 _ (List.mem_of_getElem? (i := 15) rfl), rfl, rfl, Or.inr ⟨RX9, by decide +kernel⟩⟩
theorem lk_RX7_25 : LKI RX7 25 mX4_init := ⟨rin_3 _ (List.mem_of_getElem? (i := 4) rfl), rfl, rfl, Or.inr ⟨RX9, by decide +kernel⟩⟩
theorem lk_RX7_26 : LKV RX7 26 mX6_send := ⟨rin_11 _ (List.mem_of_getElem? (i := 11) rfl), rin_11 _ (List.mem_of_getElem? (i := 12) rfl), rin_11 _ (List.mem_of_getElem? (i := 13) rfl)⟩
theorem lk_RX7_40 : LKV RX7 40 mX3_play := ⟨rin_28 _ (List.mem_of_getElem? (i := 12) rfl), rin_28 _ (List.mem_of_getElem? (i := 13) rfl), rin_28 _ (List.mem_of_getElem? (i := 14) rfl)⟩
theorem lk_RX8_23 : LKV RX8 23 mX8_set := ⟨rin_11 _ (List.mem_of_getElem? (i := 6) rfl), rin_8 _ (List.mem_of_getElem? (i := 4) rfl), rin_8 _ (List.mem_of_getElem? (i := 5) rfl)⟩
theorem lk_RX9_9 : LKI RX9 9 mX6_init := ⟨rin_2 _ (List.mem_of_getElem? (i := 6) rfl), rfl, rfl, Or.inl (rin_2 _ (List.mem_of_getElem? (i := 5) rfl))⟩
theorem lk_RX9_34 : LKI RX9 34 mX7_init := ⟨rin_2 _ (List.mem_of_getElem? (i := 19) rfl), rfl, rfl, Or.inl (rin_2 _ (List.mem_of_getElem? (i := 18) rfl))⟩
theorem lk_RX9_37 : LKI RX9 37 mX1_init := ⟨rin_3 _ (List.mem_of_getElem? (i := 18) rfl), rfl, rfl, Or.inl (rin_3 _ (List.mem_of_getElem? (i := 17) rfl))⟩
theorem lk_RX9_40 : LKI RX9 40 mX2_init := ⟨rin_4 _ (List.mem_of_getElem? (i := 22) rfl), rfl, rfl, Or.inl (rin_4 _ (List.mem_of_getElem? (i := 21) rfl))⟩
theorem lk_RX9_43 : LKS RX9 43 mX9_needGroup := ⟨rin_7 _ (List.mem_of_getElem? (i := 17) rfl), rin_7 _ (List.mem_of_getElem? (i := 18) rfl)⟩
theorem lk_RX9_47 : LKS RX9 47 mX9_needArgument := ⟨rin_7 _ (List.mem_of_getElem? (i := 22) rfl), rin_7 _ (List.mem_of_getElem? (i := 23) rfl)⟩
theorem lk_RX9_55 : LKV RX9 55 mX8_set := ⟨rin_8 _ (List.mem_of_getElem? (i := 3) rfl), rin_8 _ (List.mem_of_getElem? (i := 4) rfl), rin_8 _ (List.mem_of_getElem? (i := 5) rfl)⟩
theorem lk_RX9_61 : LKV RX9 61 mX9_memberOf := ⟨rin_9 _ (List.mem_of_getElem? (i := 5) rfl), rin_9 _ (List.mem_of_getElem? (i := 6) rfl), rin_9 _ (List.mem_of_getElem? (i := 7) rfl)⟩
theorem lk_RX9_75 : LKV RX9 75 mX4_goAway := ⟨rin_10 _ (List.mem_of_getElem? (i := 1) rfl), rin_10 _ (List.mem_of_getElem? (i := 2) rfl), rin_10 _ (List.mem_of_getElem? (i := 3) rfl)⟩
theorem lk_RX9_81 : LKV RX9 81 mX1_takeBack := ⟨rin_10 _ (List.mem_of_getElem? (i := 7) rfl), rin_10 _ (List.mem_of_getElem? (i := 8) rfl), rin_10 _ (List.mem_of_getElem? (i := 9) rfl)⟩
theorem lk_RX9_85 : LKV RX9 85 mX9_memberThere := ⟨rin_14 _ (List.mem_of_getElem? (i := 6) rfl), rin_14 _ (List.mem_of_getElem? (i := 7) rfl), rin_14 _ (List.mem_of_getElem? (i := 8) rfl)⟩
theorem lk_RX9_91 : LKS RX9 91 mX9_needState := ⟨rin_14 _ (List.mem_of_getElem? (i := 10) rfl), rin_14 _ (List.mem_of_getElem? (i := 11) rfl)⟩
theorem lk_RX9_101 : LKV RX9 101 mX9_sendRequest := ⟨rin_14 _ (List.mem_of_getElem? (i := 15) rfl), rin_14 _ (List.mem_of_getElem? (i := 16) rfl), rin_14 _ (List.mem_of_getElem? (i := 17) rfl)⟩
theorem lk_RX9_105 : LKV RX9 105 mX4_isAsking := ⟨rin_15 _ (List.mem_of_getElem? (i := 11) rfl), rin_15 _ (List.mem_of_getElem? (i := 12) rfl), rin_15 _ (List.mem_of_getElem? (i := 13) rfl)⟩
theorem lk_RX9_109 : LKV RX9 109 mX6_send := ⟨rin_14 _ (List.mem_of_getElem? (i := 19) rfl), rin_11 _ (List.mem_of_getElem? (i := 12) rfl), rin_11 _ (List.mem_of_getElem? (i := 13) rfl)⟩
theorem lk_RX9_113 : LKV RX9 113 mX4_isTalking := ⟨rin_16 _ (List.mem_of_getElem? (i := 18) rfl), rin_16 _ (List.mem_of_getElem? (i := 19) rfl), rin_16 _ (List.mem_of_getElem? (i := 20) rfl)⟩
theorem lk_RX9_128 : LKV RX9 128 mX9_needMessage := ⟨rin_17 _ (List.mem_of_getElem? (i := 19) rfl), rin_17 _ (List.mem_of_getElem? (i := 20) rfl), rin_17 _ (List.mem_of_getElem? (i := 21) rfl)⟩
theorem lk_RX9_131 : LKS RX9 131 mX9_needIndex := ⟨rin_17 _ (List.mem_of_getElem? (i := 23) rfl), rin_18 _ (List.mem_of_getElem? (i := 0) rfl)⟩
theorem lk_RX9_134 : LKV RX9 134 mX6_at := ⟨rin_18 _ (List.mem_of_getElem? (i := 4) rfl), rin_18 _ (List.mem_of_getElem? (i := 5) rfl), rin_18 _ (List.mem_of_getElem? (i := 6) rfl)⟩
theorem lk_RX9_138 : LKV RX9 138 mX5_field := ⟨rin_18 _ (List.mem_of_getElem? (i := 8) rfl), rin_18 _ (List.mem_of_getElem? (i := 9) rfl), rin_18 _ (List.mem_of_getElem? (i := 10) rfl)⟩
theorem lk_RX9_144 : LKV RX9 144 mX6_takeOut := ⟨rin_19 _ (List.mem_of_getElem? (i := 9) rfl), rin_19 _ (List.mem_of_getElem? (i := 10) rfl), rin_19 _ (List.mem_of_getElem? (i := 11) rfl)⟩
theorem lk_RX9_147 : LKV RX9 147 mX9_deliver := ⟨rin_19 _ (List.mem_of_getElem? (i := 17) rfl), rin_19 _ (List.mem_of_getElem? (i := 18) rfl), rin_19 _ (List.mem_of_getElem? (i := 19) rfl)⟩
theorem lk_RX9_151 : LKV RX9 151 mX1_passTime := ⟨rin_27 _ (List.mem_of_getElem? (i := 20) rfl), rin_27 _ (List.mem_of_getElem? (i := 21) rfl), rin_27 _ (List.mem_of_getElem? (i := 22) rfl)⟩
theorem lk_RX9_154 : LKV RX9 154 mX7_play := ⟨rin_28 _ (List.mem_of_getElem? (i := 7) rfl), rin_28 _ (List.mem_of_getElem? (i := 8) rfl), rin_28 _ (List.mem_of_getElem? (i := 9) rfl)⟩
theorem lk_RX9_157 : LKV RX9 157 mX1_field := ⟨rin_30 _ (List.mem_of_getElem? (i := 2) rfl), rin_30 _ (List.mem_of_getElem? (i := 3) rfl), rin_30 _ (List.mem_of_getElem? (i := 4) rfl)⟩
theorem lk_RX9_165 : LKV RX9 165 mX2_field := ⟨rin_31 _ (List.mem_of_getElem? (i := 6) rfl), rin_31 _ (List.mem_of_getElem? (i := 7) rfl), rin_31 _ (List.mem_of_getElem? (i := 8) rfl)⟩
theorem lk_RX9_166 : LKV RX9 166 mX4_field := ⟨rin_31 _ (List.mem_of_getElem? (i := 22) rfl), rin_31 _ (List.mem_of_getElem? (i := 23) rfl), rin_32 _ (List.mem_of_getElem? (i := 0) rfl)⟩
theorem lk_RX9_171 : LKV RX9 171 mX3_field := ⟨rin_32 _ (List.mem_of_getElem? (i := 3) rfl), rin_32 _ (List.mem_of_getElem? (i := 4) rfl), rin_32 _ (List.mem_of_getElem? (i := 5) rfl)⟩
theorem lk_RX9_192 : LKV RX9 192 mX1_hearRequest := ⟨rin_20 _ (List.mem_of_getElem? (i := 3) rfl), rin_20 _ (List.mem_of_getElem? (i := 4) rfl), rin_20 _ (List.mem_of_getElem? (i := 5) rfl)⟩
theorem lk_RX9_196 : LKV RX9 196 mX1_hearRelease := ⟨rin_21 _ (List.mem_of_getElem? (i := 13) rfl), rin_21 _ (List.mem_of_getElem? (i := 14) rfl), rin_21 _ (List.mem_of_getElem? (i := 15) rfl)⟩
theorem lk_RX9_199 : LKV RX9 199 mX2_hearGate := ⟨rin_21 _ (List.mem_of_getElem? (i := 17) rfl), rin_21 _ (List.mem_of_getElem? (i := 18) rfl), rin_21 _ (List.mem_of_getElem? (i := 19) rfl)⟩
theorem lk_RX9_205 : LKV RX9 205 mX2_hearUnit := ⟨rin_21 _ (List.mem_of_getElem? (i := 23) rfl), rin_22 _ (List.mem_of_getElem? (i := 0) rfl), rin_22 _ (List.mem_of_getElem? (i := 1) rfl)⟩
theorem lk_RX9_213 : LKV RX9 213 mX4_hear := ⟨rin_22 _ (List.mem_of_getElem? (i := 14) rfl), rin_22 _ (List.mem_of_getElem? (i := 15) rfl), rin_22 _ (List.mem_of_getElem? (i := 16) rfl)⟩
theorem lk_RX10_150 : LKS RX10 150 mX10_within := ⟨rin_8 _ (List.mem_of_getElem? (i := 13) rfl), rin_8 _ (List.mem_of_getElem? (i := 14) rfl)⟩
theorem lk_RX10_160 : LKS RX10 160 mX10_isMember := ⟨rin_9 _ (List.mem_of_getElem? (i := 14) rfl), rin_9 _ (List.mem_of_getElem? (i := 15) rfl)⟩
theorem lk_RX10_164 : LKV RX10 164 mX10_clear := ⟨rin_12 _ (List.mem_of_getElem? (i := 8) rfl), rin_12 _ (List.mem_of_getElem? (i := 9) rfl), rin_12 _ (List.mem_of_getElem? (i := 10) rfl)⟩
theorem lk_RX10_168 : LKV RX10 168 mX10_send := ⟨rin_13 _ (List.mem_of_getElem? (i := 9) rfl), rin_13 _ (List.mem_of_getElem? (i := 10) rfl), rin_13 _ (List.mem_of_getElem? (i := 11) rfl)⟩
theorem lk_RX10_172 : LKV RX10 172 mX10_ask := ⟨rin_15 _ (List.mem_of_getElem? (i := 0) rfl), rin_15 _ (List.mem_of_getElem? (i := 1) rfl), rin_15 _ (List.mem_of_getElem? (i := 2) rfl)⟩
theorem lk_RX10_175 : LKV RX10 175 mX10_listen := ⟨rin_26 _ (List.mem_of_getElem? (i := 3) rfl), rin_26 _ (List.mem_of_getElem? (i := 4) rfl), rin_26 _ (List.mem_of_getElem? (i := 5) rfl)⟩
theorem lk_RX10_182 : LKV RX10 182 mX10_above := ⟨rin_13 _ (List.mem_of_getElem? (i := 0) rfl), rin_13 _ (List.mem_of_getElem? (i := 1) rfl), rin_13 _ (List.mem_of_getElem? (i := 2) rfl)⟩
theorem lk_RX10_186 : LKV RX10 186 mX10_placeOf := ⟨rin_12 _ (List.mem_of_getElem? (i := 20) rfl), rin_12 _ (List.mem_of_getElem? (i := 21) rfl), rin_12 _ (List.mem_of_getElem? (i := 22) rfl)⟩
theorem lk_RX10_190 : LKV RX10 190 mX10_tellTalker := ⟨rin_13 _ (List.mem_of_getElem? (i := 15) rfl), rin_13 _ (List.mem_of_getElem? (i := 16) rfl), rin_13 _ (List.mem_of_getElem? (i := 17) rfl)⟩
theorem lk_RX10_194 : LKV RX10 194 mX10_waitsAt := ⟨rin_12 _ (List.mem_of_getElem? (i := 16) rfl), rin_12 _ (List.mem_of_getElem? (i := 17) rfl), rin_12 _ (List.mem_of_getElem? (i := 18) rfl)⟩
theorem lk_RX10_197 : LKV RX10 197 mX10_give := ⟨rin_13 _ (List.mem_of_getElem? (i := 4) rfl), rin_13 _ (List.mem_of_getElem? (i := 5) rfl), rin_13 _ (List.mem_of_getElem? (i := 6) rfl)⟩
theorem lk_RX10_200 : LKV RX10 200 mX10_free := ⟨rin_12 _ (List.mem_of_getElem? (i := 12) rfl), rin_12 _ (List.mem_of_getElem? (i := 13) rfl), rin_12 _ (List.mem_of_getElem? (i := 14) rfl)⟩
theorem lk_RX10_203 : LKV RX10 203 mX10_waitCount := ⟨rin_25 _ (List.mem_of_getElem? (i := 7) rfl), rin_25 _ (List.mem_of_getElem? (i := 8) rfl), rin_25 _ (List.mem_of_getElem? (i := 9) rfl)⟩
theorem lk_RX10_209 : LKV RX10 209 mX10_isMessage := ⟨rin_18 _ (List.mem_of_getElem? (i := 22) rfl), rin_18 _ (List.mem_of_getElem? (i := 23) rfl), rin_19 _ (List.mem_of_getElem? (i := 0) rfl)⟩
theorem lk_RX10_213 : LKV RX10 213 mX10_takeOut := ⟨rin_24 _ (List.mem_of_getElem? (i := 22) rfl), rin_24 _ (List.mem_of_getElem? (i := 23) rfl), rin_25 _ (List.mem_of_getElem? (i := 0) rfl)⟩
theorem lk_RX10_216 : LKV RX10 216 mX10_requested := ⟨rin_25 _ (List.mem_of_getElem? (i := 2) rfl), rin_25 _ (List.mem_of_getElem? (i := 3) rfl), rin_25 _ (List.mem_of_getElem? (i := 4) rfl)⟩
theorem lk_RX10_220 : LKV RX10 220 mX10_released := ⟨rin_25 _ (List.mem_of_getElem? (i := 11) rfl), rin_25 _ (List.mem_of_getElem? (i := 12) rfl), rin_25 _ (List.mem_of_getElem? (i := 13) rfl)⟩
theorem lk_RX10_224 : LKV RX10 224 mX10_gateComes := ⟨rin_25 _ (List.mem_of_getElem? (i := 15) rfl), rin_25 _ (List.mem_of_getElem? (i := 16) rfl), rin_25 _ (List.mem_of_getElem? (i := 17) rfl)⟩
theorem lk_RX10_227 : LKV RX10 227 mX10_unitComes := ⟨rin_25 _ (List.mem_of_getElem? (i := 19) rfl), rin_25 _ (List.mem_of_getElem? (i := 20) rfl), rin_25 _ (List.mem_of_getElem? (i := 21) rfl)⟩
theorem lk_RX10_231 : LKV RX10 231 mX10_memberHears := ⟨rin_25 _ (List.mem_of_getElem? (i := 23) rfl), rin_26 _ (List.mem_of_getElem? (i := 0) rfl), rin_26 _ (List.mem_of_getElem? (i := 1) rfl)⟩
theorem lk_RX10_234 : LKV RX10 234 mX10_comes := ⟨rin_24 _ (List.mem_of_getElem? (i := 18) rfl), rin_24 _ (List.mem_of_getElem? (i := 19) rfl), rin_24 _ (List.mem_of_getElem? (i := 20) rfl)⟩
theorem lk_RX10_238 : LKV RX10 238 mX10_serverTick := ⟨rin_29 _ (List.mem_of_getElem? (i := 11) rfl), rin_29 _ (List.mem_of_getElem? (i := 12) rfl), rin_29 _ (List.mem_of_getElem? (i := 13) rfl)⟩
theorem lk_RX10_241 : LKV RX10 241 mX10_play := ⟨rin_29 _ (List.mem_of_getElem? (i := 15) rfl), rin_29 _ (List.mem_of_getElem? (i := 16) rfl), rin_29 _ (List.mem_of_getElem? (i := 17) rfl)⟩
theorem lk_RX10_244 : LKV RX10 244 mX10_aboutSpurt := ⟨rin_32 _ (List.mem_of_getElem? (i := 11) rfl), rin_32 _ (List.mem_of_getElem? (i := 12) rfl), rin_32 _ (List.mem_of_getElem? (i := 13) rfl)⟩
theorem lk_RL_7 : LKV RL 7 mX9_rules := ⟨rin_7 _ (List.mem_of_getElem? (i := 12) rfl), rin_7 _ (List.mem_of_getElem? (i := 13) rfl), rin_7 _ (List.mem_of_getElem? (i := 14) rfl)⟩
theorem lk_RL_17 : LKV RL 17 mX9_member := ⟨rin_8 _ (List.mem_of_getElem? (i := 23) rfl), rin_9 _ (List.mem_of_getElem? (i := 0) rfl), rin_9 _ (List.mem_of_getElem? (i := 1) rfl)⟩
theorem lk_RL_21 : LKV RL 21 mX9_leave := ⟨rin_9 _ (List.mem_of_getElem? (i := 20) rfl), rin_9 _ (List.mem_of_getElem? (i := 21) rfl), rin_9 _ (List.mem_of_getElem? (i := 22) rfl)⟩
theorem lk_RL_25 : LKV RL 25 mX9_press := ⟨rin_13 _ (List.mem_of_getElem? (i := 23) rfl), rin_14 _ (List.mem_of_getElem? (i := 0) rfl), rin_14 _ (List.mem_of_getElem? (i := 1) rfl)⟩
theorem lk_RL_31 : LKV RL 31 mX9_again := ⟨rin_15 _ (List.mem_of_getElem? (i := 7) rfl), rin_15 _ (List.mem_of_getElem? (i := 8) rfl), rin_15 _ (List.mem_of_getElem? (i := 9) rfl)⟩
theorem lk_RL_35 : LKV RL 35 mX9_release := ⟨rin_15 _ (List.mem_of_getElem? (i := 22) rfl), rin_15 _ (List.mem_of_getElem? (i := 23) rfl), rin_16 _ (List.mem_of_getElem? (i := 0) rfl)⟩
theorem lk_RL_38 : LKV RL 38 mX9_unit := ⟨rin_16 _ (List.mem_of_getElem? (i := 10) rfl), rin_16 _ (List.mem_of_getElem? (i := 11) rfl), rin_16 _ (List.mem_of_getElem? (i := 12) rfl)⟩
theorem lk_RL_44 : LKV RL 44 mX9_message := ⟨rin_17 _ (List.mem_of_getElem? (i := 15) rfl), rin_17 _ (List.mem_of_getElem? (i := 16) rfl), rin_17 _ (List.mem_of_getElem? (i := 17) rfl)⟩
theorem lk_RL_50 : LKV RL 50 mX9_carry := ⟨rin_19 _ (List.mem_of_getElem? (i := 5) rfl), rin_19 _ (List.mem_of_getElem? (i := 6) rfl), rin_19 _ (List.mem_of_getElem? (i := 7) rfl)⟩
theorem lk_RL_54 : LKV RL 54 mX9_twice := ⟨rin_26 _ (List.mem_of_getElem? (i := 10) rfl), rin_26 _ (List.mem_of_getElem? (i := 11) rfl), rin_26 _ (List.mem_of_getElem? (i := 12) rfl)⟩
theorem lk_RL_57 : LKV RL 57 mX9_drop := ⟨rin_26 _ (List.mem_of_getElem? (i := 21) rfl), rin_26 _ (List.mem_of_getElem? (i := 22) rfl), rin_26 _ (List.mem_of_getElem? (i := 23) rfl)⟩
theorem lk_RL_60 : LKV RL 60 mX9_run := ⟨rin_27 _ (List.mem_of_getElem? (i := 8) rfl), rin_27 _ (List.mem_of_getElem? (i := 9) rfl), rin_27 _ (List.mem_of_getElem? (i := 10) rfl)⟩
theorem lk_RL_64 : LKV RL 64 mX9_server := ⟨rin_29 _ (List.mem_of_getElem? (i := 22) rfl), rin_29 _ (List.mem_of_getElem? (i := 23) rfl), rin_30 _ (List.mem_of_getElem? (i := 0) rfl)⟩
theorem lk_RL_67 : LKV RL 67 mX9_waiting := ⟨rin_30 _ (List.mem_of_getElem? (i := 13) rfl), rin_30 _ (List.mem_of_getElem? (i := 14) rfl), rin_30 _ (List.mem_of_getElem? (i := 15) rfl)⟩
theorem lk_RL_70 : LKV RL 70 mX9_relay := ⟨rin_31 _ (List.mem_of_getElem? (i := 2) rfl), rin_31 _ (List.mem_of_getElem? (i := 3) rfl), rin_31 _ (List.mem_of_getElem? (i := 4) rfl)⟩
theorem lk_RL_73 : LKV RL 73 mX9_about := ⟨rin_31 _ (List.mem_of_getElem? (i := 17) rfl), rin_31 _ (List.mem_of_getElem? (i := 18) rfl), rin_31 _ (List.mem_of_getElem? (i := 19) rfl)⟩
theorem lk_RL_76 : LKI RL 76 mX9_init := ⟨rin_1 _ (List.mem_of_getElem? (i := 8) rfl), rfl, rfl, Or.inl (rin_1 _ (List.mem_of_getElem? (i := 7) rfl))⟩
theorem lk_RL_79 : LKI RL 79 mX10_init := ⟨rin_5 _ (List.mem_of_getElem? (i := 5) rfl), rfl, rfl, Or.inl (rin_5 _ (List.mem_of_getElem? (i := 4) rfl))⟩
theorem lk_RL_80 : LKS RL 80 mL_rules := ⟨rin_7 _ (List.mem_of_getElem? (i := 6) rfl), rin_7 _ (List.mem_of_getElem? (i := 7) rfl)⟩
theorem lk_RL_85 : LKV RL 85 mX10_rules := ⟨rin_8 _ (List.mem_of_getElem? (i := 8) rfl), rin_8 _ (List.mem_of_getElem? (i := 9) rfl), rin_8 _ (List.mem_of_getElem? (i := 10) rfl)⟩
theorem lk_RL_86 : LKV RL 86 mX10_thrown := ⟨rin_8 _ (List.mem_of_getElem? (i := 16) rfl), rin_8 _ (List.mem_of_getElem? (i := 17) rfl), rin_8 _ (List.mem_of_getElem? (i := 18) rfl)⟩
theorem lk_RL_90 : LKS RL 90 mL_member := ⟨rin_8 _ (List.mem_of_getElem? (i := 20) rfl), rin_8 _ (List.mem_of_getElem? (i := 21) rfl)⟩
theorem lk_RL_93 : LKV RL 93 mX10_member := ⟨rin_9 _ (List.mem_of_getElem? (i := 10) rfl), rin_9 _ (List.mem_of_getElem? (i := 11) rfl), rin_9 _ (List.mem_of_getElem? (i := 12) rfl)⟩
theorem lk_RL_94 : LKS RL 94 mL_leave := ⟨rin_9 _ (List.mem_of_getElem? (i := 17) rfl), rin_9 _ (List.mem_of_getElem? (i := 18) rfl)⟩
theorem lk_RL_97 : LKV RL 97 mX10_leave := ⟨rin_12 _ (List.mem_of_getElem? (i := 4) rfl), rin_12 _ (List.mem_of_getElem? (i := 5) rfl), rin_12 _ (List.mem_of_getElem? (i := 6) rfl)⟩
theorem lk_RL_98 : LKS RL 98 mL_press := ⟨rin_13 _ (List.mem_of_getElem? (i := 19) rfl), rin_13 _ (List.mem_of_getElem? (i := 20) rfl)⟩
theorem lk_RL_101 : LKV RL 101 mX10_press := ⟨rin_14 _ (List.mem_of_getElem? (i := 20) rfl), rin_14 _ (List.mem_of_getElem? (i := 21) rfl), rin_14 _ (List.mem_of_getElem? (i := 22) rfl)⟩
theorem lk_RL_102 : LKS RL 102 mL_again := ⟨rin_15 _ (List.mem_of_getElem? (i := 4) rfl), rin_15 _ (List.mem_of_getElem? (i := 5) rfl)⟩
theorem lk_RL_105 : LKV RL 105 mX10_again := ⟨rin_15 _ (List.mem_of_getElem? (i := 15) rfl), rin_15 _ (List.mem_of_getElem? (i := 16) rfl), rin_15 _ (List.mem_of_getElem? (i := 17) rfl)⟩
theorem lk_RL_106 : LKS RL 106 mL_release := ⟨rin_15 _ (List.mem_of_getElem? (i := 19) rfl), rin_15 _ (List.mem_of_getElem? (i := 20) rfl)⟩
theorem lk_RL_108 : LKV RL 108 mX10_release := ⟨rin_16 _ (List.mem_of_getElem? (i := 2) rfl), rin_16 _ (List.mem_of_getElem? (i := 3) rfl), rin_16 _ (List.mem_of_getElem? (i := 4) rfl)⟩
theorem lk_RL_109 : LKS RL 109 mL_unit := ⟨rin_16 _ (List.mem_of_getElem? (i := 6) rfl), rin_16 _ (List.mem_of_getElem? (i := 7) rfl)⟩
theorem lk_RL_112 : LKV RL 112 mX10_unit := ⟨rin_16 _ (List.mem_of_getElem? (i := 22) rfl), rin_16 _ (List.mem_of_getElem? (i := 23) rfl), rin_17 _ (List.mem_of_getElem? (i := 0) rfl)⟩
theorem lk_RL_113 : LKV RL 113 mX9_messages := ⟨rin_17 _ (List.mem_of_getElem? (i := 2) rfl), rin_17 _ (List.mem_of_getElem? (i := 3) rfl), rin_17 _ (List.mem_of_getElem? (i := 4) rfl)⟩
theorem lk_RL_116 : LKV RL 116 mX10_messages := ⟨rin_17 _ (List.mem_of_getElem? (i := 7) rfl), rin_17 _ (List.mem_of_getElem? (i := 8) rfl), rin_17 _ (List.mem_of_getElem? (i := 9) rfl)⟩
theorem lk_RL_117 : LKS RL 117 mL_message := ⟨rin_17 _ (List.mem_of_getElem? (i := 11) rfl), rin_17 _ (List.mem_of_getElem? (i := 12) rfl)⟩
theorem lk_RL_119 : LKV RL 119 mX10_message := ⟨rin_18 _ (List.mem_of_getElem? (i := 18) rfl), rin_18 _ (List.mem_of_getElem? (i := 19) rfl), rin_18 _ (List.mem_of_getElem? (i := 20) rfl)⟩
theorem lk_RL_120 : LKS RL 120 mL_carry := ⟨rin_19 _ (List.mem_of_getElem? (i := 2) rfl), rin_19 _ (List.mem_of_getElem? (i := 3) rfl)⟩
theorem lk_RL_123 : LKV RL 123 mX10_carry := ⟨rin_24 _ (List.mem_of_getElem? (i := 14) rfl), rin_24 _ (List.mem_of_getElem? (i := 15) rfl), rin_24 _ (List.mem_of_getElem? (i := 16) rfl)⟩
theorem lk_RL_124 : LKS RL 124 mL_twice := ⟨rin_26 _ (List.mem_of_getElem? (i := 7) rfl), rin_26 _ (List.mem_of_getElem? (i := 8) rfl)⟩
theorem lk_RL_126 : LKV RL 126 mX10_twice := ⟨rin_26 _ (List.mem_of_getElem? (i := 14) rfl), rin_26 _ (List.mem_of_getElem? (i := 15) rfl), rin_26 _ (List.mem_of_getElem? (i := 16) rfl)⟩
theorem lk_RL_127 : LKS RL 127 mL_drop := ⟨rin_26 _ (List.mem_of_getElem? (i := 18) rfl), rin_26 _ (List.mem_of_getElem? (i := 19) rfl)⟩
theorem lk_RL_129 : LKV RL 129 mX10_drop := ⟨rin_27 _ (List.mem_of_getElem? (i := 1) rfl), rin_27 _ (List.mem_of_getElem? (i := 2) rfl), rin_27 _ (List.mem_of_getElem? (i := 3) rfl)⟩
theorem lk_RL_130 : LKS RL 130 mL_run := ⟨rin_27 _ (List.mem_of_getElem? (i := 5) rfl), rin_27 _ (List.mem_of_getElem? (i := 6) rfl)⟩
theorem lk_RL_133 : LKV RL 133 mX10_run := ⟨rin_27 _ (List.mem_of_getElem? (i := 12) rfl), rin_27 _ (List.mem_of_getElem? (i := 13) rfl), rin_27 _ (List.mem_of_getElem? (i := 14) rfl)⟩
theorem lk_RL_134 : LKV RL 134 mX9_tick := ⟨rin_27 _ (List.mem_of_getElem? (i := 16) rfl), rin_27 _ (List.mem_of_getElem? (i := 17) rfl), rin_27 _ (List.mem_of_getElem? (i := 18) rfl)⟩
theorem lk_RL_137 : LKV RL 137 mX10_tick := ⟨rin_29 _ (List.mem_of_getElem? (i := 7) rfl), rin_29 _ (List.mem_of_getElem? (i := 8) rfl), rin_29 _ (List.mem_of_getElem? (i := 9) rfl)⟩
theorem lk_RL_138 : LKS RL 138 mL_server := ⟨rin_29 _ (List.mem_of_getElem? (i := 19) rfl), rin_29 _ (List.mem_of_getElem? (i := 20) rfl)⟩
theorem lk_RL_140 : LKV RL 140 mX10_server := ⟨rin_30 _ (List.mem_of_getElem? (i := 6) rfl), rin_30 _ (List.mem_of_getElem? (i := 7) rfl), rin_30 _ (List.mem_of_getElem? (i := 8) rfl)⟩
theorem lk_RL_141 : LKS RL 141 mL_waiting := ⟨rin_30 _ (List.mem_of_getElem? (i := 10) rfl), rin_30 _ (List.mem_of_getElem? (i := 11) rfl)⟩
theorem lk_RL_143 : LKV RL 143 mX10_waiting := ⟨rin_30 _ (List.mem_of_getElem? (i := 19) rfl), rin_30 _ (List.mem_of_getElem? (i := 20) rfl), rin_30 _ (List.mem_of_getElem? (i := 21) rfl)⟩
theorem lk_RL_144 : LKS RL 144 mL_relay := ⟨rin_30 _ (List.mem_of_getElem? (i := 23) rfl), rin_31 _ (List.mem_of_getElem? (i := 0) rfl)⟩
theorem lk_RL_146 : LKV RL 146 mX10_relay := ⟨rin_31 _ (List.mem_of_getElem? (i := 10) rfl), rin_31 _ (List.mem_of_getElem? (i := 11) rfl), rin_31 _ (List.mem_of_getElem? (i := 12) rfl)⟩
theorem lk_RL_147 : LKS RL 147 mL_about := ⟨rin_31 _ (List.mem_of_getElem? (i := 14) rfl), rin_31 _ (List.mem_of_getElem? (i := 15) rfl)⟩
theorem lk_RL_149 : LKV RL 149 mX10_about := ⟨rin_32 _ (List.mem_of_getElem? (i := 7) rfl), rin_32 _ (List.mem_of_getElem? (i := 8) rfl), rin_32 _ (List.mem_of_getElem? (i := 9) rfl)⟩
theorem lk_RL_150 : LKV RL 150 mX9_lost := ⟨rin_32 _ (List.mem_of_getElem? (i := 15) rfl), rin_32 _ (List.mem_of_getElem? (i := 16) rfl), rin_32 _ (List.mem_of_getElem? (i := 17) rfl)⟩
theorem lk_RL_153 : LKV RL 153 mX10_lost := ⟨rin_32 _ (List.mem_of_getElem? (i := 20) rfl), rin_32 _ (List.mem_of_getElem? (i := 21) rfl), rin_32 _ (List.mem_of_getElem? (i := 22) rfl)⟩
theorem wo_RX9_1 : Cond.methodLink RX9 1 objectInit ∈ wsL_law := rin_1 _ (List.mem_of_getElem? (i := 10) rfl)
theorem wo_RX6_3 : Cond.methodLink RX6 3 objectInit ∈ wsL_law := rin_2 _ (List.mem_of_getElem? (i := 8) rfl)
theorem wo_RX5_1 : Cond.methodLink RX5 1 objectInit ∈ wsL_law := rin_2 _ (List.mem_of_getElem? (i := 17) rfl)
theorem wo_RX7_3 : Cond.methodLink RX7 3 objectInit ∈ wsL_law := rin_2 _ (List.mem_of_getElem? (i := 21) rfl)
theorem wo_RX4_3 : Cond.methodLink RX4 3 objectInit ∈ wsL_law := rin_3 _ (List.mem_of_getElem? (i := 6) rfl)
theorem wo_RX3_3 : Cond.methodLink RX3 3 objectInit ∈ wsL_law := rin_3 _ (List.mem_of_getElem? (i := 15) rfl)
theorem wo_RX1_3 : Cond.methodLink RX1 3 objectInit ∈ wsL_law := rin_3 _ (List.mem_of_getElem? (i := 20) rfl)
theorem wo_RX8_1 : Cond.methodLink RX8 1 objectInit ∈ wsL_law := rin_4 _ (List.mem_of_getElem? (i := 14) rfl)
theorem wo_RX0_1 : Cond.methodLink RX0 1 objectInit ∈ wsL_law := rin_4 _ (List.mem_of_getElem? (i := 20) rfl)
theorem wo_RX2_3 : Cond.methodLink RX2 3 objectInit ∈ wsL_law := rin_5 _ (List.mem_of_getElem? (i := 0) rfl)
theorem wo_RX10_1 : Cond.methodLink RX10 1 objectInit ∈ wsL_law := rin_5 _ (List.mem_of_getElem? (i := 7) rfl)
theorem wo_RX6_47 : Cond.methodLink RX6 47 arraycopyName ∈ wsL_law := rin_19 _ (List.mem_of_getElem? (i := 13) rfl)
theorem wo_in : Cond.instanceMethod objectInit ∈ wsL_law := rin_1 _ (List.mem_of_getElem? (i := 11) rfl)
theorem wo_co : Cond.code objectInit ⟨#[0xb1]⟩ 1 none ∈ wsL_law := rin_1 _ (List.mem_of_getElem? (i := 12) rfl)
theorem wo_nt : Cond.native arraycopyName ∈ wsL_law := rin_19 _ (List.mem_of_getElem? (i := 14) rfl)
theorem wo_st : Cond.static arraycopyName ∈ wsL_law := rin_19 _ (List.mem_of_getElem? (i := 15) rfl)
theorem wo_sy : Cond.initialized "java/lang/System" ∈ wsL_law := rin_19 _ (List.mem_of_getElem? (i := 16) rfl)
theorem wa_int : Cond.arrayClass .int ∈ wsL_law := rin_2 _ (List.mem_of_getElem? (i := 11) rfl)
theorem wa_boolean : Cond.arrayClass .boolean ∈ wsL_law := rin_5 _ (List.mem_of_getElem? (i := 9) rfl)
theorem wa_long : Cond.arrayClass .long ∈ wsL_law := rin_1 _ (List.mem_of_getElem? (i := 6) rfl)
abbrev nf_X8 : List Value := [.int 0, .int 0, .int 0, .int 0]
theorem nw_RX1_9 : NW RX1 9 8 nf_X8 := ⟨_, rfl, rin_3 _ (List.mem_of_getElem? (i := 21) rfl), rin_3 _ (List.mem_of_getElem? (i := 22) rfl), rin_3 _ (List.mem_of_getElem? (i := 23) rfl), rfl, tyX8, tyX8_ok, fun j hj base b => match j, hj with
  | 0, _ => rfl
  | 1, _ => rfl
  | 2, _ => rfl
  | 3, _ => rfl
  | n + 4, h => absurd (show n + 4 < 4 from h) (by omega)⟩
theorem wn_RX1_42 : Cond.classLink RX1 42 RX0 ∈ wsL_law := rin_4 _ (List.mem_of_getElem? (i := 8) rfl)
abbrev nf_X0 : List Value := [.int 0, .int 0, .int 0, .int 0]
theorem nw_RX1_42 : NW RX1 42 0 nf_X0 := ⟨_, rfl, rin_4 _ (List.mem_of_getElem? (i := 8) rfl), rin_4 _ (List.mem_of_getElem? (i := 10) rfl), rin_4 _ (List.mem_of_getElem? (i := 11) rfl), rfl, tyX0, tyX0_ok, fun j hj base b => match j, hj with
  | 0, _ => rfl
  | 1, _ => rfl
  | 2, _ => rfl
  | 3, _ => rfl
  | n + 4, h => absurd (show n + 4 < 4 from h) (by omega)⟩
abbrev nf_X3 : List Value := [.int 0, .int 0, .int 0, .int 0, .int 0, .int 0, .int 0, .int 0, .int 0, .int 0, .null]
theorem nw_RX4_18 : NW RX4 18 3 nf_X3 := ⟨_, rfl, rin_3 _ (List.mem_of_getElem? (i := 9) rfl), rin_3 _ (List.mem_of_getElem? (i := 10) rfl), rin_3 _ (List.mem_of_getElem? (i := 11) rfl), rfl, tyX3, tyX3_ok, fun j hj base b => match j, hj with
  | 0, _ => rfl
  | 1, _ => rfl
  | 2, _ => rfl
  | 3, _ => rfl
  | 4, _ => rfl
  | 5, _ => rfl
  | 6, _ => rfl
  | 7, _ => rfl
  | 8, _ => rfl
  | 9, _ => rfl
  | 10, _ => rfl
  | n + 11, h => absurd (show n + 11 < 11 from h) (by omega)⟩
theorem wn_RX6_11 : Cond.classLink RX6 11 RX5 ∈ wsL_law := rin_2 _ (List.mem_of_getElem? (i := 9) rfl)
abbrev nf_X5 : List Value := [.int 0, .int 0, .int 0, .int 0, .int 0, .int 0]
theorem nw_RX6_11 : NW RX6 11 5 nf_X5 := ⟨_, rfl, rin_2 _ (List.mem_of_getElem? (i := 9) rfl), rin_2 _ (List.mem_of_getElem? (i := 13) rfl), rin_2 _ (List.mem_of_getElem? (i := 14) rfl), rfl, tyX5, tyX5_ok, fun j hj base b => match j, hj with
  | 0, _ => rfl
  | 1, _ => rfl
  | 2, _ => rfl
  | 3, _ => rfl
  | 4, _ => rfl
  | 5, _ => rfl
  | n + 6, h => absurd (show n + 6 < 6 from h) (by omega)⟩
theorem wn_RX7_19 : Cond.classLink RX7 19 RX4 ∈ wsL_law := rin_3 _ (List.mem_of_getElem? (i := 0) rfl)
abbrev nf_X4 : List Value := [.int 0, .int 0, .int 0, .int 0, .int 0, .int 0, .int 0, .int 0, .int 0, .int 0, .null]
theorem nw_RX7_19 : NW RX7 19 4 nf_X4 := ⟨_, rfl, rin_3 _ (List.mem_of_getElem? (i := 0) rfl), rin_3 _ (List.mem_of_getElem? (i := 2) rfl), rin_3 _ (List.mem_of_getElem? (i := 3) rfl), rfl, tyX4, tyX4_ok, fun j hj base b => match j, hj with
  | 0, _ => rfl
  | 1, _ => rfl
  | 2, _ => rfl
  | 3, _ => rfl
  | 4, _ => rfl
  | 5, _ => rfl
  | 6, _ => rfl
  | 7, _ => rfl
  | 8, _ => rfl
  | 9, _ => rfl
  | 10, _ => rfl
  | n + 11, h => absurd (show n + 11 < 11 from h) (by omega)⟩
abbrev nf_X6 : List Value := [.null, .null, .int 0, .int 0]
theorem nw_RX9_7 : NW RX9 7 6 nf_X6 := ⟨_, rfl, rin_1 _ (List.mem_of_getElem? (i := 13) rfl), rin_1 _ (List.mem_of_getElem? (i := 14) rfl), rin_1 _ (List.mem_of_getElem? (i := 15) rfl), rfl, tyX6, tyX6_ok, fun j hj base b => match j, hj with
  | 0, _ => rfl
  | 1, _ => rfl
  | 2, _ => rfl
  | 3, _ => rfl
  | n + 4, h => absurd (show n + 4 < 4 from h) (by omega)⟩
theorem wn_RX9_16 : Cond.classLink RX9 16 RX7 ∈ wsL_law := rin_1 _ (List.mem_of_getElem? (i := 17) rfl)
theorem wn_RX9_22 : Cond.classLink RX9 22 RX1 ∈ wsL_law := rin_1 _ (List.mem_of_getElem? (i := 19) rfl)
theorem wn_RX9_28 : Cond.classLink RX9 28 RX2 ∈ wsL_law := rin_1 _ (List.mem_of_getElem? (i := 21) rfl)
abbrev nf_X7 : List Value := [.null, .int 0, .null]
theorem nw_RX9_16 : NW RX9 16 7 nf_X7 := ⟨_, rfl, rin_1 _ (List.mem_of_getElem? (i := 17) rfl), rin_1 _ (List.mem_of_getElem? (i := 23) rfl), rin_2 _ (List.mem_of_getElem? (i := 0) rfl), rfl, tyX7, tyX7_ok, fun j hj base b => match j, hj with
  | 0, _ => rfl
  | 1, _ => rfl
  | 2, _ => rfl
  | n + 3, h => absurd (show n + 3 < 3 from h) (by omega)⟩
abbrev nf_X1 : List Value := [.null, .null, .null, .null, .null, .int 0, .int 0, .int 0, .int 0, .int 0, .int 0]
theorem nw_RX9_22 : NW RX9 22 1 nf_X1 := ⟨_, rfl, rin_1 _ (List.mem_of_getElem? (i := 19) rfl), rin_2 _ (List.mem_of_getElem? (i := 1) rfl), rin_2 _ (List.mem_of_getElem? (i := 2) rfl), rfl, tyX1, tyX1_ok, fun j hj base b => match j, hj with
  | 0, _ => rfl
  | 1, _ => rfl
  | 2, _ => rfl
  | 3, _ => rfl
  | 4, _ => rfl
  | 5, _ => rfl
  | 6, _ => rfl
  | 7, _ => rfl
  | 8, _ => rfl
  | 9, _ => rfl
  | 10, _ => rfl
  | n + 11, h => absurd (show n + 11 < 11 from h) (by omega)⟩
abbrev nf_X2 : List Value := [.null, .null, .int 0, .int 0, .int 0, .int 0, .long 0]
theorem nw_RX9_28 : NW RX9 28 2 nf_X2 := ⟨_, rfl, rin_1 _ (List.mem_of_getElem? (i := 21) rfl), rin_2 _ (List.mem_of_getElem? (i := 3) rfl), rin_2 _ (List.mem_of_getElem? (i := 4) rfl), rfl, tyX2, tyX2_ok, fun j hj base b => match j, hj with
  | 0, _ => rfl
  | 1, _ => rfl
  | 2, _ => rfl
  | 3, _ => rfl
  | 4, _ => rfl
  | 5, _ => rfl
  | 6, _ => rfl
  | n + 7, h => absurd (show n + 7 < 7 from h) (by omega)⟩
abbrev nf_X9 : List Value := [.null, .null, .null, .null, .int 0]
theorem nw_RL_8 : NW RL 8 9 nf_X9 := ⟨_, rfl, rin_1 _ (List.mem_of_getElem? (i := 0) rfl), rin_1 _ (List.mem_of_getElem? (i := 1) rfl), rin_1 _ (List.mem_of_getElem? (i := 2) rfl), rfl, tyX9, tyX9_ok, fun j hj base b => match j, hj with
  | 0, _ => rfl
  | 1, _ => rfl
  | 2, _ => rfl
  | 3, _ => rfl
  | 4, _ => rfl
  | n + 5, h => absurd (show n + 5 < 5 from h) (by omega)⟩
abbrev nf_X10 : List Value := [.int 0, .int 0, .int 0, .int 0, .null, .null, .null, .null, .null, .null, .null, .null, .null, .null, .null, .null, .null, .null, .null, .null, .null, .null, .null, .null, .null, .null, .null, .null, .null, .null, .null, .null, .null, .null, .null, .null, .null, .null, .null, .int 0, .null, .null, .null, .null, .null, .null, .null, .null, .null, .null]
theorem nw_RL_77 : NW RL 77 10 nf_X10 := ⟨_, rfl, rin_1 _ (List.mem_of_getElem? (i := 3) rfl), rin_1 _ (List.mem_of_getElem? (i := 4) rfl), rin_1 _ (List.mem_of_getElem? (i := 5) rfl), rfl, tyX10, tyX10_ok, fun j hj base b => match j, hj with
  | 0, _ => rfl
  | 1, _ => rfl
  | 2, _ => rfl
  | 3, _ => rfl
  | 4, _ => rfl
  | 5, _ => rfl
  | 6, _ => rfl
  | 7, _ => rfl
  | 8, _ => rfl
  | 9, _ => rfl
  | 10, _ => rfl
  | 11, _ => rfl
  | 12, _ => rfl
  | 13, _ => rfl
  | 14, _ => rfl
  | 15, _ => rfl
  | 16, _ => rfl
  | 17, _ => rfl
  | 18, _ => rfl
  | 19, _ => rfl
  | 20, _ => rfl
  | 21, _ => rfl
  | 22, _ => rfl
  | 23, _ => rfl
  | 24, _ => rfl
  | 25, _ => rfl
  | 26, _ => rfl
  | 27, _ => rfl
  | 28, _ => rfl
  | 29, _ => rfl
  | 30, _ => rfl
  | 31, _ => rfl
  | 32, _ => rfl
  | 33, _ => rfl
  | 34, _ => rfl
  | 35, _ => rfl
  | 36, _ => rfl
  | 37, _ => rfl
  | 38, _ => rfl
  | 39, _ => rfl
  | 40, _ => rfl
  | 41, _ => rfl
  | 42, _ => rfl
  | 43, _ => rfl
  | 44, _ => rfl
  | 45, _ => rfl
  | 46, _ => rfl
  | 47, _ => rfl
  | 48, _ => rfl
  | 49, _ => rfl
  | n + 50, h => absurd (show n + 50 < 50 from h) (by omega)⟩
theorem th_eN : TH RX9 217 219 eN := ⟨by decide +kernel, rin_7 _ (List.mem_of_getElem? (i := 20) rfl), rin_7 _ (List.mem_of_getElem? (i := 21) rfl), fun w h => (List.mem_append_left _ (List.mem_append_left _ (List.mem_append_left _ (List.mem_append_left _ (List.mem_append_right _ h))))), by decide +kernel, by decide +kernel⟩
theorem th_eA : TH RX9 220 222 eA := ⟨by decide +kernel, rin_8 _ (List.mem_of_getElem? (i := 1) rfl), rin_8 _ (List.mem_of_getElem? (i := 2) rfl), fun w h => (List.mem_append_left _ (List.mem_append_left _ (List.mem_append_left _ (List.mem_append_right _ h)))), by decide +kernel, by decide +kernel⟩
theorem th_eS : TH RX9 226 228 eS := ⟨by decide +kernel, rin_14 _ (List.mem_of_getElem? (i := 13) rfl), rin_14 _ (List.mem_of_getElem? (i := 14) rfl), fun w h => (List.mem_append_left _ (List.mem_append_left _ (List.mem_append_right _ h))), by decide +kernel, by decide +kernel⟩
theorem th_eU : TH RX9 119 121 eU := ⟨by decide +kernel, rin_16 _ (List.mem_of_getElem? (i := 14) rfl), rin_16 _ (List.mem_of_getElem? (i := 15) rfl), fun w h => (List.mem_append_left _ (List.mem_append_right _ h)), by decide +kernel, by decide +kernel⟩
theorem th_eI : TH RX9 223 225 eI := ⟨by decide +kernel, rin_18 _ (List.mem_of_getElem? (i := 2) rfl), rin_18 _ (List.mem_of_getElem? (i := 3) rfl), fun w h => (List.mem_append_right _ h), by decide +kernel, by decide +kernel⟩
theorem wc_13 : Cond.classLink RL 13 "java/util/NoSuchElementException" ∈ wsL_law := rin_7 _ (List.mem_of_getElem? (i := 10) rfl)
theorem wc_15 : Cond.classLink RL 15 "java/lang/IllegalArgumentException" ∈ wsL_law := rin_7 _ (List.mem_of_getElem? (i := 11) rfl)
theorem wc_29 : Cond.classLink RL 29 "java/lang/IllegalStateException" ∈ wsL_law := rin_13 _ (List.mem_of_getElem? (i := 22) rfl)
theorem wc_42 : Cond.classLink RL 42 "java/lang/UnsupportedOperationException" ∈ wsL_law := rin_16 _ (List.mem_of_getElem? (i := 9) rfl)
theorem wc_48 : Cond.classLink RL 48 "java/lang/IndexOutOfBoundsException" ∈ wsL_law := rin_17 _ (List.mem_of_getElem? (i := 14) rfl)
end
