section
-- ===== PART A: goes FIRST, ahead of the names: the tables' words, and 'selects' of the private methods out of them =====
/-- a private method of a class that the tables say can be made, by its rows of tables_1 -/
def lw_okq (q : MethodName × Nat) : Prop := (q.1.cls ≠ "java/lang/invoke/MethodHandle" ∧ q.1.cls ≠ "java/lang/invoke/VarHandle") ∧ Cond.instantiable q.1.cls q.2 ∈ tables_1 ∧ Cond.privateMethod q.1 ∈ tables_1 ∧ Cond.instanceMethod q.1 ∈ tables_1
theorem lw_p0 : lw_okq (⟨"CadenceDesk$Tape", "byteAt", "(I)I"⟩, 7) := ⟨⟨by decide +kernel, by decide +kernel⟩, List.mem_of_getElem? (i := 38) (by decide +kernel), List.mem_of_getElem? (i := 390) (by decide +kernel), List.mem_of_getElem? (i := 391) (by decide +kernel)⟩
theorem lw_p1 : lw_okq (⟨"CadenceDesk$Tape", "passWord", "()V"⟩, 7) := ⟨⟨by decide +kernel, by decide +kernel⟩, List.mem_of_getElem? (i := 38) (by decide +kernel), List.mem_of_getElem? (i := 400) (by decide +kernel), List.mem_of_getElem? (i := 401) (by decide +kernel)⟩
theorem lw_p2 : lw_okq (⟨"CadenceDesk$Tape", "passNumber", "()V"⟩, 7) := ⟨⟨by decide +kernel, by decide +kernel⟩, List.mem_of_getElem? (i := 38) (by decide +kernel), List.mem_of_getElem? (i := 407) (by decide +kernel), List.mem_of_getElem? (i := 408) (by decide +kernel)⟩
theorem lw_p3 : lw_okq (⟨"CadenceDesk$Telling", "takeWord", "(Ljava/lang/String;)Z"⟩, 6) := ⟨⟨by decide +kernel, by decide +kernel⟩, List.mem_of_getElem? (i := 32) (by decide +kernel), List.mem_of_getElem? (i := 412) (by decide +kernel), List.mem_of_getElem? (i := 413) (by decide +kernel)⟩
theorem lw_p4 : lw_okq (⟨"CadenceDesk$Telling", "refuse", "(I)Z"⟩, 6) := ⟨⟨by decide +kernel, by decide +kernel⟩, List.mem_of_getElem? (i := 32) (by decide +kernel), List.mem_of_getElem? (i := 468) (by decide +kernel), List.mem_of_getElem? (i := 469) (by decide +kernel)⟩
theorem lw_p5 : lw_okq (⟨"CadenceDesk$Telling", "takeNumber", "(II)Z"⟩, 6) := ⟨⟨by decide +kernel, by decide +kernel⟩, List.mem_of_getElem? (i := 32) (by decide +kernel), List.mem_of_getElem? (i := 477) (by decide +kernel), List.mem_of_getElem? (i := 478) (by decide +kernel)⟩
theorem lw_p6 : lw_okq (⟨"CadenceDesk$Telling", "isNumberWithin", "(II)Z"⟩, 6) := ⟨⟨by decide +kernel, by decide +kernel⟩, List.mem_of_getElem? (i := 32) (by decide +kernel), List.mem_of_getElem? (i := 481) (by decide +kernel), List.mem_of_getElem? (i := 482) (by decide +kernel)⟩
theorem lw_p7 : lw_okq (⟨"CadenceDesk$Telling", "takeSemicolon", "()Z"⟩, 6) := ⟨⟨by decide +kernel, by decide +kernel⟩, List.mem_of_getElem? (i := 32) (by decide +kernel), List.mem_of_getElem? (i := 497) (by decide +kernel), List.mem_of_getElem? (i := 498) (by decide +kernel)⟩
theorem lw_p8 : lw_okq (⟨"CadenceDesk$Telling", "readFrame", "(I)Z"⟩, 6) := ⟨⟨by decide +kernel, by decide +kernel⟩, List.mem_of_getElem? (i := 32) (by decide +kernel), List.mem_of_getElem? (i := 501) (by decide +kernel), List.mem_of_getElem? (i := 502) (by decide +kernel)⟩
theorem lw_p9 : lw_okq (⟨"CadenceDesk", "forgetPaths", "()V"⟩, 12) := ⟨⟨by decide +kernel, by decide +kernel⟩, List.mem_of_getElem? (i := 24) (by decide +kernel), List.mem_of_getElem? (i := 553) (by decide +kernel), List.mem_of_getElem? (i := 554) (by decide +kernel)⟩
theorem lw_p10 : lw_okq (⟨"CadenceDesk$Telling", "readCadence", "()Z"⟩, 6) := ⟨⟨by decide +kernel, by decide +kernel⟩, List.mem_of_getElem? (i := 32) (by decide +kernel), List.mem_of_getElem? (i := 580) (by decide +kernel), List.mem_of_getElem? (i := 581) (by decide +kernel)⟩
theorem lw_p11 : lw_okq (⟨"CadenceDesk$Telling", "valueTold", "()I"⟩, 6) := ⟨⟨by decide +kernel, by decide +kernel⟩, List.mem_of_getElem? (i := 32) (by decide +kernel), List.mem_of_getElem? (i := 586) (by decide +kernel), List.mem_of_getElem? (i := 587) (by decide +kernel)⟩
theorem lw_p12 : lw_okq (⟨"CadenceDesk$Telling", "readValue", "(I)Z"⟩, 6) := ⟨⟨by decide +kernel, by decide +kernel⟩, List.mem_of_getElem? (i := 32) (by decide +kernel), List.mem_of_getElem? (i := 595) (by decide +kernel), List.mem_of_getElem? (i := 596) (by decide +kernel)⟩
theorem lw_p13 : lw_okq (⟨"CadenceDesk$Telling", "takeMeasure", "()Z"⟩, 6) := ⟨⟨by decide +kernel, by decide +kernel⟩, List.mem_of_getElem? (i := 32) (by decide +kernel), List.mem_of_getElem? (i := 599) (by decide +kernel), List.mem_of_getElem? (i := 600) (by decide +kernel)⟩
theorem lw_p14 : lw_okq (⟨"CadenceDesk", "sampleOfFrame", "(LCadenceDesk$Frames;III)I"⟩, 12) := ⟨⟨by decide +kernel, by decide +kernel⟩, List.mem_of_getElem? (i := 24) (by decide +kernel), List.mem_of_getElem? (i := 626) (by decide +kernel), List.mem_of_getElem? (i := 627) (by decide +kernel)⟩
theorem lw_p15 : lw_okq (⟨"CadenceDesk", "isSampleNumber", "(I)Z"⟩, 12) := ⟨⟨by decide +kernel, by decide +kernel⟩, List.mem_of_getElem? (i := 24) (by decide +kernel), List.mem_of_getElem? (i := 634) (by decide +kernel), List.mem_of_getElem? (i := 635) (by decide +kernel)⟩
def lw_privs_1 : List (MethodName × Nat) := [(⟨"CadenceDesk$Tape", "byteAt", "(I)I"⟩, 7), (⟨"CadenceDesk$Tape", "passWord", "()V"⟩, 7), (⟨"CadenceDesk$Tape", "passNumber", "()V"⟩, 7), (⟨"CadenceDesk$Telling", "takeWord", "(Ljava/lang/String;)Z"⟩, 6), (⟨"CadenceDesk$Telling", "refuse", "(I)Z"⟩, 6), (⟨"CadenceDesk$Telling", "takeNumber", "(II)Z"⟩, 6), (⟨"CadenceDesk$Telling", "isNumberWithin", "(II)Z"⟩, 6), (⟨"CadenceDesk$Telling", "takeSemicolon", "()Z"⟩, 6), (⟨"CadenceDesk$Telling", "readFrame", "(I)Z"⟩, 6), (⟨"CadenceDesk", "forgetPaths", "()V"⟩, 12), (⟨"CadenceDesk$Telling", "readCadence", "()Z"⟩, 6), (⟨"CadenceDesk$Telling", "valueTold", "()I"⟩, 6), (⟨"CadenceDesk$Telling", "readValue", "(I)Z"⟩, 6), (⟨"CadenceDesk$Telling", "takeMeasure", "()Z"⟩, 6), (⟨"CadenceDesk", "sampleOfFrame", "(LCadenceDesk$Frames;III)I"⟩, 12), (⟨"CadenceDesk", "isSampleNumber", "(I)Z"⟩, 12)]
theorem lw_r1 : ∀ q ∈ lw_privs_1, lw_okq q := List.forall_mem_cons.mpr ⟨lw_p0, List.forall_mem_cons.mpr ⟨lw_p1, List.forall_mem_cons.mpr ⟨lw_p2, List.forall_mem_cons.mpr ⟨lw_p3, List.forall_mem_cons.mpr ⟨lw_p4, List.forall_mem_cons.mpr ⟨lw_p5, List.forall_mem_cons.mpr ⟨lw_p6, List.forall_mem_cons.mpr ⟨lw_p7, List.forall_mem_cons.mpr ⟨lw_p8, List.forall_mem_cons.mpr ⟨lw_p9, List.forall_mem_cons.mpr ⟨lw_p10, List.forall_mem_cons.mpr ⟨lw_p11, List.forall_mem_cons.mpr ⟨lw_p12, List.forall_mem_cons.mpr ⟨lw_p13, List.forall_mem_cons.mpr ⟨lw_p14, List.forall_mem_cons.mpr ⟨lw_p15, fun _ h => absurd h List.not_mem_nil⟩⟩⟩⟩⟩⟩⟩⟩⟩⟩⟩⟩⟩⟩⟩⟩
theorem lw_p16 : lw_okq (⟨"CadenceDesk", "beginAct", "()V"⟩, 12) := ⟨⟨by decide +kernel, by decide +kernel⟩, List.mem_of_getElem? (i := 24) (by decide +kernel), List.mem_of_getElem? (i := 674) (by decide +kernel), List.mem_of_getElem? (i := 675) (by decide +kernel)⟩
theorem lw_p17 : lw_okq (⟨"CadenceDesk$Reel", "addField", "(JI)V"⟩, 2) := ⟨⟨by decide +kernel, by decide +kernel⟩, List.mem_of_getElem? (i := 144) (by decide +kernel), List.mem_of_getElem? (i := 693) (by decide +kernel), List.mem_of_getElem? (i := 694) (by decide +kernel)⟩
theorem lw_p18 : lw_okq (⟨"CadenceDesk", "followPath", "()V"⟩, 12) := ⟨⟨by decide +kernel, by decide +kernel⟩, List.mem_of_getElem? (i := 24) (by decide +kernel), List.mem_of_getElem? (i := 792) (by decide +kernel), List.mem_of_getElem? (i := 793) (by decide +kernel)⟩
theorem lw_p19 : lw_okq (⟨"CadenceDesk$States", "addPlace", "(IIZ)V"⟩, 5) := ⟨⟨by decide +kernel, by decide +kernel⟩, List.mem_of_getElem? (i := 184) (by decide +kernel), List.mem_of_getElem? (i := 806) (by decide +kernel), List.mem_of_getElem? (i := 807) (by decide +kernel)⟩
theorem lw_p20 : lw_okq (⟨"CadenceDesk$States", "addState", "(IIII)V"⟩, 5) := ⟨⟨by decide +kernel, by decide +kernel⟩, List.mem_of_getElem? (i := 184) (by decide +kernel), List.mem_of_getElem? (i := 813) (by decide +kernel), List.mem_of_getElem? (i := 814) (by decide +kernel)⟩
theorem lw_p21 : lw_okq (⟨"CadenceDesk$Finder", "weighStates", "(LCadenceDesk$Reel;LCadenceDesk$Rules;I)V"⟩, 10) := ⟨⟨by decide +kernel, by decide +kernel⟩, List.mem_of_getElem? (i := 178) (by decide +kernel), List.mem_of_getElem? (i := 818) (by decide +kernel), List.mem_of_getElem? (i := 819) (by decide +kernel)⟩
theorem lw_p22 : lw_okq (⟨"CadenceDesk$States", "has", "(I)Z"⟩, 5) := ⟨⟨by decide +kernel, by decide +kernel⟩, List.mem_of_getElem? (i := 184) (by decide +kernel), List.mem_of_getElem? (i := 851) (by decide +kernel), List.mem_of_getElem? (i := 852) (by decide +kernel)⟩
theorem lw_p23 : lw_okq (⟨"CadenceDesk$Finder", "isBetterOn", "(III)Z"⟩, 10) := ⟨⟨by decide +kernel, by decide +kernel⟩, List.mem_of_getElem? (i := 178) (by decide +kernel), List.mem_of_getElem? (i := 855) (by decide +kernel), List.mem_of_getElem? (i := 856) (by decide +kernel)⟩
theorem lw_p24 : lw_okq (⟨"CadenceDesk$Finder", "leastEntry", "()I"⟩, 10) := ⟨⟨by decide +kernel, by decide +kernel⟩, List.mem_of_getElem? (i := 178) (by decide +kernel), List.mem_of_getElem? (i := 867) (by decide +kernel), List.mem_of_getElem? (i := 868) (by decide +kernel)⟩
theorem lw_p25 : lw_okq (⟨"CadenceDesk$Track", "addField", "(LCadenceDesk$States;IZ)V"⟩, 10) := ⟨⟨by decide +kernel, by decide +kernel⟩, List.mem_of_getElem? (i := 238) (by decide +kernel), List.mem_of_getElem? (i := 895) (by decide +kernel), List.mem_of_getElem? (i := 896) (by decide +kernel)⟩
theorem lw_p26 : lw_okq (⟨"CadenceDesk$Track", "putPrice", "(LCadenceDesk$Reel;LCadenceDesk$Rules;I)V"⟩, 10) := ⟨⟨by decide +kernel, by decide +kernel⟩, List.mem_of_getElem? (i := 238) (by decide +kernel), List.mem_of_getElem? (i := 902) (by decide +kernel), List.mem_of_getElem? (i := 903) (by decide +kernel)⟩
theorem lw_p27 : lw_okq (⟨"CadenceDesk$Track", "has", "(I)Z"⟩, 10) := ⟨⟨by decide +kernel, by decide +kernel⟩, List.mem_of_getElem? (i := 238) (by decide +kernel), List.mem_of_getElem? (i := 906) (by decide +kernel), List.mem_of_getElem? (i := 907) (by decide +kernel)⟩
theorem lw_p28 : lw_okq (⟨"CadenceDesk$Groups", "addField", "(IZ)V"⟩, 9) := ⟨⟨by decide +kernel, by decide +kernel⟩, List.mem_of_getElem? (i := 275) (by decide +kernel), List.mem_of_getElem? (i := 926) (by decide +kernel), List.mem_of_getElem? (i := 927) (by decide +kernel)⟩
theorem lw_p29 : lw_okq (⟨"CadenceDesk$Groups", "mateOrphans", "(LCadenceDesk$Reel;LCadenceDesk$Rules;)V"⟩, 9) := ⟨⟨by decide +kernel, by decide +kernel⟩, List.mem_of_getElem? (i := 275) (by decide +kernel), List.mem_of_getElem? (i := 930) (by decide +kernel), List.mem_of_getElem? (i := 931) (by decide +kernel)⟩
theorem lw_p30 : lw_okq (⟨"CadenceDesk$Groups", "canMate", "(ILCadenceDesk$Reel;LCadenceDesk$Rules;)Z"⟩, 9) := ⟨⟨by decide +kernel, by decide +kernel⟩, List.mem_of_getElem? (i := 275) (by decide +kernel), List.mem_of_getElem? (i := 942) (by decide +kernel), List.mem_of_getElem? (i := 943) (by decide +kernel)⟩
theorem lw_p31 : lw_okq (⟨"CadenceDesk$Groups", "rebuildFrames", "(LCadenceDesk$Reel;)V"⟩, 9) := ⟨⟨by decide +kernel, by decide +kernel⟩, List.mem_of_getElem? (i := 275) (by decide +kernel), List.mem_of_getElem? (i := 950) (by decide +kernel), List.mem_of_getElem? (i := 951) (by decide +kernel)⟩
def lw_privs_2 : List (MethodName × Nat) := [(⟨"CadenceDesk", "beginAct", "()V"⟩, 12), (⟨"CadenceDesk$Reel", "addField", "(JI)V"⟩, 2), (⟨"CadenceDesk", "followPath", "()V"⟩, 12), (⟨"CadenceDesk$States", "addPlace", "(IIZ)V"⟩, 5), (⟨"CadenceDesk$States", "addState", "(IIII)V"⟩, 5), (⟨"CadenceDesk$Finder", "weighStates", "(LCadenceDesk$Reel;LCadenceDesk$Rules;I)V"⟩, 10), (⟨"CadenceDesk$States", "has", "(I)Z"⟩, 5), (⟨"CadenceDesk$Finder", "isBetterOn", "(III)Z"⟩, 10), (⟨"CadenceDesk$Finder", "leastEntry", "()I"⟩, 10), (⟨"CadenceDesk$Track", "addField", "(LCadenceDesk$States;IZ)V"⟩, 10), (⟨"CadenceDesk$Track", "putPrice", "(LCadenceDesk$Reel;LCadenceDesk$Rules;I)V"⟩, 10), (⟨"CadenceDesk$Track", "has", "(I)Z"⟩, 10), (⟨"CadenceDesk$Groups", "addField", "(IZ)V"⟩, 9), (⟨"CadenceDesk$Groups", "mateOrphans", "(LCadenceDesk$Reel;LCadenceDesk$Rules;)V"⟩, 9), (⟨"CadenceDesk$Groups", "canMate", "(ILCadenceDesk$Reel;LCadenceDesk$Rules;)Z"⟩, 9), (⟨"CadenceDesk$Groups", "rebuildFrames", "(LCadenceDesk$Reel;)V"⟩, 9)]
theorem lw_r2 : ∀ q ∈ lw_privs_2, lw_okq q := List.forall_mem_cons.mpr ⟨lw_p16, List.forall_mem_cons.mpr ⟨lw_p17, List.forall_mem_cons.mpr ⟨lw_p18, List.forall_mem_cons.mpr ⟨lw_p19, List.forall_mem_cons.mpr ⟨lw_p20, List.forall_mem_cons.mpr ⟨lw_p21, List.forall_mem_cons.mpr ⟨lw_p22, List.forall_mem_cons.mpr ⟨lw_p23, List.forall_mem_cons.mpr ⟨lw_p24, List.forall_mem_cons.mpr ⟨lw_p25, List.forall_mem_cons.mpr ⟨lw_p26, List.forall_mem_cons.mpr ⟨lw_p27, List.forall_mem_cons.mpr ⟨lw_p28, List.forall_mem_cons.mpr ⟨lw_p29, List.forall_mem_cons.mpr ⟨lw_p30, List.forall_mem_cons.mpr ⟨lw_p31, fun _ h => absurd h List.not_mem_nil⟩⟩⟩⟩⟩⟩⟩⟩⟩⟩⟩⟩⟩⟩⟩⟩
theorem lw_p32 : lw_okq (⟨"CadenceDesk$Groups", "partner", "(I)I"⟩, 9) := ⟨⟨by decide +kernel, by decide +kernel⟩, List.mem_of_getElem? (i := 275) (by decide +kernel), List.mem_of_getElem? (i := 955) (by decide +kernel), List.mem_of_getElem? (i := 956) (by decide +kernel)⟩
theorem lw_p33 : lw_okq (⟨"CadenceDesk$Groups", "addFrame", "(LCadenceDesk$Reel;II)V"⟩, 9) := ⟨⟨by decide +kernel, by decide +kernel⟩, List.mem_of_getElem? (i := 275) (by decide +kernel), List.mem_of_getElem? (i := 959) (by decide +kernel), List.mem_of_getElem? (i := 960) (by decide +kernel)⟩
theorem lw_p34 : lw_okq (⟨"CadenceDesk", "mostInOrder", "(LCadenceDesk$Frames;)I"⟩, 12) := ⟨⟨by decide +kernel, by decide +kernel⟩, List.mem_of_getElem? (i := 24) (by decide +kernel), List.mem_of_getElem? (i := 1065) (by decide +kernel), List.mem_of_getElem? (i := 1066) (by decide +kernel)⟩
theorem lw_p35 : lw_okq (⟨"java/lang/Throwable", "fillInStackTrace", "(I)Ljava/lang/Throwable;"⟩, 6) := ⟨⟨by decide +kernel, by decide +kernel⟩, List.mem_of_getElem? (i := 1153) (by decide +kernel), List.mem_of_getElem? (i := 1151) (by decide +kernel), List.mem_of_getElem? (i := 1152) (by decide +kernel)⟩
theorem lw_p36 : lw_okq (⟨"CadenceDeskModel", "asAtFirst", "(I)V"⟩, 53) := ⟨⟨by decide +kernel, by decide +kernel⟩, List.mem_of_getElem? (i := 1183) (by decide +kernel), List.mem_of_getElem? (i := 1189) (by decide +kernel), List.mem_of_getElem? (i := 1190) (by decide +kernel)⟩
theorem lw_p37 : lw_okq (⟨"CadenceDeskModel", "puts", "(I)V"⟩, 53) := ⟨⟨by decide +kernel, by decide +kernel⟩, List.mem_of_getElem? (i := 1183) (by decide +kernel), List.mem_of_getElem? (i := 1361) (by decide +kernel), List.mem_of_getElem? (i := 1362) (by decide +kernel)⟩
theorem lw_p38 : lw_okq (⟨"CadenceDeskModel", "begins", "(I)V"⟩, 53) := ⟨⟨by decide +kernel, by decide +kernel⟩, List.mem_of_getElem? (i := 1183) (by decide +kernel), List.mem_of_getElem? (i := 1372) (by decide +kernel), List.mem_of_getElem? (i := 1373) (by decide +kernel)⟩
theorem lw_p39 : lw_okq (⟨"CadenceDeskModel", "steps", "()V"⟩, 53) := ⟨⟨by decide +kernel, by decide +kernel⟩, List.mem_of_getElem? (i := 1183) (by decide +kernel), List.mem_of_getElem? (i := 1376) (by decide +kernel), List.mem_of_getElem? (i := 1377) (by decide +kernel)⟩
theorem lw_p40 : lw_okq (⟨"CadenceDeskModel", "see", "(I)I"⟩, 53) := ⟨⟨by decide +kernel, by decide +kernel⟩, List.mem_of_getElem? (i := 1183) (by decide +kernel), List.mem_of_getElem? (i := 1380) (by decide +kernel), List.mem_of_getElem? (i := 1381) (by decide +kernel)⟩
theorem lw_p41 : lw_okq (⟨"CadenceDeskModel", "readsFilm", "()Z"⟩, 53) := ⟨⟨by decide +kernel, by decide +kernel⟩, List.mem_of_getElem? (i := 1183) (by decide +kernel), List.mem_of_getElem? (i := 1388) (by decide +kernel), List.mem_of_getElem? (i := 1389) (by decide +kernel)⟩
theorem lw_p42 : lw_okq (⟨"CadenceDeskModel", "isWord", "(IIIIIII)Z"⟩, 53) := ⟨⟨by decide +kernel, by decide +kernel⟩, List.mem_of_getElem? (i := 1183) (by decide +kernel), List.mem_of_getElem? (i := 1392) (by decide +kernel), List.mem_of_getElem? (i := 1393) (by decide +kernel)⟩
theorem lw_p43 : lw_okq (⟨"CadenceDeskModel", "must", "(ZI)Z"⟩, 53) := ⟨⟨by decide +kernel, by decide +kernel⟩, List.mem_of_getElem? (i := 1183) (by decide +kernel), List.mem_of_getElem? (i := 1396) (by decide +kernel), List.mem_of_getElem? (i := 1397) (by decide +kernel)⟩
theorem lw_p44 : lw_okq (⟨"CadenceDeskModel", "takesNumber", "(II)Z"⟩, 53) := ⟨⟨by decide +kernel, by decide +kernel⟩, List.mem_of_getElem? (i := 1183) (by decide +kernel), List.mem_of_getElem? (i := 1400) (by decide +kernel), List.mem_of_getElem? (i := 1401) (by decide +kernel)⟩
theorem lw_p45 : lw_okq (⟨"CadenceDeskModel", "takesEnd", "()Z"⟩, 53) := ⟨⟨by decide +kernel, by decide +kernel⟩, List.mem_of_getElem? (i := 1183) (by decide +kernel), List.mem_of_getElem? (i := 1404) (by decide +kernel), List.mem_of_getElem? (i := 1405) (by decide +kernel)⟩
theorem lw_p46 : lw_okq (⟨"CadenceDeskModel", "frameHere", "()Z"⟩, 53) := ⟨⟨by decide +kernel, by decide +kernel⟩, List.mem_of_getElem? (i := 1183) (by decide +kernel), List.mem_of_getElem? (i := 1408) (by decide +kernel), List.mem_of_getElem? (i := 1409) (by decide +kernel)⟩
theorem lw_p47 : lw_okq (⟨"CadenceDeskModel", "isFrame", "()Z"⟩, 53) := ⟨⟨by decide +kernel, by decide +kernel⟩, List.mem_of_getElem? (i := 1183) (by decide +kernel), List.mem_of_getElem? (i := 1412) (by decide +kernel), List.mem_of_getElem? (i := 1413) (by decide +kernel)⟩
def lw_privs_3 : List (MethodName × Nat) := [(⟨"CadenceDesk$Groups", "partner", "(I)I"⟩, 9), (⟨"CadenceDesk$Groups", "addFrame", "(LCadenceDesk$Reel;II)V"⟩, 9), (⟨"CadenceDesk", "mostInOrder", "(LCadenceDesk$Frames;)I"⟩, 12), (⟨"java/lang/Throwable", "fillInStackTrace", "(I)Ljava/lang/Throwable;"⟩, 6), (⟨"CadenceDeskModel", "asAtFirst", "(I)V"⟩, 53), (⟨"CadenceDeskModel", "puts", "(I)V"⟩, 53), (⟨"CadenceDeskModel", "begins", "(I)V"⟩, 53), (⟨"CadenceDeskModel", "steps", "()V"⟩, 53), (⟨"CadenceDeskModel", "see", "(I)I"⟩, 53), (⟨"CadenceDeskModel", "readsFilm", "()Z"⟩, 53), (⟨"CadenceDeskModel", "isWord", "(IIIIIII)Z"⟩, 53), (⟨"CadenceDeskModel", "must", "(ZI)Z"⟩, 53), (⟨"CadenceDeskModel", "takesNumber", "(II)Z"⟩, 53), (⟨"CadenceDeskModel", "takesEnd", "()Z"⟩, 53), (⟨"CadenceDeskModel", "frameHere", "()Z"⟩, 53), (⟨"CadenceDeskModel", "isFrame", "()Z"⟩, 53)]
theorem lw_r3 : ∀ q ∈ lw_privs_3, lw_okq q := List.forall_mem_cons.mpr ⟨lw_p32, List.forall_mem_cons.mpr ⟨lw_p33, List.forall_mem_cons.mpr ⟨lw_p34, List.forall_mem_cons.mpr ⟨lw_p35, List.forall_mem_cons.mpr ⟨lw_p36, List.forall_mem_cons.mpr ⟨lw_p37, List.forall_mem_cons.mpr ⟨lw_p38, List.forall_mem_cons.mpr ⟨lw_p39, List.forall_mem_cons.mpr ⟨lw_p40, List.forall_mem_cons.mpr ⟨lw_p41, List.forall_mem_cons.mpr ⟨lw_p42, List.forall_mem_cons.mpr ⟨lw_p43, List.forall_mem_cons.mpr ⟨lw_p44, List.forall_mem_cons.mpr ⟨lw_p45, List.forall_mem_cons.mpr ⟨lw_p46, List.forall_mem_cons.mpr ⟨lw_p47, fun _ h => absurd h List.not_mem_nil⟩⟩⟩⟩⟩⟩⟩⟩⟩⟩⟩⟩⟩⟩⟩⟩
theorem lw_p48 : lw_okq (⟨"CadenceDeskModel", "told", "()I"⟩, 53) := ⟨⟨by decide +kernel, by decide +kernel⟩, List.mem_of_getElem? (i := 1183) (by decide +kernel), List.mem_of_getElem? (i := 1419) (by decide +kernel), List.mem_of_getElem? (i := 1420) (by decide +kernel)⟩
theorem lw_p49 : lw_okq (⟨"CadenceDeskModel", "readsRules", "()Z"⟩, 53) := ⟨⟨by decide +kernel, by decide +kernel⟩, List.mem_of_getElem? (i := 1183) (by decide +kernel), List.mem_of_getElem? (i := 1427) (by decide +kernel), List.mem_of_getElem? (i := 1428) (by decide +kernel)⟩
theorem lw_p50 : lw_okq (⟨"CadenceDeskModel", "lineHere", "()Z"⟩, 53) := ⟨⟨by decide +kernel, by decide +kernel⟩, List.mem_of_getElem? (i := 1183) (by decide +kernel), List.mem_of_getElem? (i := 1431) (by decide +kernel), List.mem_of_getElem? (i := 1432) (by decide +kernel)⟩
theorem lw_p51 : lw_okq (⟨"CadenceDeskModel", "cadenceHere", "()Z"⟩, 53) := ⟨⟨by decide +kernel, by decide +kernel⟩, List.mem_of_getElem? (i := 1183) (by decide +kernel), List.mem_of_getElem? (i := 1435) (by decide +kernel), List.mem_of_getElem? (i := 1436) (by decide +kernel)⟩
theorem lw_p52 : lw_okq (⟨"CadenceDeskModel", "ruleHere", "()I"⟩, 53) := ⟨⟨by decide +kernel, by decide +kernel⟩, List.mem_of_getElem? (i := 1183) (by decide +kernel), List.mem_of_getElem? (i := 1441) (by decide +kernel), List.mem_of_getElem? (i := 1442) (by decide +kernel)⟩
theorem lw_p53 : lw_okq (⟨"CadenceDeskModel", "oneRule", "(I)Z"⟩, 53) := ⟨⟨by decide +kernel, by decide +kernel⟩, List.mem_of_getElem? (i := 1183) (by decide +kernel), List.mem_of_getElem? (i := 1445) (by decide +kernel), List.mem_of_getElem? (i := 1446) (by decide +kernel)⟩
theorem lw_p54 : lw_okq (⟨"CadenceDeskModel", "measureHere", "()I"⟩, 53) := ⟨⟨by decide +kernel, by decide +kernel⟩, List.mem_of_getElem? (i := 1183) (by decide +kernel), List.mem_of_getElem? (i := 1449) (by decide +kernel), List.mem_of_getElem? (i := 1450) (by decide +kernel)⟩
theorem lw_p55 : lw_okq (⟨"CadenceDeskModel", "isCadence", "(I)Z"⟩, 53) := ⟨⟨by decide +kernel, by decide +kernel⟩, List.mem_of_getElem? (i := 1183) (by decide +kernel), List.mem_of_getElem? (i := 1461) (by decide +kernel), List.mem_of_getElem? (i := 1462) (by decide +kernel)⟩
theorem lw_p56 : lw_okq (⟨"CadenceDeskModel", "keeps", "()V"⟩, 53) := ⟨⟨by decide +kernel, by decide +kernel⟩, List.mem_of_getElem? (i := 1183) (by decide +kernel), List.mem_of_getElem? (i := 1473) (by decide +kernel), List.mem_of_getElem? (i := 1474) (by decide +kernel)⟩
theorem lw_p57 : lw_okq (⟨"CadenceDeskModel", "areThere", "(II)Z"⟩, 53) := ⟨⟨by decide +kernel, by decide +kernel⟩, List.mem_of_getElem? (i := 1183) (by decide +kernel), List.mem_of_getElem? (i := 1481) (by decide +kernel), List.mem_of_getElem? (i := 1482) (by decide +kernel)⟩
theorem lw_p58 : lw_okq (⟨"CadenceDeskModel", "copiesField", "(II)V"⟩, 53) := ⟨⟨by decide +kernel, by decide +kernel⟩, List.mem_of_getElem? (i := 1183) (by decide +kernel), List.mem_of_getElem? (i := 1485) (by decide +kernel), List.mem_of_getElem? (i := 1486) (by decide +kernel)⟩
theorem lw_p59 : lw_okq (⟨"CadenceDeskModel", "sample", "(II)I"⟩, 53) := ⟨⟨by decide +kernel, by decide +kernel⟩, List.mem_of_getElem? (i := 1183) (by decide +kernel), List.mem_of_getElem? (i := 1500) (by decide +kernel), List.mem_of_getElem? (i := 1501) (by decide +kernel)⟩
theorem lw_p60 : lw_okq (⟨"CadenceDeskModel", "isField", "(I)Z"⟩, 53) := ⟨⟨by decide +kernel, by decide +kernel⟩, List.mem_of_getElem? (i := 1183) (by decide +kernel), List.mem_of_getElem? (i := 1508) (by decide +kernel), List.mem_of_getElem? (i := 1509) (by decide +kernel)⟩
theorem lw_p61 : lw_okq (⟨"CadenceDeskModel", "parityOf", "(I)I"⟩, 53) := ⟨⟨by decide +kernel, by decide +kernel⟩, List.mem_of_getElem? (i := 1183) (by decide +kernel), List.mem_of_getElem? (i := 1522) (by decide +kernel), List.mem_of_getElem? (i := 1523) (by decide +kernel)⟩
theorem lw_p62 : lw_okq (⟨"CadenceDeskModel", "apartOf", "(II)I"⟩, 53) := ⟨⟨by decide +kernel, by decide +kernel⟩, List.mem_of_getElem? (i := 1183) (by decide +kernel), List.mem_of_getElem? (i := 1530) (by decide +kernel), List.mem_of_getElem? (i := 1531) (by decide +kernel)⟩
theorem lw_p63 : lw_okq (⟨"CadenceDeskModel", "laysAll", "()V"⟩, 53) := ⟨⟨by decide +kernel, by decide +kernel⟩, List.mem_of_getElem? (i := 1183) (by decide +kernel), List.mem_of_getElem? (i := 1538) (by decide +kernel), List.mem_of_getElem? (i := 1539) (by decide +kernel)⟩
def lw_privs_4 : List (MethodName × Nat) := [(⟨"CadenceDeskModel", "told", "()I"⟩, 53), (⟨"CadenceDeskModel", "readsRules", "()Z"⟩, 53), (⟨"CadenceDeskModel", "lineHere", "()Z"⟩, 53), (⟨"CadenceDeskModel", "cadenceHere", "()Z"⟩, 53), (⟨"CadenceDeskModel", "ruleHere", "()I"⟩, 53), (⟨"CadenceDeskModel", "oneRule", "(I)Z"⟩, 53), (⟨"CadenceDeskModel", "measureHere", "()I"⟩, 53), (⟨"CadenceDeskModel", "isCadence", "(I)Z"⟩, 53), (⟨"CadenceDeskModel", "keeps", "()V"⟩, 53), (⟨"CadenceDeskModel", "areThere", "(II)Z"⟩, 53), (⟨"CadenceDeskModel", "copiesField", "(II)V"⟩, 53), (⟨"CadenceDeskModel", "sample", "(II)I"⟩, 53), (⟨"CadenceDeskModel", "isField", "(I)Z"⟩, 53), (⟨"CadenceDeskModel", "parityOf", "(I)I"⟩, 53), (⟨"CadenceDeskModel", "apartOf", "(II)I"⟩, 53), (⟨"CadenceDeskModel", "laysAll", "()V"⟩, 53)]
theorem lw_r4 : ∀ q ∈ lw_privs_4, lw_okq q := List.forall_mem_cons.mpr ⟨lw_p48, List.forall_mem_cons.mpr ⟨lw_p49, List.forall_mem_cons.mpr ⟨lw_p50, List.forall_mem_cons.mpr ⟨lw_p51, List.forall_mem_cons.mpr ⟨lw_p52, List.forall_mem_cons.mpr ⟨lw_p53, List.forall_mem_cons.mpr ⟨lw_p54, List.forall_mem_cons.mpr ⟨lw_p55, List.forall_mem_cons.mpr ⟨lw_p56, List.forall_mem_cons.mpr ⟨lw_p57, List.forall_mem_cons.mpr ⟨lw_p58, List.forall_mem_cons.mpr ⟨lw_p59, List.forall_mem_cons.mpr ⟨lw_p60, List.forall_mem_cons.mpr ⟨lw_p61, List.forall_mem_cons.mpr ⟨lw_p62, List.forall_mem_cons.mpr ⟨lw_p63, fun _ h => absurd h List.not_mem_nil⟩⟩⟩⟩⟩⟩⟩⟩⟩⟩⟩⟩⟩⟩⟩⟩
theorem lw_p64 : lw_okq (⟨"CadenceDeskModel", "laysPath", "(I)V"⟩, 53) := ⟨⟨by decide +kernel, by decide +kernel⟩, List.mem_of_getElem? (i := 1183) (by decide +kernel), List.mem_of_getElem? (i := 1542) (by decide +kernel), List.mem_of_getElem? (i := 1543) (by decide +kernel)⟩
theorem lw_p65 : lw_okq (⟨"CadenceDeskModel", "laysCosts", "()V"⟩, 53) := ⟨⟨by decide +kernel, by decide +kernel⟩, List.mem_of_getElem? (i := 1183) (by decide +kernel), List.mem_of_getElem? (i := 1546) (by decide +kernel), List.mem_of_getElem? (i := 1547) (by decide +kernel)⟩
theorem lw_p66 : lw_okq (⟨"CadenceDeskModel", "areAlike", "(II)Z"⟩, 53) := ⟨⟨by decide +kernel, by decide +kernel⟩, List.mem_of_getElem? (i := 1183) (by decide +kernel), List.mem_of_getElem? (i := 1550) (by decide +kernel), List.mem_of_getElem? (i := 1551) (by decide +kernel)⟩
theorem lw_p67 : lw_okq (⟨"CadenceDeskModel", "laysRest", "()V"⟩, 53) := ⟨⟨by decide +kernel, by decide +kernel⟩, List.mem_of_getElem? (i := 1183) (by decide +kernel), List.mem_of_getElem? (i := 1554) (by decide +kernel), List.mem_of_getElem? (i := 1555) (by decide +kernel)⟩
theorem lw_p68 : lw_okq (⟨"CadenceDeskModel", "isState", "(III)Z"⟩, 53) := ⟨⟨by decide +kernel, by decide +kernel⟩, List.mem_of_getElem? (i := 1183) (by decide +kernel), List.mem_of_getElem? (i := 1558) (by decide +kernel), List.mem_of_getElem? (i := 1559) (by decide +kernel)⟩
theorem lw_p69 : lw_okq (⟨"CadenceDeskModel", "numberAt", "(I)I"⟩, 53) := ⟨⟨by decide +kernel, by decide +kernel⟩, List.mem_of_getElem? (i := 1183) (by decide +kernel), List.mem_of_getElem? (i := 1562) (by decide +kernel), List.mem_of_getElem? (i := 1563) (by decide +kernel)⟩
theorem lw_p70 : lw_okq (⟨"CadenceDeskModel", "leastBehind", "(II)I"⟩, 53) := ⟨⟨by decide +kernel, by decide +kernel⟩, List.mem_of_getElem? (i := 1183) (by decide +kernel), List.mem_of_getElem? (i := 1566) (by decide +kernel), List.mem_of_getElem? (i := 1567) (by decide +kernel)⟩
theorem lw_p71 : lw_okq (⟨"CadenceDeskModel", "on", "(II)I"⟩, 53) := ⟨⟨by decide +kernel, by decide +kernel⟩, List.mem_of_getElem? (i := 1183) (by decide +kernel), List.mem_of_getElem? (i := 1570) (by decide +kernel), List.mem_of_getElem? (i := 1571) (by decide +kernel)⟩
theorem lw_p72 : lw_okq (⟨"CadenceDeskModel", "costs", "(IIZ)I"⟩, 53) := ⟨⟨by decide +kernel, by decide +kernel⟩, List.mem_of_getElem? (i := 1183) (by decide +kernel), List.mem_of_getElem? (i := 1578) (by decide +kernel), List.mem_of_getElem? (i := 1579) (by decide +kernel)⟩
theorem lw_p73 : lw_okq (⟨"CadenceDeskModel", "costAt", "(II)I"⟩, 53) := ⟨⟨by decide +kernel, by decide +kernel⟩, List.mem_of_getElem? (i := 1183) (by decide +kernel), List.mem_of_getElem? (i := 1582) (by decide +kernel), List.mem_of_getElem? (i := 1583) (by decide +kernel)⟩
theorem lw_p74 : lw_okq (⟨"CadenceDeskModel", "goes", "(II)V"⟩, 53) := ⟨⟨by decide +kernel, by decide +kernel⟩, List.mem_of_getElem? (i := 1183) (by decide +kernel), List.mem_of_getElem? (i := 1586) (by decide +kernel), List.mem_of_getElem? (i := 1587) (by decide +kernel)⟩
theorem lw_p75 : lw_okq (⟨"CadenceDeskModel", "costOf", "(I)I"⟩, 53) := ⟨⟨by decide +kernel, by decide +kernel⟩, List.mem_of_getElem? (i := 1183) (by decide +kernel), List.mem_of_getElem? (i := 1590) (by decide +kernel), List.mem_of_getElem? (i := 1591) (by decide +kernel)⟩
theorem lw_p76 : lw_okq (⟨"CadenceDeskModel", "laysGroups", "()V"⟩, 53) := ⟨⟨by decide +kernel, by decide +kernel⟩, List.mem_of_getElem? (i := 1183) (by decide +kernel), List.mem_of_getElem? (i := 1594) (by decide +kernel), List.mem_of_getElem? (i := 1595) (by decide +kernel)⟩
theorem lw_p77 : lw_okq (⟨"CadenceDeskModel", "laysFound", "()V"⟩, 53) := ⟨⟨by decide +kernel, by decide +kernel⟩, List.mem_of_getElem? (i := 1183) (by decide +kernel), List.mem_of_getElem? (i := 1598) (by decide +kernel), List.mem_of_getElem? (i := 1599) (by decide +kernel)⟩
theorem lw_p78 : lw_okq (⟨"CadenceDeskModel", "isOrphan", "(I)Z"⟩, 53) := ⟨⟨by decide +kernel, by decide +kernel⟩, List.mem_of_getElem? (i := 1183) (by decide +kernel), List.mem_of_getElem? (i := 1602) (by decide +kernel), List.mem_of_getElem? (i := 1603) (by decide +kernel)⟩
theorem lw_p79 : lw_okq (⟨"CadenceDeskModel", "canMate", "(II)Z"⟩, 53) := ⟨⟨by decide +kernel, by decide +kernel⟩, List.mem_of_getElem? (i := 1183) (by decide +kernel), List.mem_of_getElem? (i := 1606) (by decide +kernel), List.mem_of_getElem? (i := 1607) (by decide +kernel)⟩
def lw_privs_5 : List (MethodName × Nat) := [(⟨"CadenceDeskModel", "laysPath", "(I)V"⟩, 53), (⟨"CadenceDeskModel", "laysCosts", "()V"⟩, 53), (⟨"CadenceDeskModel", "areAlike", "(II)Z"⟩, 53), (⟨"CadenceDeskModel", "laysRest", "()V"⟩, 53), (⟨"CadenceDeskModel", "isState", "(III)Z"⟩, 53), (⟨"CadenceDeskModel", "numberAt", "(I)I"⟩, 53), (⟨"CadenceDeskModel", "leastBehind", "(II)I"⟩, 53), (⟨"CadenceDeskModel", "on", "(II)I"⟩, 53), (⟨"CadenceDeskModel", "costs", "(IIZ)I"⟩, 53), (⟨"CadenceDeskModel", "costAt", "(II)I"⟩, 53), (⟨"CadenceDeskModel", "goes", "(II)V"⟩, 53), (⟨"CadenceDeskModel", "costOf", "(I)I"⟩, 53), (⟨"CadenceDeskModel", "laysGroups", "()V"⟩, 53), (⟨"CadenceDeskModel", "laysFound", "()V"⟩, 53), (⟨"CadenceDeskModel", "isOrphan", "(I)Z"⟩, 53), (⟨"CadenceDeskModel", "canMate", "(II)Z"⟩, 53)]
theorem lw_r5 : ∀ q ∈ lw_privs_5, lw_okq q := List.forall_mem_cons.mpr ⟨lw_p64, List.forall_mem_cons.mpr ⟨lw_p65, List.forall_mem_cons.mpr ⟨lw_p66, List.forall_mem_cons.mpr ⟨lw_p67, List.forall_mem_cons.mpr ⟨lw_p68, List.forall_mem_cons.mpr ⟨lw_p69, List.forall_mem_cons.mpr ⟨lw_p70, List.forall_mem_cons.mpr ⟨lw_p71, List.forall_mem_cons.mpr ⟨lw_p72, List.forall_mem_cons.mpr ⟨lw_p73, List.forall_mem_cons.mpr ⟨lw_p74, List.forall_mem_cons.mpr ⟨lw_p75, List.forall_mem_cons.mpr ⟨lw_p76, List.forall_mem_cons.mpr ⟨lw_p77, List.forall_mem_cons.mpr ⟨lw_p78, List.forall_mem_cons.mpr ⟨lw_p79, fun _ h => absurd h List.not_mem_nil⟩⟩⟩⟩⟩⟩⟩⟩⟩⟩⟩⟩⟩⟩⟩⟩
theorem lw_p80 : lw_okq (⟨"CadenceDeskModel", "loneOf", "(I)I"⟩, 53) := ⟨⟨by decide +kernel, by decide +kernel⟩, List.mem_of_getElem? (i := 1183) (by decide +kernel), List.mem_of_getElem? (i := 1610) (by decide +kernel), List.mem_of_getElem? (i := 1611) (by decide +kernel)⟩
theorem lw_p81 : lw_okq (⟨"CadenceDeskModel", "areSame", "(II)Z"⟩, 53) := ⟨⟨by decide +kernel, by decide +kernel⟩, List.mem_of_getElem? (i := 1183) (by decide +kernel), List.mem_of_getElem? (i := 1634) (by decide +kernel), List.mem_of_getElem? (i := 1635) (by decide +kernel)⟩
theorem lw_p82 : lw_okq (⟨"CadenceDeskModel", "laysAnew", "(I)V"⟩, 53) := ⟨⟨by decide +kernel, by decide +kernel⟩, List.mem_of_getElem? (i := 1183) (by decide +kernel), List.mem_of_getElem? (i := 1654) (by decide +kernel), List.mem_of_getElem? (i := 1655) (by decide +kernel)⟩
theorem lw_p83 : lw_okq (⟨"CadenceDeskModel", "anewSample", "(II)I"⟩, 53) := ⟨⟨by decide +kernel, by decide +kernel⟩, List.mem_of_getElem? (i := 1183) (by decide +kernel), List.mem_of_getElem? (i := 1658) (by decide +kernel), List.mem_of_getElem? (i := 1659) (by decide +kernel)⟩
def lw_privs_6 : List (MethodName × Nat) := [(⟨"CadenceDeskModel", "loneOf", "(I)I"⟩, 53), (⟨"CadenceDeskModel", "areSame", "(II)Z"⟩, 53), (⟨"CadenceDeskModel", "laysAnew", "(I)V"⟩, 53), (⟨"CadenceDeskModel", "anewSample", "(II)I"⟩, 53)]
theorem lw_r6 : ∀ q ∈ lw_privs_6, lw_okq q := List.forall_mem_cons.mpr ⟨lw_p80, List.forall_mem_cons.mpr ⟨lw_p81, List.forall_mem_cons.mpr ⟨lw_p82, List.forall_mem_cons.mpr ⟨lw_p83, fun _ h => absurd h List.not_mem_nil⟩⟩⟩⟩
def lw_privs : List (MethodName × Nat) := lw_privs_1 ++ (lw_privs_2 ++ (lw_privs_3 ++ (lw_privs_4 ++ (lw_privs_5 ++ (lw_privs_6)))))
def lw_tbl : List Cond := k2_sels lw_privs ++ tables_1
theorem lw_privs_ok : ∀ q ∈ lw_privs, lw_okq q := by
  show ∀ q ∈ lw_privs_1 ++ (lw_privs_2 ++ (lw_privs_3 ++ (lw_privs_4 ++ (lw_privs_5 ++ (lw_privs_6))))), lw_okq q
  exact List.forall_mem_append.mpr ⟨lw_r1, List.forall_mem_append.mpr ⟨lw_r2, List.forall_mem_append.mpr ⟨lw_r3, List.forall_mem_append.mpr ⟨lw_r4, List.forall_mem_append.mpr ⟨lw_r5, lw_r6⟩⟩⟩⟩⟩
-- ===== end of PART A; then your names; then what follows =====
def RX0 : String := "CadenceDesk$Finder"
def TX0 : u_T := fun k => match k with
  | 0 => ("CadenceDesk$Finder", "states", "LCadenceDesk$States;", true)
  | 1 => ("CadenceDesk$Finder", "now", "[I", true)
  | 2 => ("CadenceDesk$Finder", "later", "[I", true)
  | 3 => ("CadenceDesk$Finder", "goings", "[J", true)
  | 4 => ("CadenceDesk$Finder", "entries", "[I", true)
  | 5 => ("CadenceDesk$Finder", "best", "I", false)
  | 6 => ("CadenceDesk$Finder", "measured", "[Z", true)
  | 7 => ("CadenceDesk$Finder", "costs", "[I", true)
  | 8 => ("CadenceDesk$Finder", "firstPlaces", "[I", true)
  | _ => ("CadenceDesk$Finder", "firstSteps", "[I", true)
def tyX0 : Nat → FieldType := fun k => match k with
  | 0 => .object "CadenceDesk$States"
  | 1 => .array .int
  | 2 => .array .int
  | 3 => .array .long
  | 4 => .array .int
  | 5 => .int
  | 6 => .array .boolean
  | 7 => .array .int
  | 8 => .array .int
  | _ => .array .int
abbrev wsX00 : List Cond := u_ws RX0 TX0 10
theorem nmX0 : ∀ a, a < 10 → ∀ b, b < 10 → a ≠ b → (TX0 a).2.1 ≠ (TX0 b).2.1 := by decide +kernel
theorem tyX0_ok : ∀ k, k < 10 → parseFieldDescriptor (TX0 k).2.2.1 = some (tyX0 k) := by decide +kernel
abbrev cX0_init : ByteArray := prog_2_method_1_code
def yX0_init : MethodName := ⟨RX0, "<init>", "()V"⟩
abbrev cX0_states : ByteArray := prog_2_method_2_code
def yX0_states : MethodName := ⟨RX0, "states", "()LCadenceDesk$States;"⟩
abbrev cX0_forget : ByteArray := prog_2_method_3_code
def yX0_forget : MethodName := ⟨RX0, "forget", "()V"⟩
abbrev cX0_costBy : ByteArray := prog_2_method_4_code
def yX0_costBy : MethodName := ⟨RX0, "costBy", "(LCadenceDesk$Reel;LCadenceDesk$Rules;I)I"⟩
abbrev cX0_firstPlace : ByteArray := prog_2_method_5_code
def yX0_firstPlace : MethodName := ⟨RX0, "firstPlace", "(I)I"⟩
abbrev cX0_firstStep : ByteArray := prog_2_method_6_code
def yX0_firstStep : MethodName := ⟨RX0, "firstStep", "(I)I"⟩
abbrev cX0_entry : ByteArray := prog_2_method_7_code
def yX0_entry : MethodName := ⟨RX0, "entry", "(I)I"⟩
abbrev cX0_goesOn : ByteArray := prog_2_method_8_code
def yX0_goesOn : MethodName := ⟨RX0, "goesOn", "(II)Z"⟩
abbrev cX0_solve : ByteArray := prog_2_method_9_code
def yX0_solve : MethodName := ⟨RX0, "solve", "(LCadenceDesk$Reel;LCadenceDesk$Rules;I)V"⟩
abbrev cX0_weighStates : ByteArray := prog_2_method_10_code
def yX0_weighStates : MethodName := ⟨RX0, "weighStates", "(LCadenceDesk$Reel;LCadenceDesk$Rules;I)V"⟩
abbrev cX0_isBetterOn : ByteArray := prog_2_method_11_code
def yX0_isBetterOn : MethodName := ⟨RX0, "isBetterOn", "(III)Z"⟩
abbrev cX0_leastEntry : ByteArray := prog_2_method_12_code
def yX0_leastEntry : MethodName := ⟨RX0, "leastEntry", "()I"⟩
def RX1 : String := "CadenceDesk$Frames"
def TX1 : u_T := fun k => match k with
  | 0 => ("CadenceDesk$Frames", "tops", "[J", true)
  | 1 => ("CadenceDesk$Frames", "bottoms", "[J", true)
  | 2 => ("CadenceDesk$Frames", "width", "I", false)
  | _ => ("CadenceDesk$Frames", "size", "I", false)
def tyX1 : Nat → FieldType := fun k => match k with
  | 0 => .array .long
  | 1 => .array .long
  | 2 => .int
  | _ => .int
abbrev wsX10 : List Cond := u_ws RX1 TX1 4
theorem nmX1 : ∀ a, a < 4 → ∀ b, b < 4 → a ≠ b → (TX1 a).2.1 ≠ (TX1 b).2.1 := by decide +kernel
theorem tyX1_ok : ∀ k, k < 4 → parseFieldDescriptor (TX1 k).2.2.1 = some (tyX1 k) := by decide +kernel
abbrev cX1_init : ByteArray := prog_3_method_1_code
def yX1_init : MethodName := ⟨RX1, "<init>", "(I)V"⟩
abbrev cX1_begin : ByteArray := prog_3_method_2_code
def yX1_begin : MethodName := ⟨RX1, "begin", "(I)V"⟩
abbrev cX1_width : ByteArray := prog_3_method_3_code
def yX1_width : MethodName := ⟨RX1, "width", "()I"⟩
abbrev cX1_size : ByteArray := prog_3_method_4_code
def yX1_size : MethodName := ⟨RX1, "size", "()I"⟩
abbrev cX1_has : ByteArray := prog_3_method_5_code
def yX1_has : MethodName := ⟨RX1, "has", "(I)Z"⟩
abbrev cX1_add : ByteArray := prog_3_method_6_code
def yX1_add : MethodName := ⟨RX1, "add", "(JJ)V"⟩
abbrev cX1_row : ByteArray := prog_3_method_7_code
def yX1_row : MethodName := ⟨RX1, "row", "(II)J"⟩
abbrev cX1_isSame : ByteArray := prog_3_method_8_code
def yX1_isSame : MethodName := ⟨RX1, "isSame", "(ILCadenceDesk$Frames;I)Z"⟩
abbrev cX1_copyFrom : ByteArray := prog_3_method_9_code
def yX1_copyFrom : MethodName := ⟨RX1, "copyFrom", "(LCadenceDesk$Frames;)V"⟩
def RX2 : String := "CadenceDesk$Groups"
def TX2 : u_T := fun k => match k with
  | 0 => ("CadenceDesk$Groups", "groupsOf", "[I", true)
  | 1 => ("CadenceDesk$Groups", "starts", "[I", true)
  | 2 => ("CadenceDesk$Groups", "lengths", "[I", true)
  | 3 => ("CadenceDesk$Groups", "mates", "[I", true)
  | 4 => ("CadenceDesk$Groups", "framesOf", "[I", true)
  | 5 => ("CadenceDesk$Groups", "frames", "LCadenceDesk$Frames;", true)
  | 6 => ("CadenceDesk$Groups", "size", "I", false)
  | 7 => ("CadenceDesk$Groups", "orphans", "I", false)
  | _ => ("CadenceDesk$Groups", "pairs", "I", false)
def tyX2 : Nat → FieldType := fun k => match k with
  | 0 => .array .int
  | 1 => .array .int
  | 2 => .array .int
  | 3 => .array .int
  | 4 => .array .int
  | 5 => .object "CadenceDesk$Frames"
  | 6 => .int
  | 7 => .int
  | _ => .int
abbrev wsX20 : List Cond := u_ws RX2 TX2 9
theorem nmX2 : ∀ a, a < 9 → ∀ b, b < 9 → a ≠ b → (TX2 a).2.1 ≠ (TX2 b).2.1 := by decide +kernel
theorem tyX2_ok : ∀ k, k < 9 → parseFieldDescriptor (TX2 k).2.2.1 = some (tyX2 k) := by decide +kernel
abbrev cX2_init : ByteArray := prog_4_method_1_code
def yX2_init : MethodName := ⟨RX2, "<init>", "()V"⟩
abbrev cX2_gather : ByteArray := prog_4_method_2_code
def yX2_gather : MethodName := ⟨RX2, "gather", "(LCadenceDesk$Track;LCadenceDesk$Reel;LCadenceDesk$Rules;)V"⟩
abbrev cX2_addField : ByteArray := prog_4_method_3_code
def yX2_addField : MethodName := ⟨RX2, "addField", "(IZ)V"⟩
abbrev cX2_mateOrphans : ByteArray := prog_4_method_4_code
def yX2_mateOrphans : MethodName := ⟨RX2, "mateOrphans", "(LCadenceDesk$Reel;LCadenceDesk$Rules;)V"⟩
abbrev cX2_canMate : ByteArray := prog_4_method_5_code
def yX2_canMate : MethodName := ⟨RX2, "canMate", "(ILCadenceDesk$Reel;LCadenceDesk$Rules;)Z"⟩
abbrev cX2_rebuildFrames : ByteArray := prog_4_method_6_code
def yX2_rebuildFrames : MethodName := ⟨RX2, "rebuildFrames", "(LCadenceDesk$Reel;)V"⟩
abbrev cX2_partner : ByteArray := prog_4_method_7_code
def yX2_partner : MethodName := ⟨RX2, "partner", "(I)I"⟩
abbrev cX2_addFrame : ByteArray := prog_4_method_8_code
def yX2_addFrame : MethodName := ⟨RX2, "addFrame", "(LCadenceDesk$Reel;II)V"⟩
abbrev cX2_has : ByteArray := prog_4_method_9_code
def yX2_has : MethodName := ⟨RX2, "has", "(I)Z"⟩
abbrev cX2_size : ByteArray := prog_4_method_10_code
def yX2_size : MethodName := ⟨RX2, "size", "()I"⟩
abbrev cX2_orphans : ByteArray := prog_4_method_11_code
def yX2_orphans : MethodName := ⟨RX2, "orphans", "()I"⟩
abbrev cX2_pairs : ByteArray := prog_4_method_12_code
def yX2_pairs : MethodName := ⟨RX2, "pairs", "()I"⟩
abbrev cX2_frames : ByteArray := prog_4_method_13_code
def yX2_frames : MethodName := ⟨RX2, "frames", "()LCadenceDesk$Frames;"⟩
abbrev cX2_groupOf : ByteArray := prog_4_method_14_code
def yX2_groupOf : MethodName := ⟨RX2, "groupOf", "(I)I"⟩
abbrev cX2_frameOf : ByteArray := prog_4_method_15_code
def yX2_frameOf : MethodName := ⟨RX2, "frameOf", "(I)I"⟩
abbrev cX2_start : ByteArray := prog_4_method_16_code
def yX2_start : MethodName := ⟨RX2, "start", "(I)I"⟩
abbrev cX2_length : ByteArray := prog_4_method_17_code
def yX2_length : MethodName := ⟨RX2, "length", "(I)I"⟩
abbrev cX2_isOrphan : ByteArray := prog_4_method_18_code
def yX2_isOrphan : MethodName := ⟨RX2, "isOrphan", "(I)Z"⟩
abbrev cX2_mateOf : ByteArray := prog_4_method_19_code
def yX2_mateOf : MethodName := ⟨RX2, "mateOf", "(I)I"⟩
def RX3 : String := "CadenceDesk$History"
def TX3 : u_T := fun k => match k with
  | 0 => ("CadenceDesk$History", "rows", "[J", true)
  | 1 => ("CadenceDesk$History", "sizes", "[I", true)
  | 2 => ("CadenceDesk$History", "next", "I", false)
  | _ => ("CadenceDesk$History", "size", "I", false)
def tyX3 : Nat → FieldType := fun k => match k with
  | 0 => .array .long
  | 1 => .array .int
  | 2 => .int
  | _ => .int
abbrev wsX30 : List Cond := u_ws RX3 TX3 4
theorem nmX3 : ∀ a, a < 4 → ∀ b, b < 4 → a ≠ b → (TX3 a).2.1 ≠ (TX3 b).2.1 := by decide +kernel
theorem tyX3_ok : ∀ k, k < 4 → parseFieldDescriptor (TX3 k).2.2.1 = some (tyX3 k) := by decide +kernel
abbrev cX3_init : ByteArray := prog_5_method_1_code
def yX3_init : MethodName := ⟨RX3, "<init>", "()V"⟩
abbrev cX3_size : ByteArray := prog_5_method_2_code
def yX3_size : MethodName := ⟨RX3, "size", "()I"⟩
abbrev cX3_empty : ByteArray := prog_5_method_3_code
def yX3_empty : MethodName := ⟨RX3, "empty", "()V"⟩
abbrev cX3_keep : ByteArray := prog_5_method_4_code
def yX3_keep : MethodName := ⟨RX3, "keep", "(LCadenceDesk$Reel;)V"⟩
abbrev cX3_giveBack : ByteArray := prog_5_method_5_code
def yX3_giveBack : MethodName := ⟨RX3, "giveBack", "(LCadenceDesk$Reel;)V"⟩
def RX4 : String := "CadenceDesk$Reel"
def TX4 : u_T := fun k => match k with
  | 0 => ("CadenceDesk$Reel", "fields", "[J", true)
  | _ => ("CadenceDesk$Reel", "size", "I", false)
def tyX4 : Nat → FieldType := fun k => match k with
  | 0 => .array .long
  | _ => .int
abbrev wsX40 : List Cond := u_ws RX4 TX4 2
theorem nmX4 : ∀ a, a < 2 → ∀ b, b < 2 → a ≠ b → (TX4 a).2.1 ≠ (TX4 b).2.1 := by decide +kernel
theorem tyX4_ok : ∀ k, k < 2 → parseFieldDescriptor (TX4 k).2.2.1 = some (tyX4 k) := by decide +kernel
abbrev cX4_init : ByteArray := prog_6_method_1_code
def yX4_init : MethodName := ⟨RX4, "<init>", "()V"⟩
abbrev cX4_size : ByteArray := prog_6_method_2_code
def yX4_size : MethodName := ⟨RX4, "size", "()I"⟩
abbrev cX4_empty : ByteArray := prog_6_method_3_code
def yX4_empty : MethodName := ⟨RX4, "empty", "()V"⟩
abbrev cX4_has : ByteArray := prog_6_method_4_code
def yX4_has : MethodName := ⟨RX4, "has", "(I)Z"⟩
abbrev cX4_hasSpan : ByteArray := prog_6_method_5_code
def yX4_hasSpan : MethodName := ⟨RX4, "hasSpan", "(II)Z"⟩
abbrev cX4_row : ByteArray := prog_6_method_6_code
def yX4_row : MethodName := ⟨RX4, "row", "(I)J"⟩
abbrev cX4_parity : ByteArray := prog_6_method_7_code
def yX4_parity : MethodName := ⟨RX4, "parity", "(I)I"⟩
abbrev cX4_sample : ByteArray := prog_6_method_8_code
def yX4_sample : MethodName := ⟨RX4, "sample", "(II)I"⟩
abbrev cX4_putSample : ByteArray := prog_6_method_9_code
def yX4_putSample : MethodName := ⟨RX4, "putSample", "(III)V"⟩
abbrev cX4_carryFrames : ByteArray := prog_6_method_10_code
def yX4_carryFrames : MethodName := ⟨RX4, "carryFrames", "(LCadenceDesk$Frames;LCadenceDesk$Rules;III)V"⟩
abbrev cX4_addField : ByteArray := prog_6_method_11_code
def yX4_addField : MethodName := ⟨RX4, "addField", "(JI)V"⟩
abbrev cX4_removeSpan : ByteArray := prog_6_method_12_code
def yX4_removeSpan : MethodName := ⟨RX4, "removeSpan", "(II)V"⟩
abbrev cX4_repeatSpan : ByteArray := prog_6_method_13_code
def yX4_repeatSpan : MethodName := ⟨RX4, "repeatSpan", "(II)V"⟩
abbrev cX4_disturb : ByteArray := prog_6_method_14_code
def yX4_disturb : MethodName := ⟨RX4, "disturb", "(III)I"⟩
abbrev cX4_isSame : ByteArray := prog_6_method_15_code
def yX4_isSame : MethodName := ⟨RX4, "isSame", "(LCadenceDesk$Reel;)Z"⟩
def RX5 : String := "CadenceDesk$Rules"
def TX5 : u_T := fun k => match k with
  | 0 => ("CadenceDesk$Rules", "numbers", "[I", true)
  | 1 => ("CadenceDesk$Rules", "lengths", "[I", true)
  | 2 => ("CadenceDesk$Rules", "values", "[I", true)
  | _ => ("CadenceDesk$Rules", "cadences", "I", false)
def tyX5 : Nat → FieldType := fun k => match k with
  | 0 => .array .int
  | 1 => .array .int
  | 2 => .array .int
  | _ => .int
abbrev wsX50 : List Cond := u_ws RX5 TX5 4
theorem nmX5 : ∀ a, a < 4 → ∀ b, b < 4 → a ≠ b → (TX5 a).2.1 ≠ (TX5 b).2.1 := by decide +kernel
theorem tyX5_ok : ∀ k, k < 4 → parseFieldDescriptor (TX5 k).2.2.1 = some (tyX5 k) := by decide +kernel
abbrev cX5_init : ByteArray := prog_7_method_1_code
def yX5_init : MethodName := ⟨RX5, "<init>", "()V"⟩
abbrev cX5_clear : ByteArray := prog_7_method_2_code
def yX5_clear : MethodName := ⟨RX5, "clear", "()V"⟩
abbrev cX5_addCadence : ByteArray := prog_7_method_3_code
def yX5_addCadence : MethodName := ⟨RX5, "addCadence", "()V"⟩
abbrev cX5_addNumber : ByteArray := prog_7_method_4_code
def yX5_addNumber : MethodName := ⟨RX5, "addNumber", "(I)V"⟩
abbrev cX5_putValue : ByteArray := prog_7_method_5_code
def yX5_putValue : MethodName := ⟨RX5, "putValue", "(II)V"⟩
abbrev cX5_copyFrom : ByteArray := prog_7_method_6_code
def yX5_copyFrom : MethodName := ⟨RX5, "copyFrom", "(LCadenceDesk$Rules;)V"⟩
abbrev cX5_cadences : ByteArray := prog_7_method_7_code
def yX5_cadences : MethodName := ⟨RX5, "cadences", "()I"⟩
abbrev cX5_hasCadence : ByteArray := prog_7_method_8_code
def yX5_hasCadence : MethodName := ⟨RX5, "hasCadence", "(I)Z"⟩
abbrev cX5_length : ByteArray := prog_7_method_9_code
def yX5_length : MethodName := ⟨RX5, "length", "(I)I"⟩
abbrev cX5_hasPlace : ByteArray := prog_7_method_10_code
def yX5_hasPlace : MethodName := ⟨RX5, "hasPlace", "(II)Z"⟩
abbrev cX5_number : ByteArray := prog_7_method_11_code
def yX5_number : MethodName := ⟨RX5, "number", "(II)I"⟩
abbrev cX5_value : ByteArray := prog_7_method_12_code
def yX5_value : MethodName := ⟨RX5, "value", "(I)I"⟩
abbrev cX5_distance : ByteArray := prog_7_method_13_code
def yX5_distance : MethodName := ⟨RX5, "distance", "(JJ)I"⟩
abbrev cX5_costOfRepeat : ByteArray := prog_7_method_14_code
def yX5_costOfRepeat : MethodName := ⟨RX5, "costOfRepeat", "(LCadenceDesk$Reel;I)I"⟩
abbrev cX5_costOfFresh : ByteArray := prog_7_method_15_code
def yX5_costOfFresh : MethodName := ⟨RX5, "costOfFresh", "(LCadenceDesk$Reel;I)I"⟩
def RX6 : String := "CadenceDesk$States"
def TX6 : u_T := fun k => match k with
  | 0 => ("CadenceDesk$States", "places", "[I", true)
  | 1 => ("CadenceDesk$States", "steps", "[I", true)
  | 2 => ("CadenceDesk$States", "seens", "[I", true)
  | 3 => ("CadenceDesk$States", "nexts", "[I", true)
  | _ => ("CadenceDesk$States", "size", "I", false)
def tyX6 : Nat → FieldType := fun k => match k with
  | 0 => .array .int
  | 1 => .array .int
  | 2 => .array .int
  | 3 => .array .int
  | _ => .int
abbrev wsX60 : List Cond := u_ws RX6 TX6 5
theorem nmX6 : ∀ a, a < 5 → ∀ b, b < 5 → a ≠ b → (TX6 a).2.1 ≠ (TX6 b).2.1 := by decide +kernel
theorem tyX6_ok : ∀ k, k < 5 → parseFieldDescriptor (TX6 k).2.2.1 = some (tyX6 k) := by decide +kernel
abbrev cX6_init : ByteArray := prog_8_method_1_code
def yX6_init : MethodName := ⟨RX6, "<init>", "()V"⟩
abbrev cX6_size : ByteArray := prog_8_method_2_code
def yX6_size : MethodName := ⟨RX6, "size", "()I"⟩
abbrev cX6_place : ByteArray := prog_8_method_3_code
def yX6_place : MethodName := ⟨RX6, "place", "(I)I"⟩
abbrev cX6_step : ByteArray := prog_8_method_4_code
def yX6_step : MethodName := ⟨RX6, "step", "(I)I"⟩
abbrev cX6_seen : ByteArray := prog_8_method_5_code
def yX6_seen : MethodName := ⟨RX6, "seen", "(I)I"⟩
abbrev cX6_next : ByteArray := prog_8_method_6_code
def yX6_next : MethodName := ⟨RX6, "next", "(I)I"⟩
abbrev cX6_has : ByteArray := prog_8_method_7_code
def yX6_has : MethodName := ⟨RX6, "has", "(I)Z"⟩
abbrev cX6_build : ByteArray := prog_8_method_8_code
def yX6_build : MethodName := ⟨RX6, "build", "(LCadenceDesk$Rules;I)V"⟩
abbrev cX6_addPlace : ByteArray := prog_8_method_9_code
def yX6_addPlace : MethodName := ⟨RX6, "addPlace", "(IIZ)V"⟩
abbrev cX6_addState : ByteArray := prog_8_method_10_code
def yX6_addState : MethodName := ⟨RX6, "addState", "(IIII)V"⟩
abbrev cX6_firstOfStep : ByteArray := prog_8_method_11_code
def yX6_firstOfStep : MethodName := ⟨RX6, "firstOfStep", "(I)I"⟩
def RX7 : String := "CadenceDesk$Tape"
def TX7 : u_T := fun k => match k with
  | 0 => ("CadenceDesk$Tape", "words", "[I", true)
  | 1 => ("CadenceDesk$Tape", "used", "I", false)
  | 2 => ("CadenceDesk$Tape", "end", "I", false)
  | 3 => ("CadenceDesk$Tape", "next", "I", false)
  | 4 => ("CadenceDesk$Tape", "start", "I", false)
  | 5 => ("CadenceDesk$Tape", "kind", "I", false)
  | _ => ("CadenceDesk$Tape", "number", "I", false)
def tyX7 : Nat → FieldType := fun k => match k with
  | 0 => .array .int
  | 1 => .int
  | 2 => .int
  | 3 => .int
  | 4 => .int
  | 5 => .int
  | _ => .int
abbrev wsX70 : List Cond := u_ws RX7 TX7 7
theorem nmX7 : ∀ a, a < 7 → ∀ b, b < 7 → a ≠ b → (TX7 a).2.1 ≠ (TX7 b).2.1 := by decide +kernel
theorem tyX7_ok : ∀ k, k < 7 → parseFieldDescriptor (TX7 k).2.2.1 = some (tyX7 k) := by decide +kernel
abbrev cX7_init : ByteArray := prog_9_method_1_code
def yX7_init : MethodName := ⟨RX7, "<init>", "()V"⟩
abbrev cX7_hasRoom : ByteArray := prog_9_method_2_code
def yX7_hasRoom : MethodName := ⟨RX7, "hasRoom", "()Z"⟩
abbrev cX7_put : ByteArray := prog_9_method_3_code
def yX7_put : MethodName := ⟨RX7, "put", "(I)V"⟩
abbrev cX7_size : ByteArray := prog_9_method_4_code
def yX7_size : MethodName := ⟨RX7, "size", "()I"⟩
abbrev cX7_holds : ByteArray := prog_9_method_5_code
def yX7_holds : MethodName := ⟨RX7, "holds", "(I)Z"⟩
abbrev cX7_empty : ByteArray := prog_9_method_6_code
def yX7_empty : MethodName := ⟨RX7, "empty", "()V"⟩
abbrev cX7_open : ByteArray := prog_9_method_7_code
def yX7_open : MethodName := ⟨RX7, "open", "(I)V"⟩
abbrev cX7_kind : ByteArray := prog_9_method_8_code
def yX7_kind : MethodName := ⟨RX7, "kind", "()I"⟩
abbrev cX7_start : ByteArray := prog_9_method_9_code
def yX7_start : MethodName := ⟨RX7, "start", "()I"⟩
abbrev cX7_number : ByteArray := prog_9_method_10_code
def yX7_number : MethodName := ⟨RX7, "number", "()I"⟩
abbrev cX7_advance : ByteArray := prog_9_method_11_code
def yX7_advance : MethodName := ⟨RX7, "advance", "()V"⟩
abbrev cX7_isWord : ByteArray := prog_9_method_12_code
def yX7_isWord : MethodName := ⟨RX7, "isWord", "(Ljava/lang/String;)Z"⟩
abbrev cX7_passWord : ByteArray := prog_9_method_13_code
def yX7_passWord : MethodName := ⟨RX7, "passWord", "()V"⟩
abbrev cX7_passNumber : ByteArray := prog_9_method_14_code
def yX7_passNumber : MethodName := ⟨RX7, "passNumber", "()V"⟩
abbrev cX7_byteAt : ByteArray := prog_9_method_15_code
def yX7_byteAt : MethodName := ⟨RX7, "byteAt", "(I)I"⟩
abbrev cX7_isBlank : ByteArray := prog_9_method_16_code
def yX7_isBlank : MethodName := ⟨RX7, "isBlank", "(I)Z"⟩
abbrev cX7_isLetter : ByteArray := prog_9_method_17_code
def yX7_isLetter : MethodName := ⟨RX7, "isLetter", "(I)Z"⟩
abbrev cX7_isDigit : ByteArray := prog_9_method_18_code
def yX7_isDigit : MethodName := ⟨RX7, "isDigit", "(I)Z"⟩
def RX8 : String := "CadenceDesk$Telling"
def TX8 : u_T := fun k => match k with
  | 0 => ("CadenceDesk$Telling", "tape", "LCadenceDesk$Tape;", true)
  | 1 => ("CadenceDesk$Telling", "frames", "LCadenceDesk$Frames;", true)
  | 2 => ("CadenceDesk$Telling", "rulesRead", "LCadenceDesk$Rules;", true)
  | 3 => ("CadenceDesk$Telling", "fault", "I", false)
  | 4 => ("CadenceDesk$Telling", "taken", "I", false)
  | _ => ("CadenceDesk$Telling", "toldValues", "I", false)
def tyX8 : Nat → FieldType := fun k => match k with
  | 0 => .object "CadenceDesk$Tape"
  | 1 => .object "CadenceDesk$Frames"
  | 2 => .object "CadenceDesk$Rules"
  | 3 => .int
  | 4 => .int
  | _ => .int
abbrev wsX80 : List Cond := u_ws RX8 TX8 6
theorem nmX8 : ∀ a, a < 6 → ∀ b, b < 6 → a ≠ b → (TX8 a).2.1 ≠ (TX8 b).2.1 := by decide +kernel
theorem tyX8_ok : ∀ k, k < 6 → parseFieldDescriptor (TX8 k).2.2.1 = some (tyX8 k) := by decide +kernel
abbrev cX8_init : ByteArray := prog_10_method_1_code
def yX8_init : MethodName := ⟨RX8, "<init>", "()V"⟩
abbrev cX8_tape : ByteArray := prog_10_method_2_code
def yX8_tape : MethodName := ⟨RX8, "tape", "()LCadenceDesk$Tape;"⟩
abbrev cX8_frames : ByteArray := prog_10_method_3_code
def yX8_frames : MethodName := ⟨RX8, "frames", "()LCadenceDesk$Frames;"⟩
abbrev cX8_rulesRead : ByteArray := prog_10_method_4_code
def yX8_rulesRead : MethodName := ⟨RX8, "rulesRead", "()LCadenceDesk$Rules;"⟩
abbrev cX8_fault : ByteArray := prog_10_method_5_code
def yX8_fault : MethodName := ⟨RX8, "fault", "()I"⟩
abbrev cX8_readFilm : ByteArray := prog_10_method_6_code
def yX8_readFilm : MethodName := ⟨RX8, "readFilm", "(I)Z"⟩
abbrev cX8_readFrame : ByteArray := prog_10_method_7_code
def yX8_readFrame : MethodName := ⟨RX8, "readFrame", "(I)Z"⟩
abbrev cX8_readRules : ByteArray := prog_10_method_8_code
def yX8_readRules : MethodName := ⟨RX8, "readRules", "(I)Z"⟩
abbrev cX8_readCadence : ByteArray := prog_10_method_9_code
def yX8_readCadence : MethodName := ⟨RX8, "readCadence", "()Z"⟩
abbrev cX8_valueTold : ByteArray := prog_10_method_10_code
def yX8_valueTold : MethodName := ⟨RX8, "valueTold", "()I"⟩
abbrev cX8_readValue : ByteArray := prog_10_method_11_code
def yX8_readValue : MethodName := ⟨RX8, "readValue", "(I)Z"⟩
abbrev cX8_takeMeasure : ByteArray := prog_10_method_12_code
def yX8_takeMeasure : MethodName := ⟨RX8, "takeMeasure", "()Z"⟩
abbrev cX8_takeWord : ByteArray := prog_10_method_13_code
def yX8_takeWord : MethodName := ⟨RX8, "takeWord", "(Ljava/lang/String;)Z"⟩
abbrev cX8_takeSemicolon : ByteArray := prog_10_method_14_code
def yX8_takeSemicolon : MethodName := ⟨RX8, "takeSemicolon", "()Z"⟩
abbrev cX8_takeNumber : ByteArray := prog_10_method_15_code
def yX8_takeNumber : MethodName := ⟨RX8, "takeNumber", "(II)Z"⟩
abbrev cX8_isNumberWithin : ByteArray := prog_10_method_16_code
def yX8_isNumberWithin : MethodName := ⟨RX8, "isNumberWithin", "(II)Z"⟩
abbrev cX8_refuse : ByteArray := prog_10_method_17_code
def yX8_refuse : MethodName := ⟨RX8, "refuse", "(I)Z"⟩
def RX9 : String := "CadenceDesk$Track"
def TX9 : u_T := fun k => match k with
  | 0 => ("CadenceDesk$Track", "places", "[I", true)
  | 1 => ("CadenceDesk$Track", "steps", "[I", true)
  | 2 => ("CadenceDesk$Track", "seens", "[I", true)
  | 3 => ("CadenceDesk$Track", "edited", "[Z", true)
  | 4 => ("CadenceDesk$Track", "prices", "[I", true)
  | 5 => ("CadenceDesk$Track", "editFields", "[I", true)
  | 6 => ("CadenceDesk$Track", "size", "I", false)
  | 7 => ("CadenceDesk$Track", "edits", "I", false)
  | 8 => ("CadenceDesk$Track", "dropped", "I", false)
  | _ => ("CadenceDesk$Track", "total", "I", false)
def tyX9 : Nat → FieldType := fun k => match k with
  | 0 => .array .int
  | 1 => .array .int
  | 2 => .array .int
  | 3 => .array .boolean
  | 4 => .array .int
  | 5 => .array .int
  | 6 => .int
  | 7 => .int
  | 8 => .int
  | _ => .int
abbrev wsX90 : List Cond := u_ws RX9 TX9 10
theorem nmX9 : ∀ a, a < 10 → ∀ b, b < 10 → a ≠ b → (TX9 a).2.1 ≠ (TX9 b).2.1 := by decide +kernel
theorem tyX9_ok : ∀ k, k < 10 → parseFieldDescriptor (TX9 k).2.2.1 = some (tyX9 k) := by decide +kernel
abbrev cX9_init : ByteArray := prog_11_method_1_code
def yX9_init : MethodName := ⟨RX9, "<init>", "()V"⟩
abbrev cX9_follow : ByteArray := prog_11_method_2_code
def yX9_follow : MethodName := ⟨RX9, "follow", "(LCadenceDesk$Finder;LCadenceDesk$Reel;LCadenceDesk$Rules;)V"⟩
abbrev cX9_addField : ByteArray := prog_11_method_3_code
def yX9_addField : MethodName := ⟨RX9, "addField", "(LCadenceDesk$States;IZ)V"⟩
abbrev cX9_putPrice : ByteArray := prog_11_method_4_code
def yX9_putPrice : MethodName := ⟨RX9, "putPrice", "(LCadenceDesk$Reel;LCadenceDesk$Rules;I)V"⟩
abbrev cX9_has : ByteArray := prog_11_method_5_code
def yX9_has : MethodName := ⟨RX9, "has", "(I)Z"⟩
abbrev cX9_place : ByteArray := prog_11_method_6_code
def yX9_place : MethodName := ⟨RX9, "place", "(I)I"⟩
abbrev cX9_step : ByteArray := prog_11_method_7_code
def yX9_step : MethodName := ⟨RX9, "step", "(I)I"⟩
abbrev cX9_seen : ByteArray := prog_11_method_8_code
def yX9_seen : MethodName := ⟨RX9, "seen", "(I)I"⟩
abbrev cX9_isEdit : ByteArray := prog_11_method_9_code
def yX9_isEdit : MethodName := ⟨RX9, "isEdit", "(I)Z"⟩
abbrev cX9_price : ByteArray := prog_11_method_10_code
def yX9_price : MethodName := ⟨RX9, "price", "(I)I"⟩
abbrev cX9_isKept : ByteArray := prog_11_method_11_code
def yX9_isKept : MethodName := ⟨RX9, "isKept", "(I)Z"⟩
abbrev cX9_fieldOfEdit : ByteArray := prog_11_method_12_code
def yX9_fieldOfEdit : MethodName := ⟨RX9, "fieldOfEdit", "(I)I"⟩
abbrev cX9_edits : ByteArray := prog_11_method_13_code
def yX9_edits : MethodName := ⟨RX9, "edits", "()I"⟩
abbrev cX9_dropped : ByteArray := prog_11_method_14_code
def yX9_dropped : MethodName := ⟨RX9, "dropped", "()I"⟩
abbrev cX9_total : ByteArray := prog_11_method_15_code
def yX9_total : MethodName := ⟨RX9, "total", "()I"⟩
def RX10 : String := "CadenceDesk"
def TX10 : u_T := fun k => match k with
  | 0 => ("CadenceDesk", "telling", "LCadenceDesk$Telling;", true)
  | 1 => ("CadenceDesk", "told", "LCadenceDesk$Frames;", true)
  | 2 => ("CadenceDesk", "ruling", "LCadenceDesk$Rules;", true)
  | 3 => ("CadenceDesk", "reel", "LCadenceDesk$Reel;", true)
  | 4 => ("CadenceDesk", "history", "LCadenceDesk$History;", true)
  | 5 => ("CadenceDesk", "finder", "LCadenceDesk$Finder;", true)
  | 6 => ("CadenceDesk", "track", "LCadenceDesk$Track;", true)
  | 7 => ("CadenceDesk", "groups", "LCadenceDesk$Groups;", true)
  | 8 => ("CadenceDesk", "renewed", "LCadenceDesk$Reel;", true)
  | 9 => ("CadenceDesk", "inOrder", "[I", true)
  | 10 => ("CadenceDesk", "inForce", "I", false)
  | _ => ("CadenceDesk", "tracked", "Z", false)
def tyX10 : Nat → FieldType := fun k => match k with
  | 0 => .object "CadenceDesk$Telling"
  | 1 => .object "CadenceDesk$Frames"
  | 2 => .object "CadenceDesk$Rules"
  | 3 => .object "CadenceDesk$Reel"
  | 4 => .object "CadenceDesk$History"
  | 5 => .object "CadenceDesk$Finder"
  | 6 => .object "CadenceDesk$Track"
  | 7 => .object "CadenceDesk$Groups"
  | 8 => .object "CadenceDesk$Reel"
  | 9 => .array .int
  | 10 => .int
  | _ => .boolean
abbrev wsX100 : List Cond := u_ws RX10 TX10 12
theorem nmX10 : ∀ a, a < 12 → ∀ b, b < 12 → a ≠ b → (TX10 a).2.1 ≠ (TX10 b).2.1 := by decide +kernel
theorem tyX10_ok : ∀ k, k < 12 → parseFieldDescriptor (TX10 k).2.2.1 = some (tyX10 k) := by decide +kernel
abbrev cX10_init : ByteArray := prog_1_method_1_code
def yX10_init : MethodName := ⟨RX10, "<init>", "()V"⟩
abbrev cX10_feed : ByteArray := prog_1_method_2_code
def yX10_feed : MethodName := ⟨RX10, "feed", "(IIIII)I"⟩
abbrev cX10_film : ByteArray := prog_1_method_3_code
def yX10_film : MethodName := ⟨RX10, "film", "(I)I"⟩
abbrev cX10_rules : ByteArray := prog_1_method_4_code
def yX10_rules : MethodName := ⟨RX10, "rules", "(I)I"⟩
abbrev cX10_frame : ByteArray := prog_1_method_5_code
def yX10_frame : MethodName := ⟨RX10, "frame", "(III)I"⟩
abbrev cX10_cadence : ByteArray := prog_1_method_6_code
def yX10_cadence : MethodName := ⟨RX10, "cadence", "(II)I"⟩
abbrev cX10_force : ByteArray := prog_1_method_7_code
def yX10_force : MethodName := ⟨RX10, "force", "(I)I"⟩
abbrev cX10_carry : ByteArray := prog_1_method_8_code
def yX10_carry : MethodName := ⟨RX10, "carry", "(II)I"⟩
abbrev cX10_cut : ByteArray := prog_1_method_9_code
def yX10_cut : MethodName := ⟨RX10, "cut", "(II)I"⟩
abbrev cX10_doubled : ByteArray := prog_1_method_10_code
def yX10_doubled : MethodName := ⟨RX10, "doubled", "(II)I"⟩
abbrev cX10_noise : ByteArray := prog_1_method_11_code
def yX10_noise : MethodName := ⟨RX10, "noise", "(II)I"⟩
abbrev cX10_set : ByteArray := prog_1_method_12_code
def yX10_set : MethodName := ⟨RX10, "set", "(III)I"⟩
abbrev cX10_undo : ByteArray := prog_1_method_13_code
def yX10_undo : MethodName := ⟨RX10, "undo", "()I"⟩
abbrev cX10_field : ByteArray := prog_1_method_14_code
def yX10_field : MethodName := ⟨RX10, "field", "(II)I"⟩
abbrev cX10_apart : ByteArray := prog_1_method_15_code
def yX10_apart : MethodName := ⟨RX10, "apart", "(II)I"⟩
abbrev cX10_path : ByteArray := prog_1_method_16_code
def yX10_path : MethodName := ⟨RX10, "path", "(II)I"⟩
abbrev cX10_all : ByteArray := prog_1_method_17_code
def yX10_all : MethodName := ⟨RX10, "all", "(I)I"⟩
abbrev cX10_edit : ByteArray := prog_1_method_18_code
def yX10_edit : MethodName := ⟨RX10, "edit", "(I)I"⟩
abbrev cX10_group : ByteArray := prog_1_method_19_code
def yX10_group : MethodName := ⟨RX10, "group", "(II)I"⟩
abbrev cX10_found : ByteArray := prog_1_method_20_code
def yX10_found : MethodName := ⟨RX10, "found", "(III)I"⟩
abbrev cX10_known : ByteArray := prog_1_method_21_code
def yX10_known : MethodName := ⟨RX10, "known", "(I)I"⟩
abbrev cX10_restored : ByteArray := prog_1_method_22_code
def yX10_restored : MethodName := ⟨RX10, "restored", "()I"⟩
abbrev cX10_costs : ByteArray := prog_1_method_23_code
def yX10_costs : MethodName := ⟨RX10, "costs", "(I)I"⟩
abbrev cX10_guess : ByteArray := prog_1_method_24_code
def yX10_guess : MethodName := ⟨RX10, "guess", "(I)I"⟩
abbrev cX10_anew : ByteArray := prog_1_method_25_code
def yX10_anew : MethodName := ⟨RX10, "anew", "(III)I"⟩
abbrev cX10_isClean : ByteArray := prog_1_method_26_code
def yX10_isClean : MethodName := ⟨RX10, "isClean", "(I)Z"⟩
abbrev cX10_count : ByteArray := prog_1_method_27_code
def yX10_count : MethodName := ⟨RX10, "count", "(I)I"⟩
abbrev cX10_beginAct : ByteArray := prog_1_method_28_code
def yX10_beginAct : MethodName := ⟨RX10, "beginAct", "()V"⟩
abbrev cX10_forgetPaths : ByteArray := prog_1_method_29_code
def yX10_forgetPaths : MethodName := ⟨RX10, "forgetPaths", "()V"⟩
abbrev cX10_followPath : ByteArray := prog_1_method_30_code
def yX10_followPath : MethodName := ⟨RX10, "followPath", "()V"⟩
abbrev cX10_mostInOrder : ByteArray := prog_1_method_31_code
def yX10_mostInOrder : MethodName := ⟨RX10, "mostInOrder", "(LCadenceDesk$Frames;)I"⟩
abbrev cX10_sampleOfFrame : ByteArray := prog_1_method_32_code
def yX10_sampleOfFrame : MethodName := ⟨RX10, "sampleOfFrame", "(LCadenceDesk$Frames;III)I"⟩
abbrev cX10_isSampleNumber : ByteArray := prog_1_method_33_code
def yX10_isSampleNumber : MethodName := ⟨RX10, "isSampleNumber", "(I)Z"⟩
abbrev cX10_isParity : ByteArray := prog_1_method_34_code
def yX10_isParity : MethodName := ⟨RX10, "isParity", "(I)Z"⟩
abbrev cX10_sampleOf : ByteArray := prog_1_method_35_code
def yX10_sampleOf : MethodName := ⟨RX10, "sampleOf", "(JI)I"⟩
abbrev cX10_withSample : ByteArray := prog_1_method_36_code
def yX10_withSample : MethodName := ⟨RX10, "withSample", "(JII)J"⟩
def RX11 : String := "CadenceDeskModel"
def TX11 : u_T := fun k => match k with
  | 0 => ("CadenceDeskModel", "thrown", "I", false)
  | 1 => ("CadenceDeskModel", "tape", "[B", true)
  | 2 => ("CadenceDeskModel", "taped", "I", false)
  | 3 => ("CadenceDeskModel", "size", "I", false)
  | 4 => ("CadenceDeskModel", "from", "I", false)
  | 5 => ("CadenceDeskModel", "to", "I", false)
  | 6 => ("CadenceDeskModel", "token", "I", false)
  | 7 => ("CadenceDeskModel", "value", "I", false)
  | 8 => ("CadenceDeskModel", "fault", "I", false)
  | 9 => ("CadenceDeskModel", "faultPlace", "I", false)
  | 10 => ("CadenceDeskModel", "numberHere", "I", false)
  | 11 => ("CadenceDeskModel", "width", "I", false)
  | 12 => ("CadenceDeskModel", "frames", "I", false)
  | 13 => ("CadenceDeskModel", "film", "[I", true)
  | 14 => ("CadenceDeskModel", "newWidth", "I", false)
  | 15 => ("CadenceDeskModel", "newFrames", "I", false)
  | 16 => ("CadenceDeskModel", "newFilm", "[I", true)
  | 17 => ("CadenceDeskModel", "cadences", "I", false)
  | 18 => ("CadenceDeskModel", "newCadences", "I", false)
  | 19 => ("CadenceDeskModel", "many", "[I", true)
  | 20 => ("CadenceDeskModel", "number", "[I", true)
  | 21 => ("CadenceDeskModel", "rule", "[I", true)
  | 22 => ("CadenceDeskModel", "isTold", "[Z", true)
  | 23 => ("CadenceDeskModel", "force", "I", false)
  | 24 => ("CadenceDeskModel", "fields", "I", false)
  | 25 => ("CadenceDeskModel", "field", "[I", true)
  | 26 => ("CadenceDeskModel", "undos", "I", false)
  | 27 => ("CadenceDeskModel", "undoMany", "[I", true)
  | 28 => ("CadenceDeskModel", "undone", "[I", true)
  | 29 => ("CadenceDeskModel", "by", "I", false)
  | 30 => ("CadenceDeskModel", "fresh", "[I", true)
  | 31 => ("CadenceDeskModel", "repeat", "[I", true)
  | 32 => ("CadenceDeskModel", "rest", "[I", true)
  | 33 => ("CadenceDeskModel", "state", "[I", true)
  | 34 => ("CadenceDeskModel", "isEdit", "[Z", true)
  | 35 => ("CadenceDeskModel", "costAll", "I", false)
  | 36 => ("CadenceDeskModel", "edits", "I", false)
  | 37 => ("CadenceDeskModel", "groups", "I", false)
  | 38 => ("CadenceDeskModel", "groupOf", "[I", true)
  | 39 => ("CadenceDeskModel", "groupAt", "[I", true)
  | 40 => ("CadenceDeskModel", "isKept", "[Z", true)
  | 41 => ("CadenceDeskModel", "keptOf", "[I", true)
  | 42 => ("CadenceDeskModel", "mateOf", "[I", true)
  | 43 => ("CadenceDeskModel", "foundOf", "[I", true)
  | 44 => ("CadenceDeskModel", "founds", "I", false)
  | 45 => ("CadenceDeskModel", "orphans", "I", false)
  | 46 => ("CadenceDeskModel", "pairs", "I", false)
  | 47 => ("CadenceDeskModel", "dropped", "I", false)
  | 48 => ("CadenceDeskModel", "foundField", "[I", true)
  | 49 => ("CadenceDeskModel", "common", "[I", true)
  | 50 => ("CadenceDeskModel", "anews", "I", false)
  | 51 => ("CadenceDeskModel", "anewFrame", "[I", true)
  | _ => ("CadenceDeskModel", "anewParity", "[I", true)
def tyX11 : Nat → FieldType := fun k => match k with
  | 0 => .int
  | 1 => .array .byte
  | 2 => .int
  | 3 => .int
  | 4 => .int
  | 5 => .int
  | 6 => .int
  | 7 => .int
  | 8 => .int
  | 9 => .int
  | 10 => .int
  | 11 => .int
  | 12 => .int
  | 13 => .array .int
  | 14 => .int
  | 15 => .int
  | 16 => .array .int
  | 17 => .int
  | 18 => .int
  | 19 => .array .int
  | 20 => .array .int
  | 21 => .array .int
  | 22 => .array .boolean
  | 23 => .int
  | 24 => .int
  | 25 => .array .int
  | 26 => .int
  | 27 => .array .int
  | 28 => .array .int
  | 29 => .int
  | 30 => .array .int
  | 31 => .array .int
  | 32 => .array .int
  | 33 => .array .int
  | 34 => .array .boolean
  | 35 => .int
  | 36 => .int
  | 37 => .int
  | 38 => .array .int
  | 39 => .array .int
  | 40 => .array .boolean
  | 41 => .array .int
  | 42 => .array .int
  | 43 => .array .int
  | 44 => .int
  | 45 => .int
  | 46 => .int
  | 47 => .int
  | 48 => .array .int
  | 49 => .array .int
  | 50 => .int
  | 51 => .array .int
  | _ => .array .int
abbrev wsX110 : List Cond := u_ws RX11 TX11 53
theorem nmX11 : ∀ a, a < 53 → ∀ b, b < 53 → a ≠ b → (TX11 a).2.1 ≠ (TX11 b).2.1 := by decide +kernel
theorem tyX11_ok : ∀ k, k < 53 → parseFieldDescriptor (TX11 k).2.2.1 = some (tyX11 k) := by decide +kernel
abbrev cX11_init : ByteArray := prog_13_method_1_code
def yX11_init : MethodName := ⟨RX11, "<init>", "()V"⟩
abbrev cX11_thrown : ByteArray := prog_13_method_2_code
def yX11_thrown : MethodName := ⟨RX11, "thrown", "()I"⟩
abbrev cX11_within : ByteArray := prog_13_method_3_code
def yX11_within : MethodName := ⟨RX11, "within", "(JJJ)Z"⟩
abbrev cX11_puts : ByteArray := prog_13_method_4_code
def yX11_puts : MethodName := ⟨RX11, "puts", "(I)V"⟩
abbrev cX11_feed : ByteArray := prog_13_method_5_code
def yX11_feed : MethodName := ⟨RX11, "feed", "(IIIII)I"⟩
abbrev cX11_see : ByteArray := prog_13_method_6_code
def yX11_see : MethodName := ⟨RX11, "see", "(I)I"⟩
abbrev cX11_steps : ByteArray := prog_13_method_7_code
def yX11_steps : MethodName := ⟨RX11, "steps", "()V"⟩
abbrev cX11_must : ByteArray := prog_13_method_8_code
def yX11_must : MethodName := ⟨RX11, "must", "(ZI)Z"⟩
abbrev cX11_isWord : ByteArray := prog_13_method_9_code
def yX11_isWord : MethodName := ⟨RX11, "isWord", "(IIIIIII)Z"⟩
abbrev cX11_isFrame : ByteArray := prog_13_method_10_code
def yX11_isFrame : MethodName := ⟨RX11, "isFrame", "()Z"⟩
abbrev cX11_takesEnd : ByteArray := prog_13_method_11_code
def yX11_takesEnd : MethodName := ⟨RX11, "takesEnd", "()Z"⟩
abbrev cX11_takesNumber : ByteArray := prog_13_method_12_code
def yX11_takesNumber : MethodName := ⟨RX11, "takesNumber", "(II)Z"⟩
abbrev cX11_begins : ByteArray := prog_13_method_13_code
def yX11_begins : MethodName := ⟨RX11, "begins", "(I)V"⟩
abbrev cX11_told : ByteArray := prog_13_method_14_code
def yX11_told : MethodName := ⟨RX11, "told", "()I"⟩
abbrev cX11_filmAt : ByteArray := prog_13_method_15_code
def yX11_filmAt : MethodName := ⟨RX11, "filmAt", "(III)I"⟩
abbrev cX11_frameHere : ByteArray := prog_13_method_16_code
def yX11_frameHere : MethodName := ⟨RX11, "frameHere", "()Z"⟩
abbrev cX11_readsFilm : ByteArray := prog_13_method_17_code
def yX11_readsFilm : MethodName := ⟨RX11, "readsFilm", "()Z"⟩
abbrev cX11_film : ByteArray := prog_13_method_18_code
def yX11_film : MethodName := ⟨RX11, "film", "(I)I"⟩
abbrev cX11_asAtFirst : ByteArray := prog_13_method_19_code
def yX11_asAtFirst : MethodName := ⟨RX11, "asAtFirst", "(I)V"⟩
abbrev cX11_cadenceHere : ByteArray := prog_13_method_20_code
def yX11_cadenceHere : MethodName := ⟨RX11, "cadenceHere", "()Z"⟩
abbrev cX11_measureHere : ByteArray := prog_13_method_21_code
def yX11_measureHere : MethodName := ⟨RX11, "measureHere", "()I"⟩
abbrev cX11_ruleHere : ByteArray := prog_13_method_22_code
def yX11_ruleHere : MethodName := ⟨RX11, "ruleHere", "()I"⟩
abbrev cX11_oneRule : ByteArray := prog_13_method_23_code
def yX11_oneRule : MethodName := ⟨RX11, "oneRule", "(I)Z"⟩
abbrev cX11_lineHere : ByteArray := prog_13_method_24_code
def yX11_lineHere : MethodName := ⟨RX11, "lineHere", "()Z"⟩
abbrev cX11_readsRules : ByteArray := prog_13_method_25_code
def yX11_readsRules : MethodName := ⟨RX11, "readsRules", "()Z"⟩
abbrev cX11_rules : ByteArray := prog_13_method_26_code
def yX11_rules : MethodName := ⟨RX11, "rules", "(I)I"⟩
abbrev cX11_isCadence : ByteArray := prog_13_method_27_code
def yX11_isCadence : MethodName := ⟨RX11, "isCadence", "(I)Z"⟩
abbrev cX11_frame : ByteArray := prog_13_method_28_code
def yX11_frame : MethodName := ⟨RX11, "frame", "(III)I"⟩
abbrev cX11_cadence : ByteArray := prog_13_method_29_code
def yX11_cadence : MethodName := ⟨RX11, "cadence", "(II)I"⟩
abbrev cX11_force : ByteArray := prog_13_method_30_code
def yX11_force : MethodName := ⟨RX11, "force", "(I)I"⟩
abbrev cX11_isField : ByteArray := prog_13_method_31_code
def yX11_isField : MethodName := ⟨RX11, "isField", "(I)Z"⟩
abbrev cX11_parityOf : ByteArray := prog_13_method_32_code
def yX11_parityOf : MethodName := ⟨RX11, "parityOf", "(I)I"⟩
abbrev cX11_sample : ByteArray := prog_13_method_33_code
def yX11_sample : MethodName := ⟨RX11, "sample", "(II)I"⟩
abbrev cX11_copiesField : ByteArray := prog_13_method_34_code
def yX11_copiesField : MethodName := ⟨RX11, "copiesField", "(II)V"⟩
abbrev cX11_keeps : ByteArray := prog_13_method_35_code
def yX11_keeps : MethodName := ⟨RX11, "keeps", "()V"⟩
abbrev cX11_carry : ByteArray := prog_13_method_36_code
def yX11_carry : MethodName := ⟨RX11, "carry", "(II)I"⟩
abbrev cX11_areThere : ByteArray := prog_13_method_37_code
def yX11_areThere : MethodName := ⟨RX11, "areThere", "(II)Z"⟩
abbrev cX11_cut : ByteArray := prog_13_method_38_code
def yX11_cut : MethodName := ⟨RX11, "cut", "(II)I"⟩
abbrev cX11_doubled : ByteArray := prog_13_method_39_code
def yX11_doubled : MethodName := ⟨RX11, "doubled", "(II)I"⟩
abbrev cX11_noise : ByteArray := prog_13_method_40_code
def yX11_noise : MethodName := ⟨RX11, "noise", "(II)I"⟩
abbrev cX11_set : ByteArray := prog_13_method_41_code
def yX11_set : MethodName := ⟨RX11, "set", "(III)I"⟩
abbrev cX11_undo : ByteArray := prog_13_method_42_code
def yX11_undo : MethodName := ⟨RX11, "undo", "()I"⟩
abbrev cX11_field : ByteArray := prog_13_method_43_code
def yX11_field : MethodName := ⟨RX11, "field", "(II)I"⟩
abbrev cX11_apartOf : ByteArray := prog_13_method_44_code
def yX11_apartOf : MethodName := ⟨RX11, "apartOf", "(II)I"⟩
abbrev cX11_apart : ByteArray := prog_13_method_45_code
def yX11_apart : MethodName := ⟨RX11, "apart", "(II)I"⟩
abbrev cX11_areAlike : ByteArray := prog_13_method_46_code
def yX11_areAlike : MethodName := ⟨RX11, "areAlike", "(II)Z"⟩
abbrev cX11_stateOf : ByteArray := prog_13_method_47_code
def yX11_stateOf : MethodName := ⟨RX11, "stateOf", "(III)I"⟩
abbrev cX11_numberAt : ByteArray := prog_13_method_48_code
def yX11_numberAt : MethodName := ⟨RX11, "numberAt", "(I)I"⟩
abbrev cX11_isState : ByteArray := prog_13_method_49_code
def yX11_isState : MethodName := ⟨RX11, "isState", "(III)Z"⟩
abbrev cX11_laysCosts : ByteArray := prog_13_method_50_code
def yX11_laysCosts : MethodName := ⟨RX11, "laysCosts", "()V"⟩
abbrev cX11_costAt : ByteArray := prog_13_method_51_code
def yX11_costAt : MethodName := ⟨RX11, "costAt", "(II)I"⟩
abbrev cX11_on : ByteArray := prog_13_method_52_code
def yX11_on : MethodName := ⟨RX11, "on", "(II)I"⟩
abbrev cX11_costs : ByteArray := prog_13_method_53_code
def yX11_costs : MethodName := ⟨RX11, "costs", "(IIZ)I"⟩
abbrev cX11_leastBehind : ByteArray := prog_13_method_54_code
def yX11_leastBehind : MethodName := ⟨RX11, "leastBehind", "(II)I"⟩
abbrev cX11_laysRest : ByteArray := prog_13_method_55_code
def yX11_laysRest : MethodName := ⟨RX11, "laysRest", "()V"⟩
abbrev cX11_goes : ByteArray := prog_13_method_56_code
def yX11_goes : MethodName := ⟨RX11, "goes", "(II)V"⟩
abbrev cX11_laysPath : ByteArray := prog_13_method_57_code
def yX11_laysPath : MethodName := ⟨RX11, "laysPath", "(I)V"⟩
abbrev cX11_costOf : ByteArray := prog_13_method_58_code
def yX11_costOf : MethodName := ⟨RX11, "costOf", "(I)I"⟩
abbrev cX11_isOrphan : ByteArray := prog_13_method_59_code
def yX11_isOrphan : MethodName := ⟨RX11, "isOrphan", "(I)Z"⟩
abbrev cX11_loneOf : ByteArray := prog_13_method_60_code
def yX11_loneOf : MethodName := ⟨RX11, "loneOf", "(I)I"⟩
abbrev cX11_laysGroups : ByteArray := prog_13_method_61_code
def yX11_laysGroups : MethodName := ⟨RX11, "laysGroups", "()V"⟩
abbrev cX11_canMate : ByteArray := prog_13_method_62_code
def yX11_canMate : MethodName := ⟨RX11, "canMate", "(II)Z"⟩
abbrev cX11_laysFound : ByteArray := prog_13_method_63_code
def yX11_laysFound : MethodName := ⟨RX11, "laysFound", "()V"⟩
abbrev cX11_laysAll : ByteArray := prog_13_method_64_code
def yX11_laysAll : MethodName := ⟨RX11, "laysAll", "()V"⟩
abbrev cX11_path : ByteArray := prog_13_method_65_code
def yX11_path : MethodName := ⟨RX11, "path", "(II)I"⟩
abbrev cX11_all : ByteArray := prog_13_method_66_code
def yX11_all : MethodName := ⟨RX11, "all", "(I)I"⟩
abbrev cX11_edit : ByteArray := prog_13_method_67_code
def yX11_edit : MethodName := ⟨RX11, "edit", "(I)I"⟩
abbrev cX11_group : ByteArray := prog_13_method_68_code
def yX11_group : MethodName := ⟨RX11, "group", "(II)I"⟩
abbrev cX11_found : ByteArray := prog_13_method_69_code
def yX11_found : MethodName := ⟨RX11, "found", "(III)I"⟩
abbrev cX11_areSame : ByteArray := prog_13_method_70_code
def yX11_areSame : MethodName := ⟨RX11, "areSame", "(II)Z"⟩
abbrev cX11_known : ByteArray := prog_13_method_71_code
def yX11_known : MethodName := ⟨RX11, "known", "(I)I"⟩
abbrev cX11_restored : ByteArray := prog_13_method_72_code
def yX11_restored : MethodName := ⟨RX11, "restored", "()I"⟩
abbrev cX11_costs_ : ByteArray := prog_13_method_73_code
def yX11_costs_ : MethodName := ⟨RX11, "costs", "(I)I"⟩
abbrev cX11_guess : ByteArray := prog_13_method_74_code
def yX11_guess : MethodName := ⟨RX11, "guess", "(I)I"⟩
abbrev cX11_laysAnew : ByteArray := prog_13_method_75_code
def yX11_laysAnew : MethodName := ⟨RX11, "laysAnew", "(I)V"⟩
abbrev cX11_anewSample : ByteArray := prog_13_method_76_code
def yX11_anewSample : MethodName := ⟨RX11, "anewSample", "(II)I"⟩
abbrev cX11_anew : ByteArray := prog_13_method_77_code
def yX11_anew : MethodName := ⟨RX11, "anew", "(III)I"⟩
abbrev cX11_isClean : ByteArray := prog_13_method_78_code
def yX11_isClean : MethodName := ⟨RX11, "isClean", "(I)Z"⟩
abbrev cX11_count : ByteArray := prog_13_method_79_code
def yX11_count : MethodName := ⟨RX11, "count", "(I)I"⟩
def RJ0 : String := "java/lang/String"
abbrev cJ0_length_8abf5 : ByteArray := prog_20_method_54_code
def yJ0_length_8abf5 : MethodName := ⟨RJ0, "length", "()I"⟩
abbrev cJ0_charAt_5068e : ByteArray := prog_20_method_56_code
def yJ0_charAt_5068e : MethodName := ⟨RJ0, "charAt", "(I)C"⟩
abbrev cJ0_coder_7d493 : ByteArray := prog_20_method_152_code
def yJ0_coder_7d493 : MethodName := ⟨RJ0, "coder", "()B"⟩
abbrev cJ0_isLatin1_aae02 : ByteArray := prog_20_method_154_code
def yJ0_isLatin1_aae02 : MethodName := ⟨RJ0, "isLatin1", "()Z"⟩
abbrev cJ0_checkIndex_df160 : ByteArray := prog_20_method_155_code
def yJ0_checkIndex_df160 : MethodName := ⟨RJ0, "checkIndex", "(II)V"⟩
def RJ1 : String := "java/lang/StringLatin1"
abbrev cJ1_charAt_3b067 : ByteArray := prog_21_method_2_code
def yJ1_charAt_3b067 : MethodName := ⟨RJ1, "charAt", "([BI)C"⟩
def RJ3 : String := "jdk/internal/util/Preconditions"
abbrev cJ3_checkIndex_8e157 : ByteArray := prog_28_method_11_code
def yJ3_checkIndex_8e157 : MethodName := ⟨RJ3, "checkIndex", "(IILjava/util/function/BiFunction;)I"⟩
def RL : String := "CadenceDeskLaw"
abbrev cL_field : ByteArray := method_3_code
def yL_field : MethodName := ⟨RL, "field", "(LCadenceDesk;II[J)I"⟩
abbrev cL_law : ByteArray := code
def yL_law : MethodName := ⟨RL, "law", "([I)Z"⟩
end
section
/-! tables of the abstract machine, by program (wip/whole/gen_tables.py) -/
abbrev cd_cl : List vw_C := [(RX0, TX0, 10), (RX1, TX1, 4), (RX2, TX2, 9), (RX3, TX3, 4), (RX4, TX4, 2), (RX5, TX5, 4), (RX6, TX6, 5), (RX7, TX7, 7), (RX8, TX8, 6), (RX9, TX9, 10), (RX10, TX10, 12), (RX11, TX11, 53)]
def cd_cn : List String := [RX0, RX1, RX2, RX3, RX4, RX5, RX6, RX7, RX8, RX9, RX10, RX11, RJ0, RJ1, RJ3]
def cd_shT : List (Nat × Nat) := [(10, 12), (8, 6), (7, 7), (1, 4), (5, 4), (1, 4), (5, 4), (4, 2), (3, 4), (0, 10), (6, 5), (9, 10), (2, 9), (1, 4), (4, 2), (11, 53), (20, 21), (20, 225), (21, 20), (21, 20), (20, 24), (20, 4), (20, 5), (21, 20), (21, 20), (20, 24), (20, 4), (20, 5), (21, 90), (21, 1080), (20, 12), (20, 90), (20, 90), (21, 180), (20, 90), (23, 4), (20, 4), (20, 4), (20, 4), (20, 90), (20, 90), (20, 90), (20, 90), (20, 90), (20, 90), (20, 90), (23, 90), (20, 90), (20, 90), (20, 90), (20, 90), (20, 90), (20, 90), (20, 90), (21, 90), (21, 90), (21, 90), (22, 900), (20, 240), (20, 240), (20, 8), (20, 48), (20, 10), (23, 5), (20, 630), (20, 12), (20, 7560), (20, 90), (20, 90), (20, 13500), (20, 90), (23, 90), (20, 90), (20, 91), (23, 90), (20, 180), (20, 90), (20, 90), (20, 180), (20, 91), (20, 90), (20, 90), (21, 1)]
def cd_rfT : List (List (Option Nat)) := [[some 1, some 5, some 6, some 7, some 8, some 9, some 11, some 12, some 14, some 16, none, none], [some 2, some 3, some 4, none, none, none], [some 17, none, none, none, none, none, none], [some 18, some 19, none, none], [some 20, some 21, some 22, none], [some 23, some 24, none, none], [some 25, some 26, some 27, none], [some 28, none], [some 29, some 30, none, none], [some 10, some 31, some 32, some 33, some 34, none, some 35, some 36, some 37, some 38], [some 39, some 40, some 41, some 42, none], [some 43, some 44, some 45, some 46, some 47, some 48, none, none, none, none], [some 49, some 50, some 51, some 52, some 53, some 13, none, none, none], [some 54, some 55, none, none], [some 56, none], [none, some 57, none, none, none, none, none, none, none, none, none, none, none, some 58, none, none, some 59, none, none, some 60, some 61, some 62, some 63, none, none, some 64, none, some 65, some 66, none, some 67, some 68, some 69, some 70, some 71, none, none, none, some 72, some 73, some 74, some 75, some 76, some 77, none, none, none, none, some 78, some 79, none, some 80, some 81]]
def cd_NC : Nat := 83
def cd_my_0 : List MethodName := [yX0_states, yX0_forget, yX0_costBy, yX0_firstPlace, yX0_firstStep, yX0_entry, yX0_goesOn, yX0_solve, yX0_weighStates, yX0_isBetterOn, yX0_leastEntry, yX1_begin, yX1_width, yX1_size, yX1_has, yX1_add, yX1_row, yX1_isSame, yX1_copyFrom, yX2_gather, yX2_addField, yX2_mateOrphans, yX2_canMate, yX2_rebuildFrames, yX2_partner, yX2_addFrame, yX2_has, yX2_size, yX2_orphans, yX2_pairs, yX2_frames, yX2_groupOf, yX2_frameOf, yX2_start, yX2_length, yX2_isOrphan, yX2_mateOf, yX3_size, yX3_empty, yX3_keep, yX3_giveBack, yX4_size, yX4_empty, yX4_has, yX4_hasSpan, yX4_row, yX4_parity, yX4_sample, yX4_putSample, yX4_carryFrames, yX4_addField, yX4_removeSpan, yX4_repeatSpan, yX4_disturb, yX4_isSame, yX5_clear, yX5_addCadence, yX5_addNumber, yX5_putValue, yX5_copyFrom]
def cd_my_1 : List MethodName := [yX5_cadences, yX5_hasCadence, yX5_length, yX5_hasPlace, yX5_number, yX5_value, yX5_distance, yX5_costOfRepeat, yX5_costOfFresh, yX6_size, yX6_place, yX6_step, yX6_seen, yX6_next, yX6_has, yX6_build, yX6_addPlace, yX6_addState, yX6_firstOfStep, yX7_hasRoom, yX7_put, yX7_size, yX7_holds, yX7_empty, yX7_open, yX7_kind, yX7_start, yX7_number, yX7_advance, yX7_isWord, yX7_passWord, yX7_passNumber, yX7_byteAt, yX7_isBlank, yX7_isLetter, yX7_isDigit, yX8_tape, yX8_frames, yX8_rulesRead, yX8_fault, yX8_readFilm, yX8_readFrame, yX8_readRules, yX8_readCadence, yX8_valueTold, yX8_readValue, yX8_takeMeasure, yX8_takeWord, yX8_takeSemicolon, yX8_takeNumber, yX8_isNumberWithin, yX8_refuse, yX9_follow, yX9_addField, yX9_putPrice, yX9_has, yX9_place, yX9_step, yX9_seen, yX9_isEdit]
def cd_my_2 : List MethodName := [yX9_price, yX9_isKept, yX9_fieldOfEdit, yX9_edits, yX9_dropped, yX9_total, yX10_feed, yX10_film, yX10_rules, yX10_frame, yX10_cadence, yX10_force, yX10_carry, yX10_cut, yX10_doubled, yX10_noise, yX10_set, yX10_undo, yX10_apart, yX10_path, yX10_all, yX10_edit, yX10_group, yX10_found, yX10_known, yX10_restored, yX10_costs, yX10_guess, yX10_anew, yX10_isClean, yX10_count, yX10_beginAct, yX10_forgetPaths, yX10_followPath, yX10_mostInOrder, yX10_sampleOfFrame, yX10_isSampleNumber, yX10_isParity, yX10_sampleOf, yX10_withSample, yX11_thrown, yX11_within, yX11_puts, yX11_feed, yX11_see, yX11_steps, yX11_must, yX11_isWord, yX11_isFrame, yX11_takesEnd, yX11_takesNumber, yX11_begins, yX11_told, yX11_filmAt, yX11_frameHere, yX11_readsFilm, yX11_film, yX11_asAtFirst, yX11_cadenceHere, yX11_measureHere]
def cd_my_3 : List MethodName := [yX11_ruleHere, yX11_oneRule, yX11_lineHere, yX11_readsRules, yX11_rules, yX11_isCadence, yX11_frame, yX11_cadence, yX11_force, yX11_isField, yX11_parityOf, yX11_sample, yX11_copiesField, yX11_keeps, yX11_carry, yX11_areThere, yX11_cut, yX11_doubled, yX11_noise, yX11_set, yX11_undo, yX11_field, yX11_apartOf, yX11_apart, yX11_areAlike, yX11_stateOf, yX11_numberAt, yX11_isState, yX11_laysCosts, yX11_costAt, yX11_on, yX11_costs, yX11_leastBehind, yX11_laysRest, yX11_goes, yX11_laysPath, yX11_costOf, yX11_isOrphan, yX11_loneOf, yX11_laysGroups, yX11_canMate, yX11_laysFound, yX11_laysAll, yX11_path, yX11_all, yX11_edit, yX11_group, yX11_found, yX11_areSame, yX11_known, yX11_restored, yX11_costs_, yX11_guess, yX11_laysAnew, yX11_anewSample, yX11_anew, yX11_isClean, yX11_count, yJ0_length_8abf5, yJ0_charAt_5068e]
def cd_my_4 : List MethodName := [yJ0_coder_7d493, yJ0_isLatin1_aae02, yJ0_checkIndex_df160, yJ1_charAt_3b067, yJ3_checkIndex_8e157]
def cd_my : List MethodName := cd_my_0 ++ (cd_my_1 ++ (cd_my_2 ++ (cd_my_3 ++ (cd_my_4))))
def cd_mc_0 : List ByteArray := [cX0_states, cX0_forget, cX0_costBy, cX0_firstPlace, cX0_firstStep, cX0_entry, cX0_goesOn, cX0_solve, cX0_weighStates, cX0_isBetterOn, cX0_leastEntry, cX1_begin, cX1_width, cX1_size, cX1_has, cX1_add, cX1_row, cX1_isSame, cX1_copyFrom, cX2_gather, cX2_addField, cX2_mateOrphans, cX2_canMate, cX2_rebuildFrames, cX2_partner, cX2_addFrame, cX2_has, cX2_size, cX2_orphans, cX2_pairs, cX2_frames, cX2_groupOf, cX2_frameOf, cX2_start, cX2_length, cX2_isOrphan, cX2_mateOf, cX3_size, cX3_empty, cX3_keep, cX3_giveBack, cX4_size, cX4_empty, cX4_has, cX4_hasSpan, cX4_row, cX4_parity, cX4_sample, cX4_putSample, cX4_carryFrames, cX4_addField, cX4_removeSpan, cX4_repeatSpan, cX4_disturb, cX4_isSame, cX5_clear, cX5_addCadence, cX5_addNumber, cX5_putValue, cX5_copyFrom]
def cd_mc_1 : List ByteArray := [cX5_cadences, cX5_hasCadence, cX5_length, cX5_hasPlace, cX5_number, cX5_value, cX5_distance, cX5_costOfRepeat, cX5_costOfFresh, cX6_size, cX6_place, cX6_step, cX6_seen, cX6_next, cX6_has, cX6_build, cX6_addPlace, cX6_addState, cX6_firstOfStep, cX7_hasRoom, cX7_put, cX7_size, cX7_holds, cX7_empty, cX7_open, cX7_kind, cX7_start, cX7_number, cX7_advance, cX7_isWord, cX7_passWord, cX7_passNumber, cX7_byteAt, cX7_isBlank, cX7_isLetter, cX7_isDigit, cX8_tape, cX8_frames, cX8_rulesRead, cX8_fault, cX8_readFilm, cX8_readFrame, cX8_readRules, cX8_readCadence, cX8_valueTold, cX8_readValue, cX8_takeMeasure, cX8_takeWord, cX8_takeSemicolon, cX8_takeNumber, cX8_isNumberWithin, cX8_refuse, cX9_follow, cX9_addField, cX9_putPrice, cX9_has, cX9_place, cX9_step, cX9_seen, cX9_isEdit]
def cd_mc_2 : List ByteArray := [cX9_price, cX9_isKept, cX9_fieldOfEdit, cX9_edits, cX9_dropped, cX9_total, cX10_feed, cX10_film, cX10_rules, cX10_frame, cX10_cadence, cX10_force, cX10_carry, cX10_cut, cX10_doubled, cX10_noise, cX10_set, cX10_undo, cX10_apart, cX10_path, cX10_all, cX10_edit, cX10_group, cX10_found, cX10_known, cX10_restored, cX10_costs, cX10_guess, cX10_anew, cX10_isClean, cX10_count, cX10_beginAct, cX10_forgetPaths, cX10_followPath, cX10_mostInOrder, cX10_sampleOfFrame, cX10_isSampleNumber, cX10_isParity, cX10_sampleOf, cX10_withSample, cX11_thrown, cX11_within, cX11_puts, cX11_feed, cX11_see, cX11_steps, cX11_must, cX11_isWord, cX11_isFrame, cX11_takesEnd, cX11_takesNumber, cX11_begins, cX11_told, cX11_filmAt, cX11_frameHere, cX11_readsFilm, cX11_film, cX11_asAtFirst, cX11_cadenceHere, cX11_measureHere]
def cd_mc_3 : List ByteArray := [cX11_ruleHere, cX11_oneRule, cX11_lineHere, cX11_readsRules, cX11_rules, cX11_isCadence, cX11_frame, cX11_cadence, cX11_force, cX11_isField, cX11_parityOf, cX11_sample, cX11_copiesField, cX11_keeps, cX11_carry, cX11_areThere, cX11_cut, cX11_doubled, cX11_noise, cX11_set, cX11_undo, cX11_field, cX11_apartOf, cX11_apart, cX11_areAlike, cX11_stateOf, cX11_numberAt, cX11_isState, cX11_laysCosts, cX11_costAt, cX11_on, cX11_costs, cX11_leastBehind, cX11_laysRest, cX11_goes, cX11_laysPath, cX11_costOf, cX11_isOrphan, cX11_loneOf, cX11_laysGroups, cX11_canMate, cX11_laysFound, cX11_laysAll, cX11_path, cX11_all, cX11_edit, cX11_group, cX11_found, cX11_areSame, cX11_known, cX11_restored, cX11_costs_, cX11_guess, cX11_laysAnew, cX11_anewSample, cX11_anew, cX11_isClean, cX11_count, cJ0_length_8abf5, cJ0_charAt_5068e]
def cd_mc_4 : List ByteArray := [cJ0_coder_7d493, cJ0_isLatin1_aae02, cJ0_checkIndex_df160, cJ1_charAt_3b067, cJ3_checkIndex_8e157]
def cd_mc : List ByteArray := cd_mc_0 ++ (cd_mc_1 ++ (cd_mc_2 ++ (cd_mc_3 ++ (cd_mc_4))))
def cd_ml_0 : List Nat := [1, 2, 4, 2, 2, 2, 3, 5, 11, 5, 3, 2, 1, 1, 2, 5, 3, 4, 3, 5, 3, 4, 6, 4, 2, 4, 2, 1, 1, 1, 1, 2, 2, 2, 2, 2, 2, 1, 1, 2, 2, 1, 1, 2, 3, 2, 2, 3, 4, 11, 4, 3, 3, 12, 3, 1, 1, 3, 3, 2, 1, 2, 2, 3, 3, 2, 10, 4, 4, 1, 2, 2, 2, 2, 2, 5, 9, 5, 1, 1, 2, 1, 2, 1, 2, 1, 1, 1, 2, 3, 1, 1, 2, 1, 1, 1, 1, 1, 1, 1, 3, 8, 4, 2, 1, 3, 1, 2, 1, 3, 3, 2, 7, 4, 5, 2, 2, 2, 2, 2, 2, 2, 2, 1, 1, 1, 7, 3, 3, 4, 3, 3, 3, 3, 3, 3, 5, 1, 3, 3, 2, 2, 3, 4, 4, 1, 2, 4, 4, 2, 2, 1, 1, 1, 7, 5, 2, 1, 3, 5, 1, 6, 3, 6, 2, 2, 3, 9, 1, 1, 3, 2, 1, 3, 2, 1, 3, 2, 2, 1, 1, 3, 2, 1, 3, 2, 4, 3, 3, 2, 2, 3, 4, 2, 8, 3, 4, 4, 9, 5, 2, 3, 8, 3, 3, 3, 2, 4, 4, 3, 5, 4, 9, 3, 10, 3, 2, 2, 2, 3, 3, 6, 1, 3, 2, 4, 3, 4, 5, 3, 5, 2, 6, 5, 3, 4, 4, 2, 1, 2, 1, 1, 2, 2, 3]
def cd_ml : List Nat := cd_ml_0
def cd_mr_0 : List (Option FieldType) := [(some (.object "CadenceDesk$States")), none, (some .int), (some .int), (some .int), (some .int), (some .boolean), none, none, (some .boolean), (some .int), none, (some .int), (some .int), (some .boolean), none, (some .long), (some .boolean), none, none, none, none, (some .boolean), none, (some .int), none, (some .boolean), (some .int), (some .int), (some .int), (some (.object "CadenceDesk$Frames")), (some .int), (some .int), (some .int), (some .int), (some .boolean), (some .int), (some .int), none, none, none, (some .int), none, (some .boolean), (some .boolean), (some .long), (some .int), (some .int), none, none, none, none, none, (some .int), (some .boolean), none, none, none, none, none]
def cd_mr_1 : List (Option FieldType) := [(some .int), (some .boolean), (some .int), (some .boolean), (some .int), (some .int), (some .int), (some .int), (some .int), (some .int), (some .int), (some .int), (some .int), (some .int), (some .boolean), none, none, none, (some .int), (some .boolean), none, (some .int), (some .boolean), none, none, (some .int), (some .int), (some .int), none, (some .boolean), none, none, (some .int), (some .boolean), (some .boolean), (some .boolean), (some (.object "CadenceDesk$Tape")), (some (.object "CadenceDesk$Frames")), (some (.object "CadenceDesk$Rules")), (some .int), (some .boolean), (some .boolean), (some .boolean), (some .boolean), (some .int), (some .boolean), (some .boolean), (some .boolean), (some .boolean), (some .boolean), (some .boolean), (some .boolean), none, none, none, (some .boolean), (some .int), (some .int), (some .int), (some .boolean)]
def cd_mr_2 : List (Option FieldType) := [(some .int), (some .boolean), (some .int), (some .int), (some .int), (some .int), (some .int), (some .int), (some .int), (some .int), (some .int), (some .int), (some .int), (some .int), (some .int), (some .int), (some .int), (some .int), (some .int), (some .int), (some .int), (some .int), (some .int), (some .int), (some .int), (some .int), (some .int), (some .int), (some .int), (some .boolean), (some .int), none, none, none, (some .int), (some .int), (some .boolean), (some .boolean), (some .int), (some .long), (some .int), (some .boolean), none, (some .int), (some .int), none, (some .boolean), (some .boolean), (some .boolean), (some .boolean), (some .boolean), none, (some .int), (some .int), (some .boolean), (some .boolean), (some .int), none, (some .boolean), (some .int)]
def cd_mr_3 : List (Option FieldType) := [(some .int), (some .boolean), (some .boolean), (some .boolean), (some .int), (some .boolean), (some .int), (some .int), (some .int), (some .boolean), (some .int), (some .int), none, none, (some .int), (some .boolean), (some .int), (some .int), (some .int), (some .int), (some .int), (some .int), (some .int), (some .int), (some .boolean), (some .int), (some .int), (some .boolean), none, (some .int), (some .int), (some .int), (some .int), none, none, none, (some .int), (some .boolean), (some .int), none, (some .boolean), none, none, (some .int), (some .int), (some .int), (some .int), (some .int), (some .boolean), (some .int), (some .int), (some .int), (some .int), none, (some .int), (some .int), (some .boolean), (some .int), (some .int), (some .char)]
def cd_mr_4 : List (Option FieldType) := [(some .byte), (some .boolean), none, (some .char), (some .int)]
def cd_mr : List (Option FieldType) := cd_mr_0 ++ (cd_mr_1 ++ (cd_mr_2 ++ (cd_mr_3 ++ (cd_mr_4))))
def cd_mo_0 : List Nat := [0, 0, 0, 0, 0, 0, 0, 0, 0, 0, 0, 1, 1, 1, 1, 1, 1, 1, 1, 2, 2, 2, 2, 2, 2, 2, 2, 2, 2, 2, 2, 2, 2, 2, 2, 2, 2, 3, 3, 3, 3, 4, 4, 4, 4, 4, 4, 4, 4, 4, 4, 4, 4, 4, 4, 5, 5, 5, 5, 5, 5, 5, 5, 5, 5, 5, 5, 5, 5, 6, 6, 6, 6, 6, 6, 6, 6, 6, 6, 7, 7, 7, 7, 7, 7, 7, 7, 7, 7, 7, 7, 7, 7, 7, 7, 7, 8, 8, 8, 8, 8, 8, 8, 8, 8, 8, 8, 8, 8, 8, 8, 8, 9, 9, 9, 9, 9, 9, 9, 9, 9, 9, 9, 9, 9, 9, 10, 10, 10, 10, 10, 10, 10, 10, 10, 10, 10, 10, 10, 10, 10, 10, 10, 10, 10, 10, 10, 10, 10, 10, 10, 10, 10, 10, 10, 10, 10, 10, 10, 10, 11, 11, 11, 11, 11, 11, 11, 11, 11, 11, 11, 11, 11, 11, 11, 11, 11, 11, 11, 11, 11, 11, 11, 11, 11, 11, 11, 11, 11, 11, 11, 11, 11, 11, 11, 11, 11, 11, 11, 11, 11, 11, 11, 11, 11, 11, 11, 11, 11, 11, 11, 11, 11, 11, 11, 11, 11, 11, 11, 11, 11, 11, 11, 11, 11, 11, 11, 11, 11, 11, 11, 11, 11, 11, 11, 11, 11, 11, 12, 12, 12, 12, 12, 13, 14]
def cd_mo : List Nat := cd_mo_0
def cd_mn_0 : List Nat := [1, 1, 4, 2, 2, 2, 3, 4, 4, 4, 1, 2, 1, 1, 2, 3, 3, 4, 2, 4, 3, 3, 4, 2, 2, 4, 2, 1, 1, 1, 1, 2, 2, 2, 2, 2, 2, 1, 1, 2, 2, 1, 1, 2, 3, 2, 2, 3, 4, 6, 3, 3, 3, 4, 2, 1, 1, 2, 3, 2, 1, 2, 2, 3, 3, 2, 3, 3, 3, 1, 2, 2, 2, 2, 2, 3, 4, 5, 1, 1, 2, 1, 2, 1, 2, 1, 1, 1, 1, 2, 1, 1, 2, 1, 1, 1, 1, 1, 1, 1, 2, 2, 2, 1, 1, 2, 1, 2, 1, 3, 3, 2, 4, 4, 4, 2, 2, 2, 2, 2, 2, 2, 2, 1, 1, 1, 6, 2, 2, 4, 3, 2, 3, 3, 3, 3, 4, 1, 3, 3, 2, 2, 3, 4, 2, 1, 2, 2, 4, 2, 2, 1, 1, 1, 2, 5, 2, 1, 2, 3, 1, 3, 2, 6, 2, 1, 3, 8, 1, 1, 3, 2, 1, 3, 1, 1, 2, 2, 1, 1, 1, 2, 1, 1, 2, 2, 4, 3, 2, 2, 2, 3, 3, 1, 3, 3, 3, 3, 3, 4, 1, 3, 3, 3, 3, 3, 2, 4, 1, 3, 3, 4, 3, 1, 3, 2, 2, 2, 2, 1, 3, 1, 1, 3, 2, 2, 3, 4, 3, 2, 1, 2, 2, 2, 3, 4, 2, 2, 1, 2, 1, 1, 2, 2, 3]
def cd_mn : List Nat := cd_mn_0
def cd_mf_0 : List Nat := [0, 0, 6, 0, 0, 0, 0, 5, 3, 1, 2, 0, 0, 0, 0, 0, 1, 2, 2, 4, 0, 3, 2, 3, 2, 2, 0, 0, 0, 0, 0, 0, 1, 1, 1, 1, 1, 0, 0, 1, 1, 0, 0, 0, 1, 1, 1, 2, 1, 4, 0, 2, 2, 3, 0, 0, 0, 0, 0, 1, 0, 0, 1, 2, 3, 0, 1, 2, 2, 0, 1, 1, 1, 1, 0, 4, 1, 0, 0, 0, 0, 0, 1, 0, 3, 0, 0, 0, 2, 4, 1, 1, 0, 0, 0, 0, 0, 0, 0, 0, 6, 5, 7, 3, 5, 6, 5, 5, 3, 3, 2, 1, 4, 2, 3, 0, 1, 1, 1, 1, 1, 1, 0, 0, 0, 0, 1, 7, 8, 3, 4, 1, 5, 3, 3, 4, 3, 2, 2, 7, 7, 7, 7, 7, 7, 7, 7, 7, 7, 7, 1, 2, 1, 6, 3, 2, 1, 0, 0, 0, 0, 0, 0, 1, 0, 1, 0, 1, 2, 2, 2, 2, 0, 0, 3, 4, 5, 0, 3, 2, 2, 3, 4, 5, 6, 1, 1, 2, 2, 1, 0, 0, 0, 0, 1, 1, 2, 2, 1, 2, 0, 2, 1, 2, 2, 0, 0, 1, 3, 0, 1, 1, 2, 3, 2, 4, 1, 0, 0, 1, 2, 3, 5, 6, 6, 6, 6, 6, 1, 6, 6, 5, 5, 6, 1, 7, 7, 0, 1, 3, 0, 0, 1, 2, 0]
def cd_mf : List Nat := cd_mf_0
def cd_mw_0 : List Nat := [0, 0, 134, 0, 0, 0, 0, 110, 74, 21, 42, 0, 0, 0, 0, 0, 21, 43, 43, 99, 0, 76, 51, 65, 42, 42, 0, 0, 0, 0, 0, 0, 21, 21, 21, 21, 21, 0, 0, 26, 26, 0, 0, 0, 21, 21, 21, 42, 24, 86, 0, 43, 43, 64, 0, 0, 0, 0, 0, 26, 0, 0, 21, 42, 64, 0, 22, 51, 51, 0, 21, 21, 21, 21, 0, 86, 24, 0, 0, 0, 0, 0, 20, 0, 62, 0, 0, 0, 41, 85, 21, 21, 0, 0, 0, 0, 0, 0, 0, 0, 134, 107, 149, 63, 107, 127, 107, 107, 62, 63, 41, 20, 98, 42, 74, 0, 21, 21, 21, 21, 21, 21, 0, 0, 0, 0, 21, 156, 172, 67, 86, 21, 116, 67, 67, 95, 67, 47, 51, 154, 154, 154, 154, 154, 154, 154, 157, 157, 154, 154, 21, 47, 21, 134, 66, 43, 20, 0, 0, 0, 0, 0, 0, 22, 0, 25, 0, 21, 49, 46, 46, 46, 0, 0, 69, 90, 110, 0, 68, 49, 49, 69, 91, 112, 132, 25, 25, 46, 46, 25, 0, 0, 0, 0, 25, 25, 47, 47, 25, 46, 0, 46, 22, 49, 49, 0, 0, 21, 71, 0, 22, 22, 46, 74, 46, 96, 22, 0, 0, 21, 49, 71, 118, 138, 138, 138, 138, 138, 22, 138, 138, 118, 118, 138, 22, 162, 162, 0, 20, 64, 0, 0, 22, 43, 0]
def cd_mw : List Nat := cd_mw_0
def cd_mp_0 : List Nat := [976, 643, 1160, 1169, 1173, 945, 972, 882, 904, 941, 953, 579, 592, 647, 626, 601, 622, 1143, 617, 1003, 1012, 1016, 1028, 1036, 1041, 1045, 1024, 1089, 1097, 1101, 1105, 1068, 1073, 1122, 1126, 1020, 1131, 852, 635, 764, 856, 784, 631, 796, 792, 828, 908, 824, 836, 772, 779, 800, 810, 818, 1186, 182, 186, 190, 692, 700, 661, 733, 737, 742, 747, 925, 865, 920, 912, 929, 958, 962, 949, 933, 937, 886, 892, 899, 895, 442, 446, 450, 458, 605, 467, 571, 558, 575, 472, 502, 486, 493, 476, 479, 482, 489, 438, 613, 696, 609, 463, 587, 656, 666, 672, 681, 685, 498, 583, 563, 567, 554, 966, 981, 988, 992, 1051, 1055, 1008, 1060, 1064, 996, 1113, 1085, 1093, 1081, 434, 454, 652, 708, 729, 752, 756, 788, 806, 814, 841, 848, 860, 874, 1077, 1109, 1117, 1135, 1139, 1147, 1156, 1165, 1177, 1182, 1190, 760, 639, 878, 1151, 712, 720, 716, 725, 595, 1439, 1454, 1447, 1443, 1466, 1462, 1482, 1478, 1498, 1490, 1486, 1458, 1505, 1501, 1494, 1474, 1451, 1275, 1521, 1535, 1527, 1531, 1517, 1513, 1509, 1547, 1539, 1543, 1551, 1594, 1608, 1586, 1571, 1559, 1555, 1567, 1563, 1575, 1579, 1590, 1599, 1603, 1616, 1612, 1636, 1659, 1648, 1644, 1632, 1668, 1656, 1664, 1652, 1640, 1672, 1628, 1676, 1688, 1696, 1680, 1692, 1684, 1624, 1620, 1700, 1704, 1708, 1712, 1720, 1716, 1724, 1728, 1732, 1740, 1744, 1736, 1748, 1752, 506, 516, 510, 520, 526, 523, 531]
def cd_mp : List Nat := cd_mp_0
def cd_fl_0 : List (Nat × Nat × Nat × Nat × Nat) := [(0, 12, 0, 0, 289), (0, 36, 0, 6, 295), (0, 40, 0, 7, 296), (0, 43, 0, 8, 297), (0, 46, 0, 9, 298), (0, 29, 0, 4, 293), (0, 25, 0, 3, 292), (0, 32, 0, 5, 294), (0, 18, 0, 1, 290), (0, 22, 0, 2, 291), (1, 7, 1, 2, 161), (1, 13, 1, 3, 162), (1, 22, 1, 0, 159), (1, 26, 1, 1, 160), (2, 36, 2, 6, 372), (2, 15, 2, 1, 367), (2, 18, 2, 2, 368), (2, 21, 2, 3, 369), (2, 9, 2, 0, 366), (2, 40, 2, 7, 373), (2, 43, 2, 8, 374), (2, 32, 2, 5, 371), (2, 24, 2, 4, 370), (3, 23, 3, 3, 251), (3, 9, 3, 0, 248), (3, 19, 3, 2, 250), (3, 15, 3, 1, 249), (4, 15, 4, 1, 235), (4, 11, 4, 0, 233), (5, 21, 5, 3, 194), (5, 18, 5, 2, 193), (5, 15, 5, 1, 192), (5, 9, 5, 0, 191), (6, 24, 6, 4, 277), (6, 9, 6, 0, 273), (6, 15, 6, 1, 274), (6, 18, 6, 2, 275), (6, 21, 6, 3, 276), (7, 15, 7, 1, 128), (7, 9, 7, 0, 127), (7, 19, 7, 2, 129), (7, 22, 7, 3, 130), (7, 28, 7, 5, 132), (7, 25, 7, 4, 131), (7, 31, 7, 6, 133), (8, 12, 8, 0, 204), (8, 23, 8, 1, 205), (8, 30, 8, 2, 206), (8, 34, 8, 3, 207), (8, 38, 8, 4, 208), (8, 41, 8, 5, 209), (9, 31, 9, 6, 333), (9, 35, 9, 7, 334), (9, 38, 9, 8, 335), (9, 41, 9, 9, 336), (9, 9, 9, 0, 327), (9, 15, 9, 1, 328), (9, 18, 9, 2, 329), (9, 21, 9, 3, 330), (9, 28, 9, 5, 332), (9, 25, 9, 4, 331), (10, 10, 10, 0, 394), (10, 21, 10, 1, 395), (10, 35, 10, 3, 397), (10, 42, 10, 4, 398), (10, 28, 10, 2, 396), (10, 74, 10, 10, 404), (10, 78, 10, 11, 405), (10, 56, 10, 6, 400), (10, 63, 10, 7, 401), (10, 49, 10, 5, 399), (10, 67, 10, 8, 402), (10, 70, 10, 9, 403), (11, 95, 11, 0, 1276), (11, 7, 11, 1, 1277), (11, 98, 11, 2, 1278), (11, 104, 11, 3, 1279), (11, 107, 11, 5, 1281), (11, 110, 11, 4, 1280), (11, 117, 11, 6, 1282)]
def cd_fl_1 : List (Nat × Nat × Nat × Nat × Nat) := [(11, 120, 11, 7, 1283), (11, 135, 11, 8, 1284), (11, 138, 11, 9, 1285), (11, 152, 11, 10, 1286), (11, 159, 11, 15, 1291), (11, 162, 11, 14, 1290), (11, 17, 11, 16, 1292), (11, 189, 11, 11, 1287), (11, 192, 11, 12, 1288), (11, 13, 11, 13, 1289), (11, 195, 11, 24, 1300), (11, 198, 11, 26, 1302), (11, 26, 11, 21, 1297), (11, 201, 11, 18, 1294), (11, 20, 11, 19, 1295), (11, 23, 11, 20, 1296), (11, 29, 11, 22, 1298), (11, 87, 11, 17, 1293), (11, 227, 11, 23, 1299), (11, 33, 11, 25, 1301), (11, 36, 11, 27, 1303), (11, 39, 11, 28, 1304), (11, 264, 11, 29, 1305), (11, 42, 11, 30, 1306), (11, 45, 11, 31, 1307), (11, 48, 11, 32, 1308), (11, 51, 11, 33, 1309), (11, 54, 11, 34, 1310), (11, 300, 11, 35, 1311), (11, 303, 11, 36, 1312), (11, 66, 11, 41, 1317), (11, 312, 11, 37, 1313), (11, 315, 11, 47, 1323), (11, 60, 11, 39, 1315), (11, 69, 11, 42, 1318), (11, 57, 11, 38, 1314), (11, 63, 11, 40, 1316), (11, 324, 11, 45, 1321), (11, 327, 11, 46, 1322), (11, 330, 11, 44, 1320), (11, 72, 11, 43, 1319), (11, 75, 11, 48, 1324), (11, 78, 11, 49, 1325), (11, 351, 11, 50, 1326), (11, 81, 11, 51, 1327), (11, 84, 11, 52, 1328)]
def cd_fl : List (Nat × Nat × Nat × Nat × Nat) := cd_fl_0 ++ (cd_fl_1)
def cd_fn_0 : List (Nat × Nat × Nat × Nat) := [(3, 26, 4, 0), (3, 31, 4, 1)]
def cd_fn : List (Nat × Nat × Nat × Nat) := cd_fn_0
def cd_lkT_0 : List (Nat × Nat × Nat × Nat × Nat × Nat × Nat × Nat) := [(0, 49, 7, 0, 1161, 880, 881, 93), (0, 53, 75, 0, 883, 884, 885, 94), (0, 57, 41, 0, 900, 782, 783, 91), (0, 63, 8, 0, 901, 903, 21, 93), (0, 66, 10, 0, 950, 952, 24, 93), (0, 75, 70, 0, 955, 956, 957, 94), (0, 79, 71, 0, 959, 960, 961, 94), (0, 82, 46, 0, 905, 906, 907, 91), (0, 85, 68, 0, 909, 910, 911, 90), (0, 91, 67, 0, 917, 918, 919, 90), (0, 94, 65, 0, 922, 923, 924, 90), (0, 97, 69, 0, 926, 927, 928, 94), (0, 98, 73, 0, 930, 931, 932, 94), (0, 101, 9, 0, 938, 940, 23, 93), (0, 105, 72, 0, 946, 947, 948, 94), (0, 108, 5, 0, 942, 943, 944, 93), (1, 29, 14, 0, 623, 624, 625, 88), (1, 33, 16, 0, 619, 620, 621, 88), (1, 37, 11, 0, 618, 577, 578, 88), (1, 41, 15, 0, 627, 599, 600, 88), (2, 46, 41, 0, 1004, 782, 783, 91), (2, 51, 118, 0, 1005, 1006, 1007, 95), (2, 57, 20, 0, 1009, 1011, 28, 96), (2, 61, 21, 0, 1013, 1015, 29, 96), (2, 65, 23, 0, 1033, 1035, 31, 96), (2, 69, 35, 0, 1017, 1018, 1019, 96), (2, 73, 22, 0, 1025, 1027, 30, 96), (2, 77, 46, 0, 1029, 906, 907, 91), (2, 80, 45, 0, 1030, 826, 827, 91), (2, 84, 66, 0, 1031, 863, 864, 90), (2, 90, 65, 0, 1032, 923, 924, 90), (2, 93, 11, 0, 1037, 577, 578, 88), (2, 96, 24, 0, 1038, 1040, 32, 96), (2, 99, 25, 0, 1042, 1044, 33, 96), (2, 103, 13, 0, 1047, 645, 646, 88), (2, 104, 26, 0, 1021, 1022, 1023, 96), (2, 107, 15, 0, 1046, 599, 600, 88), (4, 19, 43, 0, 793, 794, 795, 91), (4, 25, 45, 0, 825, 826, 827, 91), (4, 29, 158, 2, 0, 724, 0, 85), (4, 33, 159, 2, 0, 594, 0, 85), (4, 37, 13, 0, 773, 645, 646, 88), (4, 42, 64, 0, 774, 745, 746, 90), (4, 48, 16, 0, 775, 620, 621, 88), (4, 51, 50, 0, 776, 778, 17, 91), (4, 55, 63, 0, 780, 740, 741, 90), (4, 59, 44, 0, 801, 790, 791, 91), (4, 70, 47, 0, 821, 822, 823, 91), (4, 81, 48, 0, 833, 834, 835, 91), (5, 41, 61, 0, 738, 731, 732, 90), (5, 45, 62, 0, 743, 735, 736, 90), (5, 49, 63, 0, 748, 740, 741, 90), (5, 53, 158, 2, 0, 724, 0, 85), (5, 66, 43, 0, 913, 794, 795, 91), (5, 71, 45, 0, 915, 826, 827, 91), (5, 75, 66, 0, 916, 863, 864, 90), (5, 82, 46, 0, 914, 906, 907, 91), (6, 28, 74, 0, 934, 936, 22, 94), (6, 32, 62, 0, 887, 735, 736, 90), (6, 38, 64, 0, 888, 745, 746, 90)]
def cd_lkT_1 : List (Nat × Nat × Nat × Nat × Nat × Nat × Nat × Nat) := [(6, 42, 76, 0, 889, 891, 19, 94), (6, 46, 78, 1, 893, 894, 0, 94), (6, 49, 77, 0, 896, 898, 20, 94), (7, 34, 81, 0, 459, 448, 449, 87), (7, 38, 82, 0, 468, 456, 457, 87), (7, 42, 88, 0, 469, 470, 471, 87), (7, 45, 92, 0, 473, 475, 0, 87), (7, 49, 93, 1, 477, 478, 0, 87), (7, 52, 94, 1, 480, 481, 0, 87), (7, 55, 90, 0, 483, 485, 1, 87), (7, 58, 95, 1, 487, 488, 0, 87), (7, 61, 91, 0, 490, 492, 2, 87), (7, 64, 238, 0, 503, 504, 505, 98), (7, 69, 239, 0, 513, 514, 515, 98), (8, 44, 84, 0, 464, 465, 466, 87), (8, 49, 107, 0, 495, 497, 3, 86), (8, 53, 109, 0, 560, 562, 5, 86), (8, 57, 11, 0, 576, 577, 578, 88), (8, 60, 108, 0, 580, 582, 7, 86), (8, 64, 85, 0, 568, 569, 570, 87), (8, 68, 101, 0, 584, 586, 8, 86), (8, 74, 89, 0, 499, 500, 501, 87), (8, 77, 111, 0, 551, 553, 4, 86), (8, 80, 88, 0, 559, 470, 471, 87), (8, 83, 12, 0, 589, 590, 591, 88), (8, 85, 159, 2, 0, 594, 0, 85), (8, 89, 15, 0, 598, 599, 600, 88), (8, 93, 55, 0, 657, 180, 181, 90), (8, 96, 60, 0, 658, 659, 660, 90), (8, 101, 103, 0, 663, 665, 10, 86), (8, 104, 104, 0, 669, 671, 11, 86), (8, 107, 105, 0, 678, 680, 12, 86), (8, 110, 56, 0, 667, 184, 185, 90), (8, 113, 110, 0, 564, 566, 6, 86), (8, 116, 87, 0, 572, 573, 574, 87), (8, 119, 57, 0, 668, 188, 189, 90), (8, 132, 106, 0, 682, 684, 13, 86), (8, 135, 58, 0, 689, 690, 691, 90), (8, 145, 86, 0, 555, 556, 557, 87), (9, 44, 5, 0, 967, 943, 944, 93), (9, 50, 41, 0, 968, 782, 783, 91), (9, 55, 6, 0, 969, 970, 971, 93), (9, 59, 0, 0, 973, 974, 975, 93), (9, 63, 73, 0, 977, 931, 932, 94), (9, 68, 113, 0, 978, 980, 25, 95), (9, 72, 114, 0, 985, 987, 26, 95), (9, 76, 70, 0, 982, 956, 957, 94), (9, 79, 71, 0, 983, 960, 961, 94), (9, 82, 72, 0, 984, 947, 948, 94), (9, 85, 115, 0, 989, 991, 27, 95), (9, 89, 121, 0, 993, 994, 995, 95), (9, 92, 68, 0, 997, 910, 911, 90), (9, 98, 67, 0, 998, 918, 919, 90), (9, 101, 65, 0, 999, 923, 924, 90), (10, 82, 96, 0, 435, 436, 437, 86), (10, 86, 79, 0, 439, 440, 441, 87), (10, 92, 80, 0, 443, 444, 445, 87), (10, 95, 81, 0, 447, 448, 449, 87), (10, 99, 82, 0, 455, 456, 457, 87), (10, 103, 100, 0, 460, 461, 462, 86)]
def cd_lkT_2 : List (Nat × Nat × Nat × Nat × Nat × Nat × Nat × Nat) := [(10, 106, 83, 0, 602, 603, 604, 87), (10, 109, 99, 0, 606, 607, 608, 86), (10, 112, 97, 0, 610, 611, 612, 86), (10, 116, 18, 0, 614, 615, 616, 88), (10, 120, 42, 0, 628, 629, 630, 91), (10, 121, 38, 0, 632, 633, 634, 92), (10, 122, 152, 0, 636, 638, 9, 85), (10, 125, 13, 0, 644, 645, 646, 88), (10, 126, 102, 0, 653, 654, 655, 86), (10, 129, 98, 0, 693, 694, 695, 86), (10, 133, 59, 0, 697, 698, 699, 90), (10, 136, 60, 0, 704, 659, 660, 90), (10, 139, 155, 0, 709, 711, 14, 85), (10, 143, 61, 0, 730, 731, 732, 90), (10, 146, 62, 0, 734, 735, 736, 90), (10, 150, 63, 0, 739, 740, 741, 90), (10, 154, 64, 0, 744, 745, 746, 90), (10, 158, 157, 1, 714, 715, 0, 85), (10, 161, 151, 0, 757, 759, 16, 85), (10, 164, 49, 0, 769, 770, 771, 91), (10, 168, 41, 0, 781, 782, 783, 91), (10, 169, 44, 0, 789, 790, 791, 91), (10, 172, 51, 0, 797, 798, 799, 91), (10, 176, 52, 0, 807, 808, 809, 91), (10, 179, 12, 0, 721, 590, 591, 88), (10, 182, 53, 0, 815, 816, 817, 91), (10, 186, 43, 0, 842, 794, 795, 91), (10, 189, 156, 0, 717, 719, 15, 85), (10, 192, 47, 0, 843, 822, 823, 91), (10, 195, 48, 0, 844, 834, 835, 91), (10, 199, 37, 0, 849, 850, 851, 92), (10, 200, 40, 0, 853, 854, 855, 92), (10, 216, 45, 0, 861, 826, 827, 91), (10, 220, 66, 0, 862, 863, 864, 90), (10, 224, 153, 0, 875, 877, 18, 85), (10, 227, 116, 0, 1048, 1049, 1050, 95), (10, 230, 117, 0, 1052, 1053, 1054, 95), (10, 233, 118, 0, 1056, 1006, 1007, 95), (10, 236, 119, 0, 1057, 1058, 1059, 95), (10, 239, 120, 0, 1061, 1062, 1063, 95), (10, 242, 31, 0, 1065, 1066, 1067, 96), (10, 245, 121, 0, 1069, 994, 995, 95), (10, 248, 32, 0, 1070, 1071, 1072, 96), (10, 251, 125, 0, 1078, 1079, 1080, 95), (10, 254, 123, 0, 1082, 1083, 1084, 95), (10, 257, 27, 0, 1086, 1087, 1088, 96), (10, 258, 124, 0, 1090, 1091, 1092, 95), (10, 261, 28, 0, 1094, 1095, 1096, 96), (10, 264, 29, 0, 1098, 1099, 1100, 96), (10, 267, 30, 0, 1102, 1103, 1104, 96), (10, 268, 122, 0, 1110, 1111, 1112, 95), (10, 271, 26, 0, 1118, 1022, 1023, 96), (10, 272, 33, 0, 1119, 1120, 1121, 96), (10, 275, 34, 0, 1123, 1124, 1125, 96), (10, 276, 35, 0, 1127, 1018, 1019, 96), (10, 279, 36, 0, 1128, 1129, 1130, 96), (10, 282, 14, 0, 713, 624, 625, 88), (10, 283, 17, 0, 1140, 1141, 1142, 88), (10, 287, 154, 0, 1148, 1150, 34, 85), (10, 291, 2, 0, 1157, 1158, 1159, 93)]
def cd_lkT_3 : List (Nat × Nat × Nat × Nat × Nat × Nat × Nat × Nat) := [(10, 295, 3, 0, 1166, 1167, 1168, 93), (10, 298, 4, 0, 1170, 1171, 1172, 93), (10, 211, 46, 0, 1178, 906, 907, 91), (10, 301, 54, 0, 1183, 1184, 1185, 91), (10, 304, 65, 0, 1191, 923, 924, 90), (10, 307, 39, 0, 761, 762, 763, 92), (10, 310, 1, 0, 640, 641, 642, 93), (10, 313, 7, 0, 879, 880, 881, 93), (10, 317, 112, 0, 963, 964, 965, 95), (10, 321, 19, 0, 1000, 1001, 1002, 96), (10, 330, 16, 0, 722, 620, 621, 88), (10, 333, 158, 1, 723, 724, 0, 85), (11, 101, 162, 0, 1444, 1446, 37, 97), (11, 113, 164, 0, 1463, 1465, 40, 97), (11, 127, 161, 1, 1452, 1453, 0, 97), (11, 141, 167, 0, 1475, 1477, 42, 97), (11, 145, 166, 0, 1479, 1481, 43, 97), (11, 149, 165, 0, 1459, 1461, 39, 97), (11, 155, 168, 0, 1495, 1497, 47, 97), (11, 165, 170, 0, 1483, 1485, 44, 97), (11, 169, 173, 1, 1499, 1500, 0, 97), (11, 173, 169, 0, 1487, 1489, 45, 97), (11, 176, 174, 0, 1491, 1493, 46, 97), (11, 179, 171, 0, 1455, 1457, 38, 97), (11, 182, 175, 0, 1471, 1473, 41, 97), (11, 185, 172, 0, 1502, 1504, 48, 97), (11, 208, 179, 0, 1532, 1534, 54, 97), (11, 211, 178, 0, 1518, 1520, 51, 97), (11, 214, 180, 0, 1524, 1526, 52, 97), (11, 217, 181, 0, 1528, 1530, 53, 97), (11, 221, 182, 0, 1514, 1516, 50, 97), (11, 91, 177, 0, 1272, 1274, 36, 97), (11, 224, 183, 0, 1510, 1512, 49, 97), (11, 230, 185, 0, 1544, 1546, 55, 97), (11, 233, 193, 0, 1556, 1558, 56, 97), (11, 236, 195, 0, 1564, 1566, 57, 97), (11, 239, 192, 0, 1568, 1570, 58, 97), (11, 247, 191, 0, 1583, 1585, 59, 97), (11, 251, 189, 0, 1591, 1593, 60, 97), (11, 258, 190, 0, 1605, 1607, 61, 97), (11, 261, 202, 0, 1613, 1615, 62, 97), (11, 267, 206, 0, 1645, 1647, 69, 97), (11, 270, 204, 0, 1633, 1635, 66, 97), (11, 273, 205, 1, 1657, 1658, 0, 97), (11, 276, 209, 0, 1665, 1667, 73, 97), (11, 279, 210, 0, 1653, 1655, 71, 97), (11, 283, 211, 0, 1661, 1663, 72, 97), (11, 287, 207, 0, 1641, 1643, 68, 97), (11, 291, 212, 0, 1649, 1651, 70, 97), (11, 294, 208, 0, 1629, 1631, 65, 97), (11, 297, 213, 0, 1637, 1639, 67, 97), (11, 306, 214, 0, 1669, 1671, 74, 97), (11, 309, 216, 0, 1673, 1675, 75, 97), (11, 318, 217, 0, 1685, 1687, 78, 97), (11, 321, 218, 0, 1693, 1695, 80, 97), (11, 333, 220, 0, 1689, 1691, 79, 97), (11, 336, 215, 0, 1625, 1627, 64, 97), (11, 339, 219, 0, 1677, 1679, 76, 97), (11, 342, 221, 0, 1681, 1683, 77, 97), (11, 345, 222, 0, 1621, 1623, 63, 97)]
def cd_lkT_4 : List (Nat × Nat × Nat × Nat × Nat × Nat × Nat × Nat) := [(11, 348, 228, 0, 1717, 1719, 81, 97), (11, 354, 233, 0, 1737, 1739, 82, 97), (11, 357, 234, 0, 1741, 1743, 83, 97), (12, 335, 240, 0, 507, 508, 509, 98), (12, 492, 241, 0, 517, 518, 519, 98), (12, 495, 243, 1, 521, 522, 0, 99), (12, 1059, 244, 1, 529, 530, 0, 100), (13, 9, 242, 1, 524, 525, 0, 98)]
def cd_lkT : List (Nat × Nat × Nat × Nat × Nat × Nat × Nat × Nat) := cd_lkT_0 ++ (cd_lkT_1 ++ (cd_lkT_2 ++ (cd_lkT_3 ++ (cd_lkT_4))))
def cd_nat_0 : List (Nat × Nat × Nat × Nat) := [(0, 69, 3, 954), (3, 32, 3, 765), (3, 38, 1, 766), (4, 62, 3, 802), (4, 73, 1, 831), (4, 78, 0, 832), (5, 35, 3, 701), (5, 57, 2, 867), (5, 62, 0, 870), (5, 79, 1, 921), (10, 325, 0, 1152)]
def cd_nat : List (Nat × Nat × Nat × Nat) := cd_nat_0
def cd_kI_0 : List (Nat × Nat × Int32 × Nat) := [(4, 68, (1664525), 819), (4, 69, (1013904223), 820), (11, 245, (1664525), 1581), (11, 246, (1013904223), 1582), (11, 282, (1000000000), 1660)]
def cd_kI : List (Nat × Nat × Int32 × Nat) := cd_kI_0
def cd_kL_0 : List (Nat × Nat × Int64 × Nat) := [(10, 337, (127), 596), (10, 339, (-1), 597), (4, 23, (4398046511103), 829), (11, 123, (97), 1467), (11, 125, (122), 1468), (11, 131, (48), 1469), (11, 133, (57), 1470), (11, 204, (2), 1522), (11, 206, (5), 1523), (11, 243, (9), 1580), (11, 254, (99), 1595), (11, 256, (-1), 1604)]
def cd_kL : List (Nat × Nat × Int64 × Nat) := cd_kL_0
def cd_str : List (Nat × Nat × String) := [(8, 47, "width"), (8, 72, "frame"), (8, 99, "cadence"), (8, 122, "slack"), (8, 124, "edit"), (8, 126, "still"), (8, 128, "mate"), (8, 130, "measure"), (8, 139, "sum"), (8, 141, "most"), (8, 143, "many"), (10, 206, "no such field"), (10, 214, "no such sample")]
def cd_sl : List Nat := [5, 5, 7, 5, 4, 5, 4, 7, 3, 4, 4, 13, 14]
def cd_sb : List (List Int32) := [[119, 105, 100, 116, 104], [102, 114, 97, 109, 101], [99, 97, 100, 101, 110, 99, 101], [115, 108, 97, 99, 107], [101, 100, 105, 116], [115, 116, 105, 108, 108], [109, 97, 116, 101], [109, 101, 97, 115, 117, 114, 101], [115, 117, 109], [109, 111, 115, 116], [109, 97, 110, 121], [110, 111, 32, 115, 117, 99, 104, 32, 102, 105, 101, 108, 100], [110, 111, 32, 115, 117, 99, 104, 32, 115, 97, 109, 112, 108, 101]]
def cd_nest : List Cond := [.fieldLinkNest RX3 26 RX4 "fields" "[J" RX10, .fieldLinkNest RX3 31 RX4 "size" "I" RX10, .methodLinkNest RX8 85 yX10_withSample RX10, .methodLinkNest RX4 29 yX10_sampleOf RX10, .methodLinkNest RX4 33 yX10_withSample RX10, .methodLinkNest RX5 53 yX10_sampleOf RX10]
end
section
/-! the code of each method as rows, and that it decodes so -/
def cd_t0 : List (Nat × Instr × Nat) := [(0, .aload_n 0, 1), (1, .getfield 12, 3), (4, .areturn, 1)]
set_option maxRecDepth 100000 in
theorem cd_d0 : ∀ q ∈ cd_t0, decode cX0_states q.1 = .ok q.2 := by decide +kernel
def cd_t1 : List (Nat × Instr × Nat) := [(0, .iconst 0, 1), (1, .istore_n 1, 1), (2, .iload_n 1, 1), (3, .iconst 4, 1), (4, .if_icmp .ge 16, 3), (7, .aload_n 0, 1), (8, .getfield 36, 3), (11, .iload_n 1, 1), (12, .iconst 0, 1), (13, .bastore, 1), (14, .iinc 1 1, 3), (17, .goto (-15), 3), (20, .return_, 1)]
set_option maxRecDepth 100000 in
theorem cd_d1 : ∀ q ∈ cd_t1, decode cX0_forget q.1 = .ok q.2 := by decide +kernel
def cd_t2 : List (Nat × Instr × Nat) := [(0, .iload_n 3, 1), (1, .ifCond .lt 8, 3), (4, .iload_n 3, 1), (5, .iconst 4, 1), (6, .if_icmp .lt 5, 3), (9, .iconst 0, 1), (10, .ireturn, 1), (11, .aload_n 0, 1), (12, .getfield 36, 3), (15, .iload_n 3, 1), (16, .baload, 1), (17, .ifCond .ne 10, 3), (20, .aload_n 0, 1), (21, .aload_n 1, 1), (22, .aload_n 2, 1), (23, .iload_n 3, 1), (24, .invokevirtual 49, 3), (27, .aload_n 0, 1), (28, .getfield 40, 3), (31, .iload_n 3, 1), (32, .iaload, 1), (33, .ireturn, 1)]
set_option maxRecDepth 100000 in
theorem cd_d2 : ∀ q ∈ cd_t2, decode cX0_costBy q.1 = .ok q.2 := by decide +kernel
def cd_t3 : List (Nat × Instr × Nat) := [(0, .iload_n 1, 1), (1, .ifCond .lt 17, 3), (4, .iload_n 1, 1), (5, .iconst 4, 1), (6, .if_icmp .ge 12, 3), (9, .aload_n 0, 1), (10, .getfield 43, 3), (13, .iload_n 1, 1), (14, .iaload, 1), (15, .goto 4, 3), (18, .iconst 0, 1), (19, .ireturn, 1)]
set_option maxRecDepth 100000 in
theorem cd_d3 : ∀ q ∈ cd_t3, decode cX0_firstPlace q.1 = .ok q.2 := by decide +kernel
def cd_t4 : List (Nat × Instr × Nat) := [(0, .iload_n 1, 1), (1, .ifCond .lt 17, 3), (4, .iload_n 1, 1), (5, .iconst 4, 1), (6, .if_icmp .ge 12, 3), (9, .aload_n 0, 1), (10, .getfield 46, 3), (13, .iload_n 1, 1), (14, .iaload, 1), (15, .goto 4, 3), (18, .iconst 0, 1), (19, .ireturn, 1)]
set_option maxRecDepth 100000 in
theorem cd_d4 : ∀ q ∈ cd_t4, decode cX0_firstStep q.1 = .ok q.2 := by decide +kernel
def cd_t5 : List (Nat × Instr × Nat) := [(0, .iload_n 1, 1), (1, .ifCond .lt 18, 3), (4, .iload_n 1, 1), (5, .bipush 90, 2), (7, .if_icmp .ge 12, 3), (10, .aload_n 0, 1), (11, .getfield 29, 3), (14, .iload_n 1, 1), (15, .iaload, 1), (16, .goto 4, 3), (19, .iconst 0, 1), (20, .ireturn, 1)]
set_option maxRecDepth 100000 in
theorem cd_d5 : ∀ q ∈ cd_t5, decode cX0_entry q.1 = .ok q.2 := by decide +kernel
def cd_t6 : List (Nat × Instr × Nat) := [(0, .iload_n 1, 1), (1, .ifCond .lt 19, 3), (4, .iload_n 1, 1), (5, .bipush 90, 2), (7, .if_icmp .ge 13, 3), (10, .iload_n 2, 1), (11, .ifCond .lt 9, 3), (14, .iload_n 2, 1), (15, .bipush 90, 2), (17, .if_icmp .lt 5, 3), (20, .iconst 0, 1), (21, .ireturn, 1), (22, .aload_n 0, 1), (23, .getfield 25, 3), (26, .iconst 2, 1), (27, .iload_n 1, 1), (28, .imul, 1), (29, .iload_n 2, 1), (30, .bipush 6, 2), (32, .ishr, 1), (33, .iadd, 1), (34, .laload, 1), (35, .iload_n 2, 1), (36, .bipush 63, 2), (38, .iand, 1), (39, .lushr, 1), (40, .lconst 1, 1), (41, .land, 1), (42, .lconst 0, 1), (43, .lcmp, 1), (44, .ifCond .eq 7, 3), (47, .iconst 1, 1), (48, .goto 4, 3), (51, .iconst 0, 1), (52, .ireturn, 1)]
set_option maxRecDepth 100000 in
theorem cd_d6 : ∀ q ∈ cd_t6, decode cX0_goesOn q.1 = .ok q.2 := by decide +kernel
def cd_t7 : List (Nat × Instr × Nat) := [(0, .aload_n 0, 1), (1, .getfield 12, 3), (4, .aload_n 2, 1), (5, .iload_n 3, 1), (6, .invokevirtual 53, 3), (9, .aload_n 0, 1), (10, .iconst 0, 1), (11, .putfield 32, 3), (14, .aload_n 1, 1), (15, .invokevirtual 57, 3), (18, .iconst 1, 1), (19, .isub, 1), (20, .istore 4, 2), (22, .iload 4, 2), (24, .ifCond .lt 59, 3), (27, .aload_n 0, 1), (28, .aload_n 1, 1), (29, .aload_n 2, 1), (30, .iload 4, 2), (32, .invokevirtual 63, 3), (35, .aload_n 0, 1), (36, .getfield 29, 3), (39, .iload 4, 2), (41, .aload_n 0, 1), (42, .invokevirtual 66, 3), (45, .iastore, 1), (46, .aload_n 0, 1), (47, .aload_n 0, 1), (48, .getfield 18, 3), (51, .aload_n 0, 1), (52, .getfield 29, 3), (55, .iload 4, 2), (57, .iaload, 1), (58, .iaload, 1), (59, .putfield 32, 3), (62, .aload_n 0, 1), (63, .getfield 18, 3), (66, .iconst 0, 1), (67, .aload_n 0, 1), (68, .getfield 22, 3), (71, .iconst 0, 1), (72, .bipush 90, 2), (74, .invokestatic 69, 3), (77, .iinc 4 (-1), 3), (80, .goto (-58), 3), (83, .iload_n 3, 1), (84, .ifCond .lt 67, 3), (87, .iload_n 3, 1), (88, .iconst 4, 1), (89, .if_icmp .ge 62, 3), (92, .aload_n 0, 1), (93, .getfield 36, 3), (96, .iload_n 3, 1), (97, .iconst 1, 1), (98, .bastore, 1), (99, .aload_n 0, 1), (100, .getfield 40, 3), (103, .iload_n 3, 1), (104, .aload_n 0, 1), (105, .getfield 32, 3), (108, .sipush 128, 3), (111, .idiv, 1), (112, .iastore, 1), (113, .aload_n 0, 1), (114, .getfield 43, 3), (117, .iload_n 3, 1), (118, .aload_n 0, 1), (119, .getfield 12, 3), (122, .aload_n 0, 1), (123, .getfield 29, 3), (126, .iconst 0, 1), (127, .iaload, 1), (128, .invokevirtual 75, 3), (131, .iastore, 1), (132, .aload_n 0, 1), (133, .getfield 46, 3), (136, .iload_n 3, 1), (137, .aload_n 0, 1), (138, .getfield 12, 3), (141, .aload_n 0, 1), (142, .getfield 29, 3), (145, .iconst 0, 1), (146, .iaload, 1), (147, .invokevirtual 79, 3), (150, .iastore, 1), (151, .return_, 1)]
set_option maxRecDepth 100000 in
theorem cd_d7 : ∀ q ∈ cd_t7, decode cX0_solve q.1 = .ok q.2 := by decide +kernel
def cd_t8 : List (Nat × Instr × Nat) := [(0, .iload_n 3, 1), (1, .iconst 1, 1), (2, .iadd, 1), (3, .aload_n 1, 1), (4, .invokevirtual 57, 3), (7, .if_icmp .lt 7, 3), (10, .iconst 1, 1), (11, .goto 4, 3), (14, .iconst 0, 1), (15, .istore 4, 2), (17, .iload 4, 2), (19, .ifCond .ne 22, 3), (22, .aload_n 1, 1), (23, .iload_n 3, 1), (24, .invokevirtual 82, 3), (27, .aload_n 1, 1), (28, .iload_n 3, 1), (29, .iconst 1, 1), (30, .iadd, 1), (31, .invokevirtual 82, 3), (34, .if_icmp .eq 7, 3), (37, .iconst 1, 1), (38, .goto 4, 3), (41, .iconst 0, 1), (42, .istore 5, 2), (44, .sipush 128, 3), (47, .aload_n 2, 1), (48, .aload_n 1, 1), (49, .iload_n 3, 1), (50, .invokevirtual 85, 3), (53, .imul, 1), (54, .istore 6, 2), (56, .sipush 128, 3), (59, .aload_n 2, 1), (60, .aload_n 1, 1), (61, .iload_n 3, 1), (62, .invokevirtual 91, 3), (65, .imul, 1), (66, .istore 7, 2), (68, .iload 4, 2), (70, .ifCond .eq 7, 3), (73, .iconst 0, 1), (74, .goto 19, 3), (77, .aload_n 0, 1), (78, .getfield 32, 3), (81, .sipush 128, 3), (84, .aload_n 2, 1), (85, .iconst 1, 1), (86, .invokevirtual 94, 3), (89, .imul, 1), (90, .iadd, 1), (91, .iconst 1, 1), (92, .iadd, 1), (93, .istore 8, 2), (95, .aload_n 0, 1), (96, .getfield 25, 3), (99, .iconst 2, 1), (100, .iload_n 3, 1), (101, .imul, 1), (102, .lconst 0, 1), (103, .lastore, 1), (104, .aload_n 0, 1), (105, .getfield 25, 3), (108, .iconst 2, 1), (109, .iload_n 3, 1), (110, .imul, 1), (111, .iconst 1, 1), (112, .iadd, 1), (113, .lconst 0, 1), (114, .lastore, 1), (115, .iconst 0, 1), (116, .istore 9, 2), (118, .iload 9, 2), (120, .aload_n 0, 1), (121, .getfield 12, 3), (124, .invokevirtual 97, 3), (127, .if_icmp .ge 109, 3), (130, .iload 8, 2), (132, .istore 10, 2), (134, .iload 5, 2), (136, .ifCond .eq 64, 3), (139, .aload_n 0, 1), (140, .aload_n 0, 1), (141, .getfield 12, 3), (144, .iload 9, 2), (146, .invokevirtual 98, 3), (149, .iload 8, 2), (151, .iload_n 3, 1), (152, .iconst 1, 1), (153, .iadd, 1), (154, .invokevirtual 101, 3), (157, .ifCond .eq 43, 3), (160, .aload_n 0, 1), (161, .getfield 22, 3), (164, .aload_n 0, 1), (165, .getfield 12, 3), (168, .iload 9, 2), (170, .invokevirtual 98, 3), (173, .iaload, 1), (174, .istore 10, 2), (176, .aload_n 0, 1), (177, .getfield 25, 3), (180, .iconst 2, 1), (181, .iload_n 3, 1), (182, .imul, 1), (183, .iload 9, 2), (185, .bipush 6, 2), (187, .ishr, 1), (188, .iadd, 1), (189, .dup2, 1), (190, .laload, 1), (191, .lconst 1, 1), (192, .iload 9, 2), (194, .bipush 63, 2), (196, .iand, 1), (197, .lshl, 1), (198, .lor, 1), (199, .lastore, 1), (200, .aload_n 0, 1), (201, .getfield 18, 3), (204, .iload 9, 2), (206, .iload 10, 2), (208, .aload_n 0, 1), (209, .getfield 12, 3), (212, .iload 9, 2), (214, .invokevirtual 105, 3), (217, .iconst 2, 1), (218, .if_icmp .ge 8, 3), (221, .iload 6, 2), (223, .goto 5, 3), (226, .iload 7, 2), (228, .iadd, 1), (229, .iastore, 1), (230, .iinc 9 1, 3), (233, .goto (-115), 3), (236, .return_, 1)]
set_option maxRecDepth 100000 in
theorem cd_d8 : ∀ q ∈ cd_t8, decode cX0_weighStates q.1 = .ok q.2 := by decide +kernel
def cd_t9 : List (Nat × Instr × Nat) := [(0, .iload_n 1, 1), (1, .ifCond .lt 9, 3), (4, .iload_n 1, 1), (5, .bipush 90, 2), (7, .if_icmp .lt 5, 3), (10, .iconst 0, 1), (11, .ireturn, 1), (12, .aload_n 0, 1), (13, .getfield 22, 3), (16, .iload_n 1, 1), (17, .iaload, 1), (18, .istore 4, 2), (20, .iload 4, 2), (22, .iload_n 2, 1), (23, .if_icmp .lt 18, 3), (26, .iload 4, 2), (28, .iload_n 2, 1), (29, .if_icmp .ne 16, 3), (32, .iload_n 1, 1), (33, .aload_n 0, 1), (34, .iload_n 3, 1), (35, .invokevirtual 108, 3), (38, .if_icmp .ge 7, 3), (41, .iconst 1, 1), (42, .goto 4, 3), (45, .iconst 0, 1), (46, .ireturn, 1)]
set_option maxRecDepth 100000 in
theorem cd_d9 : ∀ q ∈ cd_t9, decode cX0_isBetterOn q.1 = .ok q.2 := by decide +kernel
def cd_t10 : List (Nat × Instr × Nat) := [(0, .iconst 0, 1), (1, .istore_n 1, 1), (2, .iconst 1, 1), (3, .istore_n 2, 1), (4, .iload_n 2, 1), (5, .aload_n 0, 1), (6, .getfield 12, 3), (9, .invokevirtual 97, 3), (12, .if_icmp .ge 37, 3), (15, .aload_n 0, 1), (16, .getfield 12, 3), (19, .iload_n 2, 1), (20, .invokevirtual 105, 3), (23, .ifCond .ne 20, 3), (26, .aload_n 0, 1), (27, .getfield 18, 3), (30, .iload_n 2, 1), (31, .iaload, 1), (32, .aload_n 0, 1), (33, .getfield 18, 3), (36, .iload_n 1, 1), (37, .iaload, 1), (38, .if_icmp .ge 5, 3), (41, .iload_n 2, 1), (42, .istore_n 1, 1), (43, .iinc 2 1, 3), (46, .goto (-42), 3), (49, .iload_n 1, 1), (50, .ireturn, 1)]
set_option maxRecDepth 100000 in
theorem cd_d10 : ∀ q ∈ cd_t10, decode cX0_leastEntry q.1 = .ok q.2 := by decide +kernel
def cd_t11 : List (Nat × Instr × Nat) := [(0, .aload_n 0, 1), (1, .iload_n 1, 1), (2, .putfield 7, 3), (5, .aload_n 0, 1), (6, .iconst 0, 1), (7, .putfield 13, 3), (10, .return_, 1)]
set_option maxRecDepth 100000 in
theorem cd_d11 : ∀ q ∈ cd_t11, decode cX1_begin q.1 = .ok q.2 := by decide +kernel
def cd_t12 : List (Nat × Instr × Nat) := [(0, .aload_n 0, 1), (1, .getfield 7, 3), (4, .ireturn, 1)]
set_option maxRecDepth 100000 in
theorem cd_d12 : ∀ q ∈ cd_t12, decode cX1_width q.1 = .ok q.2 := by decide +kernel
def cd_t13 : List (Nat × Instr × Nat) := [(0, .aload_n 0, 1), (1, .getfield 13, 3), (4, .ireturn, 1)]
set_option maxRecDepth 100000 in
theorem cd_d13 : ∀ q ∈ cd_t13, decode cX1_size q.1 = .ok q.2 := by decide +kernel
def cd_t14 : List (Nat × Instr × Nat) := [(0, .iload_n 1, 1), (1, .ifCond .lt 15, 3), (4, .iload_n 1, 1), (5, .aload_n 0, 1), (6, .getfield 13, 3), (9, .if_icmp .ge 7, 3), (12, .iconst 1, 1), (13, .goto 4, 3), (16, .iconst 0, 1), (17, .ireturn, 1)]
set_option maxRecDepth 100000 in
theorem cd_d14 : ∀ q ∈ cd_t14, decode cX1_has q.1 = .ok q.2 := by decide +kernel
def cd_t15 : List (Nat × Instr × Nat) := [(0, .aload_n 0, 1), (1, .getfield 13, 3), (4, .aload_n 0, 1), (5, .getfield 22, 3), (8, .arraylength, 1), (9, .if_icmp .ge 45, 3), (12, .aload_n 0, 1), (13, .getfield 13, 3), (16, .aload_n 0, 1), (17, .getfield 26, 3), (20, .arraylength, 1), (21, .if_icmp .ge 33, 3), (24, .aload_n 0, 1), (25, .getfield 22, 3), (28, .aload_n 0, 1), (29, .getfield 13, 3), (32, .lload_n 1, 1), (33, .lastore, 1), (34, .aload_n 0, 1), (35, .getfield 26, 3), (38, .aload_n 0, 1), (39, .getfield 13, 3), (42, .lload_n 3, 1), (43, .lastore, 1), (44, .aload_n 0, 1), (45, .dup, 1), (46, .getfield 13, 3), (49, .iconst 1, 1), (50, .iadd, 1), (51, .putfield 13, 3), (54, .return_, 1)]
set_option maxRecDepth 100000 in
theorem cd_d15 : ∀ q ∈ cd_t15, decode cX1_add q.1 = .ok q.2 := by decide +kernel
def cd_t16 : List (Nat × Instr × Nat) := [(0, .aload_n 0, 1), (1, .iload_n 1, 1), (2, .invokevirtual 29, 3), (5, .ifCond .ne 5, 3), (8, .lconst 0, 1), (9, .lreturn, 1), (10, .iload_n 2, 1), (11, .ifCond .ne 12, 3), (14, .aload_n 0, 1), (15, .getfield 22, 3), (18, .iload_n 1, 1), (19, .laload, 1), (20, .goto 9, 3), (23, .aload_n 0, 1), (24, .getfield 26, 3), (27, .iload_n 1, 1), (28, .laload, 1), (29, .lreturn, 1)]
set_option maxRecDepth 100000 in
theorem cd_d16 : ∀ q ∈ cd_t16, decode cX1_row q.1 = .ok q.2 := by decide +kernel
def cd_t17 : List (Nat × Instr × Nat) := [(0, .aload_n 0, 1), (1, .iload_n 1, 1), (2, .iconst 0, 1), (3, .invokevirtual 33, 3), (6, .aload_n 2, 1), (7, .iload_n 3, 1), (8, .iconst 0, 1), (9, .invokevirtual 33, 3), (12, .lcmp, 1), (13, .ifCond .ne 23, 3), (16, .aload_n 0, 1), (17, .iload_n 1, 1), (18, .iconst 1, 1), (19, .invokevirtual 33, 3), (22, .aload_n 2, 1), (23, .iload_n 3, 1), (24, .iconst 1, 1), (25, .invokevirtual 33, 3), (28, .lcmp, 1), (29, .ifCond .ne 7, 3), (32, .iconst 1, 1), (33, .goto 4, 3), (36, .iconst 0, 1), (37, .ireturn, 1)]
set_option maxRecDepth 100000 in
theorem cd_d17 : ∀ q ∈ cd_t17, decode cX1_isSame q.1 = .ok q.2 := by decide +kernel
def cd_t18 : List (Nat × Instr × Nat) := [(0, .aload_n 0, 1), (1, .aload_n 1, 1), (2, .getfield 7, 3), (5, .invokevirtual 37, 3), (8, .iconst 0, 1), (9, .istore_n 2, 1), (10, .iload_n 2, 1), (11, .aload_n 1, 1), (12, .getfield 13, 3), (15, .if_icmp .ge 25, 3), (18, .aload_n 0, 1), (19, .aload_n 1, 1), (20, .iload_n 2, 1), (21, .iconst 0, 1), (22, .invokevirtual 33, 3), (25, .aload_n 1, 1), (26, .iload_n 2, 1), (27, .iconst 1, 1), (28, .invokevirtual 33, 3), (31, .invokevirtual 41, 3), (34, .iinc 2 1, 3), (37, .goto (-27), 3), (40, .return_, 1)]
set_option maxRecDepth 100000 in
theorem cd_d18 : ∀ q ∈ cd_t18, decode cX1_copyFrom q.1 = .ok q.2 := by decide +kernel
def cd_t19 : List (Nat × Instr × Nat) := [(0, .aload_n 0, 1), (1, .iconst 0, 1), (2, .putfield 36, 3), (5, .iconst 0, 1), (6, .istore 4, 2), (8, .iload 4, 2), (10, .aload_n 2, 1), (11, .invokevirtual 46, 3), (14, .if_icmp .ge 29, 3), (17, .aload_n 0, 1), (18, .iload 4, 2), (20, .aload_n 1, 1), (21, .iload 4, 2), (23, .invokevirtual 51, 3), (26, .ifCond .ne 7, 3), (29, .iconst 1, 1), (30, .goto 4, 3), (33, .iconst 0, 1), (34, .invokevirtual 57, 3), (37, .iinc 4 1, 3), (40, .goto (-32), 3), (43, .aload_n 0, 1), (44, .aload_n 2, 1), (45, .aload_n 3, 1), (46, .invokevirtual 61, 3), (49, .aload_n 0, 1), (50, .aload_n 2, 1), (51, .invokevirtual 65, 3), (54, .return_, 1)]
set_option maxRecDepth 100000 in
theorem cd_d19 : ∀ q ∈ cd_t19, decode cX2_gather q.1 = .ok q.2 := by decide +kernel
def cd_t20 : List (Nat × Instr × Nat) := [(0, .iload_n 1, 1), (1, .ifCond .lt 9, 3), (4, .iload_n 1, 1), (5, .bipush 90, 2), (7, .if_icmp .lt 4, 3), (10, .return_, 1), (11, .aload_n 0, 1), (12, .getfield 36, 3), (15, .bipush 90, 2), (17, .if_icmp .ge 54, 3), (20, .iload_n 2, 1), (21, .ifCond .ne 10, 3), (24, .aload_n 0, 1), (25, .getfield 36, 3), (28, .ifCond .ne 43, 3), (31, .aload_n 0, 1), (32, .getfield 15, 3), (35, .aload_n 0, 1), (36, .getfield 36, 3), (39, .iload_n 1, 1), (40, .iastore, 1), (41, .aload_n 0, 1), (42, .getfield 18, 3), (45, .aload_n 0, 1), (46, .getfield 36, 3), (49, .iconst 0, 1), (50, .iastore, 1), (51, .aload_n 0, 1), (52, .getfield 21, 3), (55, .aload_n 0, 1), (56, .getfield 36, 3), (59, .iconst (-1), 1), (60, .iastore, 1), (61, .aload_n 0, 1), (62, .dup, 1), (63, .getfield 36, 3), (66, .iconst 1, 1), (67, .iadd, 1), (68, .putfield 36, 3), (71, .aload_n 0, 1), (72, .getfield 9, 3), (75, .iload_n 1, 1), (76, .aload_n 0, 1), (77, .getfield 36, 3), (80, .iconst 1, 1), (81, .isub, 1), (82, .iastore, 1), (83, .aload_n 0, 1), (84, .getfield 18, 3), (87, .aload_n 0, 1), (88, .getfield 36, 3), (91, .iconst 1, 1), (92, .isub, 1), (93, .dup2, 1), (94, .iaload, 1), (95, .iconst 1, 1), (96, .iadd, 1), (97, .iastore, 1), (98, .return_, 1)]
set_option maxRecDepth 100000 in
theorem cd_d20 : ∀ q ∈ cd_t20, decode cX2_addField q.1 = .ok q.2 := by decide +kernel
def cd_t21 : List (Nat × Instr × Nat) := [(0, .aload_n 0, 1), (1, .iconst 0, 1), (2, .putfield 40, 3), (5, .aload_n 0, 1), (6, .iconst 0, 1), (7, .putfield 43, 3), (10, .iconst 0, 1), (11, .istore_n 3, 1), (12, .iload_n 3, 1), (13, .aload_n 0, 1), (14, .getfield 36, 3), (17, .if_icmp .ge 69, 3), (20, .aload_n 0, 1), (21, .dup, 1), (22, .getfield 40, 3), (25, .aload_n 0, 1), (26, .iload_n 3, 1), (27, .invokevirtual 69, 3), (30, .ifCond .eq 7, 3), (33, .iconst 1, 1), (34, .goto 4, 3), (37, .iconst 0, 1), (38, .iadd, 1), (39, .putfield 40, 3), (42, .aload_n 0, 1), (43, .iload_n 3, 1), (44, .aload_n 1, 1), (45, .aload_n 2, 1), (46, .invokevirtual 73, 3), (49, .ifCond .eq 31, 3), (52, .aload_n 0, 1), (53, .getfield 21, 3), (56, .iload_n 3, 1), (57, .iload_n 3, 1), (58, .iconst 1, 1), (59, .iadd, 1), (60, .iastore, 1), (61, .aload_n 0, 1), (62, .getfield 21, 3), (65, .iload_n 3, 1), (66, .iconst 1, 1), (67, .iadd, 1), (68, .iload_n 3, 1), (69, .iastore, 1), (70, .aload_n 0, 1), (71, .dup, 1), (72, .getfield 43, 3), (75, .iconst 1, 1), (76, .iadd, 1), (77, .putfield 43, 3), (80, .iinc 3 1, 3), (83, .goto (-71), 3), (86, .return_, 1)]
set_option maxRecDepth 100000 in
theorem cd_d21 : ∀ q ∈ cd_t21, decode cX2_mateOrphans q.1 = .ok q.2 := by decide +kernel
def cd_t22 : List (Nat × Instr × Nat) := [(0, .aload_n 0, 1), (1, .iload_n 1, 1), (2, .invokevirtual 69, 3), (5, .ifCond .eq 23, 3), (8, .aload_n 0, 1), (9, .getfield 21, 3), (12, .iload_n 1, 1), (13, .iaload, 1), (14, .iconst (-1), 1), (15, .if_icmp .ne 13, 3), (18, .aload_n 0, 1), (19, .iload_n 1, 1), (20, .iconst 1, 1), (21, .iadd, 1), (22, .invokevirtual 69, 3), (25, .ifCond .ne 5, 3), (28, .iconst 0, 1), (29, .ireturn, 1), (30, .aload_n 0, 1), (31, .getfield 15, 3), (34, .iload_n 1, 1), (35, .iaload, 1), (36, .istore 4, 2), (38, .aload_n 0, 1), (39, .getfield 15, 3), (42, .iload_n 1, 1), (43, .iconst 1, 1), (44, .iadd, 1), (45, .iaload, 1), (46, .istore 5, 2), (48, .aload_n 2, 1), (49, .iload 4, 2), (51, .invokevirtual 77, 3), (54, .aload_n 2, 1), (55, .iload 5, 2), (57, .invokevirtual 77, 3), (60, .if_icmp .eq 31, 3), (63, .aload_n 3, 1), (64, .aload_n 2, 1), (65, .iload 4, 2), (67, .invokevirtual 80, 3), (70, .aload_n 2, 1), (71, .iload 5, 2), (73, .invokevirtual 80, 3), (76, .invokevirtual 84, 3), (79, .aload_n 3, 1), (80, .iconst 3, 1), (81, .invokevirtual 90, 3), (84, .if_icmp .gt 7, 3), (87, .iconst 1, 1), (88, .goto 4, 3), (91, .iconst 0, 1), (92, .ireturn, 1)]
set_option maxRecDepth 100000 in
theorem cd_d22 : ∀ q ∈ cd_t22, decode cX2_canMate q.1 = .ok q.2 := by decide +kernel
def cd_t23 : List (Nat × Instr × Nat) := [(0, .aload_n 0, 1), (1, .getfield 32, 3), (4, .iconst 0, 1), (5, .invokevirtual 93, 3), (8, .iconst 0, 1), (9, .istore_n 2, 1), (10, .iload_n 2, 1), (11, .aload_n 0, 1), (12, .getfield 36, 3), (15, .if_icmp .ge 66, 3), (18, .iload_n 2, 1), (19, .ifCond .le 19, 3), (22, .aload_n 0, 1), (23, .getfield 21, 3), (26, .iload_n 2, 1), (27, .iaload, 1), (28, .iload_n 2, 1), (29, .iconst 1, 1), (30, .isub, 1), (31, .if_icmp .ne 7, 3), (34, .iconst 1, 1), (35, .goto 4, 3), (38, .iconst 0, 1), (39, .istore_n 3, 1), (40, .iload_n 3, 1), (41, .ifCond .ne 19, 3), (44, .aload_n 0, 1), (45, .aload_n 1, 1), (46, .aload_n 0, 1), (47, .getfield 15, 3), (50, .iload_n 2, 1), (51, .iaload, 1), (52, .aload_n 0, 1), (53, .iload_n 2, 1), (54, .invokevirtual 96, 3), (57, .invokevirtual 99, 3), (60, .aload_n 0, 1), (61, .getfield 24, 3), (64, .iload_n 2, 1), (65, .aload_n 0, 1), (66, .getfield 32, 3), (69, .invokevirtual 103, 3), (72, .iconst 1, 1), (73, .isub, 1), (74, .iastore, 1), (75, .iinc 2 1, 3), (78, .goto (-68), 3), (81, .return_, 1)]
set_option maxRecDepth 100000 in
theorem cd_d23 : ∀ q ∈ cd_t23, decode cX2_rebuildFrames q.1 = .ok q.2 := by decide +kernel
def cd_t24 : List (Nat × Instr × Nat) := [(0, .aload_n 0, 1), (1, .iload_n 1, 1), (2, .invokevirtual 69, 3), (5, .ifCond .ne 12, 3), (8, .aload_n 0, 1), (9, .getfield 15, 3), (12, .iload_n 1, 1), (13, .iaload, 1), (14, .iconst 1, 1), (15, .iadd, 1), (16, .ireturn, 1), (17, .aload_n 0, 1), (18, .aload_n 0, 1), (19, .getfield 21, 3), (22, .iload_n 1, 1), (23, .iaload, 1), (24, .invokevirtual 104, 3), (27, .ifCond .eq 17, 3), (30, .aload_n 0, 1), (31, .getfield 15, 3), (34, .aload_n 0, 1), (35, .getfield 21, 3), (38, .iload_n 1, 1), (39, .iaload, 1), (40, .iaload, 1), (41, .goto 9, 3), (44, .aload_n 0, 1), (45, .getfield 15, 3), (48, .iload_n 1, 1), (49, .iaload, 1), (50, .ireturn, 1)]
set_option maxRecDepth 100000 in
theorem cd_d24 : ∀ q ∈ cd_t24, decode cX2_partner q.1 = .ok q.2 := by decide +kernel
def cd_t25 : List (Nat × Instr × Nat) := [(0, .aload_n 1, 1), (1, .iload_n 2, 1), (2, .invokevirtual 77, 3), (5, .ifCond .ne 23, 3), (8, .aload_n 0, 1), (9, .getfield 32, 3), (12, .aload_n 1, 1), (13, .iload_n 2, 1), (14, .invokevirtual 80, 3), (17, .aload_n 1, 1), (18, .iload_n 3, 1), (19, .invokevirtual 80, 3), (22, .invokevirtual 107, 3), (25, .goto 20, 3), (28, .aload_n 0, 1), (29, .getfield 32, 3), (32, .aload_n 1, 1), (33, .iload_n 3, 1), (34, .invokevirtual 80, 3), (37, .aload_n 1, 1), (38, .iload_n 2, 1), (39, .invokevirtual 80, 3), (42, .invokevirtual 107, 3), (45, .return_, 1)]
set_option maxRecDepth 100000 in
theorem cd_d25 : ∀ q ∈ cd_t25, decode cX2_addFrame q.1 = .ok q.2 := by decide +kernel
def cd_t26 : List (Nat × Instr × Nat) := [(0, .iload_n 1, 1), (1, .ifCond .lt 15, 3), (4, .iload_n 1, 1), (5, .aload_n 0, 1), (6, .getfield 36, 3), (9, .if_icmp .ge 7, 3), (12, .iconst 1, 1), (13, .goto 4, 3), (16, .iconst 0, 1), (17, .ireturn, 1)]
set_option maxRecDepth 100000 in
theorem cd_d26 : ∀ q ∈ cd_t26, decode cX2_has q.1 = .ok q.2 := by decide +kernel
def cd_t27 : List (Nat × Instr × Nat) := [(0, .aload_n 0, 1), (1, .getfield 36, 3), (4, .ireturn, 1)]
set_option maxRecDepth 100000 in
theorem cd_d27 : ∀ q ∈ cd_t27, decode cX2_size q.1 = .ok q.2 := by decide +kernel
def cd_t28 : List (Nat × Instr × Nat) := [(0, .aload_n 0, 1), (1, .getfield 40, 3), (4, .ireturn, 1)]
set_option maxRecDepth 100000 in
theorem cd_d28 : ∀ q ∈ cd_t28, decode cX2_orphans q.1 = .ok q.2 := by decide +kernel
def cd_t29 : List (Nat × Instr × Nat) := [(0, .aload_n 0, 1), (1, .getfield 43, 3), (4, .ireturn, 1)]
set_option maxRecDepth 100000 in
theorem cd_d29 : ∀ q ∈ cd_t29, decode cX2_pairs q.1 = .ok q.2 := by decide +kernel
def cd_t30 : List (Nat × Instr × Nat) := [(0, .aload_n 0, 1), (1, .getfield 32, 3), (4, .areturn, 1)]
set_option maxRecDepth 100000 in
theorem cd_d30 : ∀ q ∈ cd_t30, decode cX2_frames q.1 = .ok q.2 := by decide +kernel
def cd_t31 : List (Nat × Instr × Nat) := [(0, .iload_n 1, 1), (1, .ifCond .lt 18, 3), (4, .iload_n 1, 1), (5, .bipush 90, 2), (7, .if_icmp .ge 12, 3), (10, .aload_n 0, 1), (11, .getfield 9, 3), (14, .iload_n 1, 1), (15, .iaload, 1), (16, .goto 4, 3), (19, .iconst (-1), 1), (20, .ireturn, 1)]
set_option maxRecDepth 100000 in
theorem cd_d31 : ∀ q ∈ cd_t31, decode cX2_groupOf q.1 = .ok q.2 := by decide +kernel
def cd_t32 : List (Nat × Instr × Nat) := [(0, .aload_n 0, 1), (1, .iload_n 1, 1), (2, .invokevirtual 104, 3), (5, .ifCond .eq 12, 3), (8, .aload_n 0, 1), (9, .getfield 24, 3), (12, .iload_n 1, 1), (13, .iaload, 1), (14, .goto 4, 3), (17, .iconst (-1), 1), (18, .ireturn, 1)]
set_option maxRecDepth 100000 in
theorem cd_d32 : ∀ q ∈ cd_t32, decode cX2_frameOf q.1 = .ok q.2 := by decide +kernel
def cd_t33 : List (Nat × Instr × Nat) := [(0, .aload_n 0, 1), (1, .iload_n 1, 1), (2, .invokevirtual 104, 3), (5, .ifCond .eq 12, 3), (8, .aload_n 0, 1), (9, .getfield 15, 3), (12, .iload_n 1, 1), (13, .iaload, 1), (14, .goto 4, 3), (17, .iconst (-1), 1), (18, .ireturn, 1)]
set_option maxRecDepth 100000 in
theorem cd_d33 : ∀ q ∈ cd_t33, decode cX2_start q.1 = .ok q.2 := by decide +kernel
def cd_t34 : List (Nat × Instr × Nat) := [(0, .aload_n 0, 1), (1, .iload_n 1, 1), (2, .invokevirtual 104, 3), (5, .ifCond .eq 12, 3), (8, .aload_n 0, 1), (9, .getfield 18, 3), (12, .iload_n 1, 1), (13, .iaload, 1), (14, .goto 4, 3), (17, .iconst 0, 1), (18, .ireturn, 1)]
set_option maxRecDepth 100000 in
theorem cd_d34 : ∀ q ∈ cd_t34, decode cX2_length q.1 = .ok q.2 := by decide +kernel
end
section
def cd_t35 : List (Nat × Instr × Nat) := [(0, .aload_n 0, 1), (1, .iload_n 1, 1), (2, .invokevirtual 104, 3), (5, .ifCond .eq 17, 3), (8, .aload_n 0, 1), (9, .getfield 18, 3), (12, .iload_n 1, 1), (13, .iaload, 1), (14, .iconst 1, 1), (15, .if_icmp .ne 7, 3), (18, .iconst 1, 1), (19, .goto 4, 3), (22, .iconst 0, 1), (23, .ireturn, 1)]
set_option maxRecDepth 100000 in
theorem cd_d35 : ∀ q ∈ cd_t35, decode cX2_isOrphan q.1 = .ok q.2 := by decide +kernel
def cd_t36 : List (Nat × Instr × Nat) := [(0, .aload_n 0, 1), (1, .iload_n 1, 1), (2, .invokevirtual 104, 3), (5, .ifCond .eq 12, 3), (8, .aload_n 0, 1), (9, .getfield 21, 3), (12, .iload_n 1, 1), (13, .iaload, 1), (14, .goto 4, 3), (17, .iconst (-1), 1), (18, .ireturn, 1)]
set_option maxRecDepth 100000 in
theorem cd_d36 : ∀ q ∈ cd_t36, decode cX2_mateOf q.1 = .ok q.2 := by decide +kernel
def cd_t37 : List (Nat × Instr × Nat) := [(0, .aload_n 0, 1), (1, .getfield 23, 3), (4, .ireturn, 1)]
set_option maxRecDepth 100000 in
theorem cd_d37 : ∀ q ∈ cd_t37, decode cX3_size q.1 = .ok q.2 := by decide +kernel
def cd_t38 : List (Nat × Instr × Nat) := [(0, .aload_n 0, 1), (1, .iconst 0, 1), (2, .putfield 23, 3), (5, .return_, 1)]
set_option maxRecDepth 100000 in
theorem cd_d38 : ∀ q ∈ cd_t38, decode cX3_empty q.1 = .ok q.2 := by decide +kernel
def cd_t39 : List (Nat × Instr × Nat) := [(0, .aload_n 1, 1), (1, .getfield 26, 3), (4, .iconst 0, 1), (5, .aload_n 0, 1), (6, .getfield 9, 3), (9, .aload_n 0, 1), (10, .getfield 19, 3), (13, .bipush 90, 2), (15, .imul, 1), (16, .aload_n 1, 1), (17, .getfield 31, 3), (20, .invokestatic 32, 3), (23, .aload_n 0, 1), (24, .getfield 15, 3), (27, .aload_n 0, 1), (28, .getfield 19, 3), (31, .aload_n 1, 1), (32, .getfield 31, 3), (35, .iastore, 1), (36, .aload_n 0, 1), (37, .aload_n 0, 1), (38, .getfield 19, 3), (41, .iconst 1, 1), (42, .iadd, 1), (43, .bipush 12, 2), (45, .if_icmp .ge 12, 3), (48, .aload_n 0, 1), (49, .getfield 19, 3), (52, .iconst 1, 1), (53, .iadd, 1), (54, .goto 4, 3), (57, .iconst 0, 1), (58, .putfield 19, 3), (61, .aload_n 0, 1), (62, .aload_n 0, 1), (63, .getfield 23, 3), (66, .iconst 1, 1), (67, .iadd, 1), (68, .bipush 12, 2), (70, .invokestatic 38, 3), (73, .putfield 23, 3), (76, .return_, 1)]
set_option maxRecDepth 100000 in
theorem cd_d39 : ∀ q ∈ cd_t39, decode cX3_keep q.1 = .ok q.2 := by decide +kernel
def cd_t40 : List (Nat × Instr × Nat) := [(0, .aload_n 0, 1), (1, .getfield 23, 3), (4, .ifCond .ne 4, 3), (7, .return_, 1), (8, .aload_n 0, 1), (9, .aload_n 0, 1), (10, .getfield 19, 3), (13, .ifCond .le 12, 3), (16, .aload_n 0, 1), (17, .getfield 19, 3), (20, .iconst 1, 1), (21, .isub, 1), (22, .goto 5, 3), (25, .bipush 11, 2), (27, .putfield 19, 3), (30, .aload_n 0, 1), (31, .dup, 1), (32, .getfield 23, 3), (35, .iconst 1, 1), (36, .isub, 1), (37, .putfield 23, 3), (40, .aload_n 1, 1), (41, .aload_n 0, 1), (42, .getfield 15, 3), (45, .aload_n 0, 1), (46, .getfield 19, 3), (49, .iaload, 1), (50, .putfield 31, 3), (53, .aload_n 0, 1), (54, .getfield 9, 3), (57, .aload_n 0, 1), (58, .getfield 19, 3), (61, .bipush 90, 2), (63, .imul, 1), (64, .aload_n 1, 1), (65, .getfield 26, 3), (68, .iconst 0, 1), (69, .aload_n 1, 1), (70, .getfield 31, 3), (73, .invokestatic 32, 3), (76, .return_, 1)]
set_option maxRecDepth 100000 in
theorem cd_d40 : ∀ q ∈ cd_t40, decode cX3_giveBack q.1 = .ok q.2 := by decide +kernel
def cd_t41 : List (Nat × Instr × Nat) := [(0, .aload_n 0, 1), (1, .getfield 15, 3), (4, .ireturn, 1)]
set_option maxRecDepth 100000 in
theorem cd_d41 : ∀ q ∈ cd_t41, decode cX4_size q.1 = .ok q.2 := by decide +kernel
def cd_t42 : List (Nat × Instr × Nat) := [(0, .aload_n 0, 1), (1, .iconst 0, 1), (2, .putfield 15, 3), (5, .return_, 1)]
set_option maxRecDepth 100000 in
theorem cd_d42 : ∀ q ∈ cd_t42, decode cX4_empty q.1 = .ok q.2 := by decide +kernel
def cd_t43 : List (Nat × Instr × Nat) := [(0, .iload_n 1, 1), (1, .ifCond .lt 15, 3), (4, .iload_n 1, 1), (5, .aload_n 0, 1), (6, .getfield 15, 3), (9, .if_icmp .ge 7, 3), (12, .iconst 1, 1), (13, .goto 4, 3), (16, .iconst 0, 1), (17, .ireturn, 1)]
set_option maxRecDepth 100000 in
theorem cd_d43 : ∀ q ∈ cd_t43, decode cX4_has q.1 = .ok q.2 := by decide +kernel
def cd_t44 : List (Nat × Instr × Nat) := [(0, .aload_n 0, 1), (1, .iload_n 1, 1), (2, .invokevirtual 19, 3), (5, .ifCond .eq 22, 3), (8, .iload_n 2, 1), (9, .iconst 1, 1), (10, .if_icmp .lt 17, 3), (13, .iload_n 2, 1), (14, .aload_n 0, 1), (15, .getfield 15, 3), (18, .iload_n 1, 1), (19, .isub, 1), (20, .if_icmp .gt 7, 3), (23, .iconst 1, 1), (24, .goto 4, 3), (27, .iconst 0, 1), (28, .ireturn, 1)]
set_option maxRecDepth 100000 in
theorem cd_d44 : ∀ q ∈ cd_t44, decode cX4_hasSpan q.1 = .ok q.2 := by decide +kernel
def cd_t45 : List (Nat × Instr × Nat) := [(0, .aload_n 0, 1), (1, .iload_n 1, 1), (2, .invokevirtual 19, 3), (5, .ifCond .eq 16, 3), (8, .aload_n 0, 1), (9, .getfield 11, 3), (12, .iload_n 1, 1), (13, .laload, 1), (14, .ldc2_w 23, 3), (17, .land, 1), (18, .goto 4, 3), (21, .lconst 0, 1), (22, .lreturn, 1)]
set_option maxRecDepth 100000 in
theorem cd_d45 : ∀ q ∈ cd_t45, decode cX4_row q.1 = .ok q.2 := by decide +kernel
def cd_t46 : List (Nat × Instr × Nat) := [(0, .aload_n 0, 1), (1, .iload_n 1, 1), (2, .invokevirtual 19, 3), (5, .ifCond .eq 16, 3), (8, .aload_n 0, 1), (9, .getfield 11, 3), (12, .iload_n 1, 1), (13, .laload, 1), (14, .bipush 42, 2), (16, .lushr, 1), (17, .l2i, 1), (18, .goto 4, 3), (21, .iconst 0, 1), (22, .ireturn, 1)]
set_option maxRecDepth 100000 in
theorem cd_d46 : ∀ q ∈ cd_t46, decode cX4_parity q.1 = .ok q.2 := by decide +kernel
def cd_t47 : List (Nat × Instr × Nat) := [(0, .aload_n 0, 1), (1, .iload_n 1, 1), (2, .invokevirtual 25, 3), (5, .iload_n 2, 1), (6, .invokestatic 29, 3), (9, .ireturn, 1)]
set_option maxRecDepth 100000 in
theorem cd_d47 : ∀ q ∈ cd_t47, decode cX4_sample q.1 = .ok q.2 := by decide +kernel
def cd_t48 : List (Nat × Instr × Nat) := [(0, .aload_n 0, 1), (1, .iload_n 1, 1), (2, .invokevirtual 19, 3), (5, .ifCond .eq 20, 3), (8, .aload_n 0, 1), (9, .getfield 11, 3), (12, .iload_n 1, 1), (13, .aload_n 0, 1), (14, .getfield 11, 3), (17, .iload_n 1, 1), (18, .laload, 1), (19, .iload_n 2, 1), (20, .iload_n 3, 1), (21, .invokestatic 33, 3), (24, .lastore, 1), (25, .return_, 1)]
set_option maxRecDepth 100000 in
theorem cd_d48 : ∀ q ∈ cd_t48, decode cX4_putSample q.1 = .ok q.2 := by decide +kernel
def cd_t49 : List (Nat × Instr × Nat) := [(0, .aload_n 0, 1), (1, .iconst 0, 1), (2, .putfield 15, 3), (5, .iload 4, 2), (7, .istore 6, 2), (9, .iload 5, 2), (11, .istore 7, 2), (13, .iconst 0, 1), (14, .istore 8, 2), (16, .iload 8, 2), (18, .aload_n 1, 1), (19, .invokevirtual 37, 3), (22, .if_icmp .ge 76, 3), (25, .aload_n 2, 1), (26, .iload_n 3, 1), (27, .iload 6, 2), (29, .invokevirtual 42, 3), (32, .istore 9, 2), (34, .iconst 0, 1), (35, .istore 10, 2), (37, .iload 10, 2), (39, .iload 9, 2), (41, .if_icmp .ge 29, 3), (44, .aload_n 0, 1), (45, .aload_n 1, 1), (46, .iload 8, 2), (48, .iload 7, 2), (50, .invokevirtual 48, 3), (53, .iload 7, 2), (55, .invokevirtual 51, 3), (58, .iconst 1, 1), (59, .iload 7, 2), (61, .isub, 1), (62, .istore 7, 2), (64, .iinc 10 1, 3), (67, .goto (-30), 3), (70, .aload_n 2, 1), (71, .iload_n 3, 1), (72, .iload 6, 2), (74, .iconst 1, 1), (75, .iadd, 1), (76, .invokevirtual 55, 3), (79, .ifCond .eq 10, 3), (82, .iload 6, 2), (84, .iconst 1, 1), (85, .iadd, 1), (86, .goto 4, 3), (89, .iconst 0, 1), (90, .istore 6, 2), (92, .iinc 8 1, 3), (95, .goto (-79), 3), (98, .return_, 1)]
set_option maxRecDepth 100000 in
theorem cd_d49 : ∀ q ∈ cd_t49, decode cX4_carryFrames q.1 = .ok q.2 := by decide +kernel
def cd_t50 : List (Nat × Instr × Nat) := [(0, .aload_n 0, 1), (1, .getfield 15, 3), (4, .bipush 90, 2), (6, .if_icmp .ge 29, 3), (9, .aload_n 0, 1), (10, .getfield 11, 3), (13, .aload_n 0, 1), (14, .getfield 15, 3), (17, .lload_n 1, 1), (18, .iload_n 3, 1), (19, .i2l, 1), (20, .bipush 42, 2), (22, .lshl, 1), (23, .lor, 1), (24, .lastore, 1), (25, .aload_n 0, 1), (26, .dup, 1), (27, .getfield 15, 3), (30, .iconst 1, 1), (31, .iadd, 1), (32, .putfield 15, 3), (35, .return_, 1)]
set_option maxRecDepth 100000 in
theorem cd_d50 : ∀ q ∈ cd_t50, decode cX4_addField q.1 = .ok q.2 := by decide +kernel
def cd_t51 : List (Nat × Instr × Nat) := [(0, .aload_n 0, 1), (1, .iload_n 1, 1), (2, .iload_n 2, 1), (3, .invokevirtual 59, 3), (6, .ifCond .eq 36, 3), (9, .aload_n 0, 1), (10, .getfield 11, 3), (13, .iload_n 1, 1), (14, .iload_n 2, 1), (15, .iadd, 1), (16, .aload_n 0, 1), (17, .getfield 11, 3), (20, .iload_n 1, 1), (21, .aload_n 0, 1), (22, .getfield 15, 3), (25, .iload_n 1, 1), (26, .isub, 1), (27, .iload_n 2, 1), (28, .isub, 1), (29, .invokestatic 62, 3), (32, .aload_n 0, 1), (33, .dup, 1), (34, .getfield 15, 3), (37, .iload_n 2, 1), (38, .isub, 1), (39, .putfield 15, 3), (42, .return_, 1)]
set_option maxRecDepth 100000 in
theorem cd_d51 : ∀ q ∈ cd_t51, decode cX4_removeSpan q.1 = .ok q.2 := by decide +kernel
def cd_t52 : List (Nat × Instr × Nat) := [(0, .aload_n 0, 1), (1, .iload_n 1, 1), (2, .iload_n 2, 1), (3, .invokevirtual 59, 3), (6, .ifCond .eq 45, 3), (9, .iload_n 2, 1), (10, .bipush 90, 2), (12, .aload_n 0, 1), (13, .getfield 15, 3), (16, .isub, 1), (17, .if_icmp .gt 34, 3), (20, .aload_n 0, 1), (21, .getfield 11, 3), (24, .iload_n 1, 1), (25, .aload_n 0, 1), (26, .getfield 11, 3), (29, .iload_n 1, 1), (30, .iload_n 2, 1), (31, .iadd, 1), (32, .aload_n 0, 1), (33, .getfield 15, 3), (36, .iload_n 1, 1), (37, .isub, 1), (38, .invokestatic 62, 3), (41, .aload_n 0, 1), (42, .dup, 1), (43, .getfield 15, 3), (46, .iload_n 2, 1), (47, .iadd, 1), (48, .putfield 15, 3), (51, .return_, 1)]
set_option maxRecDepth 100000 in
theorem cd_d52 : ∀ q ∈ cd_t52, decode cX4_repeatSpan q.1 = .ok q.2 := by decide +kernel
def cd_t53 : List (Nat × Instr × Nat) := [(0, .iconst 2, 1), (1, .iload_n 2, 1), (2, .imul, 1), (3, .iconst 1, 1), (4, .iadd, 1), (5, .istore 4, 2), (7, .iload 4, 2), (9, .ifCond .gt 5, 3), (12, .iconst 0, 1), (13, .ireturn, 1), (14, .iload_n 1, 1), (15, .istore 5, 2), (17, .iconst 0, 1), (18, .istore 6, 2), (20, .iconst 0, 1), (21, .istore 7, 2), (23, .iload 7, 2), (25, .aload_n 0, 1), (26, .getfield 15, 3), (29, .if_icmp .ge 99, 3), (32, .iconst 0, 1), (33, .istore 8, 2), (35, .iload 8, 2), (37, .iload_n 3, 1), (38, .if_icmp .ge 84, 3), (41, .ldc 68, 2), (43, .iload 5, 2), (45, .imul, 1), (46, .ldc 69, 2), (48, .iadd, 1), (49, .istore 5, 2), (51, .aload_n 0, 1), (52, .iload 7, 2), (54, .iload 8, 2), (56, .invokevirtual 70, 3), (59, .istore 9, 2), (61, .iload 9, 2), (63, .iload 5, 2), (65, .bipush 8, 2), (67, .iushr, 1), (68, .iload 4, 2), (70, .irem, 1), (71, .iadd, 1), (72, .iload_n 2, 1), (73, .isub, 1), (74, .istore 10, 2), (76, .iconst 0, 1), (77, .bipush 99, 2), (79, .iload 10, 2), (81, .invokestatic 73, 3), (84, .invokestatic 78, 3), (87, .istore 11, 2), (89, .aload_n 0, 1), (90, .iload 7, 2), (92, .iload 8, 2), (94, .iload 11, 2), (96, .invokevirtual 81, 3), (99, .iload 6, 2), (101, .iload 11, 2), (103, .iload 9, 2), (105, .if_icmp .eq 7, 3), (108, .iconst 1, 1), (109, .goto 4, 3), (112, .iconst 0, 1), (113, .iadd, 1), (114, .istore 6, 2), (116, .iinc 8 1, 3), (119, .goto (-84), 3), (122, .iinc 7 1, 3), (125, .goto (-102), 3), (128, .iload 6, 2), (130, .ireturn, 1)]
set_option maxRecDepth 100000 in
theorem cd_d53 : ∀ q ∈ cd_t53, decode cX4_disturb q.1 = .ok q.2 := by decide +kernel
def cd_t54 : List (Nat × Instr × Nat) := [(0, .aload_n 0, 1), (1, .getfield 15, 3), (4, .aload_n 1, 1), (5, .getfield 15, 3), (8, .if_icmp .eq 5, 3), (11, .iconst 0, 1), (12, .ireturn, 1), (13, .iconst 0, 1), (14, .istore_n 2, 1), (15, .iload_n 2, 1), (16, .aload_n 0, 1), (17, .getfield 15, 3), (20, .if_icmp .ge 27, 3), (23, .aload_n 0, 1), (24, .getfield 11, 3), (27, .iload_n 2, 1), (28, .laload, 1), (29, .aload_n 1, 1), (30, .getfield 11, 3), (33, .iload_n 2, 1), (34, .laload, 1), (35, .lcmp, 1), (36, .ifCond .eq 5, 3), (39, .iconst 0, 1), (40, .ireturn, 1), (41, .iinc 2 1, 3), (44, .goto (-29), 3), (47, .iconst 1, 1), (48, .ireturn, 1)]
set_option maxRecDepth 100000 in
theorem cd_d54 : ∀ q ∈ cd_t54, decode cX4_isSame q.1 = .ok q.2 := by decide +kernel
def cd_t55 : List (Nat × Instr × Nat) := [(0, .aload_n 0, 1), (1, .iconst 0, 1), (2, .putfield 21, 3), (5, .aload_n 0, 1), (6, .getfield 18, 3), (9, .iconst 0, 1), (10, .iconst 0, 1), (11, .iastore, 1), (12, .aload_n 0, 1), (13, .getfield 18, 3), (16, .iconst 1, 1), (17, .bipush 40, 2), (19, .iastore, 1), (20, .aload_n 0, 1), (21, .getfield 18, 3), (24, .iconst 2, 1), (25, .bipush 10, 2), (27, .iastore, 1), (28, .aload_n 0, 1), (29, .getfield 18, 3), (32, .iconst 3, 1), (33, .iconst 0, 1), (34, .iastore, 1), (35, .aload_n 0, 1), (36, .getfield 18, 3), (39, .iconst 4, 1), (40, .iconst 0, 1), (41, .iastore, 1), (42, .return_, 1)]
set_option maxRecDepth 100000 in
theorem cd_d55 : ∀ q ∈ cd_t55, decode cX5_clear q.1 = .ok q.2 := by decide +kernel
def cd_t56 : List (Nat × Instr × Nat) := [(0, .aload_n 0, 1), (1, .getfield 21, 3), (4, .iconst 4, 1), (5, .if_icmp .ge 23, 3), (8, .aload_n 0, 1), (9, .getfield 15, 3), (12, .aload_n 0, 1), (13, .getfield 21, 3), (16, .iconst 0, 1), (17, .iastore, 1), (18, .aload_n 0, 1), (19, .dup, 1), (20, .getfield 21, 3), (23, .iconst 1, 1), (24, .iadd, 1), (25, .putfield 21, 3), (28, .return_, 1)]
set_option maxRecDepth 100000 in
theorem cd_d56 : ∀ q ∈ cd_t56, decode cX5_addCadence q.1 = .ok q.2 := by decide +kernel
def cd_t57 : List (Nat × Instr × Nat) := [(0, .aload_n 0, 1), (1, .getfield 21, 3), (4, .iconst 1, 1), (5, .isub, 1), (6, .istore_n 2, 1), (7, .iload_n 2, 1), (8, .ifCond .lt 41, 3), (11, .aload_n 0, 1), (12, .getfield 15, 3), (15, .iload_n 2, 1), (16, .iaload, 1), (17, .bipush 6, 2), (19, .if_icmp .ge 30, 3), (22, .aload_n 0, 1), (23, .getfield 9, 3), (26, .iload_n 2, 1), (27, .bipush 6, 2), (29, .imul, 1), (30, .aload_n 0, 1), (31, .getfield 15, 3), (34, .iload_n 2, 1), (35, .iaload, 1), (36, .iadd, 1), (37, .iload_n 1, 1), (38, .iastore, 1), (39, .aload_n 0, 1), (40, .getfield 15, 3), (43, .iload_n 2, 1), (44, .dup2, 1), (45, .iaload, 1), (46, .iconst 1, 1), (47, .iadd, 1), (48, .iastore, 1), (49, .return_, 1)]
set_option maxRecDepth 100000 in
theorem cd_d57 : ∀ q ∈ cd_t57, decode cX5_addNumber q.1 = .ok q.2 := by decide +kernel
def cd_t58 : List (Nat × Instr × Nat) := [(0, .iload_n 1, 1), (1, .ifCond .lt 15, 3), (4, .iload_n 1, 1), (5, .iconst 5, 1), (6, .if_icmp .ge 10, 3), (9, .aload_n 0, 1), (10, .getfield 18, 3), (13, .iload_n 1, 1), (14, .iload_n 2, 1), (15, .iastore, 1), (16, .return_, 1)]
set_option maxRecDepth 100000 in
theorem cd_d58 : ∀ q ∈ cd_t58, decode cX5_putValue q.1 = .ok q.2 := by decide +kernel
def cd_t59 : List (Nat × Instr × Nat) := [(0, .aload_n 1, 1), (1, .getfield 9, 3), (4, .iconst 0, 1), (5, .aload_n 0, 1), (6, .getfield 9, 3), (9, .iconst 0, 1), (10, .bipush 24, 2), (12, .invokestatic 35, 3), (15, .aload_n 1, 1), (16, .getfield 15, 3), (19, .iconst 0, 1), (20, .aload_n 0, 1), (21, .getfield 15, 3), (24, .iconst 0, 1), (25, .iconst 4, 1), (26, .invokestatic 35, 3), (29, .aload_n 1, 1), (30, .getfield 18, 3), (33, .iconst 0, 1), (34, .aload_n 0, 1), (35, .getfield 18, 3), (38, .iconst 0, 1), (39, .iconst 5, 1), (40, .invokestatic 35, 3), (43, .aload_n 0, 1), (44, .aload_n 1, 1), (45, .getfield 21, 3), (48, .putfield 21, 3), (51, .return_, 1)]
set_option maxRecDepth 100000 in
theorem cd_d59 : ∀ q ∈ cd_t59, decode cX5_copyFrom q.1 = .ok q.2 := by decide +kernel
def cd_t60 : List (Nat × Instr × Nat) := [(0, .aload_n 0, 1), (1, .getfield 21, 3), (4, .ireturn, 1)]
set_option maxRecDepth 100000 in
theorem cd_d60 : ∀ q ∈ cd_t60, decode cX5_cadences q.1 = .ok q.2 := by decide +kernel
def cd_t61 : List (Nat × Instr × Nat) := [(0, .iload_n 1, 1), (1, .ifCond .lt 15, 3), (4, .iload_n 1, 1), (5, .aload_n 0, 1), (6, .getfield 21, 3), (9, .if_icmp .ge 7, 3), (12, .iconst 1, 1), (13, .goto 4, 3), (16, .iconst 0, 1), (17, .ireturn, 1)]
set_option maxRecDepth 100000 in
theorem cd_d61 : ∀ q ∈ cd_t61, decode cX5_hasCadence q.1 = .ok q.2 := by decide +kernel
def cd_t62 : List (Nat × Instr × Nat) := [(0, .aload_n 0, 1), (1, .iload_n 1, 1), (2, .invokevirtual 41, 3), (5, .ifCond .eq 12, 3), (8, .aload_n 0, 1), (9, .getfield 15, 3), (12, .iload_n 1, 1), (13, .iaload, 1), (14, .goto 4, 3), (17, .iconst 0, 1), (18, .ireturn, 1)]
set_option maxRecDepth 100000 in
theorem cd_d62 : ∀ q ∈ cd_t62, decode cX5_length q.1 = .ok q.2 := by decide +kernel
def cd_t63 : List (Nat × Instr × Nat) := [(0, .iload_n 2, 1), (1, .ifCond .lt 16, 3), (4, .iload_n 2, 1), (5, .aload_n 0, 1), (6, .iload_n 1, 1), (7, .invokevirtual 45, 3), (10, .if_icmp .ge 7, 3), (13, .iconst 1, 1), (14, .goto 4, 3), (17, .iconst 0, 1), (18, .ireturn, 1)]
set_option maxRecDepth 100000 in
theorem cd_d63 : ∀ q ∈ cd_t63, decode cX5_hasPlace q.1 = .ok q.2 := by decide +kernel
def cd_t64 : List (Nat × Instr × Nat) := [(0, .aload_n 0, 1), (1, .iload_n 1, 1), (2, .iload_n 2, 1), (3, .invokevirtual 49, 3), (6, .ifCond .eq 17, 3), (9, .aload_n 0, 1), (10, .getfield 9, 3), (13, .iload_n 1, 1), (14, .bipush 6, 2), (16, .imul, 1), (17, .iload_n 2, 1), (18, .iadd, 1), (19, .iaload, 1), (20, .goto 4, 3), (23, .iconst 0, 1), (24, .ireturn, 1)]
set_option maxRecDepth 100000 in
theorem cd_d64 : ∀ q ∈ cd_t64, decode cX5_number q.1 = .ok q.2 := by decide +kernel
def cd_t65 : List (Nat × Instr × Nat) := [(0, .iload_n 1, 1), (1, .ifCond .lt 17, 3), (4, .iload_n 1, 1), (5, .iconst 5, 1), (6, .if_icmp .ge 12, 3), (9, .aload_n 0, 1), (10, .getfield 18, 3), (13, .iload_n 1, 1), (14, .iaload, 1), (15, .goto 4, 3), (18, .iconst 0, 1), (19, .ireturn, 1)]
set_option maxRecDepth 100000 in
theorem cd_d65 : ∀ q ∈ cd_t65, decode cX5_value q.1 = .ok q.2 := by decide +kernel
def cd_t66 : List (Nat × Instr × Nat) := [(0, .iconst 0, 1), (1, .istore 5, 2), (3, .iconst 0, 1), (4, .istore 6, 2), (6, .iconst 0, 1), (7, .istore 7, 2), (9, .iconst 0, 1), (10, .istore 8, 2), (12, .iload 8, 2), (14, .bipush 6, 2), (16, .if_icmp .ge 58, 3), (19, .lload_n 1, 1), (20, .iload 8, 2), (22, .invokestatic 53, 3), (25, .lload_n 3, 1), (26, .iload 8, 2), (28, .invokestatic 53, 3), (31, .isub, 1), (32, .invokestatic 57, 3), (35, .istore 9, 2), (37, .iload 5, 2), (39, .iload 9, 2), (41, .iadd, 1), (42, .istore 5, 2), (44, .iload 6, 2), (46, .iload 9, 2), (48, .invokestatic 62, 3), (51, .istore 6, 2), (53, .iload 7, 2), (55, .iload 9, 2), (57, .ifCond .le 7, 3), (60, .iconst 1, 1), (61, .goto 4, 3), (64, .iconst 0, 1), (65, .iadd, 1), (66, .istore 7, 2), (68, .iinc 8 1, 3), (71, .goto (-59), 3), (74, .aload_n 0, 1), (75, .getfield 18, 3), (78, .iconst 4, 1), (79, .iaload, 1), (80, .ifCond .ne 6, 3), (83, .iload 5, 2), (85, .ireturn, 1), (86, .aload_n 0, 1), (87, .getfield 18, 3), (90, .iconst 4, 1), (91, .iaload, 1), (92, .iconst 1, 1), (93, .if_icmp .ne 8, 3), (96, .iload 6, 2), (98, .goto 5, 3), (101, .iload 7, 2), (103, .ireturn, 1)]
set_option maxRecDepth 100000 in
theorem cd_d66 : ∀ q ∈ cd_t66, decode cX5_distance q.1 = .ok q.2 := by decide +kernel
def cd_t67 : List (Nat × Instr × Nat) := [(0, .aload_n 1, 1), (1, .iload_n 2, 1), (2, .iconst 2, 1), (3, .isub, 1), (4, .invokevirtual 66, 3), (7, .ifCond .ne 5, 3), (10, .iconst 0, 1), (11, .ireturn, 1), (12, .aload_n 0, 1), (13, .aload_n 1, 1), (14, .iload_n 2, 1), (15, .invokevirtual 71, 3), (18, .aload_n 1, 1), (19, .iload_n 2, 1), (20, .iconst 2, 1), (21, .isub, 1), (22, .invokevirtual 71, 3), (25, .invokevirtual 75, 3), (28, .istore_n 3, 1), (29, .iload_n 3, 1), (30, .aload_n 0, 1), (31, .getfield 18, 3), (34, .iconst 0, 1), (35, .iaload, 1), (36, .if_icmp .gt 7, 3), (39, .iconst 0, 1), (40, .goto 10, 3), (43, .iload_n 3, 1), (44, .sipush 999, 3), (47, .invokestatic 79, 3), (50, .ireturn, 1)]
set_option maxRecDepth 100000 in
theorem cd_d67 : ∀ q ∈ cd_t67, decode cX5_costOfRepeat q.1 = .ok q.2 := by decide +kernel
def cd_t68 : List (Nat × Instr × Nat) := [(0, .aload_n 1, 1), (1, .iload_n 2, 1), (2, .iconst 2, 1), (3, .isub, 1), (4, .invokevirtual 66, 3), (7, .ifCond .eq 18, 3), (10, .aload_n 1, 1), (11, .iload_n 2, 1), (12, .invokevirtual 82, 3), (15, .aload_n 1, 1), (16, .iload_n 2, 1), (17, .iconst 2, 1), (18, .isub, 1), (19, .invokevirtual 82, 3), (22, .if_icmp .eq 5, 3), (25, .iconst 0, 1), (26, .ireturn, 1), (27, .aload_n 0, 1), (28, .aload_n 1, 1), (29, .iload_n 2, 1), (30, .invokevirtual 71, 3), (33, .aload_n 1, 1), (34, .iload_n 2, 1), (35, .iconst 2, 1), (36, .isub, 1), (37, .invokevirtual 71, 3), (40, .invokevirtual 75, 3), (43, .istore_n 3, 1), (44, .iload_n 3, 1), (45, .aload_n 0, 1), (46, .getfield 18, 3), (49, .iconst 0, 1), (50, .iaload, 1), (51, .if_icmp .gt 12, 3), (54, .aload_n 0, 1), (55, .getfield 18, 3), (58, .iconst 2, 1), (59, .iaload, 1), (60, .goto 4, 3), (63, .iconst 0, 1), (64, .ireturn, 1)]
set_option maxRecDepth 100000 in
theorem cd_d68 : ∀ q ∈ cd_t68, decode cX5_costOfFresh q.1 = .ok q.2 := by decide +kernel
def cd_t69 : List (Nat × Instr × Nat) := [(0, .aload_n 0, 1), (1, .getfield 24, 3), (4, .ireturn, 1)]
set_option maxRecDepth 100000 in
theorem cd_d69 : ∀ q ∈ cd_t69, decode cX6_size q.1 = .ok q.2 := by decide +kernel
end
section
def cd_t70 : List (Nat × Instr × Nat) := [(0, .aload_n 0, 1), (1, .iload_n 1, 1), (2, .invokevirtual 28, 3), (5, .ifCond .eq 12, 3), (8, .aload_n 0, 1), (9, .getfield 9, 3), (12, .iload_n 1, 1), (13, .iaload, 1), (14, .goto 4, 3), (17, .iconst 0, 1), (18, .ireturn, 1)]
set_option maxRecDepth 100000 in
theorem cd_d70 : ∀ q ∈ cd_t70, decode cX6_place q.1 = .ok q.2 := by decide +kernel
def cd_t71 : List (Nat × Instr × Nat) := [(0, .aload_n 0, 1), (1, .iload_n 1, 1), (2, .invokevirtual 28, 3), (5, .ifCond .eq 12, 3), (8, .aload_n 0, 1), (9, .getfield 15, 3), (12, .iload_n 1, 1), (13, .iaload, 1), (14, .goto 4, 3), (17, .iconst 0, 1), (18, .ireturn, 1)]
set_option maxRecDepth 100000 in
theorem cd_d71 : ∀ q ∈ cd_t71, decode cX6_step q.1 = .ok q.2 := by decide +kernel
def cd_t72 : List (Nat × Instr × Nat) := [(0, .aload_n 0, 1), (1, .iload_n 1, 1), (2, .invokevirtual 28, 3), (5, .ifCond .eq 12, 3), (8, .aload_n 0, 1), (9, .getfield 18, 3), (12, .iload_n 1, 1), (13, .iaload, 1), (14, .goto 4, 3), (17, .iconst 0, 1), (18, .ireturn, 1)]
set_option maxRecDepth 100000 in
theorem cd_d72 : ∀ q ∈ cd_t72, decode cX6_seen q.1 = .ok q.2 := by decide +kernel
def cd_t73 : List (Nat × Instr × Nat) := [(0, .aload_n 0, 1), (1, .iload_n 1, 1), (2, .invokevirtual 28, 3), (5, .ifCond .eq 12, 3), (8, .aload_n 0, 1), (9, .getfield 21, 3), (12, .iload_n 1, 1), (13, .iaload, 1), (14, .goto 4, 3), (17, .iconst 0, 1), (18, .ireturn, 1)]
set_option maxRecDepth 100000 in
theorem cd_d73 : ∀ q ∈ cd_t73, decode cX6_next q.1 = .ok q.2 := by decide +kernel
def cd_t74 : List (Nat × Instr × Nat) := [(0, .iload_n 1, 1), (1, .ifCond .lt 15, 3), (4, .iload_n 1, 1), (5, .aload_n 0, 1), (6, .getfield 24, 3), (9, .if_icmp .ge 7, 3), (12, .iconst 1, 1), (13, .goto 4, 3), (16, .iconst 0, 1), (17, .ireturn, 1)]
set_option maxRecDepth 100000 in
theorem cd_d74 : ∀ q ∈ cd_t74, decode cX6_has q.1 = .ok q.2 := by decide +kernel
def cd_t75 : List (Nat × Instr × Nat) := [(0, .aload_n 0, 1), (1, .iconst 0, 1), (2, .putfield 24, 3), (5, .aload_n 1, 1), (6, .iload_n 2, 1), (7, .invokevirtual 32, 3), (10, .istore_n 3, 1), (11, .iconst 0, 1), (12, .istore 4, 2), (14, .iload 4, 2), (16, .iload_n 3, 1), (17, .if_icmp .ge 35, 3), (20, .aload_n 0, 1), (21, .iload 4, 2), (23, .aload_n 1, 1), (24, .iload_n 2, 1), (25, .iload 4, 2), (27, .invokevirtual 38, 3), (30, .iload 4, 2), (32, .iconst 1, 1), (33, .iadd, 1), (34, .iload_n 3, 1), (35, .if_icmp .ge 7, 3), (38, .iconst 1, 1), (39, .goto 4, 3), (42, .iconst 0, 1), (43, .invokevirtual 42, 3), (46, .iinc 4 1, 3), (49, .goto (-35), 3), (52, .return_, 1)]
set_option maxRecDepth 100000 in
theorem cd_d75 : ∀ q ∈ cd_t75, decode cX6_build q.1 = .ok q.2 := by decide +kernel
def cd_t76 : List (Nat × Instr × Nat) := [(0, .aload_n 0, 1), (1, .getfield 24, 3), (4, .istore 4, 2), (6, .iload_n 3, 1), (7, .ifCond .eq 13, 3), (10, .iload 4, 2), (12, .iload_n 2, 1), (13, .invokestatic 46, 3), (16, .iadd, 1), (17, .goto 4, 3), (20, .iconst 0, 1), (21, .istore 5, 2), (23, .iconst 0, 1), (24, .istore 6, 2), (26, .iload 6, 2), (28, .iload_n 2, 1), (29, .if_icmp .ge 66, 3), (32, .iconst 0, 1), (33, .istore 7, 2), (35, .iload 7, 2), (37, .iload 6, 2), (39, .if_icmp .gt 50, 3), (42, .iload 4, 2), (44, .iload 6, 2), (46, .iconst 1, 1), (47, .iadd, 1), (48, .invokestatic 46, 3), (51, .iadd, 1), (52, .iload 7, 2), (54, .iadd, 1), (55, .iconst 1, 1), (56, .iadd, 1), (57, .istore 8, 2), (59, .aload_n 0, 1), (60, .iload_n 1, 1), (61, .iload 6, 2), (63, .iload 7, 2), (65, .iload 6, 2), (67, .iconst 1, 1), (68, .iadd, 1), (69, .iload_n 2, 1), (70, .if_icmp .ge 8, 3), (73, .iload 8, 2), (75, .goto 5, 3), (78, .iload 5, 2), (80, .invokevirtual 49, 3), (83, .iinc 7 1, 3), (86, .goto (-51), 3), (89, .iinc 6 1, 3), (92, .goto (-66), 3), (95, .return_, 1)]
set_option maxRecDepth 100000 in
theorem cd_d76 : ∀ q ∈ cd_t76, decode cX6_addPlace q.1 = .ok q.2 := by decide +kernel
def cd_t77 : List (Nat × Instr × Nat) := [(0, .aload_n 0, 1), (1, .getfield 24, 3), (4, .bipush 90, 2), (6, .if_icmp .ge 54, 3), (9, .aload_n 0, 1), (10, .getfield 9, 3), (13, .aload_n 0, 1), (14, .getfield 24, 3), (17, .iload_n 1, 1), (18, .iastore, 1), (19, .aload_n 0, 1), (20, .getfield 15, 3), (23, .aload_n 0, 1), (24, .getfield 24, 3), (27, .iload_n 2, 1), (28, .iastore, 1), (29, .aload_n 0, 1), (30, .getfield 18, 3), (33, .aload_n 0, 1), (34, .getfield 24, 3), (37, .iload_n 3, 1), (38, .iastore, 1), (39, .aload_n 0, 1), (40, .getfield 21, 3), (43, .aload_n 0, 1), (44, .getfield 24, 3), (47, .iload 4, 2), (49, .iastore, 1), (50, .aload_n 0, 1), (51, .dup, 1), (52, .getfield 24, 3), (55, .iconst 1, 1), (56, .iadd, 1), (57, .putfield 24, 3), (60, .return_, 1)]
set_option maxRecDepth 100000 in
theorem cd_d77 : ∀ q ∈ cd_t77, decode cX6_addState q.1 = .ok q.2 := by decide +kernel
def cd_t78 : List (Nat × Instr × Nat) := [(0, .iload_n 0, 1), (1, .iload_n 0, 1), (2, .iconst 1, 1), (3, .iadd, 1), (4, .imul, 1), (5, .iconst 2, 1), (6, .idiv, 1), (7, .ireturn, 1)]
set_option maxRecDepth 100000 in
theorem cd_d78 : ∀ q ∈ cd_t78, decode cX6_firstOfStep q.1 = .ok q.2 := by decide +kernel
def cd_t79 : List (Nat × Instr × Nat) := [(0, .aload_n 0, 1), (1, .getfield 15, 3), (4, .iconst 5, 1), (5, .iadd, 1), (6, .sipush 225, 3), (9, .if_icmp .gt 7, 3), (12, .iconst 1, 1), (13, .goto 4, 3), (16, .iconst 0, 1), (17, .ireturn, 1)]
set_option maxRecDepth 100000 in
theorem cd_d79 : ∀ q ∈ cd_t79, decode cX7_hasRoom q.1 = .ok q.2 := by decide +kernel
def cd_t80 : List (Nat × Instr × Nat) := [(0, .aload_n 0, 1), (1, .getfield 15, 3), (4, .sipush 225, 3), (7, .if_icmp .ge 23, 3), (10, .aload_n 0, 1), (11, .getfield 9, 3), (14, .aload_n 0, 1), (15, .getfield 15, 3), (18, .iload_n 1, 1), (19, .iastore, 1), (20, .aload_n 0, 1), (21, .dup, 1), (22, .getfield 15, 3), (25, .iconst 1, 1), (26, .iadd, 1), (27, .putfield 15, 3), (30, .return_, 1)]
set_option maxRecDepth 100000 in
theorem cd_d80 : ∀ q ∈ cd_t80, decode cX7_put q.1 = .ok q.2 := by decide +kernel
def cd_t81 : List (Nat × Instr × Nat) := [(0, .iconst 4, 1), (1, .aload_n 0, 1), (2, .getfield 15, 3), (5, .imul, 1), (6, .ireturn, 1)]
set_option maxRecDepth 100000 in
theorem cd_d81 : ∀ q ∈ cd_t81, decode cX7_size q.1 = .ok q.2 := by decide +kernel
def cd_t82 : List (Nat × Instr × Nat) := [(0, .iload_n 1, 1), (1, .ifCond .lt 15, 3), (4, .iload_n 1, 1), (5, .aload_n 0, 1), (6, .invokevirtual 34, 3), (9, .if_icmp .gt 7, 3), (12, .iconst 1, 1), (13, .goto 4, 3), (16, .iconst 0, 1), (17, .ireturn, 1)]
set_option maxRecDepth 100000 in
theorem cd_d82 : ∀ q ∈ cd_t82, decode cX7_holds q.1 = .ok q.2 := by decide +kernel
def cd_t83 : List (Nat × Instr × Nat) := [(0, .aload_n 0, 1), (1, .iconst 0, 1), (2, .putfield 15, 3), (5, .return_, 1)]
set_option maxRecDepth 100000 in
theorem cd_d83 : ∀ q ∈ cd_t83, decode cX7_empty q.1 = .ok q.2 := by decide +kernel
def cd_t84 : List (Nat × Instr × Nat) := [(0, .aload_n 0, 1), (1, .aload_n 0, 1), (2, .iload_n 1, 1), (3, .invokevirtual 38, 3), (6, .ifCond .eq 7, 3), (9, .iload_n 1, 1), (10, .goto 4, 3), (13, .iconst 0, 1), (14, .putfield 19, 3), (17, .aload_n 0, 1), (18, .iconst 0, 1), (19, .putfield 22, 3), (22, .aload_n 0, 1), (23, .invokevirtual 42, 3), (26, .return_, 1)]
set_option maxRecDepth 100000 in
theorem cd_d84 : ∀ q ∈ cd_t84, decode cX7_open q.1 = .ok q.2 := by decide +kernel
def cd_t85 : List (Nat × Instr × Nat) := [(0, .aload_n 0, 1), (1, .getfield 28, 3), (4, .ireturn, 1)]
set_option maxRecDepth 100000 in
theorem cd_d85 : ∀ q ∈ cd_t85, decode cX7_kind q.1 = .ok q.2 := by decide +kernel
def cd_t86 : List (Nat × Instr × Nat) := [(0, .aload_n 0, 1), (1, .getfield 25, 3), (4, .ireturn, 1)]
set_option maxRecDepth 100000 in
theorem cd_d86 : ∀ q ∈ cd_t86, decode cX7_start q.1 = .ok q.2 := by decide +kernel
def cd_t87 : List (Nat × Instr × Nat) := [(0, .aload_n 0, 1), (1, .getfield 31, 3), (4, .ireturn, 1)]
set_option maxRecDepth 100000 in
theorem cd_d87 : ∀ q ∈ cd_t87, decode cX7_number q.1 = .ok q.2 := by decide +kernel
def cd_t88 : List (Nat × Instr × Nat) := [(0, .aload_n 0, 1), (1, .getfield 22, 3), (4, .aload_n 0, 1), (5, .getfield 19, 3), (8, .if_icmp .ge 30, 3), (11, .aload_n 0, 1), (12, .aload_n 0, 1), (13, .getfield 22, 3), (16, .invokevirtual 45, 3), (19, .invokestatic 49, 3), (22, .ifCond .eq 16, 3), (25, .aload_n 0, 1), (26, .dup, 1), (27, .getfield 22, 3), (30, .iconst 1, 1), (31, .iadd, 1), (32, .putfield 22, 3), (35, .goto (-35), 3), (38, .aload_n 0, 1), (39, .aload_n 0, 1), (40, .getfield 22, 3), (43, .putfield 25, 3), (46, .aload_n 0, 1), (47, .getfield 22, 3), (50, .aload_n 0, 1), (51, .getfield 19, 3), (54, .if_icmp .lt 9, 3), (57, .aload_n 0, 1), (58, .iconst 0, 1), (59, .putfield 28, 3), (62, .return_, 1), (63, .aload_n 0, 1), (64, .aload_n 0, 1), (65, .getfield 22, 3), (68, .invokevirtual 45, 3), (71, .istore_n 1, 1), (72, .iload_n 1, 1), (73, .invokestatic 52, 3), (76, .ifCond .eq 10, 3), (79, .aload_n 0, 1), (80, .invokevirtual 55, 3), (83, .goto 42, 3), (86, .iload_n 1, 1), (87, .invokestatic 58, 3), (90, .ifCond .eq 10, 3), (93, .aload_n 0, 1), (94, .invokevirtual 61, 3), (97, .goto 28, 3), (100, .aload_n 0, 1), (101, .iload_n 1, 1), (102, .bipush 59, 2), (104, .if_icmp .ne 7, 3), (107, .iconst 3, 1), (108, .goto 4, 3), (111, .iconst 4, 1), (112, .putfield 28, 3), (115, .aload_n 0, 1), (116, .dup, 1), (117, .getfield 22, 3), (120, .iconst 1, 1), (121, .iadd, 1), (122, .putfield 22, 3), (125, .return_, 1)]
set_option maxRecDepth 100000 in
theorem cd_d88 : ∀ q ∈ cd_t88, decode cX7_advance q.1 = .ok q.2 := by decide +kernel
def cd_t89 : List (Nat × Instr × Nat) := [(0, .aload_n 0, 1), (1, .getfield 28, 3), (4, .iconst 1, 1), (5, .if_icmp .ne 19, 3), (8, .aload_n 0, 1), (9, .getfield 22, 3), (12, .aload_n 0, 1), (13, .getfield 25, 3), (16, .isub, 1), (17, .aload_n 1, 1), (18, .invokevirtual 64, 3), (21, .if_icmp .eq 5, 3), (24, .iconst 0, 1), (25, .ireturn, 1), (26, .iconst 0, 1), (27, .istore_n 2, 1), (28, .iload_n 2, 1), (29, .aload_n 1, 1), (30, .invokevirtual 64, 3), (33, .if_icmp .ge 29, 3), (36, .aload_n 0, 1), (37, .aload_n 0, 1), (38, .getfield 25, 3), (41, .iload_n 2, 1), (42, .iadd, 1), (43, .invokevirtual 45, 3), (46, .aload_n 1, 1), (47, .iload_n 2, 1), (48, .invokevirtual 69, 3), (51, .if_icmp .eq 5, 3), (54, .iconst 0, 1), (55, .ireturn, 1), (56, .iinc 2 1, 3), (59, .goto (-31), 3), (62, .iconst 1, 1), (63, .ireturn, 1)]
set_option maxRecDepth 100000 in
theorem cd_d89 : ∀ q ∈ cd_t89, decode cX7_isWord q.1 = .ok q.2 := by decide +kernel
def cd_t90 : List (Nat × Instr × Nat) := [(0, .aload_n 0, 1), (1, .getfield 22, 3), (4, .aload_n 0, 1), (5, .getfield 19, 3), (8, .if_icmp .ge 30, 3), (11, .aload_n 0, 1), (12, .aload_n 0, 1), (13, .getfield 22, 3), (16, .invokevirtual 45, 3), (19, .invokestatic 52, 3), (22, .ifCond .eq 16, 3), (25, .aload_n 0, 1), (26, .dup, 1), (27, .getfield 22, 3), (30, .iconst 1, 1), (31, .iadd, 1), (32, .putfield 22, 3), (35, .goto (-35), 3), (38, .aload_n 0, 1), (39, .iconst 1, 1), (40, .putfield 28, 3), (43, .return_, 1)]
set_option maxRecDepth 100000 in
theorem cd_d90 : ∀ q ∈ cd_t90, decode cX7_passWord q.1 = .ok q.2 := by decide +kernel
def cd_t91 : List (Nat × Instr × Nat) := [(0, .aload_n 0, 1), (1, .iconst 0, 1), (2, .putfield 31, 3), (5, .aload_n 0, 1), (6, .getfield 22, 3), (9, .aload_n 0, 1), (10, .getfield 19, 3), (13, .if_icmp .ge 66, 3), (16, .aload_n 0, 1), (17, .aload_n 0, 1), (18, .getfield 22, 3), (21, .invokevirtual 45, 3), (24, .invokestatic 58, 3), (27, .ifCond .eq 52, 3), (30, .aload_n 0, 1), (31, .getfield 22, 3), (34, .aload_n 0, 1), (35, .getfield 25, 3), (38, .isub, 1), (39, .iconst 4, 1), (40, .if_icmp .ge 26, 3), (43, .aload_n 0, 1), (44, .bipush 10, 2), (46, .aload_n 0, 1), (47, .getfield 31, 3), (50, .imul, 1), (51, .aload_n 0, 1), (52, .aload_n 0, 1), (53, .getfield 22, 3), (56, .invokevirtual 45, 3), (59, .iadd, 1), (60, .bipush 48, 2), (62, .isub, 1), (63, .putfield 31, 3), (66, .aload_n 0, 1), (67, .dup, 1), (68, .getfield 22, 3), (71, .iconst 1, 1), (72, .iadd, 1), (73, .putfield 22, 3), (76, .goto (-71), 3), (79, .aload_n 0, 1), (80, .aload_n 0, 1), (81, .getfield 22, 3), (84, .aload_n 0, 1), (85, .getfield 25, 3), (88, .isub, 1), (89, .iconst 4, 1), (90, .if_icmp .gt 7, 3), (93, .iconst 2, 1), (94, .goto 4, 3), (97, .iconst 4, 1), (98, .putfield 28, 3), (101, .return_, 1)]
set_option maxRecDepth 100000 in
theorem cd_d91 : ∀ q ∈ cd_t91, decode cX7_passNumber q.1 = .ok q.2 := by decide +kernel
def cd_t92 : List (Nat × Instr × Nat) := [(0, .iload_n 1, 1), (1, .ifCond .lt 13, 3), (4, .iload_n 1, 1), (5, .iconst 4, 1), (6, .aload_n 0, 1), (7, .getfield 15, 3), (10, .imul, 1), (11, .if_icmp .lt 5, 3), (14, .iconst 0, 1), (15, .ireturn, 1), (16, .aload_n 0, 1), (17, .getfield 9, 3), (20, .iload_n 1, 1), (21, .iconst 2, 1), (22, .ishr, 1), (23, .iaload, 1), (24, .bipush 24, 2), (26, .bipush 8, 2), (28, .iload_n 1, 1), (29, .iconst 3, 1), (30, .iand, 1), (31, .imul, 1), (32, .isub, 1), (33, .iushr, 1), (34, .sipush 255, 3), (37, .iand, 1), (38, .ireturn, 1)]
set_option maxRecDepth 100000 in
theorem cd_d92 : ∀ q ∈ cd_t92, decode cX7_byteAt q.1 = .ok q.2 := by decide +kernel
def cd_t93 : List (Nat × Instr × Nat) := [(0, .iload_n 0, 1), (1, .bipush 32, 2), (3, .if_icmp .eq 9, 3), (6, .iload_n 0, 1), (7, .bipush 10, 2), (9, .if_icmp .ne 7, 3), (12, .iconst 1, 1), (13, .goto 4, 3), (16, .iconst 0, 1), (17, .ireturn, 1)]
set_option maxRecDepth 100000 in
theorem cd_d93 : ∀ q ∈ cd_t93, decode cX7_isBlank q.1 = .ok q.2 := by decide +kernel
def cd_t94 : List (Nat × Instr × Nat) := [(0, .iload_n 0, 1), (1, .bipush 97, 2), (3, .if_icmp .lt 13, 3), (6, .iload_n 0, 1), (7, .bipush 122, 2), (9, .if_icmp .gt 7, 3), (12, .iconst 1, 1), (13, .goto 4, 3), (16, .iconst 0, 1), (17, .ireturn, 1)]
set_option maxRecDepth 100000 in
theorem cd_d94 : ∀ q ∈ cd_t94, decode cX7_isLetter q.1 = .ok q.2 := by decide +kernel
def cd_t95 : List (Nat × Instr × Nat) := [(0, .iload_n 0, 1), (1, .bipush 48, 2), (3, .if_icmp .lt 13, 3), (6, .iload_n 0, 1), (7, .bipush 57, 2), (9, .if_icmp .gt 7, 3), (12, .iconst 1, 1), (13, .goto 4, 3), (16, .iconst 0, 1), (17, .ireturn, 1)]
set_option maxRecDepth 100000 in
theorem cd_d95 : ∀ q ∈ cd_t95, decode cX7_isDigit q.1 = .ok q.2 := by decide +kernel
def cd_t96 : List (Nat × Instr × Nat) := [(0, .aload_n 0, 1), (1, .getfield 12, 3), (4, .areturn, 1)]
set_option maxRecDepth 100000 in
theorem cd_d96 : ∀ q ∈ cd_t96, decode cX8_tape q.1 = .ok q.2 := by decide +kernel
def cd_t97 : List (Nat × Instr × Nat) := [(0, .aload_n 0, 1), (1, .getfield 23, 3), (4, .areturn, 1)]
set_option maxRecDepth 100000 in
theorem cd_d97 : ∀ q ∈ cd_t97, decode cX8_frames q.1 = .ok q.2 := by decide +kernel
def cd_t98 : List (Nat × Instr × Nat) := [(0, .aload_n 0, 1), (1, .getfield 30, 3), (4, .areturn, 1)]
set_option maxRecDepth 100000 in
theorem cd_d98 : ∀ q ∈ cd_t98, decode cX8_rulesRead q.1 = .ok q.2 := by decide +kernel
def cd_t99 : List (Nat × Instr × Nat) := [(0, .aload_n 0, 1), (1, .getfield 34, 3), (4, .ireturn, 1)]
set_option maxRecDepth 100000 in
theorem cd_d99 : ∀ q ∈ cd_t99, decode cX8_fault q.1 = .ok q.2 := by decide +kernel
def cd_t100 : List (Nat × Instr × Nat) := [(0, .aload_n 0, 1), (1, .getfield 12, 3), (4, .iload_n 1, 1), (5, .invokevirtual 44, 3), (8, .aload_n 0, 1), (9, .ldc 47, 2), (11, .invokevirtual 49, 3), (14, .ifCond .eq 13, 3), (17, .aload_n 0, 1), (18, .iconst 1, 1), (19, .bipush 6, 2), (21, .invokevirtual 53, 3), (24, .ifCond .ne 5, 3), (27, .iconst 0, 1), (28, .ireturn, 1), (29, .aload_n 0, 1), (30, .getfield 23, 3), (33, .aload_n 0, 1), (34, .getfield 38, 3), (37, .invokevirtual 57, 3), (40, .aload_n 0, 1), (41, .invokevirtual 60, 3), (44, .ifCond .ne 5, 3), (47, .iconst 0, 1), (48, .ireturn, 1), (49, .iconst 0, 1), (50, .istore_n 2, 1), (51, .iload_n 2, 1), (52, .bipush 20, 2), (54, .if_icmp .gt 35, 3), (57, .iload_n 2, 1), (58, .ifCond .le 15, 3), (61, .aload_n 0, 1), (62, .getfield 12, 3), (65, .invokevirtual 64, 3), (68, .ifCond .ne 5, 3), (71, .iconst 1, 1), (72, .ireturn, 1), (73, .aload_n 0, 1), (74, .iload_n 2, 1), (75, .invokevirtual 68, 3), (78, .ifCond .ne 5, 3), (81, .iconst 0, 1), (82, .ireturn, 1), (83, .iinc 2 1, 3), (86, .goto (-35), 3), (89, .iconst 0, 1), (90, .ireturn, 1)]
set_option maxRecDepth 100000 in
theorem cd_d100 : ∀ q ∈ cd_t100, decode cX8_readFilm q.1 = .ok q.2 := by decide +kernel
def cd_t101 : List (Nat × Instr × Nat) := [(0, .aload_n 0, 1), (1, .getfield 12, 3), (4, .ldc 72, 2), (6, .invokevirtual 74, 3), (9, .ifCond .ne 9, 3), (12, .aload_n 0, 1), (13, .iconst 1, 1), (14, .invokevirtual 77, 3), (17, .ireturn, 1), (18, .iload_n 1, 1), (19, .bipush 20, 2), (21, .if_icmp .lt 9, 3), (24, .aload_n 0, 1), (25, .iconst 4, 1), (26, .invokevirtual 77, 3), (29, .ireturn, 1), (30, .aload_n 0, 1), (31, .getfield 12, 3), (34, .invokevirtual 80, 3), (37, .lconst 0, 1), (38, .lstore_n 2, 1), (39, .lconst 0, 1), (40, .lstore 4, 2), (42, .aload_n 0, 1), (43, .getfield 23, 3), (46, .invokevirtual 83, 3), (49, .istore 6, 2), (51, .iconst 0, 1), (52, .istore 7, 2), (54, .iload 7, 2), (56, .iconst 2, 1), (57, .iload 6, 2), (59, .imul, 1), (60, .if_icmp .ge 58, 3), (63, .aload_n 0, 1), (64, .iconst 0, 1), (65, .bipush 99, 2), (67, .invokevirtual 53, 3), (70, .ifCond .ne 5, 3), (73, .iconst 0, 1), (74, .ireturn, 1), (75, .iload 7, 2), (77, .iload 6, 2), (79, .if_icmp .ge 17, 3), (82, .lload_n 2, 1), (83, .iload 7, 2), (85, .aload_n 0, 1), (86, .getfield 38, 3), (89, .invokestatic 85, 3), (92, .lstore_n 2, 1), (93, .goto 19, 3), (96, .lload 4, 2), (98, .iload 7, 2), (100, .iload 6, 2), (102, .isub, 1), (103, .aload_n 0, 1), (104, .getfield 38, 3), (107, .invokestatic 85, 3), (110, .lstore 4, 2), (112, .iinc 7 1, 3), (115, .goto (-61), 3), (118, .aload_n 0, 1), (119, .getfield 23, 3), (122, .lload_n 2, 1), (123, .lload 4, 2), (125, .invokevirtual 89, 3), (128, .aload_n 0, 1), (129, .invokevirtual 60, 3), (132, .ireturn, 1)]
set_option maxRecDepth 100000 in
theorem cd_d101 : ∀ q ∈ cd_t101, decode cX8_readFrame q.1 = .ok q.2 := by decide +kernel
def cd_t102 : List (Nat × Instr × Nat) := [(0, .aload_n 0, 1), (1, .getfield 12, 3), (4, .iload_n 1, 1), (5, .invokevirtual 44, 3), (8, .aload_n 0, 1), (9, .getfield 30, 3), (12, .invokevirtual 93, 3), (15, .aload_n 0, 1), (16, .iconst 0, 1), (17, .putfield 41, 3), (20, .iconst 0, 1), (21, .istore_n 2, 1), (22, .iload_n 2, 1), (23, .bipush 9, 2), (25, .if_icmp .gt 84, 3), (28, .aload_n 0, 1), (29, .getfield 12, 3), (32, .invokevirtual 64, 3), (35, .ifCond .ne 27, 3), (38, .aload_n 0, 1), (39, .getfield 30, 3), (42, .invokevirtual 96, 3), (45, .ifCond .gt 11, 3), (48, .aload_n 0, 1), (49, .iconst 1, 1), (50, .invokevirtual 77, 3), (53, .ifCond .eq 7, 3), (56, .iconst 1, 1), (57, .goto 4, 3), (60, .iconst 0, 1), (61, .ireturn, 1), (62, .aload_n 0, 1), (63, .getfield 12, 3), (66, .ldc 99, 2), (68, .invokevirtual 74, 3), (71, .ifCond .eq 10, 3), (74, .aload_n 0, 1), (75, .invokevirtual 101, 3), (78, .goto 11, 3), (81, .aload_n 0, 1), (82, .aload_n 0, 1), (83, .invokevirtual 104, 3), (86, .invokevirtual 107, 3), (89, .istore_n 3, 1), (90, .iload_n 3, 1), (91, .ifCond .eq 10, 3), (94, .aload_n 0, 1), (95, .invokevirtual 60, 3), (98, .ifCond .ne 5, 3), (101, .iconst 0, 1), (102, .ireturn, 1), (103, .iinc 2 1, 3), (106, .goto (-84), 3), (109, .iconst 0, 1), (110, .ireturn, 1)]
set_option maxRecDepth 100000 in
theorem cd_d102 : ∀ q ∈ cd_t102, decode cX8_readRules q.1 = .ok q.2 := by decide +kernel
def cd_t103 : List (Nat × Instr × Nat) := [(0, .aload_n 0, 1), (1, .getfield 30, 3), (4, .invokevirtual 96, 3), (7, .iconst 4, 1), (8, .if_icmp .lt 9, 3), (11, .aload_n 0, 1), (12, .iconst 4, 1), (13, .invokevirtual 77, 3), (16, .ireturn, 1), (17, .aload_n 0, 1), (18, .getfield 12, 3), (21, .invokevirtual 80, 3), (24, .aload_n 0, 1), (25, .getfield 30, 3), (28, .invokevirtual 110, 3), (31, .iconst 0, 1), (32, .istore_n 1, 1), (33, .iload_n 1, 1), (34, .bipush 6, 2), (36, .if_icmp .gt 70, 3), (39, .iload_n 1, 1), (40, .ifCond .le 16, 3), (43, .aload_n 0, 1), (44, .getfield 12, 3), (47, .invokevirtual 64, 3), (50, .iconst 3, 1), (51, .if_icmp .ne 5, 3), (54, .iconst 1, 1), (55, .ireturn, 1), (56, .aload_n 0, 1), (57, .iconst 2, 1), (58, .iconst 5, 1), (59, .invokevirtual 113, 3), (62, .ifCond .ne 5, 3), (65, .iconst 0, 1), (66, .ireturn, 1), (67, .iload_n 1, 1), (68, .bipush 6, 2), (70, .if_icmp .lt 9, 3), (73, .aload_n 0, 1), (74, .iconst 4, 1), (75, .invokevirtual 77, 3), (78, .ireturn, 1), (79, .aload_n 0, 1), (80, .getfield 30, 3), (83, .aload_n 0, 1), (84, .getfield 12, 3), (87, .invokevirtual 116, 3), (90, .invokevirtual 119, 3), (93, .aload_n 0, 1), (94, .getfield 12, 3), (97, .invokevirtual 80, 3), (100, .iinc 1 1, 3), (103, .goto (-70), 3), (106, .iconst 0, 1), (107, .ireturn, 1)]
set_option maxRecDepth 100000 in
theorem cd_d103 : ∀ q ∈ cd_t103, decode cX8_readCadence q.1 = .ok q.2 := by decide +kernel
def cd_t104 : List (Nat × Instr × Nat) := [(0, .aload_n 0, 1), (1, .getfield 12, 3), (4, .ldc 122, 2), (6, .invokevirtual 74, 3), (9, .ifCond .eq 5, 3), (12, .iconst 0, 1), (13, .ireturn, 1), (14, .aload_n 0, 1), (15, .getfield 12, 3), (18, .ldc 124, 2), (20, .invokevirtual 74, 3), (23, .ifCond .eq 5, 3), (26, .iconst 1, 1), (27, .ireturn, 1), (28, .aload_n 0, 1), (29, .getfield 12, 3), (32, .ldc 126, 2), (34, .invokevirtual 74, 3), (37, .ifCond .eq 5, 3), (40, .iconst 2, 1), (41, .ireturn, 1), (42, .aload_n 0, 1), (43, .getfield 12, 3), (46, .ldc 128, 2), (48, .invokevirtual 74, 3), (51, .ifCond .eq 5, 3), (54, .iconst 3, 1), (55, .ireturn, 1), (56, .aload_n 0, 1), (57, .getfield 12, 3), (60, .ldc 130, 2), (62, .invokevirtual 74, 3), (65, .ifCond .eq 7, 3), (68, .iconst 4, 1), (69, .goto 4, 3), (72, .iconst (-1), 1), (73, .ireturn, 1)]
set_option maxRecDepth 100000 in
theorem cd_d104 : ∀ q ∈ cd_t104, decode cX8_valueTold q.1 = .ok q.2 := by decide +kernel
end
section
def cd_t105 : List (Nat × Instr × Nat) := [(0, .iload_n 1, 1), (1, .iconst (-1), 1), (2, .if_icmp .ne 9, 3), (5, .aload_n 0, 1), (6, .iconst 1, 1), (7, .invokevirtual 77, 3), (10, .ireturn, 1), (11, .iconst 1, 1), (12, .iload_n 1, 1), (13, .ishl, 1), (14, .istore_n 2, 1), (15, .aload_n 0, 1), (16, .getfield 41, 3), (19, .iload_n 2, 1), (20, .iand, 1), (21, .ifCond .eq 9, 3), (24, .aload_n 0, 1), (25, .iconst 3, 1), (26, .invokevirtual 77, 3), (29, .ireturn, 1), (30, .aload_n 0, 1), (31, .dup, 1), (32, .getfield 41, 3), (35, .iload_n 2, 1), (36, .ior, 1), (37, .putfield 41, 3), (40, .aload_n 0, 1), (41, .getfield 12, 3), (44, .invokevirtual 80, 3), (47, .iload_n 1, 1), (48, .iconst 4, 1), (49, .if_icmp .ne 13, 3), (52, .aload_n 0, 1), (53, .invokevirtual 132, 3), (56, .ifCond .ne 19, 3), (59, .goto 14, 3), (62, .aload_n 0, 1), (63, .iconst 0, 1), (64, .sipush 999, 3), (67, .invokevirtual 53, 3), (70, .ifCond .ne 5, 3), (73, .iconst 0, 1), (74, .ireturn, 1), (75, .aload_n 0, 1), (76, .getfield 30, 3), (79, .iload_n 1, 1), (80, .aload_n 0, 1), (81, .getfield 38, 3), (84, .invokevirtual 135, 3), (87, .iconst 1, 1), (88, .ireturn, 1)]
set_option maxRecDepth 100000 in
theorem cd_d105 : ∀ q ∈ cd_t105, decode cX8_readValue q.1 = .ok q.2 := by decide +kernel
def cd_t106 : List (Nat × Instr × Nat) := [(0, .aload_n 0, 1), (1, .getfield 12, 3), (4, .ldc 139, 2), (6, .invokevirtual 74, 3), (9, .ifCond .eq 11, 3), (12, .aload_n 0, 1), (13, .iconst 0, 1), (14, .putfield 38, 3), (17, .goto 49, 3), (20, .aload_n 0, 1), (21, .getfield 12, 3), (24, .ldc 141, 2), (26, .invokevirtual 74, 3), (29, .ifCond .eq 11, 3), (32, .aload_n 0, 1), (33, .iconst 1, 1), (34, .putfield 38, 3), (37, .goto 29, 3), (40, .aload_n 0, 1), (41, .getfield 12, 3), (44, .ldc 143, 2), (46, .invokevirtual 74, 3), (49, .ifCond .eq 11, 3), (52, .aload_n 0, 1), (53, .iconst 2, 1), (54, .putfield 38, 3), (57, .goto 9, 3), (60, .aload_n 0, 1), (61, .iconst 1, 1), (62, .invokevirtual 77, 3), (65, .ireturn, 1), (66, .aload_n 0, 1), (67, .getfield 12, 3), (70, .invokevirtual 80, 3), (73, .iconst 1, 1), (74, .ireturn, 1)]
set_option maxRecDepth 100000 in
theorem cd_d106 : ∀ q ∈ cd_t106, decode cX8_takeMeasure q.1 = .ok q.2 := by decide +kernel
def cd_t107 : List (Nat × Instr × Nat) := [(0, .aload_n 0, 1), (1, .getfield 12, 3), (4, .aload_n 1, 1), (5, .invokevirtual 74, 3), (8, .ifCond .ne 9, 3), (11, .aload_n 0, 1), (12, .iconst 1, 1), (13, .invokevirtual 77, 3), (16, .ireturn, 1), (17, .aload_n 0, 1), (18, .getfield 12, 3), (21, .invokevirtual 80, 3), (24, .iconst 1, 1), (25, .ireturn, 1)]
set_option maxRecDepth 100000 in
theorem cd_d107 : ∀ q ∈ cd_t107, decode cX8_takeWord q.1 = .ok q.2 := by decide +kernel
def cd_t108 : List (Nat × Instr × Nat) := [(0, .aload_n 0, 1), (1, .getfield 12, 3), (4, .invokevirtual 64, 3), (7, .iconst 3, 1), (8, .if_icmp .eq 9, 3), (11, .aload_n 0, 1), (12, .iconst 1, 1), (13, .invokevirtual 77, 3), (16, .ireturn, 1), (17, .aload_n 0, 1), (18, .getfield 12, 3), (21, .invokevirtual 80, 3), (24, .iconst 1, 1), (25, .ireturn, 1)]
set_option maxRecDepth 100000 in
theorem cd_d108 : ∀ q ∈ cd_t108, decode cX8_takeSemicolon q.1 = .ok q.2 := by decide +kernel
def cd_t109 : List (Nat × Instr × Nat) := [(0, .aload_n 0, 1), (1, .iload_n 1, 1), (2, .iload_n 2, 1), (3, .invokevirtual 113, 3), (6, .ifCond .ne 5, 3), (9, .iconst 0, 1), (10, .ireturn, 1), (11, .aload_n 0, 1), (12, .aload_n 0, 1), (13, .getfield 12, 3), (16, .invokevirtual 116, 3), (19, .putfield 38, 3), (22, .aload_n 0, 1), (23, .getfield 12, 3), (26, .invokevirtual 80, 3), (29, .iconst 1, 1), (30, .ireturn, 1)]
set_option maxRecDepth 100000 in
theorem cd_d109 : ∀ q ∈ cd_t109, decode cX8_takeNumber q.1 = .ok q.2 := by decide +kernel
def cd_t110 : List (Nat × Instr × Nat) := [(0, .aload_n 0, 1), (1, .getfield 12, 3), (4, .invokevirtual 64, 3), (7, .iconst 2, 1), (8, .if_icmp .eq 9, 3), (11, .aload_n 0, 1), (12, .iconst 1, 1), (13, .invokevirtual 77, 3), (16, .ireturn, 1), (17, .aload_n 0, 1), (18, .getfield 12, 3), (21, .invokevirtual 116, 3), (24, .iload_n 1, 1), (25, .if_icmp .lt 14, 3), (28, .aload_n 0, 1), (29, .getfield 12, 3), (32, .invokevirtual 116, 3), (35, .iload_n 2, 1), (36, .if_icmp .le 9, 3), (39, .aload_n 0, 1), (40, .iconst 2, 1), (41, .invokevirtual 77, 3), (44, .ireturn, 1), (45, .iconst 1, 1), (46, .ireturn, 1)]
set_option maxRecDepth 100000 in
theorem cd_d110 : ∀ q ∈ cd_t110, decode cX8_isNumberWithin q.1 = .ok q.2 := by decide +kernel
def cd_t111 : List (Nat × Instr × Nat) := [(0, .aload_n 0, 1), (1, .bipush 8, 2), (3, .aload_n 0, 1), (4, .getfield 12, 3), (7, .invokevirtual 145, 3), (10, .imul, 1), (11, .iload_n 1, 1), (12, .iadd, 1), (13, .putfield 34, 3), (16, .iconst 0, 1), (17, .ireturn, 1)]
set_option maxRecDepth 100000 in
theorem cd_d111 : ∀ q ∈ cd_t111, decode cX8_refuse q.1 = .ok q.2 := by decide +kernel
def cd_t112 : List (Nat × Instr × Nat) := [(0, .aload_n 0, 1), (1, .iconst 0, 1), (2, .putfield 31, 3), (5, .aload_n 0, 1), (6, .iconst 0, 1), (7, .putfield 35, 3), (10, .aload_n 0, 1), (11, .iconst 0, 1), (12, .putfield 38, 3), (15, .aload_n 0, 1), (16, .iconst 0, 1), (17, .putfield 41, 3), (20, .aload_n 1, 1), (21, .iconst 0, 1), (22, .invokevirtual 44, 3), (25, .istore 4, 2), (27, .iconst 0, 1), (28, .istore 5, 2), (30, .iload 5, 2), (32, .aload_n 2, 1), (33, .invokevirtual 50, 3), (36, .if_icmp .ge 86, 3), (39, .iload 5, 2), (41, .ifCond .le 20, 3), (44, .aload_n 1, 1), (45, .iload 5, 2), (47, .iconst 1, 1), (48, .isub, 1), (49, .iload 4, 2), (51, .invokevirtual 55, 3), (54, .ifCond .ne 7, 3), (57, .iconst 1, 1), (58, .goto 4, 3), (61, .iconst 0, 1), (62, .istore 6, 2), (64, .iload 6, 2), (66, .ifCond .eq 14, 3), (69, .aload_n 1, 1), (70, .iload 5, 2), (72, .invokevirtual 44, 3), (75, .istore 4, 2), (77, .goto 19, 3), (80, .iload 5, 2), (82, .ifCond .le 14, 3), (85, .aload_n 1, 1), (86, .invokevirtual 59, 3), (89, .iload 4, 2), (91, .invokevirtual 63, 3), (94, .istore 4, 2), (96, .aload_n 0, 1), (97, .aload_n 1, 1), (98, .invokevirtual 59, 3), (101, .iload 4, 2), (103, .iload 6, 2), (105, .invokevirtual 68, 3), (108, .aload_n 0, 1), (109, .aload_n 2, 1), (110, .aload_n 3, 1), (111, .iload 5, 2), (113, .invokevirtual 72, 3), (116, .iinc 5 1, 3), (119, .goto (-89), 3), (122, .return_, 1)]
set_option maxRecDepth 100000 in
theorem cd_d112 : ∀ q ∈ cd_t112, decode cX9_follow q.1 = .ok q.2 := by decide +kernel
def cd_t113 : List (Nat × Instr × Nat) := [(0, .aload_n 0, 1), (1, .getfield 31, 3), (4, .bipush 90, 2), (6, .if_icmp .lt 4, 3), (9, .return_, 1), (10, .aload_n 0, 1), (11, .getfield 9, 3), (14, .aload_n 0, 1), (15, .getfield 31, 3), (18, .aload_n 1, 1), (19, .iload_n 2, 1), (20, .invokevirtual 76, 3), (23, .iastore, 1), (24, .aload_n 0, 1), (25, .getfield 15, 3), (28, .aload_n 0, 1), (29, .getfield 31, 3), (32, .aload_n 1, 1), (33, .iload_n 2, 1), (34, .invokevirtual 79, 3), (37, .iastore, 1), (38, .aload_n 0, 1), (39, .getfield 18, 3), (42, .aload_n 0, 1), (43, .getfield 31, 3), (46, .aload_n 1, 1), (47, .iload_n 2, 1), (48, .invokevirtual 82, 3), (51, .iastore, 1), (52, .aload_n 0, 1), (53, .getfield 21, 3), (56, .aload_n 0, 1), (57, .getfield 31, 3), (60, .iload_n 3, 1), (61, .bastore, 1), (62, .iload_n 3, 1), (63, .ifCond .eq 26, 3), (66, .aload_n 0, 1), (67, .getfield 28, 3), (70, .aload_n 0, 1), (71, .getfield 35, 3), (74, .aload_n 0, 1), (75, .getfield 31, 3), (78, .iastore, 1), (79, .aload_n 0, 1), (80, .dup, 1), (81, .getfield 35, 3), (84, .iconst 1, 1), (85, .iadd, 1), (86, .putfield 35, 3), (89, .aload_n 0, 1), (90, .dup, 1), (91, .getfield 31, 3), (94, .iconst 1, 1), (95, .iadd, 1), (96, .putfield 31, 3), (99, .return_, 1)]
set_option maxRecDepth 100000 in
theorem cd_d113 : ∀ q ∈ cd_t113, decode cX9_addField q.1 = .ok q.2 := by decide +kernel
def cd_t114 : List (Nat × Instr × Nat) := [(0, .aload_n 0, 1), (1, .iload_n 3, 1), (2, .invokevirtual 85, 3), (5, .ifCond .ne 4, 3), (8, .return_, 1), (9, .aload_n 0, 1), (10, .iload_n 3, 1), (11, .invokevirtual 89, 3), (14, .ifCond .eq 12, 3), (17, .aload_n 2, 1), (18, .aload_n 1, 1), (19, .iload_n 3, 1), (20, .invokevirtual 92, 3), (23, .goto 9, 3), (26, .aload_n 2, 1), (27, .aload_n 1, 1), (28, .iload_n 3, 1), (29, .invokevirtual 98, 3), (32, .istore 4, 2), (34, .aload_n 0, 1), (35, .getfield 21, 3), (38, .iload_n 3, 1), (39, .baload, 1), (40, .ifCond .eq 13, 3), (43, .iload 4, 2), (45, .aload_n 2, 1), (46, .iconst 1, 1), (47, .invokevirtual 101, 3), (50, .iadd, 1), (51, .istore 4, 2), (53, .aload_n 0, 1), (54, .getfield 25, 3), (57, .iload_n 3, 1), (58, .iload 4, 2), (60, .iastore, 1), (61, .aload_n 0, 1), (62, .dup, 1), (63, .getfield 41, 3), (66, .iload 4, 2), (68, .iadd, 1), (69, .putfield 41, 3), (72, .aload_n 0, 1), (73, .dup, 1), (74, .getfield 38, 3), (77, .aload_n 0, 1), (78, .iload_n 3, 1), (79, .invokevirtual 89, 3), (82, .ifCond .eq 7, 3), (85, .iconst 0, 1), (86, .goto 4, 3), (89, .iconst 1, 1), (90, .iadd, 1), (91, .putfield 38, 3), (94, .return_, 1)]
set_option maxRecDepth 100000 in
theorem cd_d114 : ∀ q ∈ cd_t114, decode cX9_putPrice q.1 = .ok q.2 := by decide +kernel
def cd_t115 : List (Nat × Instr × Nat) := [(0, .iload_n 1, 1), (1, .ifCond .lt 15, 3), (4, .iload_n 1, 1), (5, .aload_n 0, 1), (6, .getfield 31, 3), (9, .if_icmp .ge 7, 3), (12, .iconst 1, 1), (13, .goto 4, 3), (16, .iconst 0, 1), (17, .ireturn, 1)]
set_option maxRecDepth 100000 in
theorem cd_d115 : ∀ q ∈ cd_t115, decode cX9_has q.1 = .ok q.2 := by decide +kernel
def cd_t116 : List (Nat × Instr × Nat) := [(0, .aload_n 0, 1), (1, .iload_n 1, 1), (2, .invokevirtual 85, 3), (5, .ifCond .eq 12, 3), (8, .aload_n 0, 1), (9, .getfield 9, 3), (12, .iload_n 1, 1), (13, .iaload, 1), (14, .goto 4, 3), (17, .iconst (-1), 1), (18, .ireturn, 1)]
set_option maxRecDepth 100000 in
theorem cd_d116 : ∀ q ∈ cd_t116, decode cX9_place q.1 = .ok q.2 := by decide +kernel
def cd_t117 : List (Nat × Instr × Nat) := [(0, .aload_n 0, 1), (1, .iload_n 1, 1), (2, .invokevirtual 85, 3), (5, .ifCond .eq 12, 3), (8, .aload_n 0, 1), (9, .getfield 15, 3), (12, .iload_n 1, 1), (13, .iaload, 1), (14, .goto 4, 3), (17, .iconst (-1), 1), (18, .ireturn, 1)]
set_option maxRecDepth 100000 in
theorem cd_d117 : ∀ q ∈ cd_t117, decode cX9_step q.1 = .ok q.2 := by decide +kernel
def cd_t118 : List (Nat × Instr × Nat) := [(0, .aload_n 0, 1), (1, .iload_n 1, 1), (2, .invokevirtual 85, 3), (5, .ifCond .eq 12, 3), (8, .aload_n 0, 1), (9, .getfield 18, 3), (12, .iload_n 1, 1), (13, .iaload, 1), (14, .goto 4, 3), (17, .iconst (-1), 1), (18, .ireturn, 1)]
set_option maxRecDepth 100000 in
theorem cd_d118 : ∀ q ∈ cd_t118, decode cX9_seen q.1 = .ok q.2 := by decide +kernel
def cd_t119 : List (Nat × Instr × Nat) := [(0, .aload_n 0, 1), (1, .iload_n 1, 1), (2, .invokevirtual 85, 3), (5, .ifCond .eq 16, 3), (8, .aload_n 0, 1), (9, .getfield 21, 3), (12, .iload_n 1, 1), (13, .baload, 1), (14, .ifCond .eq 7, 3), (17, .iconst 1, 1), (18, .goto 4, 3), (21, .iconst 0, 1), (22, .ireturn, 1)]
set_option maxRecDepth 100000 in
theorem cd_d119 : ∀ q ∈ cd_t119, decode cX9_isEdit q.1 = .ok q.2 := by decide +kernel
def cd_t120 : List (Nat × Instr × Nat) := [(0, .aload_n 0, 1), (1, .iload_n 1, 1), (2, .invokevirtual 85, 3), (5, .ifCond .eq 12, 3), (8, .aload_n 0, 1), (9, .getfield 25, 3), (12, .iload_n 1, 1), (13, .iaload, 1), (14, .goto 4, 3), (17, .iconst (-1), 1), (18, .ireturn, 1)]
set_option maxRecDepth 100000 in
theorem cd_d120 : ∀ q ∈ cd_t120, decode cX9_price q.1 = .ok q.2 := by decide +kernel
def cd_t121 : List (Nat × Instr × Nat) := [(0, .aload_n 0, 1), (1, .iload_n 1, 1), (2, .invokevirtual 85, 3), (5, .ifCond .eq 17, 3), (8, .aload_n 0, 1), (9, .getfield 18, 3), (12, .iload_n 1, 1), (13, .iaload, 1), (14, .iconst 2, 1), (15, .if_icmp .ge 7, 3), (18, .iconst 1, 1), (19, .goto 4, 3), (22, .iconst 0, 1), (23, .ireturn, 1)]
set_option maxRecDepth 100000 in
theorem cd_d121 : ∀ q ∈ cd_t121, decode cX9_isKept q.1 = .ok q.2 := by decide +kernel
def cd_t122 : List (Nat × Instr × Nat) := [(0, .iload_n 1, 1), (1, .ifCond .lt 20, 3), (4, .iload_n 1, 1), (5, .aload_n 0, 1), (6, .getfield 35, 3), (9, .if_icmp .ge 12, 3), (12, .aload_n 0, 1), (13, .getfield 28, 3), (16, .iload_n 1, 1), (17, .iaload, 1), (18, .goto 4, 3), (21, .iconst (-1), 1), (22, .ireturn, 1)]
set_option maxRecDepth 100000 in
theorem cd_d122 : ∀ q ∈ cd_t122, decode cX9_fieldOfEdit q.1 = .ok q.2 := by decide +kernel
def cd_t123 : List (Nat × Instr × Nat) := [(0, .aload_n 0, 1), (1, .getfield 35, 3), (4, .ireturn, 1)]
set_option maxRecDepth 100000 in
theorem cd_d123 : ∀ q ∈ cd_t123, decode cX9_edits q.1 = .ok q.2 := by decide +kernel
def cd_t124 : List (Nat × Instr × Nat) := [(0, .aload_n 0, 1), (1, .getfield 38, 3), (4, .ireturn, 1)]
set_option maxRecDepth 100000 in
theorem cd_d124 : ∀ q ∈ cd_t124, decode cX9_dropped q.1 = .ok q.2 := by decide +kernel
def cd_t125 : List (Nat × Instr × Nat) := [(0, .aload_n 0, 1), (1, .getfield 41, 3), (4, .ireturn, 1)]
set_option maxRecDepth 100000 in
theorem cd_d125 : ∀ q ∈ cd_t125, decode cX9_total q.1 = .ok q.2 := by decide +kernel
def cd_t126 : List (Nat × Instr × Nat) := [(0, .aload_n 0, 1), (1, .getfield 10, 3), (4, .invokevirtual 82, 3), (7, .astore 6, 2), (9, .aload 6, 2), (11, .invokevirtual 86, 3), (14, .ifCond .ne 5, 3), (17, .iconst (-1), 1), (18, .ireturn, 1), (19, .aload 6, 2), (21, .iload_n 1, 1), (22, .invokevirtual 92, 3), (25, .aload 6, 2), (27, .iload_n 2, 1), (28, .invokevirtual 92, 3), (31, .aload 6, 2), (33, .iload_n 3, 1), (34, .invokevirtual 92, 3), (37, .aload 6, 2), (39, .iload 4, 2), (41, .invokevirtual 92, 3), (44, .aload 6, 2), (46, .iload 5, 2), (48, .invokevirtual 92, 3), (51, .aload 6, 2), (53, .invokevirtual 95, 3), (56, .ireturn, 1)]
set_option maxRecDepth 100000 in
theorem cd_d126 : ∀ q ∈ cd_t126, decode cX10_feed q.1 = .ok q.2 := by decide +kernel
def cd_t127 : List (Nat × Instr × Nat) := [(0, .aload_n 0, 1), (1, .getfield 10, 3), (4, .invokevirtual 82, 3), (7, .iload_n 1, 1), (8, .invokevirtual 99, 3), (11, .ifCond .ne 5, 3), (14, .iconst (-1), 1), (15, .ireturn, 1), (16, .aload_n 0, 1), (17, .getfield 10, 3), (20, .iload_n 1, 1), (21, .invokevirtual 103, 3), (24, .istore_n 2, 1), (25, .aload_n 0, 1), (26, .getfield 10, 3), (29, .invokevirtual 82, 3), (32, .invokevirtual 106, 3), (35, .iload_n 2, 1), (36, .ifCond .ne 14, 3), (39, .bipush (-2), 2), (41, .aload_n 0, 1), (42, .getfield 10, 3), (45, .invokevirtual 109, 3), (48, .isub, 1), (49, .ireturn, 1), (50, .aload_n 0, 1), (51, .getfield 21, 3), (54, .aload_n 0, 1), (55, .getfield 10, 3), (58, .invokevirtual 112, 3), (61, .invokevirtual 116, 3), (64, .aload_n 0, 1), (65, .getfield 35, 3), (68, .invokevirtual 120, 3), (71, .aload_n 0, 1), (72, .getfield 42, 3), (75, .invokevirtual 121, 3), (78, .aload_n 0, 1), (79, .invokevirtual 122, 3), (82, .aload_n 0, 1), (83, .getfield 21, 3), (86, .invokevirtual 125, 3), (89, .ireturn, 1)]
set_option maxRecDepth 100000 in
theorem cd_d127 : ∀ q ∈ cd_t127, decode cX10_film q.1 = .ok q.2 := by decide +kernel
def cd_t128 : List (Nat × Instr × Nat) := [(0, .aload_n 0, 1), (1, .getfield 10, 3), (4, .invokevirtual 82, 3), (7, .iload_n 1, 1), (8, .invokevirtual 99, 3), (11, .ifCond .ne 5, 3), (14, .iconst (-1), 1), (15, .ireturn, 1), (16, .aload_n 0, 1), (17, .getfield 10, 3), (20, .iload_n 1, 1), (21, .invokevirtual 126, 3), (24, .istore_n 2, 1), (25, .aload_n 0, 1), (26, .getfield 10, 3), (29, .invokevirtual 82, 3), (32, .invokevirtual 106, 3), (35, .iload_n 2, 1), (36, .ifCond .ne 14, 3), (39, .bipush (-2), 2), (41, .aload_n 0, 1), (42, .getfield 10, 3), (45, .invokevirtual 109, 3), (48, .isub, 1), (49, .ireturn, 1), (50, .aload_n 0, 1), (51, .getfield 28, 3), (54, .aload_n 0, 1), (55, .getfield 10, 3), (58, .invokevirtual 129, 3), (61, .invokevirtual 133, 3), (64, .aload_n 0, 1), (65, .iconst 0, 1), (66, .putfield 74, 3), (69, .aload_n 0, 1), (70, .getfield 42, 3), (73, .invokevirtual 121, 3), (76, .aload_n 0, 1), (77, .invokevirtual 122, 3), (80, .aload_n 0, 1), (81, .getfield 28, 3), (84, .invokevirtual 136, 3), (87, .ireturn, 1)]
set_option maxRecDepth 100000 in
theorem cd_d128 : ∀ q ∈ cd_t128, decode cX10_rules q.1 = .ok q.2 := by decide +kernel
def cd_t129 : List (Nat × Instr × Nat) := [(0, .aload_n 0, 1), (1, .aload_n 0, 1), (2, .getfield 21, 3), (5, .iload_n 1, 1), (6, .iload_n 2, 1), (7, .iload_n 3, 1), (8, .invokevirtual 139, 3), (11, .ireturn, 1)]
set_option maxRecDepth 100000 in
theorem cd_d129 : ∀ q ∈ cd_t129, decode cX10_frame q.1 = .ok q.2 := by decide +kernel
def cd_t130 : List (Nat × Instr × Nat) := [(0, .aload_n 0, 1), (1, .getfield 28, 3), (4, .iload_n 1, 1), (5, .invokevirtual 143, 3), (8, .ifCond .ne 5, 3), (11, .iconst (-1), 1), (12, .ireturn, 1), (13, .iload_n 2, 1), (14, .iconst (-1), 1), (15, .if_icmp .ne 12, 3), (18, .aload_n 0, 1), (19, .getfield 28, 3), (22, .iload_n 1, 1), (23, .invokevirtual 146, 3), (26, .ireturn, 1), (27, .aload_n 0, 1), (28, .getfield 28, 3), (31, .iload_n 1, 1), (32, .iload_n 2, 1), (33, .invokevirtual 150, 3), (36, .ifCond .eq 15, 3), (39, .aload_n 0, 1), (40, .getfield 28, 3), (43, .iload_n 1, 1), (44, .iload_n 2, 1), (45, .invokevirtual 154, 3), (48, .goto 4, 3), (51, .iconst (-1), 1), (52, .ireturn, 1)]
set_option maxRecDepth 100000 in
theorem cd_d130 : ∀ q ∈ cd_t130, decode cX10_cadence q.1 = .ok q.2 := by decide +kernel
def cd_t131 : List (Nat × Instr × Nat) := [(0, .aload_n 0, 1), (1, .getfield 28, 3), (4, .iload_n 1, 1), (5, .invokevirtual 143, 3), (8, .ifCond .ne 5, 3), (11, .iconst (-1), 1), (12, .ireturn, 1), (13, .aload_n 0, 1), (14, .getfield 74, 3), (17, .istore_n 2, 1), (18, .aload_n 0, 1), (19, .iload_n 1, 1), (20, .putfield 74, 3), (23, .aload_n 0, 1), (24, .iconst 0, 1), (25, .putfield 78, 3), (28, .iload_n 2, 1), (29, .ireturn, 1)]
set_option maxRecDepth 100000 in
theorem cd_d131 : ∀ q ∈ cd_t131, decode cX10_force q.1 = .ok q.2 := by decide +kernel
def cd_t132 : List (Nat × Instr × Nat) := [(0, .aload_n 0, 1), (1, .getfield 21, 3), (4, .invokevirtual 125, 3), (7, .ifCond .eq 25, 3), (10, .aload_n 0, 1), (11, .getfield 28, 3), (14, .aload_n 0, 1), (15, .getfield 74, 3), (18, .iload_n 1, 1), (19, .invokevirtual 150, 3), (22, .ifCond .eq 10, 3), (25, .iload_n 2, 1), (26, .invokestatic 158, 3), (29, .ifCond .ne 5, 3), (32, .iconst (-1), 1), (33, .ireturn, 1), (34, .aload_n 0, 1), (35, .invokevirtual 161, 3), (38, .aload_n 0, 1), (39, .getfield 35, 3), (42, .aload_n 0, 1), (43, .getfield 21, 3), (46, .aload_n 0, 1), (47, .getfield 28, 3), (50, .aload_n 0, 1), (51, .getfield 74, 3), (54, .iload_n 1, 1), (55, .iload_n 2, 1), (56, .invokevirtual 164, 3), (59, .aload_n 0, 1), (60, .getfield 35, 3), (63, .invokevirtual 168, 3), (66, .ireturn, 1)]
set_option maxRecDepth 100000 in
theorem cd_d132 : ∀ q ∈ cd_t132, decode cX10_carry q.1 = .ok q.2 := by decide +kernel
def cd_t133 : List (Nat × Instr × Nat) := [(0, .aload_n 0, 1), (1, .getfield 35, 3), (4, .iload_n 1, 1), (5, .iload_n 2, 1), (6, .invokevirtual 169, 3), (9, .ifCond .ne 5, 3), (12, .iconst (-1), 1), (13, .ireturn, 1), (14, .aload_n 0, 1), (15, .invokevirtual 161, 3), (18, .aload_n 0, 1), (19, .getfield 35, 3), (22, .iload_n 1, 1), (23, .iload_n 2, 1), (24, .invokevirtual 172, 3), (27, .aload_n 0, 1), (28, .getfield 35, 3), (31, .invokevirtual 168, 3), (34, .ireturn, 1)]
set_option maxRecDepth 100000 in
theorem cd_d133 : ∀ q ∈ cd_t133, decode cX10_cut q.1 = .ok q.2 := by decide +kernel
def cd_t134 : List (Nat × Instr × Nat) := [(0, .aload_n 0, 1), (1, .getfield 35, 3), (4, .iload_n 1, 1), (5, .iload_n 2, 1), (6, .invokevirtual 169, 3), (9, .ifCond .eq 17, 3), (12, .iload_n 2, 1), (13, .bipush 90, 2), (15, .aload_n 0, 1), (16, .getfield 35, 3), (19, .invokevirtual 168, 3), (22, .isub, 1), (23, .if_icmp .le 5, 3), (26, .iconst (-1), 1), (27, .ireturn, 1), (28, .aload_n 0, 1), (29, .invokevirtual 161, 3), (32, .aload_n 0, 1), (33, .getfield 35, 3), (36, .iload_n 1, 1), (37, .iload_n 2, 1), (38, .invokevirtual 176, 3), (41, .aload_n 0, 1), (42, .getfield 35, 3), (45, .invokevirtual 168, 3), (48, .ireturn, 1)]
set_option maxRecDepth 100000 in
theorem cd_d134 : ∀ q ∈ cd_t134, decode cX10_doubled q.1 = .ok q.2 := by decide +kernel
def cd_t135 : List (Nat × Instr × Nat) := [(0, .aload_n 0, 1), (1, .getfield 35, 3), (4, .invokevirtual 168, 3), (7, .ifCond .eq 14, 3), (10, .iload_n 2, 1), (11, .iconst 1, 1), (12, .if_icmp .lt 9, 3), (15, .iload_n 2, 1), (16, .bipush 9, 2), (18, .if_icmp .le 5, 3), (21, .iconst (-1), 1), (22, .ireturn, 1), (23, .aload_n 0, 1), (24, .invokevirtual 161, 3), (27, .aload_n 0, 1), (28, .getfield 35, 3), (31, .iload_n 1, 1), (32, .iload_n 2, 1), (33, .aload_n 0, 1), (34, .getfield 21, 3), (37, .invokevirtual 179, 3), (40, .invokevirtual 182, 3), (43, .ireturn, 1)]
set_option maxRecDepth 100000 in
theorem cd_d135 : ∀ q ∈ cd_t135, decode cX10_noise q.1 = .ok q.2 := by decide +kernel
def cd_t136 : List (Nat × Instr × Nat) := [(0, .aload_n 0, 1), (1, .getfield 35, 3), (4, .iload_n 1, 1), (5, .invokevirtual 186, 3), (8, .ifCond .eq 21, 3), (11, .aload_n 0, 1), (12, .iload_n 2, 1), (13, .invokevirtual 189, 3), (16, .ifCond .eq 13, 3), (19, .iload_n 3, 1), (20, .ifCond .lt 9, 3), (23, .iload_n 3, 1), (24, .bipush 99, 2), (26, .if_icmp .le 5, 3), (29, .iconst (-1), 1), (30, .ireturn, 1), (31, .aload_n 0, 1), (32, .invokevirtual 161, 3), (35, .aload_n 0, 1), (36, .getfield 35, 3), (39, .iload_n 1, 1), (40, .iload_n 2, 1), (41, .invokevirtual 192, 3), (44, .istore 4, 2), (46, .aload_n 0, 1), (47, .getfield 35, 3), (50, .iload_n 1, 1), (51, .iload_n 2, 1), (52, .iload_n 3, 1), (53, .invokevirtual 195, 3), (56, .iload 4, 2), (58, .ireturn, 1)]
set_option maxRecDepth 100000 in
theorem cd_d136 : ∀ q ∈ cd_t136, decode cX10_set q.1 = .ok q.2 := by decide +kernel
def cd_t137 : List (Nat × Instr × Nat) := [(0, .aload_n 0, 1), (1, .getfield 42, 3), (4, .invokevirtual 199, 3), (7, .ifCond .ne 5, 3), (10, .iconst (-1), 1), (11, .ireturn, 1), (12, .aload_n 0, 1), (13, .getfield 42, 3), (16, .aload_n 0, 1), (17, .getfield 35, 3), (20, .invokevirtual 200, 3), (23, .aload_n 0, 1), (24, .invokevirtual 122, 3), (27, .aload_n 0, 1), (28, .getfield 42, 3), (31, .invokevirtual 199, 3), (34, .ireturn, 1)]
set_option maxRecDepth 100000 in
theorem cd_d137 : ∀ q ∈ cd_t137, decode cX10_undo q.1 = .ok q.2 := by decide +kernel
def cd_t138 : List (Nat × Instr × Nat) := [(0, .aload_n 0, 1), (1, .getfield 35, 3), (4, .iload_n 1, 1), (5, .invokevirtual 186, 3), (8, .ifCond .eq 14, 3), (11, .aload_n 0, 1), (12, .getfield 35, 3), (15, .iload_n 2, 1), (16, .invokevirtual 186, 3), (19, .ifCond .ne 5, 3), (22, .iconst (-1), 1), (23, .ireturn, 1), (24, .aload_n 0, 1), (25, .getfield 28, 3), (28, .aload_n 0, 1), (29, .getfield 35, 3), (32, .iload_n 1, 1), (33, .invokevirtual 216, 3), (36, .aload_n 0, 1), (37, .getfield 35, 3), (40, .iload_n 2, 1), (41, .invokevirtual 216, 3), (44, .invokevirtual 220, 3), (47, .ireturn, 1)]
set_option maxRecDepth 100000 in
theorem cd_d138 : ∀ q ∈ cd_t138, decode cX10_apart q.1 = .ok q.2 := by decide +kernel
def cd_t139 : List (Nat × Instr × Nat) := [(0, .aload_n 0, 1), (1, .getfield 35, 3), (4, .iload_n 1, 1), (5, .invokevirtual 186, 3), (8, .ifCond .ne 5, 3), (11, .iconst (-1), 1), (12, .ireturn, 1), (13, .aload_n 0, 1), (14, .invokevirtual 224, 3), (17, .iload_n 2, 1), (18, .tableswitch 141 0 7 #[46, 55, 64, 73, 90, 99, 108, 125], 46), (64, .aload_n 0, 1), (65, .getfield 56, 3), (68, .iload_n 1, 1), (69, .invokevirtual 227, 3), (72, .ireturn, 1), (73, .aload_n 0, 1), (74, .getfield 56, 3), (77, .iload_n 1, 1), (78, .invokevirtual 230, 3), (81, .ireturn, 1), (82, .aload_n 0, 1), (83, .getfield 56, 3), (86, .iload_n 1, 1), (87, .invokevirtual 233, 3), (90, .ireturn, 1), (91, .aload_n 0, 1), (92, .getfield 56, 3), (95, .iload_n 1, 1), (96, .invokevirtual 236, 3), (99, .ifCond .eq 7, 3), (102, .iconst 1, 1), (103, .goto 4, 3), (106, .iconst 0, 1), (107, .ireturn, 1), (108, .aload_n 0, 1), (109, .getfield 56, 3), (112, .iload_n 1, 1), (113, .invokevirtual 239, 3), (116, .ireturn, 1), (117, .aload_n 0, 1), (118, .getfield 63, 3), (121, .iload_n 1, 1), (122, .invokevirtual 242, 3), (125, .ireturn, 1), (126, .aload_n 0, 1), (127, .getfield 56, 3), (130, .iload_n 1, 1), (131, .invokevirtual 245, 3), (134, .ifCond .eq 7, 3), (137, .iconst 1, 1), (138, .goto 4, 3), (141, .iconst 0, 1), (142, .ireturn, 1), (143, .aload_n 0, 1), (144, .getfield 63, 3), (147, .aload_n 0, 1), (148, .getfield 63, 3), (151, .iload_n 1, 1), (152, .invokevirtual 242, 3), (155, .invokevirtual 248, 3), (158, .ireturn, 1), (159, .iconst (-1), 1), (160, .ireturn, 1)]
set_option maxRecDepth 100000 in
theorem cd_d139 : ∀ q ∈ cd_t139, decode cX10_path q.1 = .ok q.2 := by decide +kernel
end
section
def cd_t140 : List (Nat × Instr × Nat) := [(0, .aload_n 0, 1), (1, .invokevirtual 224, 3), (4, .iload_n 1, 1), (5, .tableswitch 102 0 6 #[43, 51, 59, 67, 75, 83, 91], 43), (48, .aload_n 0, 1), (49, .getfield 56, 3), (52, .invokevirtual 251, 3), (55, .ireturn, 1), (56, .aload_n 0, 1), (57, .getfield 56, 3), (60, .invokevirtual 254, 3), (63, .ireturn, 1), (64, .aload_n 0, 1), (65, .getfield 63, 3), (68, .invokevirtual 257, 3), (71, .ireturn, 1), (72, .aload_n 0, 1), (73, .getfield 56, 3), (76, .invokevirtual 258, 3), (79, .ireturn, 1), (80, .aload_n 0, 1), (81, .getfield 63, 3), (84, .invokevirtual 261, 3), (87, .ireturn, 1), (88, .aload_n 0, 1), (89, .getfield 63, 3), (92, .invokevirtual 264, 3), (95, .ireturn, 1), (96, .aload_n 0, 1), (97, .getfield 63, 3), (100, .invokevirtual 267, 3), (103, .invokevirtual 125, 3), (106, .ireturn, 1), (107, .iconst (-1), 1), (108, .ireturn, 1)]
set_option maxRecDepth 100000 in
theorem cd_d140 : ∀ q ∈ cd_t140, decode cX10_all q.1 = .ok q.2 := by decide +kernel
def cd_t141 : List (Nat × Instr × Nat) := [(0, .aload_n 0, 1), (1, .invokevirtual 224, 3), (4, .iload_n 1, 1), (5, .ifCond .lt 25, 3), (8, .iload_n 1, 1), (9, .aload_n 0, 1), (10, .getfield 56, 3), (13, .invokevirtual 254, 3), (16, .if_icmp .ge 14, 3), (19, .aload_n 0, 1), (20, .getfield 56, 3), (23, .iload_n 1, 1), (24, .invokevirtual 268, 3), (27, .goto 4, 3), (30, .iconst (-1), 1), (31, .ireturn, 1)]
set_option maxRecDepth 100000 in
theorem cd_d141 : ∀ q ∈ cd_t141, decode cX10_edit q.1 = .ok q.2 := by decide +kernel
def cd_t142 : List (Nat × Instr × Nat) := [(0, .aload_n 0, 1), (1, .invokevirtual 224, 3), (4, .aload_n 0, 1), (5, .getfield 63, 3), (8, .iload_n 1, 1), (9, .invokevirtual 271, 3), (12, .ifCond .ne 6, 3), (15, .bipush (-2), 2), (17, .ireturn, 1), (18, .iload_n 2, 1), (19, .tableswitch 73 0 3 #[29, 38, 47, 64], 29), (48, .aload_n 0, 1), (49, .getfield 63, 3), (52, .iload_n 1, 1), (53, .invokevirtual 272, 3), (56, .ireturn, 1), (57, .aload_n 0, 1), (58, .getfield 63, 3), (61, .iload_n 1, 1), (62, .invokevirtual 275, 3), (65, .ireturn, 1), (66, .aload_n 0, 1), (67, .getfield 63, 3), (70, .iload_n 1, 1), (71, .invokevirtual 276, 3), (74, .ifCond .eq 7, 3), (77, .iconst 1, 1), (78, .goto 4, 3), (81, .iconst 0, 1), (82, .ireturn, 1), (83, .aload_n 0, 1), (84, .getfield 63, 3), (87, .iload_n 1, 1), (88, .invokevirtual 279, 3), (91, .ireturn, 1), (92, .bipush (-2), 2), (94, .ireturn, 1)]
set_option maxRecDepth 100000 in
theorem cd_d142 : ∀ q ∈ cd_t142, decode cX10_group q.1 = .ok q.2 := by decide +kernel
def cd_t143 : List (Nat × Instr × Nat) := [(0, .aload_n 0, 1), (1, .invokevirtual 224, 3), (4, .aload_n 0, 1), (5, .aload_n 0, 1), (6, .getfield 63, 3), (9, .invokevirtual 267, 3), (12, .iload_n 1, 1), (13, .iload_n 2, 1), (14, .iload_n 3, 1), (15, .invokevirtual 139, 3), (18, .ireturn, 1)]
set_option maxRecDepth 100000 in
theorem cd_d143 : ∀ q ∈ cd_t143, decode cX10_found q.1 = .ok q.2 := by decide +kernel
def cd_t144 : List (Nat × Instr × Nat) := [(0, .aload_n 0, 1), (1, .invokevirtual 224, 3), (4, .aload_n 0, 1), (5, .getfield 63, 3), (8, .invokevirtual 267, 3), (11, .astore_n 2, 1), (12, .aload_n 2, 1), (13, .iload_n 1, 1), (14, .invokevirtual 282, 3), (17, .ifCond .ne 5, 3), (20, .iconst (-1), 1), (21, .ireturn, 1), (22, .iconst 0, 1), (23, .istore_n 3, 1), (24, .iload_n 3, 1), (25, .aload_n 0, 1), (26, .getfield 21, 3), (29, .invokevirtual 125, 3), (32, .if_icmp .ge 24, 3), (35, .aload_n 0, 1), (36, .getfield 21, 3), (39, .iload_n 3, 1), (40, .aload_n 2, 1), (41, .iload_n 1, 1), (42, .invokevirtual 283, 3), (45, .ifCond .eq 5, 3), (48, .iload_n 3, 1), (49, .ireturn, 1), (50, .iinc 3 1, 3), (53, .goto (-29), 3), (56, .iconst (-1), 1), (57, .ireturn, 1)]
set_option maxRecDepth 100000 in
theorem cd_d144 : ∀ q ∈ cd_t144, decode cX10_known q.1 = .ok q.2 := by decide +kernel
def cd_t145 : List (Nat × Instr × Nat) := [(0, .aload_n 0, 1), (1, .getfield 21, 3), (4, .invokevirtual 125, 3), (7, .ifCond .ne 5, 3), (10, .iconst (-1), 1), (11, .ireturn, 1), (12, .aload_n 0, 1), (13, .invokevirtual 224, 3), (16, .aload_n 0, 1), (17, .aload_n 0, 1), (18, .getfield 63, 3), (21, .invokevirtual 267, 3), (24, .invokevirtual 287, 3), (27, .ireturn, 1)]
set_option maxRecDepth 100000 in
theorem cd_d145 : ∀ q ∈ cd_t145, decode cX10_restored q.1 = .ok q.2 := by decide +kernel
def cd_t146 : List (Nat × Instr × Nat) := [(0, .aload_n 0, 1), (1, .getfield 28, 3), (4, .iload_n 1, 1), (5, .invokevirtual 143, 3), (8, .ifCond .eq 22, 3), (11, .aload_n 0, 1), (12, .getfield 49, 3), (15, .aload_n 0, 1), (16, .getfield 35, 3), (19, .aload_n 0, 1), (20, .getfield 28, 3), (23, .iload_n 1, 1), (24, .invokevirtual 291, 3), (27, .goto 4, 3), (30, .iconst (-1), 1), (31, .ireturn, 1)]
set_option maxRecDepth 100000 in
theorem cd_d146 : ∀ q ∈ cd_t146, decode cX10_costs q.1 = .ok q.2 := by decide +kernel
def cd_t147 : List (Nat × Instr × Nat) := [(0, .iconst 0, 1), (1, .istore_n 2, 1), (2, .iconst 0, 1), (3, .istore_n 3, 1), (4, .iload_n 3, 1), (5, .aload_n 0, 1), (6, .getfield 28, 3), (9, .invokevirtual 136, 3), (12, .if_icmp .ge 46, 3), (15, .aload_n 0, 1), (16, .getfield 49, 3), (19, .aload_n 0, 1), (20, .getfield 35, 3), (23, .aload_n 0, 1), (24, .getfield 28, 3), (27, .iload_n 3, 1), (28, .invokevirtual 291, 3), (31, .aload_n 0, 1), (32, .getfield 49, 3), (35, .aload_n 0, 1), (36, .getfield 35, 3), (39, .aload_n 0, 1), (40, .getfield 28, 3), (43, .iload_n 2, 1), (44, .invokevirtual 291, 3), (47, .if_icmp .ge 5, 3), (50, .iload_n 3, 1), (51, .istore_n 2, 1), (52, .iinc 3 1, 3), (55, .goto (-51), 3), (58, .iload_n 1, 1), (59, .ifCond .ne 5, 3), (62, .iload_n 2, 1), (63, .ireturn, 1), (64, .aload_n 0, 1), (65, .getfield 35, 3), (68, .invokevirtual 168, 3), (71, .ifCond .ne 5, 3), (74, .iconst (-1), 1), (75, .ireturn, 1), (76, .iload_n 1, 1), (77, .iconst 1, 1), (78, .if_icmp .ne 12, 3), (81, .aload_n 0, 1), (82, .getfield 49, 3), (85, .iload_n 2, 1), (86, .invokevirtual 295, 3), (89, .ireturn, 1), (90, .iload_n 1, 1), (91, .iconst 2, 1), (92, .if_icmp .ne 14, 3), (95, .aload_n 0, 1), (96, .getfield 49, 3), (99, .iload_n 2, 1), (100, .invokevirtual 298, 3), (103, .goto 4, 3), (106, .iconst (-1), 1), (107, .ireturn, 1)]
set_option maxRecDepth 100000 in
theorem cd_d147 : ∀ q ∈ cd_t147, decode cX10_guess q.1 = .ok q.2 := by decide +kernel
def cd_t148 : List (Nat × Instr × Nat) := [(0, .aload_n 0, 1), (1, .getfield 28, 3), (4, .iload_n 1, 1), (5, .invokevirtual 143, 3), (8, .ifCond .ne 5, 3), (11, .iconst (-1), 1), (12, .ireturn, 1), (13, .aload_n 0, 1), (14, .invokevirtual 224, 3), (17, .aload_n 0, 1), (18, .getfield 67, 3), (21, .aload_n 0, 1), (22, .getfield 63, 3), (25, .invokevirtual 267, 3), (28, .aload_n 0, 1), (29, .getfield 28, 3), (32, .iload_n 1, 1), (33, .iconst 0, 1), (34, .iconst 0, 1), (35, .invokevirtual 164, 3), (38, .iload_n 3, 1), (39, .iconst (-1), 1), (40, .if_icmp .ne 11, 3), (43, .aload_n 0, 1), (44, .getfield 67, 3), (47, .invokevirtual 168, 3), (50, .ireturn, 1), (51, .aload_n 0, 1), (52, .getfield 67, 3), (55, .iload_n 2, 1), (56, .invokevirtual 186, 3), (59, .ifCond .ne 5, 3), (62, .iconst (-1), 1), (63, .ireturn, 1), (64, .iload_n 3, 1), (65, .bipush (-2), 2), (67, .if_icmp .ne 12, 3), (70, .aload_n 0, 1), (71, .getfield 67, 3), (74, .iload_n 2, 1), (75, .invokevirtual 211, 3), (78, .ireturn, 1), (79, .aload_n 0, 1), (80, .iload_n 3, 1), (81, .invokevirtual 189, 3), (84, .ifCond .eq 15, 3), (87, .aload_n 0, 1), (88, .getfield 67, 3), (91, .iload_n 2, 1), (92, .iload_n 3, 1), (93, .invokevirtual 192, 3), (96, .goto 4, 3), (99, .iconst (-1), 1), (100, .ireturn, 1)]
set_option maxRecDepth 100000 in
theorem cd_d148 : ∀ q ∈ cd_t148, decode cX10_anew q.1 = .ok q.2 := by decide +kernel
def cd_t149 : List (Nat × Instr × Nat) := [(0, .aload_n 0, 1), (1, .getfield 28, 3), (4, .iload_n 1, 1), (5, .invokevirtual 143, 3), (8, .ifCond .ne 5, 3), (11, .iconst 0, 1), (12, .ireturn, 1), (13, .aload_n 0, 1), (14, .invokevirtual 224, 3), (17, .aload_n 0, 1), (18, .getfield 67, 3), (21, .aload_n 0, 1), (22, .getfield 63, 3), (25, .invokevirtual 267, 3), (28, .aload_n 0, 1), (29, .getfield 28, 3), (32, .iload_n 1, 1), (33, .iconst 0, 1), (34, .iconst 0, 1), (35, .invokevirtual 164, 3), (38, .aload_n 0, 1), (39, .getfield 67, 3), (42, .aload_n 0, 1), (43, .getfield 35, 3), (46, .invokevirtual 301, 3), (49, .ireturn, 1)]
set_option maxRecDepth 100000 in
theorem cd_d149 : ∀ q ∈ cd_t149, decode cX10_isClean q.1 = .ok q.2 := by decide +kernel
def cd_t150 : List (Nat × Instr × Nat) := [(0, .iload_n 1, 1), (1, .tableswitch 164 0 11 #[63, 71, 79, 87, 95, 100, 109, 118, 127, 136, 145, 153], 63), (64, .aload_n 0, 1), (65, .getfield 21, 3), (68, .invokevirtual 179, 3), (71, .ireturn, 1), (72, .aload_n 0, 1), (73, .getfield 21, 3), (76, .invokevirtual 125, 3), (79, .ireturn, 1), (80, .aload_n 0, 1), (81, .getfield 35, 3), (84, .invokevirtual 168, 3), (87, .ireturn, 1), (88, .aload_n 0, 1), (89, .getfield 28, 3), (92, .invokevirtual 136, 3), (95, .ireturn, 1), (96, .aload_n 0, 1), (97, .getfield 74, 3), (100, .ireturn, 1), (101, .aload_n 0, 1), (102, .getfield 28, 3), (105, .iconst 0, 1), (106, .invokevirtual 304, 3), (109, .ireturn, 1), (110, .aload_n 0, 1), (111, .getfield 28, 3), (114, .iconst 1, 1), (115, .invokevirtual 304, 3), (118, .ireturn, 1), (119, .aload_n 0, 1), (120, .getfield 28, 3), (123, .iconst 2, 1), (124, .invokevirtual 304, 3), (127, .ireturn, 1), (128, .aload_n 0, 1), (129, .getfield 28, 3), (132, .iconst 3, 1), (133, .invokevirtual 304, 3), (136, .ireturn, 1), (137, .aload_n 0, 1), (138, .getfield 28, 3), (141, .iconst 4, 1), (142, .invokevirtual 304, 3), (145, .ireturn, 1), (146, .aload_n 0, 1), (147, .getfield 42, 3), (150, .invokevirtual 199, 3), (153, .ireturn, 1), (154, .aload_n 0, 1), (155, .getfield 10, 3), (158, .invokevirtual 82, 3), (161, .invokevirtual 95, 3), (164, .ireturn, 1), (165, .iconst (-1), 1), (166, .ireturn, 1)]
set_option maxRecDepth 100000 in
theorem cd_d150 : ∀ q ∈ cd_t150, decode cX10_count q.1 = .ok q.2 := by decide +kernel
def cd_t151 : List (Nat × Instr × Nat) := [(0, .aload_n 0, 1), (1, .getfield 42, 3), (4, .aload_n 0, 1), (5, .getfield 35, 3), (8, .invokevirtual 307, 3), (11, .aload_n 0, 1), (12, .invokevirtual 122, 3), (15, .return_, 1)]
set_option maxRecDepth 100000 in
theorem cd_d151 : ∀ q ∈ cd_t151, decode cX10_beginAct q.1 = .ok q.2 := by decide +kernel
def cd_t152 : List (Nat × Instr × Nat) := [(0, .aload_n 0, 1), (1, .iconst 0, 1), (2, .putfield 78, 3), (5, .aload_n 0, 1), (6, .getfield 49, 3), (9, .invokevirtual 310, 3), (12, .return_, 1)]
set_option maxRecDepth 100000 in
theorem cd_d152 : ∀ q ∈ cd_t152, decode cX10_forgetPaths q.1 = .ok q.2 := by decide +kernel
def cd_t153 : List (Nat × Instr × Nat) := [(0, .aload_n 0, 1), (1, .getfield 78, 3), (4, .ifCond .eq 4, 3), (7, .return_, 1), (8, .aload_n 0, 1), (9, .getfield 49, 3), (12, .aload_n 0, 1), (13, .getfield 35, 3), (16, .aload_n 0, 1), (17, .getfield 28, 3), (20, .aload_n 0, 1), (21, .getfield 74, 3), (24, .invokevirtual 313, 3), (27, .aload_n 0, 1), (28, .getfield 56, 3), (31, .aload_n 0, 1), (32, .getfield 49, 3), (35, .aload_n 0, 1), (36, .getfield 35, 3), (39, .aload_n 0, 1), (40, .getfield 28, 3), (43, .invokevirtual 317, 3), (46, .aload_n 0, 1), (47, .getfield 63, 3), (50, .aload_n 0, 1), (51, .getfield 56, 3), (54, .aload_n 0, 1), (55, .getfield 35, 3), (58, .aload_n 0, 1), (59, .getfield 28, 3), (62, .invokevirtual 321, 3), (65, .aload_n 0, 1), (66, .iconst 1, 1), (67, .putfield 78, 3), (70, .return_, 1)]
set_option maxRecDepth 100000 in
theorem cd_d153 : ∀ q ∈ cd_t153, decode cX10_followPath q.1 = .ok q.2 := by decide +kernel
def cd_t154 : List (Nat × Instr × Nat) := [(0, .iconst 0, 1), (1, .istore_n 2, 1), (2, .iload_n 2, 1), (3, .bipush 20, 2), (5, .if_icmp .gt 16, 3), (8, .aload_n 0, 1), (9, .getfield 70, 3), (12, .iload_n 2, 1), (13, .iconst 0, 1), (14, .iastore, 1), (15, .iinc 2 1, 3), (18, .goto (-16), 3), (21, .iconst 0, 1), (22, .istore_n 2, 1), (23, .iload_n 2, 1), (24, .aload_n 1, 1), (25, .invokevirtual 125, 3), (28, .if_icmp .ge 91, 3), (31, .iconst 0, 1), (32, .istore_n 3, 1), (33, .iconst 1, 1), (34, .istore 4, 2), (36, .iload 4, 2), (38, .aload_n 0, 1), (39, .getfield 21, 3), (42, .invokevirtual 125, 3), (45, .if_icmp .gt 68, 3), (48, .aload_n 0, 1), (49, .getfield 70, 3), (52, .iload 4, 2), (54, .iaload, 1), (55, .istore 5, 2), (57, .aload_n 0, 1), (58, .getfield 21, 3), (61, .iload 4, 2), (63, .iconst 1, 1), (64, .isub, 1), (65, .aload_n 1, 1), (66, .iload_n 2, 1), (67, .invokevirtual 283, 3), (70, .istore 6, 2), (72, .aload_n 0, 1), (73, .getfield 70, 3), (76, .iload 4, 2), (78, .iload 6, 2), (80, .ifCond .eq 9, 3), (83, .iload_n 3, 1), (84, .iconst 1, 1), (85, .iadd, 1), (86, .goto 17, 3), (89, .iload 5, 2), (91, .aload_n 0, 1), (92, .getfield 70, 3), (95, .iload 4, 2), (97, .iconst 1, 1), (98, .isub, 1), (99, .iaload, 1), (100, .invokestatic 325, 3), (103, .iastore, 1), (104, .iload 5, 2), (106, .istore_n 3, 1), (107, .iinc 4 1, 3), (110, .goto (-74), 3), (113, .iinc 2 1, 3), (116, .goto (-93), 3), (119, .aload_n 0, 1), (120, .getfield 70, 3), (123, .aload_n 0, 1), (124, .getfield 21, 3), (127, .invokevirtual 125, 3), (130, .iaload, 1), (131, .ireturn, 1)]
set_option maxRecDepth 100000 in
theorem cd_d154 : ∀ q ∈ cd_t154, decode cX10_mostInOrder q.1 = .ok q.2 := by decide +kernel
def cd_t155 : List (Nat × Instr × Nat) := [(0, .aload_n 1, 1), (1, .iload_n 2, 1), (2, .invokevirtual 282, 3), (5, .ifCond .eq 19, 3), (8, .iload_n 3, 1), (9, .invokestatic 158, 3), (12, .ifCond .eq 12, 3), (15, .aload_n 0, 1), (16, .iload 4, 2), (18, .invokevirtual 189, 3), (21, .ifCond .ne 5, 3), (24, .iconst (-1), 1), (25, .ireturn, 1), (26, .aload_n 1, 1), (27, .iload_n 2, 1), (28, .iload_n 3, 1), (29, .invokevirtual 330, 3), (32, .iload 4, 2), (34, .invokestatic 333, 3), (37, .ireturn, 1)]
set_option maxRecDepth 100000 in
theorem cd_d155 : ∀ q ∈ cd_t155, decode cX10_sampleOfFrame q.1 = .ok q.2 := by decide +kernel
def cd_t156 : List (Nat × Instr × Nat) := [(0, .iload_n 1, 1), (1, .ifCond .lt 18, 3), (4, .iload_n 1, 1), (5, .aload_n 0, 1), (6, .getfield 21, 3), (9, .invokevirtual 179, 3), (12, .if_icmp .ge 7, 3), (15, .iconst 1, 1), (16, .goto 4, 3), (19, .iconst 0, 1), (20, .ireturn, 1)]
set_option maxRecDepth 100000 in
theorem cd_d156 : ∀ q ∈ cd_t156, decode cX10_isSampleNumber q.1 = .ok q.2 := by decide +kernel
def cd_t157 : List (Nat × Instr × Nat) := [(0, .iload_n 0, 1), (1, .ifCond .eq 8, 3), (4, .iload_n 0, 1), (5, .iconst 1, 1), (6, .if_icmp .ne 7, 3), (9, .iconst 1, 1), (10, .goto 4, 3), (13, .iconst 0, 1), (14, .ireturn, 1)]
set_option maxRecDepth 100000 in
theorem cd_d157 : ∀ q ∈ cd_t157, decode cX10_isParity q.1 = .ok q.2 := by decide +kernel
def cd_t158 : List (Nat × Instr × Nat) := [(0, .lload_n 0, 1), (1, .bipush 7, 2), (3, .iload_n 2, 1), (4, .imul, 1), (5, .lushr, 1), (6, .ldc2_w 337, 3), (9, .land, 1), (10, .l2i, 1), (11, .ireturn, 1)]
set_option maxRecDepth 100000 in
theorem cd_d158 : ∀ q ∈ cd_t158, decode cX10_sampleOf q.1 = .ok q.2 := by decide +kernel
def cd_t159 : List (Nat × Instr × Nat) := [(0, .bipush 7, 2), (2, .iload_n 2, 1), (3, .imul, 1), (4, .istore 4, 2), (6, .lload_n 0, 1), (7, .ldc2_w 337, 3), (10, .iload 4, 2), (12, .lshl, 1), (13, .ldc2_w 339, 3), (16, .lxor, 1), (17, .land, 1), (18, .iload_n 3, 1), (19, .i2l, 1), (20, .iload 4, 2), (22, .lshl, 1), (23, .lor, 1), (24, .lreturn, 1)]
set_option maxRecDepth 100000 in
theorem cd_d159 : ∀ q ∈ cd_t159, decode cX10_withSample q.1 = .ok q.2 := by decide +kernel
def cd_t160 : List (Nat × Instr × Nat) := [(0, .aload_n 0, 1), (1, .getfield 95, 3), (4, .ireturn, 1)]
set_option maxRecDepth 100000 in
theorem cd_d160 : ∀ q ∈ cd_t160, decode cX11_thrown q.1 = .ok q.2 := by decide +kernel
def cd_t161 : List (Nat × Instr × Nat) := [(0, .lload_n 0, 1), (1, .lload_n 2, 1), (2, .lcmp, 1), (3, .ifCond .lt 14, 3), (6, .lload_n 0, 1), (7, .lload 4, 2), (9, .lcmp, 1), (10, .ifCond .gt 7, 3), (13, .iconst 1, 1), (14, .goto 4, 3), (17, .iconst 0, 1), (18, .ireturn, 1)]
set_option maxRecDepth 100000 in
theorem cd_d161 : ∀ q ∈ cd_t161, decode cX11_within q.1 = .ok q.2 := by decide +kernel
def cd_t162 : List (Nat × Instr × Nat) := [(0, .bipush 24, 2), (2, .istore_n 2, 1), (3, .iload_n 2, 1), (4, .ifCond .lt 32, 3), (7, .aload_n 0, 1), (8, .getfield 7, 3), (11, .aload_n 0, 1), (12, .getfield 98, 3), (15, .iload_n 1, 1), (16, .iload_n 2, 1), (17, .ishr, 1), (18, .i2b, 1), (19, .bastore, 1), (20, .aload_n 0, 1), (21, .dup, 1), (22, .getfield 98, 3), (25, .iconst 1, 1), (26, .iadd, 1), (27, .putfield 98, 3), (30, .iinc 2 (-8), 3), (33, .goto (-30), 3), (36, .return_, 1)]
set_option maxRecDepth 100000 in
theorem cd_d162 : ∀ q ∈ cd_t162, decode cX11_puts q.1 = .ok q.2 := by decide +kernel
def cd_t163 : List (Nat × Instr × Nat) := [(0, .aload_n 0, 1), (1, .iconst 0, 1), (2, .putfield 95, 3), (5, .aload_n 0, 1), (6, .getfield 98, 3), (9, .bipush 20, 2), (11, .iadd, 1), (12, .sipush 900, 3), (15, .if_icmp .le 5, 3), (18, .iconst (-1), 1), (19, .ireturn, 1), (20, .aload_n 0, 1), (21, .iload_n 1, 1), (22, .invokevirtual 101, 3), (25, .aload_n 0, 1), (26, .iload_n 2, 1), (27, .invokevirtual 101, 3), (30, .aload_n 0, 1), (31, .iload_n 3, 1), (32, .invokevirtual 101, 3), (35, .aload_n 0, 1), (36, .iload 4, 2), (38, .invokevirtual 101, 3), (41, .aload_n 0, 1), (42, .iload 5, 2), (44, .invokevirtual 101, 3), (47, .aload_n 0, 1), (48, .getfield 98, 3), (51, .ireturn, 1)]
set_option maxRecDepth 100000 in
theorem cd_d163 : ∀ q ∈ cd_t163, decode cX11_feed q.1 = .ok q.2 := by decide +kernel
def cd_t164 : List (Nat × Instr × Nat) := [(0, .iload_n 1, 1), (1, .aload_n 0, 1), (2, .getfield 104, 3), (5, .if_icmp .ge 16, 3), (8, .aload_n 0, 1), (9, .getfield 7, 3), (12, .iload_n 1, 1), (13, .baload, 1), (14, .sipush 255, 3), (17, .iand, 1), (18, .goto 4, 3), (21, .iconst (-1), 1), (22, .ireturn, 1)]
set_option maxRecDepth 100000 in
theorem cd_d164 : ∀ q ∈ cd_t164, decode cX11_see q.1 = .ok q.2 := by decide +kernel
def cd_t165 : List (Nat × Instr × Nat) := [(0, .aload_n 0, 1), (1, .aload_n 0, 1), (2, .getfield 107, 3), (5, .putfield 110, 3), (8, .aload_n 0, 1), (9, .aload_n 0, 1), (10, .getfield 110, 3), (13, .invokevirtual 113, 3), (16, .bipush 32, 2), (18, .if_icmp .eq 16, 3), (21, .aload_n 0, 1), (22, .aload_n 0, 1), (23, .getfield 110, 3), (26, .invokevirtual 113, 3), (29, .bipush 10, 2), (31, .if_icmp .ne 16, 3), (34, .aload_n 0, 1), (35, .dup, 1), (36, .getfield 110, 3), (39, .iconst 1, 1), (40, .iadd, 1), (41, .putfield 110, 3), (44, .goto (-36), 3), (47, .aload_n 0, 1), (48, .aload_n 0, 1), (49, .getfield 110, 3), (52, .invokevirtual 113, 3), (55, .istore_n 1, 1), (56, .aload_n 0, 1), (57, .aload_n 0, 1), (58, .getfield 110, 3), (61, .iconst 1, 1), (62, .iadd, 1), (63, .putfield 107, 3), (66, .aload_n 0, 1), (67, .iconst 4, 1), (68, .putfield 117, 3), (71, .aload_n 0, 1), (72, .iconst 0, 1), (73, .putfield 120, 3), (76, .iload_n 1, 1), (77, .iconst (-1), 1), (78, .if_icmp .ne 19, 3), (81, .aload_n 0, 1), (82, .aload_n 0, 1), (83, .getfield 110, 3), (86, .putfield 107, 3), (89, .aload_n 0, 1), (90, .iconst 0, 1), (91, .putfield 117, 3), (94, .goto 194, 3), (97, .iload_n 1, 1), (98, .bipush 59, 2), (100, .if_icmp .ne 11, 3), (103, .aload_n 0, 1), (104, .iconst 3, 1), (105, .putfield 117, 3), (108, .goto 180, 3), (111, .iload_n 1, 1), (112, .i2l, 1), (113, .ldc2_w 123, 3), (116, .ldc2_w 125, 3), (119, .invokestatic 127, 3), (122, .ifCond .eq 45, 3), (125, .aload_n 0, 1), (126, .aload_n 0, 1), (127, .getfield 107, 3), (130, .invokevirtual 113, 3), (133, .i2l, 1), (134, .ldc2_w 123, 3), (137, .ldc2_w 125, 3), (140, .invokestatic 127, 3), (143, .ifCond .eq 16, 3), (146, .aload_n 0, 1), (147, .dup, 1), (148, .getfield 107, 3), (151, .iconst 1, 1), (152, .iadd, 1), (153, .putfield 107, 3), (156, .goto (-31), 3), (159, .aload_n 0, 1), (160, .iconst 1, 1), (161, .putfield 117, 3), (164, .goto 124, 3), (167, .iload_n 1, 1), (168, .i2l, 1), (169, .ldc2_w 131, 3), (172, .ldc2_w 133, 3), (175, .invokestatic 127, 3), (178, .ifCond .eq 110, 3), (181, .aload_n 0, 1), (182, .aload_n 0, 1), (183, .getfield 110, 3), (186, .putfield 107, 3), (189, .aload_n 0, 1), (190, .aload_n 0, 1), (191, .getfield 107, 3), (194, .invokevirtual 113, 3), (197, .i2l, 1), (198, .ldc2_w 131, 3), (201, .ldc2_w 133, 3), (204, .invokestatic 127, 3), (207, .ifCond .eq 59, 3), (210, .aload_n 0, 1), (211, .aload_n 0, 1), (212, .getfield 107, 3), (215, .aload_n 0, 1), (216, .getfield 110, 3), (219, .isub, 1), (220, .iconst 4, 1), (221, .if_icmp .ge 25, 3), (224, .bipush 10, 2), (226, .aload_n 0, 1), (227, .getfield 120, 3), (230, .imul, 1), (231, .aload_n 0, 1), (232, .aload_n 0, 1), (233, .getfield 107, 3), (236, .invokevirtual 113, 3), (239, .iadd, 1), (240, .bipush 48, 2), (242, .isub, 1), (243, .goto 7, 3), (246, .aload_n 0, 1), (247, .getfield 120, 3), (250, .putfield 120, 3), (253, .aload_n 0, 1), (254, .dup, 1), (255, .getfield 107, 3), (258, .iconst 1, 1), (259, .iadd, 1), (260, .putfield 107, 3), (263, .goto (-74), 3), (266, .aload_n 0, 1), (267, .aload_n 0, 1), (268, .getfield 107, 3), (271, .aload_n 0, 1), (272, .getfield 110, 3), (275, .isub, 1), (276, .iconst 5, 1), (277, .if_icmp .ge 7, 3), (280, .iconst 2, 1), (281, .goto 4, 3), (284, .iconst 4, 1), (285, .putfield 117, 3), (288, .return_, 1)]
set_option maxRecDepth 100000 in
theorem cd_d165 : ∀ q ∈ cd_t165, decode cX11_steps q.1 = .ok q.2 := by decide +kernel
def cd_t166 : List (Nat × Instr × Nat) := [(0, .aload_n 0, 1), (1, .getfield 135, 3), (4, .ifCond .ne 20, 3), (7, .iload_n 1, 1), (8, .ifCond .ne 16, 3), (11, .aload_n 0, 1), (12, .iload_n 2, 1), (13, .putfield 135, 3), (16, .aload_n 0, 1), (17, .aload_n 0, 1), (18, .getfield 110, 3), (21, .putfield 138, 3), (24, .aload_n 0, 1), (25, .getfield 135, 3), (28, .ifCond .ne 7, 3), (31, .iconst 1, 1), (32, .goto 4, 3), (35, .iconst 0, 1), (36, .ireturn, 1)]
set_option maxRecDepth 100000 in
theorem cd_d166 : ∀ q ∈ cd_t166, decode cX11_must q.1 = .ok q.2 := by decide +kernel
def cd_t167 : List (Nat × Instr × Nat) := [(0, .aload_n 0, 1), (1, .getfield 117, 3), (4, .iconst 1, 1), (5, .if_icmp .eq 5, 3), (8, .iconst 0, 1), (9, .ireturn, 1), (10, .iload 4, 2), (12, .ifCond .ne 7, 3), (15, .iconst 3, 1), (16, .goto 33, 3), (19, .iload 5, 2), (21, .ifCond .ne 7, 3), (24, .iconst 4, 1), (25, .goto 24, 3), (28, .iload 6, 2), (30, .ifCond .ne 7, 3), (33, .iconst 5, 1), (34, .goto 15, 3), (37, .iload 7, 2), (39, .ifCond .ne 8, 3), (42, .bipush 6, 2), (44, .goto 5, 3), (47, .bipush 7, 2), (49, .istore 8, 2), (51, .aload_n 0, 1), (52, .getfield 107, 3), (55, .aload_n 0, 1), (56, .getfield 110, 3), (59, .isub, 1), (60, .iload 8, 2), (62, .if_icmp .eq 5, 3), (65, .iconst 0, 1), (66, .ireturn, 1), (67, .aload_n 0, 1), (68, .aload_n 0, 1), (69, .getfield 110, 3), (72, .invokevirtual 113, 3), (75, .iload_n 1, 1), (76, .if_icmp .ne 122, 3), (79, .aload_n 0, 1), (80, .aload_n 0, 1), (81, .getfield 110, 3), (84, .iconst 1, 1), (85, .iadd, 1), (86, .invokevirtual 113, 3), (89, .iload_n 2, 1), (90, .if_icmp .ne 108, 3), (93, .aload_n 0, 1), (94, .aload_n 0, 1), (95, .getfield 110, 3), (98, .iconst 2, 1), (99, .iadd, 1), (100, .invokevirtual 113, 3), (103, .iload_n 3, 1), (104, .if_icmp .ne 94, 3), (107, .iload 8, 2), (109, .iconst 4, 1), (110, .if_icmp .lt 18, 3), (113, .aload_n 0, 1), (114, .aload_n 0, 1), (115, .getfield 110, 3), (118, .iconst 3, 1), (119, .iadd, 1), (120, .invokevirtual 113, 3), (123, .iload 4, 2), (125, .if_icmp .ne 73, 3), (128, .iload 8, 2), (130, .iconst 5, 1), (131, .if_icmp .lt 18, 3), (134, .aload_n 0, 1), (135, .aload_n 0, 1), (136, .getfield 110, 3), (139, .iconst 4, 1), (140, .iadd, 1), (141, .invokevirtual 113, 3), (144, .iload 5, 2), (146, .if_icmp .ne 52, 3), (149, .iload 8, 2), (151, .bipush 6, 2), (153, .if_icmp .lt 18, 3), (156, .aload_n 0, 1), (157, .aload_n 0, 1), (158, .getfield 110, 3), (161, .iconst 5, 1), (162, .iadd, 1), (163, .invokevirtual 113, 3), (166, .iload 6, 2), (168, .if_icmp .ne 30, 3), (171, .iload 8, 2), (173, .bipush 7, 2), (175, .if_icmp .lt 19, 3), (178, .aload_n 0, 1), (179, .aload_n 0, 1), (180, .getfield 110, 3), (183, .bipush 6, 2), (185, .iadd, 1), (186, .invokevirtual 113, 3), (189, .iload 7, 2), (191, .if_icmp .ne 7, 3), (194, .iconst 1, 1), (195, .goto 4, 3), (198, .iconst 0, 1), (199, .ireturn, 1)]
set_option maxRecDepth 100000 in
theorem cd_d167 : ∀ q ∈ cd_t167, decode cX11_isWord q.1 = .ok q.2 := by decide +kernel
def cd_t168 : List (Nat × Instr × Nat) := [(0, .aload_n 0, 1), (1, .bipush 102, 2), (3, .bipush 114, 2), (5, .bipush 97, 2), (7, .bipush 109, 2), (9, .bipush 101, 2), (11, .iconst 0, 1), (12, .iconst 0, 1), (13, .invokevirtual 141, 3), (16, .ireturn, 1)]
set_option maxRecDepth 100000 in
theorem cd_d168 : ∀ q ∈ cd_t168, decode cX11_isFrame q.1 = .ok q.2 := by decide +kernel
def cd_t169 : List (Nat × Instr × Nat) := [(0, .aload_n 0, 1), (1, .aload_n 0, 1), (2, .getfield 117, 3), (5, .iconst 3, 1), (6, .if_icmp .ne 7, 3), (9, .iconst 1, 1), (10, .goto 4, 3), (13, .iconst 0, 1), (14, .iconst 1, 1), (15, .invokevirtual 145, 3), (18, .ifCond .ne 5, 3), (21, .iconst 0, 1), (22, .ireturn, 1), (23, .aload_n 0, 1), (24, .invokevirtual 149, 3), (27, .iconst 1, 1), (28, .ireturn, 1)]
set_option maxRecDepth 100000 in
theorem cd_d169 : ∀ q ∈ cd_t169, decode cX11_takesEnd q.1 = .ok q.2 := by decide +kernel
def cd_t170 : List (Nat × Instr × Nat) := [(0, .aload_n 0, 1), (1, .aload_n 0, 1), (2, .getfield 117, 3), (5, .iconst 2, 1), (6, .if_icmp .ne 7, 3), (9, .iconst 1, 1), (10, .goto 4, 3), (13, .iconst 0, 1), (14, .iconst 1, 1), (15, .invokevirtual 145, 3), (18, .ifCond .eq 23, 3), (21, .aload_n 0, 1), (22, .aload_n 0, 1), (23, .getfield 120, 3), (26, .i2l, 1), (27, .iload_n 1, 1), (28, .i2l, 1), (29, .iload_n 2, 1), (30, .i2l, 1), (31, .invokestatic 127, 3), (34, .iconst 2, 1), (35, .invokevirtual 145, 3), (38, .ifCond .ne 5, 3), (41, .iconst 0, 1), (42, .ireturn, 1), (43, .aload_n 0, 1), (44, .aload_n 0, 1), (45, .getfield 120, 3), (48, .putfield 152, 3), (51, .aload_n 0, 1), (52, .invokevirtual 149, 3), (55, .iconst 1, 1), (56, .ireturn, 1)]
set_option maxRecDepth 100000 in
theorem cd_d170 : ∀ q ∈ cd_t170, decode cX11_takesNumber q.1 = .ok q.2 := by decide +kernel
def cd_t171 : List (Nat × Instr × Nat) := [(0, .aload_n 0, 1), (1, .iconst 0, 1), (2, .putfield 98, 3), (5, .aload_n 0, 1), (6, .iload_n 1, 1), (7, .putfield 104, 3), (10, .aload_n 0, 1), (11, .iconst 0, 1), (12, .putfield 107, 3), (15, .aload_n 0, 1), (16, .iconst 0, 1), (17, .putfield 135, 3), (20, .aload_n 0, 1), (21, .invokevirtual 149, 3), (24, .return_, 1)]
set_option maxRecDepth 100000 in
theorem cd_d171 : ∀ q ∈ cd_t171, decode cX11_begins q.1 = .ok q.2 := by decide +kernel
def cd_t172 : List (Nat × Instr × Nat) := [(0, .bipush (-2), 2), (2, .bipush 8, 2), (4, .aload_n 0, 1), (5, .getfield 138, 3), (8, .imul, 1), (9, .aload_n 0, 1), (10, .getfield 135, 3), (13, .iadd, 1), (14, .isub, 1), (15, .ireturn, 1)]
set_option maxRecDepth 100000 in
theorem cd_d172 : ∀ q ∈ cd_t172, decode cX11_told q.1 = .ok q.2 := by decide +kernel
def cd_t173 : List (Nat × Instr × Nat) := [(0, .bipush 6, 2), (2, .iconst 2, 1), (3, .iload_n 0, 1), (4, .imul, 1), (5, .iload_n 1, 1), (6, .iadd, 1), (7, .imul, 1), (8, .iload_n 2, 1), (9, .iadd, 1), (10, .ireturn, 1)]
set_option maxRecDepth 100000 in
theorem cd_d173 : ∀ q ∈ cd_t173, decode cX11_filmAt q.1 = .ok q.2 := by decide +kernel
def cd_t174 : List (Nat × Instr × Nat) := [(0, .aload_n 0, 1), (1, .aload_n 0, 1), (2, .invokevirtual 155, 3), (5, .iconst 1, 1), (6, .invokevirtual 145, 3), (9, .ifCond .eq 25, 3), (12, .aload_n 0, 1), (13, .aload_n 0, 1), (14, .getfield 159, 3), (17, .bipush 20, 2), (19, .if_icmp .ge 7, 3), (22, .iconst 1, 1), (23, .goto 4, 3), (26, .iconst 0, 1), (27, .iconst 4, 1), (28, .invokevirtual 145, 3), (31, .ifCond .ne 5, 3), (34, .iconst 0, 1), (35, .ireturn, 1), (36, .aload_n 0, 1), (37, .invokevirtual 149, 3), (40, .iconst 0, 1), (41, .istore_n 1, 1), (42, .iload_n 1, 1), (43, .iconst 2, 1), (44, .aload_n 0, 1), (45, .getfield 162, 3), (48, .imul, 1), (49, .if_icmp .ge 49, 3), (52, .aload_n 0, 1), (53, .iconst 0, 1), (54, .bipush 99, 2), (56, .invokevirtual 165, 3), (59, .ifCond .ne 5, 3), (62, .iconst 0, 1), (63, .ireturn, 1), (64, .aload_n 0, 1), (65, .getfield 17, 3), (68, .aload_n 0, 1), (69, .getfield 159, 3), (72, .iload_n 1, 1), (73, .aload_n 0, 1), (74, .getfield 162, 3), (77, .idiv, 1), (78, .iload_n 1, 1), (79, .aload_n 0, 1), (80, .getfield 162, 3), (83, .irem, 1), (84, .invokestatic 169, 3), (87, .aload_n 0, 1), (88, .getfield 152, 3), (91, .iastore, 1), (92, .iinc 1 1, 3), (95, .goto (-53), 3), (98, .aload_n 0, 1), (99, .dup, 1), (100, .getfield 159, 3), (103, .iconst 1, 1), (104, .iadd, 1), (105, .putfield 159, 3), (108, .aload_n 0, 1), (109, .invokevirtual 173, 3), (112, .ireturn, 1)]
set_option maxRecDepth 100000 in
theorem cd_d174 : ∀ q ∈ cd_t174, decode cX11_frameHere q.1 = .ok q.2 := by decide +kernel
end
section
def cd_t175 : List (Nat × Instr × Nat) := [(0, .aload_n 0, 1), (1, .aload_n 0, 1), (2, .bipush 119, 2), (4, .bipush 105, 2), (6, .bipush 100, 2), (8, .bipush 116, 2), (10, .bipush 104, 2), (12, .iconst 0, 1), (13, .iconst 0, 1), (14, .invokevirtual 141, 3), (17, .iconst 1, 1), (18, .invokevirtual 145, 3), (21, .ifCond .ne 5, 3), (24, .iconst 0, 1), (25, .ireturn, 1), (26, .aload_n 0, 1), (27, .invokevirtual 149, 3), (30, .aload_n 0, 1), (31, .iconst 1, 1), (32, .bipush 6, 2), (34, .invokevirtual 165, 3), (37, .ifCond .ne 5, 3), (40, .iconst 0, 1), (41, .ireturn, 1), (42, .aload_n 0, 1), (43, .aload_n 0, 1), (44, .getfield 152, 3), (47, .putfield 162, 3), (50, .aload_n 0, 1), (51, .invokevirtual 173, 3), (54, .ifCond .eq 10, 3), (57, .aload_n 0, 1), (58, .invokevirtual 176, 3), (61, .ifCond .ne 5, 3), (64, .iconst 0, 1), (65, .ireturn, 1), (66, .aload_n 0, 1), (67, .getfield 117, 3), (70, .ifCond .eq 12, 3), (73, .aload_n 0, 1), (74, .invokevirtual 176, 3), (77, .ifCond .ne (-11), 3), (80, .iconst 0, 1), (81, .ireturn, 1), (82, .iconst 1, 1), (83, .ireturn, 1)]
set_option maxRecDepth 100000 in
theorem cd_d175 : ∀ q ∈ cd_t175, decode cX11_readsFilm q.1 = .ok q.2 := by decide +kernel
def cd_t176 : List (Nat × Instr × Nat) := [(0, .aload_n 0, 1), (1, .iconst 0, 1), (2, .putfield 95, 3), (5, .iload_n 1, 1), (6, .i2l, 1), (7, .lconst 0, 1), (8, .aload_n 0, 1), (9, .getfield 98, 3), (12, .i2l, 1), (13, .invokestatic 127, 3), (16, .ifCond .ne 5, 3), (19, .iconst (-1), 1), (20, .ireturn, 1), (21, .aload_n 0, 1), (22, .iload_n 1, 1), (23, .invokevirtual 179, 3), (26, .aload_n 0, 1), (27, .iconst 0, 1), (28, .putfield 159, 3), (31, .aload_n 0, 1), (32, .invokevirtual 182, 3), (35, .ifCond .ne 8, 3), (38, .aload_n 0, 1), (39, .invokevirtual 185, 3), (42, .ireturn, 1), (43, .aload_n 0, 1), (44, .aload_n 0, 1), (45, .getfield 162, 3), (48, .putfield 189, 3), (51, .aload_n 0, 1), (52, .aload_n 0, 1), (53, .getfield 159, 3), (56, .putfield 192, 3), (59, .iconst 0, 1), (60, .istore_n 2, 1), (61, .iload_n 2, 1), (62, .sipush 240, 3), (65, .if_icmp .ge 21, 3), (68, .aload_n 0, 1), (69, .getfield 13, 3), (72, .iload_n 2, 1), (73, .aload_n 0, 1), (74, .getfield 17, 3), (77, .iload_n 2, 1), (78, .iaload, 1), (79, .iastore, 1), (80, .iinc 2 1, 3), (83, .goto (-22), 3), (86, .aload_n 0, 1), (87, .iconst 0, 1), (88, .putfield 195, 3), (91, .aload_n 0, 1), (92, .iconst 0, 1), (93, .putfield 198, 3), (96, .aload_n 0, 1), (97, .getfield 192, 3), (100, .ireturn, 1)]
set_option maxRecDepth 100000 in
theorem cd_d176 : ∀ q ∈ cd_t176, decode cX11_film q.1 = .ok q.2 := by decide +kernel
def cd_t177 : List (Nat × Instr × Nat) := [(0, .aload_n 0, 1), (1, .getfield 26, 3), (4, .iconst 5, 1), (5, .iload_n 1, 1), (6, .imul, 1), (7, .iconst 0, 1), (8, .iadd, 1), (9, .iconst 0, 1), (10, .iastore, 1), (11, .aload_n 0, 1), (12, .getfield 26, 3), (15, .iconst 5, 1), (16, .iload_n 1, 1), (17, .imul, 1), (18, .iconst 1, 1), (19, .iadd, 1), (20, .bipush 40, 2), (22, .iastore, 1), (23, .aload_n 0, 1), (24, .getfield 26, 3), (27, .iconst 5, 1), (28, .iload_n 1, 1), (29, .imul, 1), (30, .iconst 2, 1), (31, .iadd, 1), (32, .bipush 10, 2), (34, .iastore, 1), (35, .aload_n 0, 1), (36, .getfield 26, 3), (39, .iconst 5, 1), (40, .iload_n 1, 1), (41, .imul, 1), (42, .iconst 3, 1), (43, .iadd, 1), (44, .iconst 0, 1), (45, .iastore, 1), (46, .aload_n 0, 1), (47, .getfield 26, 3), (50, .iconst 5, 1), (51, .iload_n 1, 1), (52, .imul, 1), (53, .iconst 4, 1), (54, .iadd, 1), (55, .iconst 0, 1), (56, .iastore, 1), (57, .return_, 1)]
set_option maxRecDepth 100000 in
theorem cd_d177 : ∀ q ∈ cd_t177, decode cX11_asAtFirst q.1 = .ok q.2 := by decide +kernel
def cd_t178 : List (Nat × Instr × Nat) := [(0, .aload_n 0, 1), (1, .aload_n 0, 1), (2, .getfield 201, 3), (5, .iconst 4, 1), (6, .if_icmp .ge 7, 3), (9, .iconst 1, 1), (10, .goto 4, 3), (13, .iconst 0, 1), (14, .iconst 4, 1), (15, .invokevirtual 145, 3), (18, .ifCond .ne 5, 3), (21, .iconst 0, 1), (22, .ireturn, 1), (23, .iconst 4, 1), (24, .aload_n 0, 1), (25, .getfield 201, 3), (28, .iadd, 1), (29, .istore_n 1, 1), (30, .aload_n 0, 1), (31, .getfield 20, 3), (34, .iload_n 1, 1), (35, .iconst 0, 1), (36, .iastore, 1), (37, .aload_n 0, 1), (38, .invokevirtual 149, 3), (41, .aload_n 0, 1), (42, .iconst 2, 1), (43, .iconst 5, 1), (44, .invokevirtual 165, 3), (47, .ifCond .ne 5, 3), (50, .iconst 0, 1), (51, .ireturn, 1), (52, .aload_n 0, 1), (53, .getfield 23, 3), (56, .bipush 6, 2), (58, .iload_n 1, 1), (59, .imul, 1), (60, .aload_n 0, 1), (61, .getfield 152, 3), (64, .iastore, 1), (65, .aload_n 0, 1), (66, .getfield 20, 3), (69, .iload_n 1, 1), (70, .iconst 1, 1), (71, .iastore, 1), (72, .aload_n 0, 1), (73, .getfield 117, 3), (76, .iconst 3, 1), (77, .if_icmp .eq 109, 3), (80, .aload_n 0, 1), (81, .aload_n 0, 1), (82, .getfield 117, 3), (85, .iconst 2, 1), (86, .if_icmp .ne 7, 3), (89, .iconst 1, 1), (90, .goto 4, 3), (93, .iconst 0, 1), (94, .iconst 1, 1), (95, .invokevirtual 145, 3), (98, .ifCond .eq 49, 3), (101, .aload_n 0, 1), (102, .aload_n 0, 1), (103, .getfield 120, 3), (106, .i2l, 1), (107, .ldc2_w 204, 3), (110, .ldc2_w 206, 3), (113, .invokestatic 127, 3), (116, .iconst 2, 1), (117, .invokevirtual 145, 3), (120, .ifCond .eq 27, 3), (123, .aload_n 0, 1), (124, .aload_n 0, 1), (125, .getfield 20, 3), (128, .iload_n 1, 1), (129, .iaload, 1), (130, .bipush 6, 2), (132, .if_icmp .ge 7, 3), (135, .iconst 1, 1), (136, .goto 4, 3), (139, .iconst 0, 1), (140, .iconst 4, 1), (141, .invokevirtual 145, 3), (144, .ifCond .ne 5, 3), (147, .iconst 0, 1), (148, .ireturn, 1), (149, .aload_n 0, 1), (150, .getfield 23, 3), (153, .bipush 6, 2), (155, .iload_n 1, 1), (156, .imul, 1), (157, .aload_n 0, 1), (158, .getfield 20, 3), (161, .iload_n 1, 1), (162, .iaload, 1), (163, .iadd, 1), (164, .aload_n 0, 1), (165, .getfield 120, 3), (168, .iastore, 1), (169, .aload_n 0, 1), (170, .getfield 20, 3), (173, .iload_n 1, 1), (174, .dup2, 1), (175, .iaload, 1), (176, .iconst 1, 1), (177, .iadd, 1), (178, .iastore, 1), (179, .aload_n 0, 1), (180, .invokevirtual 149, 3), (183, .goto (-111), 3), (186, .aload_n 0, 1), (187, .dup, 1), (188, .getfield 201, 3), (191, .iconst 1, 1), (192, .iadd, 1), (193, .putfield 201, 3), (196, .iconst 1, 1), (197, .ireturn, 1)]
set_option maxRecDepth 100000 in
theorem cd_d178 : ∀ q ∈ cd_t178, decode cX11_cadenceHere q.1 = .ok q.2 := by decide +kernel
def cd_t179 : List (Nat × Instr × Nat) := [(0, .aload_n 0, 1), (1, .bipush 115, 2), (3, .bipush 117, 2), (5, .bipush 109, 2), (7, .iconst 0, 1), (8, .iconst 0, 1), (9, .iconst 0, 1), (10, .iconst 0, 1), (11, .invokevirtual 141, 3), (14, .ifCond .eq 7, 3), (17, .iconst 0, 1), (18, .goto 48, 3), (21, .aload_n 0, 1), (22, .bipush 109, 2), (24, .bipush 111, 2), (26, .bipush 115, 2), (28, .bipush 116, 2), (30, .iconst 0, 1), (31, .iconst 0, 1), (32, .iconst 0, 1), (33, .invokevirtual 141, 3), (36, .ifCond .eq 7, 3), (39, .iconst 1, 1), (40, .goto 26, 3), (43, .aload_n 0, 1), (44, .bipush 109, 2), (46, .bipush 97, 2), (48, .bipush 110, 2), (50, .bipush 121, 2), (52, .iconst 0, 1), (53, .iconst 0, 1), (54, .iconst 0, 1), (55, .invokevirtual 141, 3), (58, .ifCond .eq 7, 3), (61, .iconst 2, 1), (62, .goto 4, 3), (65, .iconst (-1), 1), (66, .ireturn, 1)]
set_option maxRecDepth 100000 in
theorem cd_d179 : ∀ q ∈ cd_t179, decode cX11_measureHere q.1 = .ok q.2 := by decide +kernel
def cd_t180 : List (Nat × Instr × Nat) := [(0, .aload_n 0, 1), (1, .bipush 115, 2), (3, .bipush 108, 2), (5, .bipush 97, 2), (7, .bipush 99, 2), (9, .bipush 107, 2), (11, .iconst 0, 1), (12, .iconst 0, 1), (13, .invokevirtual 141, 3), (16, .ifCond .eq 7, 3), (19, .iconst 0, 1), (20, .goto 96, 3), (23, .aload_n 0, 1), (24, .bipush 101, 2), (26, .bipush 100, 2), (28, .bipush 105, 2), (30, .bipush 116, 2), (32, .iconst 0, 1), (33, .iconst 0, 1), (34, .iconst 0, 1), (35, .invokevirtual 141, 3), (38, .ifCond .eq 7, 3), (41, .iconst 1, 1), (42, .goto 74, 3), (45, .aload_n 0, 1), (46, .bipush 115, 2), (48, .bipush 116, 2), (50, .bipush 105, 2), (52, .bipush 108, 2), (54, .bipush 108, 2), (56, .iconst 0, 1), (57, .iconst 0, 1), (58, .invokevirtual 141, 3), (61, .ifCond .eq 7, 3), (64, .iconst 2, 1), (65, .goto 51, 3), (68, .aload_n 0, 1), (69, .bipush 109, 2), (71, .bipush 97, 2), (73, .bipush 116, 2), (75, .bipush 101, 2), (77, .iconst 0, 1), (78, .iconst 0, 1), (79, .iconst 0, 1), (80, .invokevirtual 141, 3), (83, .ifCond .eq 7, 3), (86, .iconst 3, 1), (87, .goto 29, 3), (90, .aload_n 0, 1), (91, .bipush 109, 2), (93, .bipush 101, 2), (95, .bipush 97, 2), (97, .bipush 115, 2), (99, .bipush 117, 2), (101, .bipush 114, 2), (103, .bipush 101, 2), (105, .invokevirtual 141, 3), (108, .ifCond .eq 7, 3), (111, .iconst 4, 1), (112, .goto 4, 3), (115, .iconst (-1), 1), (116, .ireturn, 1)]
set_option maxRecDepth 100000 in
theorem cd_d180 : ∀ q ∈ cd_t180, decode cX11_ruleHere q.1 = .ok q.2 := by decide +kernel
def cd_t181 : List (Nat × Instr × Nat) := [(0, .aload_n 0, 1), (1, .iload_n 1, 1), (2, .ifCond .lt 7, 3), (5, .iconst 1, 1), (6, .goto 4, 3), (9, .iconst 0, 1), (10, .iconst 1, 1), (11, .invokevirtual 145, 3), (14, .ifCond .eq 25, 3), (17, .aload_n 0, 1), (18, .aload_n 0, 1), (19, .getfield 29, 3), (22, .iload_n 1, 1), (23, .baload, 1), (24, .ifCond .ne 7, 3), (27, .iconst 1, 1), (28, .goto 4, 3), (31, .iconst 0, 1), (32, .iconst 3, 1), (33, .invokevirtual 145, 3), (36, .ifCond .ne 5, 3), (39, .iconst 0, 1), (40, .ireturn, 1), (41, .aload_n 0, 1), (42, .getfield 29, 3), (45, .iload_n 1, 1), (46, .iconst 1, 1), (47, .bastore, 1), (48, .aload_n 0, 1), (49, .invokevirtual 149, 3), (52, .iload_n 1, 1), (53, .iconst 4, 1), (54, .if_icmp .eq 30, 3), (57, .aload_n 0, 1), (58, .iconst 0, 1), (59, .sipush 999, 3), (62, .invokevirtual 165, 3), (65, .ifCond .ne 5, 3), (68, .iconst 0, 1), (69, .ireturn, 1), (70, .aload_n 0, 1), (71, .getfield 26, 3), (74, .iconst 5, 1), (75, .iload_n 1, 1), (76, .iadd, 1), (77, .aload_n 0, 1), (78, .getfield 152, 3), (81, .iastore, 1), (82, .iconst 1, 1), (83, .ireturn, 1), (84, .aload_n 0, 1), (85, .invokevirtual 208, 3), (88, .istore_n 2, 1), (89, .aload_n 0, 1), (90, .iload_n 2, 1), (91, .ifCond .lt 7, 3), (94, .iconst 1, 1), (95, .goto 4, 3), (98, .iconst 0, 1), (99, .iconst 1, 1), (100, .invokevirtual 145, 3), (103, .ifCond .ne 5, 3), (106, .iconst 0, 1), (107, .ireturn, 1), (108, .aload_n 0, 1), (109, .getfield 26, 3), (112, .bipush 9, 2), (114, .iload_n 2, 1), (115, .iastore, 1), (116, .aload_n 0, 1), (117, .invokevirtual 149, 3), (120, .iconst 1, 1), (121, .ireturn, 1)]
set_option maxRecDepth 100000 in
theorem cd_d181 : ∀ q ∈ cd_t181, decode cX11_oneRule q.1 = .ok q.2 := by decide +kernel
def cd_t182 : List (Nat × Instr × Nat) := [(0, .aload_n 0, 1), (1, .bipush 99, 2), (3, .bipush 97, 2), (5, .bipush 100, 2), (7, .bipush 101, 2), (9, .bipush 110, 2), (11, .bipush 99, 2), (13, .bipush 101, 2), (15, .invokevirtual 141, 3), (18, .ifCond .eq 10, 3), (21, .aload_n 0, 1), (22, .invokevirtual 211, 3), (25, .goto 11, 3), (28, .aload_n 0, 1), (29, .aload_n 0, 1), (30, .invokevirtual 214, 3), (33, .invokevirtual 217, 3), (36, .istore_n 1, 1), (37, .iload_n 1, 1), (38, .ifCond .eq 14, 3), (41, .aload_n 0, 1), (42, .invokevirtual 173, 3), (45, .ifCond .eq 7, 3), (48, .iconst 1, 1), (49, .goto 4, 3), (52, .iconst 0, 1), (53, .ireturn, 1)]
set_option maxRecDepth 100000 in
theorem cd_d182 : ∀ q ∈ cd_t182, decode cX11_lineHere q.1 = .ok q.2 := by decide +kernel
def cd_t183 : List (Nat × Instr × Nat) := [(0, .aload_n 0, 1), (1, .getfield 117, 3), (4, .ifCond .eq 12, 3), (7, .aload_n 0, 1), (8, .invokevirtual 221, 3), (11, .ifCond .ne (-11), 3), (14, .iconst 0, 1), (15, .ireturn, 1), (16, .aload_n 0, 1), (17, .aload_n 0, 1), (18, .getfield 201, 3), (21, .ifCond .le 7, 3), (24, .iconst 1, 1), (25, .goto 4, 3), (28, .iconst 0, 1), (29, .iconst 1, 1), (30, .invokevirtual 145, 3), (33, .ireturn, 1)]
set_option maxRecDepth 100000 in
theorem cd_d183 : ∀ q ∈ cd_t183, decode cX11_readsRules q.1 = .ok q.2 := by decide +kernel
def cd_t184 : List (Nat × Instr × Nat) := [(0, .aload_n 0, 1), (1, .iconst 0, 1), (2, .putfield 95, 3), (5, .iload_n 1, 1), (6, .i2l, 1), (7, .lconst 0, 1), (8, .aload_n 0, 1), (9, .getfield 98, 3), (12, .i2l, 1), (13, .invokestatic 127, 3), (16, .ifCond .ne 5, 3), (19, .iconst (-1), 1), (20, .ireturn, 1), (21, .aload_n 0, 1), (22, .iload_n 1, 1), (23, .invokevirtual 179, 3), (26, .aload_n 0, 1), (27, .iconst 0, 1), (28, .putfield 201, 3), (31, .aload_n 0, 1), (32, .iconst 1, 1), (33, .invokevirtual 91, 3), (36, .iconst 0, 1), (37, .istore_n 2, 1), (38, .iload_n 2, 1), (39, .iconst 5, 1), (40, .if_icmp .ge 16, 3), (43, .aload_n 0, 1), (44, .getfield 29, 3), (47, .iload_n 2, 1), (48, .iconst 0, 1), (49, .bastore, 1), (50, .iinc 2 1, 3), (53, .goto (-15), 3), (56, .aload_n 0, 1), (57, .invokevirtual 224, 3), (60, .ifCond .ne 8, 3), (63, .aload_n 0, 1), (64, .invokevirtual 185, 3), (67, .ireturn, 1), (68, .aload_n 0, 1), (69, .aload_n 0, 1), (70, .getfield 201, 3), (73, .putfield 87, 3), (76, .iconst 0, 1), (77, .istore_n 2, 1), (78, .iload_n 2, 1), (79, .iconst 4, 1), (80, .if_icmp .ge 23, 3), (83, .aload_n 0, 1), (84, .getfield 20, 3), (87, .iload_n 2, 1), (88, .aload_n 0, 1), (89, .getfield 20, 3), (92, .iconst 4, 1), (93, .iload_n 2, 1), (94, .iadd, 1), (95, .iaload, 1), (96, .iastore, 1), (97, .iinc 2 1, 3), (100, .goto (-22), 3), (103, .iconst 0, 1), (104, .istore_n 2, 1), (105, .iload_n 2, 1), (106, .bipush 24, 2), (108, .if_icmp .ge 24, 3), (111, .aload_n 0, 1), (112, .getfield 23, 3), (115, .iload_n 2, 1), (116, .aload_n 0, 1), (117, .getfield 23, 3), (120, .bipush 24, 2), (122, .iload_n 2, 1), (123, .iadd, 1), (124, .iaload, 1), (125, .iastore, 1), (126, .iinc 2 1, 3), (129, .goto (-24), 3), (132, .iconst 0, 1), (133, .istore_n 2, 1), (134, .iload_n 2, 1), (135, .iconst 5, 1), (136, .if_icmp .ge 23, 3), (139, .aload_n 0, 1), (140, .getfield 26, 3), (143, .iload_n 2, 1), (144, .aload_n 0, 1), (145, .getfield 26, 3), (148, .iconst 5, 1), (149, .iload_n 2, 1), (150, .iadd, 1), (151, .iaload, 1), (152, .iastore, 1), (153, .iinc 2 1, 3), (156, .goto (-22), 3), (159, .aload_n 0, 1), (160, .iconst 0, 1), (161, .putfield 198, 3), (164, .aload_n 0, 1), (165, .iconst 0, 1), (166, .putfield 227, 3), (169, .aload_n 0, 1), (170, .getfield 87, 3), (173, .ireturn, 1)]
set_option maxRecDepth 100000 in
theorem cd_d184 : ∀ q ∈ cd_t184, decode cX11_rules q.1 = .ok q.2 := by decide +kernel
def cd_t185 : List (Nat × Instr × Nat) := [(0, .iload_n 1, 1), (1, .i2l, 1), (2, .lconst 0, 1), (3, .aload_n 0, 1), (4, .getfield 87, 3), (7, .iconst 1, 1), (8, .isub, 1), (9, .i2l, 1), (10, .invokestatic 127, 3), (13, .ireturn, 1)]
set_option maxRecDepth 100000 in
theorem cd_d185 : ∀ q ∈ cd_t185, decode cX11_isCadence q.1 = .ok q.2 := by decide +kernel
def cd_t186 : List (Nat × Instr × Nat) := [(0, .aload_n 0, 1), (1, .iconst 0, 1), (2, .putfield 95, 3), (5, .iload_n 1, 1), (6, .i2l, 1), (7, .lconst 0, 1), (8, .aload_n 0, 1), (9, .getfield 192, 3), (12, .iconst 1, 1), (13, .isub, 1), (14, .i2l, 1), (15, .invokestatic 127, 3), (18, .ifCond .eq 43, 3), (21, .iload_n 2, 1), (22, .i2l, 1), (23, .lconst 0, 1), (24, .lconst 1, 1), (25, .invokestatic 127, 3), (28, .ifCond .eq 33, 3), (31, .iload_n 3, 1), (32, .i2l, 1), (33, .lconst 0, 1), (34, .aload_n 0, 1), (35, .getfield 189, 3), (38, .iconst 1, 1), (39, .isub, 1), (40, .i2l, 1), (41, .invokestatic 127, 3), (44, .ifCond .eq 17, 3), (47, .aload_n 0, 1), (48, .getfield 13, 3), (51, .iload_n 1, 1), (52, .iload_n 2, 1), (53, .iload_n 3, 1), (54, .invokestatic 169, 3), (57, .iaload, 1), (58, .goto 4, 3), (61, .iconst (-1), 1), (62, .ireturn, 1)]
set_option maxRecDepth 100000 in
theorem cd_d186 : ∀ q ∈ cd_t186, decode cX11_frame q.1 = .ok q.2 := by decide +kernel
def cd_t187 : List (Nat × Instr × Nat) := [(0, .aload_n 0, 1), (1, .iconst 0, 1), (2, .putfield 95, 3), (5, .aload_n 0, 1), (6, .iload_n 1, 1), (7, .invokevirtual 230, 3), (10, .ifCond .ne 5, 3), (13, .iconst (-1), 1), (14, .ireturn, 1), (15, .iload_n 2, 1), (16, .iconst (-1), 1), (17, .if_icmp .ne 12, 3), (20, .aload_n 0, 1), (21, .getfield 20, 3), (24, .iload_n 1, 1), (25, .iaload, 1), (26, .goto 36, 3), (29, .iload_n 2, 1), (30, .i2l, 1), (31, .lconst 0, 1), (32, .aload_n 0, 1), (33, .getfield 20, 3), (36, .iload_n 1, 1), (37, .iaload, 1), (38, .iconst 1, 1), (39, .isub, 1), (40, .i2l, 1), (41, .invokestatic 127, 3), (44, .ifCond .eq 17, 3), (47, .aload_n 0, 1), (48, .getfield 23, 3), (51, .bipush 6, 2), (53, .iload_n 1, 1), (54, .imul, 1), (55, .iload_n 2, 1), (56, .iadd, 1), (57, .iaload, 1), (58, .goto 4, 3), (61, .iconst (-1), 1), (62, .ireturn, 1)]
set_option maxRecDepth 100000 in
theorem cd_d187 : ∀ q ∈ cd_t187, decode cX11_cadence q.1 = .ok q.2 := by decide +kernel
def cd_t188 : List (Nat × Instr × Nat) := [(0, .aload_n 0, 1), (1, .iconst 0, 1), (2, .putfield 95, 3), (5, .aload_n 0, 1), (6, .iload_n 1, 1), (7, .invokevirtual 230, 3), (10, .ifCond .ne 5, 3), (13, .iconst (-1), 1), (14, .ireturn, 1), (15, .aload_n 0, 1), (16, .getfield 227, 3), (19, .istore_n 2, 1), (20, .aload_n 0, 1), (21, .iload_n 1, 1), (22, .putfield 227, 3), (25, .iload_n 2, 1), (26, .ireturn, 1)]
set_option maxRecDepth 100000 in
theorem cd_d188 : ∀ q ∈ cd_t188, decode cX11_force q.1 = .ok q.2 := by decide +kernel
def cd_t189 : List (Nat × Instr × Nat) := [(0, .iload_n 1, 1), (1, .i2l, 1), (2, .lconst 0, 1), (3, .aload_n 0, 1), (4, .getfield 195, 3), (7, .iconst 1, 1), (8, .isub, 1), (9, .i2l, 1), (10, .invokestatic 127, 3), (13, .ireturn, 1)]
set_option maxRecDepth 100000 in
theorem cd_d189 : ∀ q ∈ cd_t189, decode cX11_isField q.1 = .ok q.2 := by decide +kernel
def cd_t190 : List (Nat × Instr × Nat) := [(0, .aload_n 0, 1), (1, .getfield 33, 3), (4, .bipush 7, 2), (6, .iload_n 1, 1), (7, .imul, 1), (8, .bipush 6, 2), (10, .iadd, 1), (11, .iaload, 1), (12, .ireturn, 1)]
set_option maxRecDepth 100000 in
theorem cd_d190 : ∀ q ∈ cd_t190, decode cX11_parityOf q.1 = .ok q.2 := by decide +kernel
def cd_t191 : List (Nat × Instr × Nat) := [(0, .aload_n 0, 1), (1, .getfield 33, 3), (4, .bipush 7, 2), (6, .iload_n 1, 1), (7, .imul, 1), (8, .iload_n 2, 1), (9, .iadd, 1), (10, .iaload, 1), (11, .ireturn, 1)]
set_option maxRecDepth 100000 in
theorem cd_d191 : ∀ q ∈ cd_t191, decode cX11_sample q.1 = .ok q.2 := by decide +kernel
def cd_t192 : List (Nat × Instr × Nat) := [(0, .iconst 0, 1), (1, .istore_n 3, 1), (2, .iload_n 3, 1), (3, .bipush 7, 2), (5, .if_icmp .ge 31, 3), (8, .aload_n 0, 1), (9, .getfield 33, 3), (12, .bipush 7, 2), (14, .iload_n 2, 1), (15, .imul, 1), (16, .iload_n 3, 1), (17, .iadd, 1), (18, .aload_n 0, 1), (19, .getfield 33, 3), (22, .bipush 7, 2), (24, .iload_n 1, 1), (25, .imul, 1), (26, .iload_n 3, 1), (27, .iadd, 1), (28, .iaload, 1), (29, .iastore, 1), (30, .iinc 3 1, 3), (33, .goto (-31), 3), (36, .return_, 1)]
set_option maxRecDepth 100000 in
theorem cd_d192 : ∀ q ∈ cd_t192, decode cX11_copiesField q.1 = .ok q.2 := by decide +kernel
def cd_t193 : List (Nat × Instr × Nat) := [(0, .aload_n 0, 1), (1, .getfield 198, 3), (4, .bipush 12, 2), (6, .if_icmp .ne 72, 3), (9, .iconst 0, 1), (10, .istore_n 1, 1), (11, .iload_n 1, 1), (12, .bipush 11, 2), (14, .if_icmp .ge 23, 3), (17, .aload_n 0, 1), (18, .getfield 36, 3), (21, .iload_n 1, 1), (22, .aload_n 0, 1), (23, .getfield 36, 3), (26, .iload_n 1, 1), (27, .iconst 1, 1), (28, .iadd, 1), (29, .iaload, 1), (30, .iastore, 1), (31, .iinc 1 1, 3), (34, .goto (-23), 3), (37, .iconst 0, 1), (38, .istore_n 1, 1), (39, .iload_n 1, 1), (40, .sipush 6930, 3), (43, .if_icmp .ge 25, 3), (46, .aload_n 0, 1), (47, .getfield 39, 3), (50, .iload_n 1, 1), (51, .aload_n 0, 1), (52, .getfield 39, 3), (55, .iload_n 1, 1), (56, .sipush 630, 3), (59, .iadd, 1), (60, .iaload, 1), (61, .iastore, 1), (62, .iinc 1 1, 3), (65, .goto (-26), 3), (68, .aload_n 0, 1), (69, .dup, 1), (70, .getfield 198, 3), (73, .iconst 1, 1), (74, .isub, 1), (75, .putfield 198, 3), (78, .aload_n 0, 1), (79, .getfield 36, 3), (82, .aload_n 0, 1), (83, .getfield 198, 3), (86, .aload_n 0, 1), (87, .getfield 195, 3), (90, .iastore, 1), (91, .iconst 0, 1), (92, .istore_n 1, 1), (93, .iload_n 1, 1), (94, .sipush 630, 3), (97, .if_icmp .ge 30, 3), (100, .aload_n 0, 1), (101, .getfield 39, 3), (104, .sipush 630, 3), (107, .aload_n 0, 1), (108, .getfield 198, 3), (111, .imul, 1), (112, .iload_n 1, 1), (113, .iadd, 1), (114, .aload_n 0, 1), (115, .getfield 33, 3), (118, .iload_n 1, 1), (119, .iaload, 1), (120, .iastore, 1), (121, .iinc 1 1, 3), (124, .goto (-31), 3), (127, .aload_n 0, 1), (128, .dup, 1), (129, .getfield 198, 3), (132, .iconst 1, 1), (133, .iadd, 1), (134, .putfield 198, 3), (137, .return_, 1)]
set_option maxRecDepth 100000 in
theorem cd_d193 : ∀ q ∈ cd_t193, decode cX11_keeps q.1 = .ok q.2 := by decide +kernel
def cd_t194 : List (Nat × Instr × Nat) := [(0, .aload_n 0, 1), (1, .iconst 0, 1), (2, .putfield 95, 3), (5, .aload_n 0, 1), (6, .getfield 192, 3), (9, .ifCond .eq 34, 3), (12, .iload_n 1, 1), (13, .i2l, 1), (14, .lconst 0, 1), (15, .aload_n 0, 1), (16, .getfield 20, 3), (19, .aload_n 0, 1), (20, .getfield 227, 3), (23, .iaload, 1), (24, .iconst 1, 1), (25, .isub, 1), (26, .i2l, 1), (27, .invokestatic 127, 3), (30, .ifCond .eq 13, 3), (33, .iload_n 2, 1), (34, .i2l, 1), (35, .lconst 0, 1), (36, .lconst 1, 1), (37, .invokestatic 127, 3), (40, .ifCond .ne 5, 3), (43, .iconst (-1), 1), (44, .ireturn, 1), (45, .aload_n 0, 1), (46, .invokevirtual 233, 3), (49, .aload_n 0, 1), (50, .iconst 0, 1), (51, .putfield 195, 3), (54, .iload_n 1, 1), (55, .istore_n 3, 1), (56, .iload_n 2, 1), (57, .istore 4, 2), (59, .iconst 0, 1), (60, .istore 5, 2), (62, .iload 5, 2), (64, .aload_n 0, 1), (65, .getfield 192, 3), (68, .if_icmp .ge 140, 3), (71, .iconst 0, 1), (72, .istore 6, 2), (74, .iload 6, 2), (76, .aload_n 0, 1), (77, .getfield 23, 3), (80, .bipush 6, 2), (82, .aload_n 0, 1), (83, .getfield 227, 3), (86, .imul, 1), (87, .iload_n 3, 1), (88, .iadd, 1), (89, .iaload, 1), (90, .if_icmp .ge 98, 3), (93, .aload_n 0, 1), (94, .getfield 195, 3), (97, .bipush 90, 2), (99, .if_icmp .ge 89, 3), (102, .iconst 0, 1), (103, .istore 7, 2), (105, .iload 7, 2), (107, .aload_n 0, 1), (108, .getfield 189, 3), (111, .if_icmp .ge 38, 3), (114, .aload_n 0, 1), (115, .getfield 33, 3), (118, .bipush 7, 2), (120, .aload_n 0, 1), (121, .getfield 195, 3), (124, .imul, 1), (125, .iload 7, 2), (127, .iadd, 1), (128, .aload_n 0, 1), (129, .getfield 13, 3), (132, .iload 5, 2), (134, .iload 4, 2), (136, .iload 7, 2), (138, .invokestatic 169, 3), (141, .iaload, 1), (142, .iastore, 1), (143, .iinc 7 1, 3), (146, .goto (-41), 3), (149, .aload_n 0, 1), (150, .getfield 33, 3), (153, .bipush 7, 2), (155, .aload_n 0, 1), (156, .getfield 195, 3), (159, .imul, 1), (160, .bipush 6, 2), (162, .iadd, 1), (163, .iload 4, 2), (165, .iastore, 1), (166, .iconst 1, 1), (167, .iload 4, 2), (169, .isub, 1), (170, .istore 4, 2), (172, .aload_n 0, 1), (173, .dup, 1), (174, .getfield 195, 3), (177, .iconst 1, 1), (178, .iadd, 1), (179, .putfield 195, 3), (182, .iinc 6 1, 3), (185, .goto (-111), 3), (188, .iload_n 3, 1), (189, .iconst 1, 1), (190, .iadd, 1), (191, .aload_n 0, 1), (192, .getfield 20, 3), (195, .aload_n 0, 1), (196, .getfield 227, 3), (199, .iaload, 1), (200, .irem, 1), (201, .istore_n 3, 1), (202, .iinc 5 1, 3), (205, .goto (-143), 3), (208, .aload_n 0, 1), (209, .getfield 195, 3), (212, .ireturn, 1)]
set_option maxRecDepth 100000 in
theorem cd_d194 : ∀ q ∈ cd_t194, decode cX11_carry q.1 = .ok q.2 := by decide +kernel
def cd_t195 : List (Nat × Instr × Nat) := [(0, .iload_n 2, 1), (1, .iconst 1, 1), (2, .if_icmp .lt 33, 3), (5, .iload_n 1, 1), (6, .i2l, 1), (7, .lconst 0, 1), (8, .aload_n 0, 1), (9, .getfield 195, 3), (12, .iconst 1, 1), (13, .isub, 1), (14, .i2l, 1), (15, .invokestatic 127, 3), (18, .ifCond .eq 17, 3), (21, .iload_n 2, 1), (22, .aload_n 0, 1), (23, .getfield 195, 3), (26, .iload_n 1, 1), (27, .isub, 1), (28, .if_icmp .gt 7, 3), (31, .iconst 1, 1), (32, .goto 4, 3), (35, .iconst 0, 1), (36, .ireturn, 1)]
set_option maxRecDepth 100000 in
theorem cd_d195 : ∀ q ∈ cd_t195, decode cX11_areThere q.1 = .ok q.2 := by decide +kernel
def cd_t196 : List (Nat × Instr × Nat) := [(0, .aload_n 0, 1), (1, .iconst 0, 1), (2, .putfield 95, 3), (5, .aload_n 0, 1), (6, .iload_n 1, 1), (7, .iload_n 2, 1), (8, .invokevirtual 236, 3), (11, .ifCond .ne 5, 3), (14, .iconst (-1), 1), (15, .ireturn, 1), (16, .aload_n 0, 1), (17, .invokevirtual 233, 3), (20, .iload_n 1, 1), (21, .istore_n 3, 1), (22, .iload_n 3, 1), (23, .iload_n 2, 1), (24, .iadd, 1), (25, .aload_n 0, 1), (26, .getfield 195, 3), (29, .if_icmp .ge 17, 3), (32, .aload_n 0, 1), (33, .iload_n 3, 1), (34, .iload_n 2, 1), (35, .iadd, 1), (36, .iload_n 3, 1), (37, .invokevirtual 239, 3), (40, .iinc 3 1, 3), (43, .goto (-21), 3), (46, .aload_n 0, 1), (47, .dup, 1), (48, .getfield 195, 3), (51, .iload_n 2, 1), (52, .isub, 1), (53, .putfield 195, 3), (56, .aload_n 0, 1), (57, .getfield 195, 3), (60, .ireturn, 1)]
set_option maxRecDepth 100000 in
theorem cd_d196 : ∀ q ∈ cd_t196, decode cX11_cut q.1 = .ok q.2 := by decide +kernel
def cd_t197 : List (Nat × Instr × Nat) := [(0, .aload_n 0, 1), (1, .iconst 0, 1), (2, .putfield 95, 3), (5, .aload_n 0, 1), (6, .iload_n 1, 1), (7, .iload_n 2, 1), (8, .invokevirtual 236, 3), (11, .ifCond .eq 14, 3), (14, .aload_n 0, 1), (15, .getfield 195, 3), (18, .iload_n 2, 1), (19, .iadd, 1), (20, .bipush 90, 2), (22, .if_icmp .le 5, 3), (25, .iconst (-1), 1), (26, .ireturn, 1), (27, .aload_n 0, 1), (28, .invokevirtual 233, 3), (31, .aload_n 0, 1), (32, .getfield 195, 3), (35, .iconst 1, 1), (36, .isub, 1), (37, .istore_n 3, 1), (38, .iload_n 3, 1), (39, .iload_n 1, 1), (40, .iload_n 2, 1), (41, .iadd, 1), (42, .if_icmp .lt 17, 3), (45, .aload_n 0, 1), (46, .iload_n 3, 1), (47, .iload_n 3, 1), (48, .iload_n 2, 1), (49, .iadd, 1), (50, .invokevirtual 239, 3), (53, .iinc 3 (-1), 3), (56, .goto (-18), 3), (59, .iload_n 1, 1), (60, .istore_n 3, 1), (61, .iload_n 3, 1), (62, .iload_n 1, 1), (63, .iload_n 2, 1), (64, .iadd, 1), (65, .if_icmp .ge 17, 3), (68, .aload_n 0, 1), (69, .iload_n 3, 1), (70, .iload_n 3, 1), (71, .iload_n 2, 1), (72, .iadd, 1), (73, .invokevirtual 239, 3), (76, .iinc 3 1, 3), (79, .goto (-18), 3), (82, .aload_n 0, 1), (83, .dup, 1), (84, .getfield 195, 3), (87, .iload_n 2, 1), (88, .iadd, 1), (89, .putfield 195, 3), (92, .aload_n 0, 1), (93, .getfield 195, 3), (96, .ireturn, 1)]
set_option maxRecDepth 100000 in
theorem cd_d197 : ∀ q ∈ cd_t197, decode cX11_doubled q.1 = .ok q.2 := by decide +kernel
def cd_t198 : List (Nat × Instr × Nat) := [(0, .aload_n 0, 1), (1, .iconst 0, 1), (2, .putfield 95, 3), (5, .iload_n 2, 1), (6, .i2l, 1), (7, .lconst 1, 1), (8, .ldc2_w 243, 3), (11, .invokestatic 127, 3), (14, .ifCond .eq 10, 3), (17, .aload_n 0, 1), (18, .getfield 195, 3), (21, .ifCond .ne 5, 3), (24, .iconst (-1), 1), (25, .ireturn, 1), (26, .aload_n 0, 1), (27, .invokevirtual 233, 3), (30, .iload_n 1, 1), (31, .istore_n 3, 1), (32, .iconst 0, 1), (33, .istore 4, 2), (35, .iconst 0, 1), (36, .istore 5, 2), (38, .iload 5, 2), (40, .aload_n 0, 1), (41, .getfield 195, 3), (44, .if_icmp .ge 119, 3), (47, .iconst 0, 1), (48, .istore 6, 2), (50, .iload 6, 2), (52, .aload_n 0, 1), (53, .getfield 189, 3), (56, .if_icmp .ge 101, 3), (59, .ldc 245, 2), (61, .iload_n 3, 1), (62, .imul, 1), (63, .ldc 246, 2), (65, .iadd, 1), (66, .istore_n 3, 1), (67, .aload_n 0, 1), (68, .iload 5, 2), (70, .iload 6, 2), (72, .invokevirtual 247, 3), (75, .istore 7, 2), (77, .iload 7, 2), (79, .iload_n 3, 1), (80, .bipush 8, 2), (82, .iushr, 1), (83, .iconst 2, 1), (84, .iload_n 2, 1), (85, .imul, 1), (86, .iconst 1, 1), (87, .iadd, 1), (88, .irem, 1), (89, .iadd, 1), (90, .iload_n 2, 1), (91, .isub, 1), (92, .istore 8, 2), (94, .iload 8, 2), (96, .ifCond .ge 7, 3), (99, .iconst 0, 1), (100, .goto 17, 3), (103, .iload 8, 2), (105, .bipush 99, 2), (107, .if_icmp .le 8, 3), (110, .bipush 99, 2), (112, .goto 5, 3), (115, .iload 8, 2), (117, .istore 8, 2), (119, .aload_n 0, 1), (120, .getfield 33, 3), (123, .bipush 7, 2), (125, .iload 5, 2), (127, .imul, 1), (128, .iload 6, 2), (130, .iadd, 1), (131, .iload 8, 2), (133, .iastore, 1), (134, .iload 4, 2), (136, .iload 8, 2), (138, .iload 7, 2), (140, .if_icmp .eq 7, 3), (143, .iconst 1, 1), (144, .goto 4, 3), (147, .iconst 0, 1), (148, .iadd, 1), (149, .istore 4, 2), (151, .iinc 6 1, 3), (154, .goto (-104), 3), (157, .iinc 5 1, 3), (160, .goto (-122), 3), (163, .iload 4, 2), (165, .ireturn, 1)]
set_option maxRecDepth 100000 in
theorem cd_d198 : ∀ q ∈ cd_t198, decode cX11_noise q.1 = .ok q.2 := by decide +kernel
def cd_t199 : List (Nat × Instr × Nat) := [(0, .aload_n 0, 1), (1, .iconst 0, 1), (2, .putfield 95, 3), (5, .aload_n 0, 1), (6, .iload_n 1, 1), (7, .invokevirtual 251, 3), (10, .ifCond .eq 31, 3), (13, .iload_n 2, 1), (14, .i2l, 1), (15, .lconst 0, 1), (16, .aload_n 0, 1), (17, .getfield 189, 3), (20, .iconst 1, 1), (21, .isub, 1), (22, .i2l, 1), (23, .invokestatic 127, 3), (26, .ifCond .eq 15, 3), (29, .iload_n 3, 1), (30, .i2l, 1), (31, .lconst 0, 1), (32, .ldc2_w 254, 3), (35, .invokestatic 127, 3), (38, .ifCond .ne 5, 3), (41, .iconst (-1), 1), (42, .ireturn, 1), (43, .aload_n 0, 1), (44, .invokevirtual 233, 3), (47, .aload_n 0, 1), (48, .iload_n 1, 1), (49, .iload_n 2, 1), (50, .invokevirtual 247, 3), (53, .istore 4, 2), (55, .aload_n 0, 1), (56, .getfield 33, 3), (59, .bipush 7, 2), (61, .iload_n 1, 1), (62, .imul, 1), (63, .iload_n 2, 1), (64, .iadd, 1), (65, .iload_n 3, 1), (66, .iastore, 1), (67, .iload 4, 2), (69, .ireturn, 1)]
set_option maxRecDepth 100000 in
theorem cd_d199 : ∀ q ∈ cd_t199, decode cX11_set q.1 = .ok q.2 := by decide +kernel
def cd_t200 : List (Nat × Instr × Nat) := [(0, .aload_n 0, 1), (1, .iconst 0, 1), (2, .putfield 95, 3), (5, .aload_n 0, 1), (6, .getfield 198, 3), (9, .ifCond .ne 5, 3), (12, .iconst (-1), 1), (13, .ireturn, 1), (14, .aload_n 0, 1), (15, .dup, 1), (16, .getfield 198, 3), (19, .iconst 1, 1), (20, .isub, 1), (21, .putfield 198, 3), (24, .aload_n 0, 1), (25, .aload_n 0, 1), (26, .getfield 36, 3), (29, .aload_n 0, 1), (30, .getfield 198, 3), (33, .iaload, 1), (34, .putfield 195, 3), (37, .iconst 0, 1), (38, .istore_n 1, 1), (39, .iload_n 1, 1), (40, .sipush 630, 3), (43, .if_icmp .ge 30, 3), (46, .aload_n 0, 1), (47, .getfield 33, 3), (50, .iload_n 1, 1), (51, .aload_n 0, 1), (52, .getfield 39, 3), (55, .sipush 630, 3), (58, .aload_n 0, 1), (59, .getfield 198, 3), (62, .imul, 1), (63, .iload_n 1, 1), (64, .iadd, 1), (65, .iaload, 1), (66, .iastore, 1), (67, .iinc 1 1, 3), (70, .goto (-31), 3), (73, .aload_n 0, 1), (74, .getfield 198, 3), (77, .ireturn, 1)]
set_option maxRecDepth 100000 in
theorem cd_d200 : ∀ q ∈ cd_t200, decode cX11_undo q.1 = .ok q.2 := by decide +kernel
def cd_t201 : List (Nat × Instr × Nat) := [(0, .aload_n 0, 1), (1, .aload_n 0, 1), (2, .iload_n 1, 1), (3, .invokevirtual 251, 3), (6, .ifCond .eq 25, 3), (9, .iload_n 2, 1), (10, .i2l, 1), (11, .ldc2_w 256, 3), (14, .aload_n 0, 1), (15, .getfield 189, 3), (18, .iconst 1, 1), (19, .isub, 1), (20, .i2l, 1), (21, .invokestatic 127, 3), (24, .ifCond .eq 7, 3), (27, .iconst 0, 1), (28, .goto 4, 3), (31, .iconst 1, 1), (32, .putfield 95, 3), (35, .aload_n 0, 1), (36, .getfield 95, 3), (39, .iconst 1, 1), (40, .if_icmp .ne 7, 3), (43, .iconst 0, 1), (44, .goto 22, 3), (47, .iload_n 2, 1), (48, .iconst (-1), 1), (49, .if_icmp .ne 11, 3), (52, .aload_n 0, 1), (53, .iload_n 1, 1), (54, .invokevirtual 258, 3), (57, .goto 9, 3), (60, .aload_n 0, 1), (61, .iload_n 1, 1), (62, .iload_n 2, 1), (63, .invokevirtual 247, 3), (66, .ireturn, 1)]
set_option maxRecDepth 100000 in
theorem cd_d201 : ∀ q ∈ cd_t201, decode cX11_field q.1 = .ok q.2 := by decide +kernel
def cd_t202 : List (Nat × Instr × Nat) := [(0, .iconst 0, 1), (1, .istore_n 3, 1), (2, .iconst 0, 1), (3, .istore 4, 2), (5, .iconst 0, 1), (6, .istore 5, 2), (8, .iconst 0, 1), (9, .istore 6, 2), (11, .iload 6, 2), (13, .aload_n 0, 1), (14, .getfield 189, 3), (17, .if_icmp .ge 77, 3), (20, .aload_n 0, 1), (21, .iload_n 1, 1), (22, .iload 6, 2), (24, .invokevirtual 247, 3), (27, .aload_n 0, 1), (28, .iload_n 2, 1), (29, .iload 6, 2), (31, .invokevirtual 247, 3), (34, .isub, 1), (35, .istore 7, 2), (37, .iload 7, 2), (39, .ifCond .ge 9, 3), (42, .iload 7, 2), (44, .ineg, 1), (45, .goto 5, 3), (48, .iload 7, 2), (50, .istore 7, 2), (52, .iload_n 3, 1), (53, .iload 7, 2), (55, .iadd, 1), (56, .istore_n 3, 1), (57, .iload 7, 2), (59, .iload 4, 2), (61, .if_icmp .le 8, 3), (64, .iload 7, 2), (66, .goto 5, 3), (69, .iload 4, 2), (71, .istore 4, 2), (73, .iload 5, 2), (75, .iload 7, 2), (77, .ifCond .le 7, 3), (80, .iconst 1, 1), (81, .goto 4, 3), (84, .iconst 0, 1), (85, .iadd, 1), (86, .istore 5, 2), (88, .iinc 6 1, 3), (91, .goto (-80), 3), (94, .aload_n 0, 1), (95, .getfield 26, 3), (98, .iconst 4, 1), (99, .iaload, 1), (100, .ifCond .ne 7, 3), (103, .iload_n 3, 1), (104, .goto 20, 3), (107, .aload_n 0, 1), (108, .getfield 26, 3), (111, .iconst 4, 1), (112, .iaload, 1), (113, .iconst 1, 1), (114, .if_icmp .ne 8, 3), (117, .iload 4, 2), (119, .goto 5, 3), (122, .iload 5, 2), (124, .ireturn, 1)]
set_option maxRecDepth 100000 in
theorem cd_d202 : ∀ q ∈ cd_t202, decode cX11_apartOf q.1 = .ok q.2 := by decide +kernel
def cd_t203 : List (Nat × Instr × Nat) := [(0, .aload_n 0, 1), (1, .iconst 0, 1), (2, .putfield 95, 3), (5, .aload_n 0, 1), (6, .iload_n 1, 1), (7, .invokevirtual 251, 3), (10, .ifCond .eq 20, 3), (13, .aload_n 0, 1), (14, .iload_n 2, 1), (15, .invokevirtual 251, 3), (18, .ifCond .eq 12, 3), (21, .aload_n 0, 1), (22, .iload_n 1, 1), (23, .iload_n 2, 1), (24, .invokevirtual 261, 3), (27, .goto 4, 3), (30, .iconst (-1), 1), (31, .ireturn, 1)]
set_option maxRecDepth 100000 in
theorem cd_d203 : ∀ q ∈ cd_t203, decode cX11_apart q.1 = .ok q.2 := by decide +kernel
def cd_t204 : List (Nat × Instr × Nat) := [(0, .aload_n 0, 1), (1, .iload_n 1, 1), (2, .iload_n 2, 1), (3, .invokevirtual 261, 3), (6, .aload_n 0, 1), (7, .getfield 26, 3), (10, .iconst 0, 1), (11, .iaload, 1), (12, .if_icmp .gt 7, 3), (15, .iconst 1, 1), (16, .goto 4, 3), (19, .iconst 0, 1), (20, .ireturn, 1)]
set_option maxRecDepth 100000 in
theorem cd_d204 : ∀ q ∈ cd_t204, decode cX11_areAlike q.1 = .ok q.2 := by decide +kernel
def cd_t205 : List (Nat × Instr × Nat) := [(0, .bipush 25, 2), (2, .iload_n 0, 1), (3, .imul, 1), (4, .iconst 5, 1), (5, .iload_n 1, 1), (6, .imul, 1), (7, .iadd, 1), (8, .iload_n 2, 1), (9, .iadd, 1), (10, .ireturn, 1)]
set_option maxRecDepth 100000 in
theorem cd_d205 : ∀ q ∈ cd_t205, decode cX11_stateOf q.1 = .ok q.2 := by decide +kernel
def cd_t206 : List (Nat × Instr × Nat) := [(0, .aload_n 0, 1), (1, .getfield 23, 3), (4, .bipush 6, 2), (6, .aload_n 0, 1), (7, .getfield 264, 3), (10, .imul, 1), (11, .iload_n 1, 1), (12, .iadd, 1), (13, .iaload, 1), (14, .ireturn, 1)]
set_option maxRecDepth 100000 in
theorem cd_d206 : ∀ q ∈ cd_t206, decode cX11_numberAt q.1 = .ok q.2 := by decide +kernel
def cd_t207 : List (Nat × Instr × Nat) := [(0, .iload_n 1, 1), (1, .aload_n 0, 1), (2, .getfield 20, 3), (5, .aload_n 0, 1), (6, .getfield 264, 3), (9, .iaload, 1), (10, .if_icmp .ge 21, 3), (13, .iload_n 2, 1), (14, .aload_n 0, 1), (15, .iload_n 1, 1), (16, .invokevirtual 267, 3), (19, .if_icmp .ge 12, 3), (22, .iload_n 3, 1), (23, .iload_n 2, 1), (24, .if_icmp .gt 7, 3), (27, .iconst 1, 1), (28, .goto 4, 3), (31, .iconst 0, 1), (32, .ireturn, 1)]
set_option maxRecDepth 100000 in
theorem cd_d207 : ∀ q ∈ cd_t207, decode cX11_isState q.1 = .ok q.2 := by decide +kernel
def cd_t208 : List (Nat × Instr × Nat) := [(0, .iconst 0, 1), (1, .istore_n 1, 1), (2, .iload_n 1, 1), (3, .aload_n 0, 1), (4, .getfield 195, 3), (7, .if_icmp .ge 122, 3), (10, .iload_n 1, 1), (11, .iconst 1, 1), (12, .if_icmp .le 7, 3), (15, .iconst 1, 1), (16, .goto 4, 3), (19, .iconst 0, 1), (20, .istore_n 2, 1), (21, .aload_n 0, 1), (22, .getfield 42, 3), (25, .iload_n 1, 1), (26, .iload_n 2, 1), (27, .ifCond .eq 38, 3), (30, .aload_n 0, 1), (31, .iload_n 1, 1), (32, .invokevirtual 258, 3), (35, .aload_n 0, 1), (36, .iload_n 1, 1), (37, .iconst 2, 1), (38, .isub, 1), (39, .invokevirtual 258, 3), (42, .if_icmp .ne 23, 3), (45, .aload_n 0, 1), (46, .iload_n 1, 1), (47, .iload_n 1, 1), (48, .iconst 2, 1), (49, .isub, 1), (50, .invokevirtual 270, 3), (53, .ifCond .eq 12, 3), (56, .aload_n 0, 1), (57, .getfield 26, 3), (60, .iconst 2, 1), (61, .iaload, 1), (62, .goto 4, 3), (65, .iconst 0, 1), (66, .iastore, 1), (67, .iload_n 2, 1), (68, .ifCond .eq 14, 3), (71, .aload_n 0, 1), (72, .iload_n 1, 1), (73, .iload_n 1, 1), (74, .iconst 2, 1), (75, .isub, 1), (76, .invokevirtual 261, 3), (79, .goto 4, 3), (82, .iconst 0, 1), (83, .istore_n 3, 1), (84, .aload_n 0, 1), (85, .getfield 45, 3), (88, .iload_n 1, 1), (89, .iload_n 2, 1), (90, .ifCond .eq 14, 3), (93, .aload_n 0, 1), (94, .iload_n 1, 1), (95, .iload_n 1, 1), (96, .iconst 2, 1), (97, .isub, 1), (98, .invokevirtual 270, 3), (101, .ifCond .eq 7, 3), (104, .iconst 0, 1), (105, .goto 17, 3), (108, .iload_n 3, 1), (109, .sipush 999, 3), (112, .if_icmp .le 9, 3), (115, .sipush 999, 3), (118, .goto 4, 3), (121, .iload_n 3, 1), (122, .iastore, 1), (123, .iinc 1 1, 3), (126, .goto (-124), 3), (129, .return_, 1)]
set_option maxRecDepth 100000 in
theorem cd_d208 : ∀ q ∈ cd_t208, decode cX11_laysCosts q.1 = .ok q.2 := by decide +kernel
def cd_t209 : List (Nat × Instr × Nat) := [(0, .iload_n 2, 1), (1, .iconst 5, 1), (2, .irem, 1), (3, .iconst 2, 1), (4, .if_icmp .ge 12, 3), (7, .aload_n 0, 1), (8, .getfield 42, 3), (11, .iload_n 1, 1), (12, .iaload, 1), (13, .goto 9, 3), (16, .aload_n 0, 1), (17, .getfield 45, 3), (20, .iload_n 1, 1), (21, .iaload, 1), (22, .ireturn, 1)]
set_option maxRecDepth 100000 in
theorem cd_d209 : ∀ q ∈ cd_t209, decode cX11_costAt q.1 = .ok q.2 := by decide +kernel
end
section
def cd_t210 : List (Nat × Instr × Nat) := [(0, .aload_n 0, 1), (1, .iload_n 1, 1), (2, .invokevirtual 258, 3), (5, .aload_n 0, 1), (6, .iload_n 1, 1), (7, .iconst 1, 1), (8, .isub, 1), (9, .invokevirtual 258, 3), (12, .if_icmp .ne 5, 3), (15, .iconst (-1), 1), (16, .ireturn, 1), (17, .iload_n 2, 1), (18, .bipush 25, 2), (20, .idiv, 1), (21, .istore_n 3, 1), (22, .iload_n 2, 1), (23, .iconst 5, 1), (24, .idiv, 1), (25, .iconst 5, 1), (26, .irem, 1), (27, .istore 4, 2), (29, .iload 4, 2), (31, .iconst 1, 1), (32, .iadd, 1), (33, .aload_n 0, 1), (34, .iload_n 3, 1), (35, .invokevirtual 267, 3), (38, .if_icmp .ge 17, 3), (41, .iload_n 3, 1), (42, .iload 4, 2), (44, .iconst 1, 1), (45, .iadd, 1), (46, .iload_n 2, 1), (47, .iconst 5, 1), (48, .irem, 1), (49, .iconst 1, 1), (50, .iadd, 1), (51, .invokestatic 273, 3), (54, .ireturn, 1), (55, .iload_n 3, 1), (56, .iconst 1, 1), (57, .iadd, 1), (58, .aload_n 0, 1), (59, .getfield 20, 3), (62, .aload_n 0, 1), (63, .getfield 264, 3), (66, .iaload, 1), (67, .irem, 1), (68, .iconst 0, 1), (69, .iconst 0, 1), (70, .invokestatic 273, 3), (73, .ireturn, 1)]
set_option maxRecDepth 100000 in
theorem cd_d210 : ∀ q ∈ cd_t210, decode cX11_on q.1 = .ok q.2 := by decide +kernel
def cd_t211 : List (Nat × Instr × Nat) := [(0, .sipush 128, 3), (3, .aload_n 0, 1), (4, .iload_n 1, 1), (5, .iload_n 2, 1), (6, .invokevirtual 276, 3), (9, .iload_n 3, 1), (10, .ifCond .eq 12, 3), (13, .aload_n 0, 1), (14, .getfield 26, 3), (17, .iconst 1, 1), (18, .iaload, 1), (19, .goto 4, 3), (22, .iconst 0, 1), (23, .iadd, 1), (24, .imul, 1), (25, .iload_n 3, 1), (26, .ifCond .eq 7, 3), (29, .iconst 1, 1), (30, .goto 4, 3), (33, .iconst 0, 1), (34, .iadd, 1), (35, .aload_n 0, 1), (36, .getfield 48, 3), (39, .sipush 150, 3), (42, .iload_n 1, 1), (43, .imul, 1), (44, .iload_n 2, 1), (45, .iadd, 1), (46, .iaload, 1), (47, .iadd, 1), (48, .ireturn, 1)]
set_option maxRecDepth 100000 in
theorem cd_d211 : ∀ q ∈ cd_t211, decode cX11_costs q.1 = .ok q.2 := by decide +kernel
def cd_t212 : List (Nat × Instr × Nat) := [(0, .aload_n 0, 1), (1, .iload_n 1, 1), (2, .iload_n 2, 1), (3, .invokevirtual 279, 3), (6, .istore_n 3, 1), (7, .iload_n 3, 1), (8, .ifCond .ge 9, 3), (11, .ldc_w 282, 3), (14, .goto 10, 3), (17, .aload_n 0, 1), (18, .iload_n 1, 1), (19, .iload_n 3, 1), (20, .iconst 0, 1), (21, .invokevirtual 283, 3), (24, .istore 4, 2), (26, .iconst 0, 1), (27, .istore 5, 2), (29, .iload 5, 2), (31, .aload_n 0, 1), (32, .getfield 20, 3), (35, .aload_n 0, 1), (36, .getfield 264, 3), (39, .iaload, 1), (40, .if_icmp .ge 74, 3), (43, .iconst 0, 1), (44, .istore 6, 2), (46, .iload 6, 2), (48, .aload_n 0, 1), (49, .iload 5, 2), (51, .invokevirtual 267, 3), (54, .if_icmp .ge 54, 3), (57, .iload 5, 2), (59, .iload 6, 2), (61, .iconst 0, 1), (62, .invokestatic 273, 3), (65, .istore 7, 2), (67, .iload 7, 2), (69, .iload_n 3, 1), (70, .if_icmp .ne 6, 3), (73, .goto 29, 3), (76, .aload_n 0, 1), (77, .iload_n 1, 1), (78, .iload 7, 2), (80, .iconst 1, 1), (81, .invokevirtual 283, 3), (84, .istore 8, 2), (86, .iload 8, 2), (88, .iload 4, 2), (90, .if_icmp .ge 8, 3), (93, .iload 8, 2), (95, .goto 5, 3), (98, .iload 4, 2), (100, .istore 4, 2), (102, .iinc 6 1, 3), (105, .goto (-59), 3), (108, .iinc 5 1, 3), (111, .goto (-82), 3), (114, .iload 4, 2), (116, .ireturn, 1)]
set_option maxRecDepth 100000 in
theorem cd_d212 : ∀ q ∈ cd_t212, decode cX11_leastBehind q.1 = .ok q.2 := by decide +kernel
def cd_t213 : List (Nat × Instr × Nat) := [(0, .aload_n 0, 1), (1, .getfield 195, 3), (4, .iconst 1, 1), (5, .isub, 1), (6, .istore_n 1, 1), (7, .iload_n 1, 1), (8, .ifCond .lt 80, 3), (11, .iconst 0, 1), (12, .istore_n 2, 1), (13, .iload_n 2, 1), (14, .sipush 150, 3), (17, .if_icmp .ge 65, 3), (20, .aload_n 0, 1), (21, .iload_n 2, 1), (22, .bipush 25, 2), (24, .idiv, 1), (25, .iload_n 2, 1), (26, .iconst 5, 1), (27, .idiv, 1), (28, .iconst 5, 1), (29, .irem, 1), (30, .iload_n 2, 1), (31, .iconst 5, 1), (32, .irem, 1), (33, .invokevirtual 287, 3), (36, .ifCond .ne 6, 3), (39, .goto 37, 3), (42, .aload_n 0, 1), (43, .getfield 48, 3), (46, .sipush 150, 3), (49, .iload_n 1, 1), (50, .imul, 1), (51, .iload_n 2, 1), (52, .iadd, 1), (53, .iload_n 1, 1), (54, .aload_n 0, 1), (55, .getfield 195, 3), (58, .iconst 1, 1), (59, .isub, 1), (60, .if_icmp .ne 7, 3), (63, .iconst 0, 1), (64, .goto 11, 3), (67, .aload_n 0, 1), (68, .iload_n 1, 1), (69, .iconst 1, 1), (70, .iadd, 1), (71, .iload_n 2, 1), (72, .invokevirtual 291, 3), (75, .iastore, 1), (76, .iinc 2 1, 3), (79, .goto (-66), 3), (82, .iinc 1 (-1), 3), (85, .goto (-78), 3), (88, .return_, 1)]
set_option maxRecDepth 100000 in
theorem cd_d213 : ∀ q ∈ cd_t213, decode cX11_laysRest q.1 = .ok q.2 := by decide +kernel
def cd_t214 : List (Nat × Instr × Nat) := [(0, .iload_n 1, 1), (1, .ifCond .ne 7, 3), (4, .iconst (-1), 1), (5, .goto 9, 3), (8, .aload_n 0, 1), (9, .iload_n 1, 1), (10, .iload_n 2, 1), (11, .invokevirtual 279, 3), (14, .istore_n 3, 1), (15, .iconst (-1), 1), (16, .istore 4, 2), (18, .ldc_w 282, 3), (21, .istore 5, 2), (23, .iconst 0, 1), (24, .istore 6, 2), (26, .iconst 0, 1), (27, .istore 7, 2), (29, .iload 7, 2), (31, .sipush 150, 3), (34, .if_icmp .ge 97, 3), (37, .aload_n 0, 1), (38, .iload 7, 2), (40, .bipush 25, 2), (42, .idiv, 1), (43, .iload 7, 2), (45, .iconst 5, 1), (46, .idiv, 1), (47, .iconst 5, 1), (48, .irem, 1), (49, .iload 7, 2), (51, .iconst 5, 1), (52, .irem, 1), (53, .invokevirtual 287, 3), (56, .ifCond .eq 69, 3), (59, .iload 7, 2), (61, .iconst 5, 1), (62, .irem, 1), (63, .ifCond .le 12, 3), (66, .iload 7, 2), (68, .iload_n 3, 1), (69, .if_icmp .eq 6, 3), (72, .goto 53, 3), (75, .iload_n 1, 1), (76, .ifCond .le 13, 3), (79, .iload 7, 2), (81, .iload_n 3, 1), (82, .if_icmp .eq 7, 3), (85, .iconst 1, 1), (86, .goto 4, 3), (89, .iconst 0, 1), (90, .istore 8, 2), (92, .aload_n 0, 1), (93, .iload_n 1, 1), (94, .iload 7, 2), (96, .iload 8, 2), (98, .invokevirtual 283, 3), (101, .istore 9, 2), (103, .iload 9, 2), (105, .iload 5, 2), (107, .if_icmp .lt 6, 3), (110, .goto 15, 3), (113, .iload 7, 2), (115, .istore 4, 2), (117, .iload 9, 2), (119, .istore 5, 2), (121, .iload 8, 2), (123, .istore 6, 2), (125, .iinc 7 1, 3), (128, .goto (-99), 3), (131, .aload_n 0, 1), (132, .getfield 51, 3), (135, .iload_n 1, 1), (136, .iload 4, 2), (138, .iastore, 1), (139, .aload_n 0, 1), (140, .getfield 54, 3), (143, .iload_n 1, 1), (144, .iload 6, 2), (146, .bastore, 1), (147, .return_, 1)]
set_option maxRecDepth 100000 in
theorem cd_d214 : ∀ q ∈ cd_t214, decode cX11_goes q.1 = .ok q.2 := by decide +kernel
def cd_t215 : List (Nat × Instr × Nat) := [(0, .aload_n 0, 1), (1, .iload_n 1, 1), (2, .putfield 264, 3), (5, .aload_n 0, 1), (6, .invokevirtual 294, 3), (9, .aload_n 0, 1), (10, .invokevirtual 297, 3), (13, .aload_n 0, 1), (14, .iconst 0, 1), (15, .putfield 300, 3), (18, .aload_n 0, 1), (19, .iconst 0, 1), (20, .putfield 303, 3), (23, .iconst 0, 1), (24, .istore_n 2, 1), (25, .iload_n 2, 1), (26, .aload_n 0, 1), (27, .getfield 195, 3), (30, .if_icmp .ge 67, 3), (33, .aload_n 0, 1), (34, .iload_n 2, 1), (35, .iload_n 2, 1), (36, .ifCond .ne 7, 3), (39, .iconst (-1), 1), (40, .goto 11, 3), (43, .aload_n 0, 1), (44, .getfield 51, 3), (47, .iload_n 2, 1), (48, .iconst 1, 1), (49, .isub, 1), (50, .iaload, 1), (51, .invokevirtual 306, 3), (54, .aload_n 0, 1), (55, .dup, 1), (56, .getfield 303, 3), (59, .aload_n 0, 1), (60, .getfield 54, 3), (63, .iload_n 2, 1), (64, .baload, 1), (65, .ifCond .eq 7, 3), (68, .iconst 1, 1), (69, .goto 4, 3), (72, .iconst 0, 1), (73, .iadd, 1), (74, .putfield 303, 3), (77, .aload_n 0, 1), (78, .dup, 1), (79, .getfield 300, 3), (82, .aload_n 0, 1), (83, .iload_n 2, 1), (84, .invokevirtual 309, 3), (87, .iadd, 1), (88, .putfield 300, 3), (91, .iinc 2 1, 3), (94, .goto (-69), 3), (97, .return_, 1)]
set_option maxRecDepth 100000 in
theorem cd_d215 : ∀ q ∈ cd_t215, decode cX11_laysPath q.1 = .ok q.2 := by decide +kernel
def cd_t216 : List (Nat × Instr × Nat) := [(0, .aload_n 0, 1), (1, .iload_n 1, 1), (2, .aload_n 0, 1), (3, .getfield 51, 3), (6, .iload_n 1, 1), (7, .iaload, 1), (8, .invokevirtual 276, 3), (11, .aload_n 0, 1), (12, .getfield 54, 3), (15, .iload_n 1, 1), (16, .baload, 1), (17, .ifCond .eq 12, 3), (20, .aload_n 0, 1), (21, .getfield 26, 3), (24, .iconst 1, 1), (25, .iaload, 1), (26, .goto 4, 3), (29, .iconst 0, 1), (30, .iadd, 1), (31, .ireturn, 1)]
set_option maxRecDepth 100000 in
theorem cd_d216 : ∀ q ∈ cd_t216, decode cX11_costOf q.1 = .ok q.2 := by decide +kernel
def cd_t217 : List (Nat × Instr × Nat) := [(0, .aload_n 0, 1), (1, .getfield 66, 3), (4, .iconst 2, 1), (5, .iload_n 1, 1), (6, .imul, 1), (7, .iaload, 1), (8, .ifCond .lt 16, 3), (11, .aload_n 0, 1), (12, .getfield 66, 3), (15, .iconst 2, 1), (16, .iload_n 1, 1), (17, .imul, 1), (18, .iconst 1, 1), (19, .iadd, 1), (20, .iaload, 1), (21, .ifCond .ge 7, 3), (24, .iconst 1, 1), (25, .goto 4, 3), (28, .iconst 0, 1), (29, .ireturn, 1)]
set_option maxRecDepth 100000 in
theorem cd_d217 : ∀ q ∈ cd_t217, decode cX11_isOrphan q.1 = .ok q.2 := by decide +kernel
def cd_t218 : List (Nat × Instr × Nat) := [(0, .aload_n 0, 1), (1, .getfield 66, 3), (4, .iconst 2, 1), (5, .iload_n 1, 1), (6, .imul, 1), (7, .iaload, 1), (8, .ifCond .ge 16, 3), (11, .aload_n 0, 1), (12, .getfield 66, 3), (15, .iconst 2, 1), (16, .iload_n 1, 1), (17, .imul, 1), (18, .iconst 1, 1), (19, .iadd, 1), (20, .iaload, 1), (21, .goto 11, 3), (24, .aload_n 0, 1), (25, .getfield 66, 3), (28, .iconst 2, 1), (29, .iload_n 1, 1), (30, .imul, 1), (31, .iaload, 1), (32, .ireturn, 1)]
set_option maxRecDepth 100000 in
theorem cd_d218 : ∀ q ∈ cd_t218, decode cX11_loneOf q.1 = .ok q.2 := by decide +kernel
def cd_t219 : List (Nat × Instr × Nat) := [(0, .aload_n 0, 1), (1, .iconst 0, 1), (2, .putfield 312, 3), (5, .aload_n 0, 1), (6, .iconst 0, 1), (7, .putfield 315, 3), (10, .iconst 0, 1), (11, .istore_n 1, 1), (12, .iload_n 1, 1), (13, .aload_n 0, 1), (14, .getfield 195, 3), (17, .if_icmp .ge 165, 3), (20, .aload_n 0, 1), (21, .getfield 51, 3), (24, .iload_n 1, 1), (25, .iaload, 1), (26, .iconst 5, 1), (27, .irem, 1), (28, .ifCond .ne 59, 3), (31, .aload_n 0, 1), (32, .getfield 60, 3), (35, .aload_n 0, 1), (36, .getfield 312, 3), (39, .iload_n 1, 1), (40, .iastore, 1), (41, .aload_n 0, 1), (42, .getfield 66, 3), (45, .iconst 2, 1), (46, .aload_n 0, 1), (47, .getfield 312, 3), (50, .imul, 1), (51, .iconst (-1), 1), (52, .iastore, 1), (53, .aload_n 0, 1), (54, .getfield 66, 3), (57, .iconst 2, 1), (58, .aload_n 0, 1), (59, .getfield 312, 3), (62, .imul, 1), (63, .iconst 1, 1), (64, .iadd, 1), (65, .iconst (-1), 1), (66, .iastore, 1), (67, .aload_n 0, 1), (68, .getfield 69, 3), (71, .aload_n 0, 1), (72, .getfield 312, 3), (75, .iconst (-1), 1), (76, .iastore, 1), (77, .aload_n 0, 1), (78, .dup, 1), (79, .getfield 312, 3), (82, .iconst 1, 1), (83, .iadd, 1), (84, .putfield 312, 3), (87, .aload_n 0, 1), (88, .getfield 312, 3), (91, .iconst 1, 1), (92, .isub, 1), (93, .istore_n 2, 1), (94, .aload_n 0, 1), (95, .getfield 57, 3), (98, .iload_n 1, 1), (99, .iload_n 2, 1), (100, .iastore, 1), (101, .aload_n 0, 1), (102, .getfield 63, 3), (105, .iload_n 1, 1), (106, .aload_n 0, 1), (107, .getfield 66, 3), (110, .iconst 2, 1), (111, .iload_n 2, 1), (112, .imul, 1), (113, .aload_n 0, 1), (114, .iload_n 1, 1), (115, .invokevirtual 258, 3), (118, .iadd, 1), (119, .iaload, 1), (120, .ifCond .ge 7, 3), (123, .iconst 1, 1), (124, .goto 4, 3), (127, .iconst 0, 1), (128, .bastore, 1), (129, .aload_n 0, 1), (130, .getfield 63, 3), (133, .iload_n 1, 1), (134, .baload, 1), (135, .ifCond .eq 18, 3), (138, .aload_n 0, 1), (139, .getfield 66, 3), (142, .iconst 2, 1), (143, .iload_n 2, 1), (144, .imul, 1), (145, .aload_n 0, 1), (146, .iload_n 1, 1), (147, .invokevirtual 258, 3), (150, .iadd, 1), (151, .iload_n 1, 1), (152, .iastore, 1), (153, .aload_n 0, 1), (154, .dup, 1), (155, .getfield 315, 3), (158, .aload_n 0, 1), (159, .getfield 63, 3), (162, .iload_n 1, 1), (163, .baload, 1), (164, .ifCond .eq 7, 3), (167, .iconst 0, 1), (168, .goto 4, 3), (171, .iconst 1, 1), (172, .iadd, 1), (173, .putfield 315, 3), (176, .iinc 1 1, 3), (179, .goto (-167), 3), (182, .aload_n 0, 1), (183, .getfield 60, 3), (186, .aload_n 0, 1), (187, .getfield 312, 3), (190, .aload_n 0, 1), (191, .getfield 195, 3), (194, .iastore, 1), (195, .return_, 1)]
set_option maxRecDepth 100000 in
theorem cd_d219 : ∀ q ∈ cd_t219, decode cX11_laysGroups q.1 = .ok q.2 := by decide +kernel
def cd_t220 : List (Nat × Instr × Nat) := [(0, .aload_n 0, 1), (1, .iload_n 1, 1), (2, .invokevirtual 318, 3), (5, .ifCond .eq 68, 3), (8, .aload_n 0, 1), (9, .iload_n 2, 1), (10, .invokevirtual 318, 3), (13, .ifCond .eq 60, 3), (16, .aload_n 0, 1), (17, .getfield 69, 3), (20, .iload_n 1, 1), (21, .iaload, 1), (22, .ifCond .ge 51, 3), (25, .aload_n 0, 1), (26, .aload_n 0, 1), (27, .iload_n 1, 1), (28, .invokevirtual 321, 3), (31, .invokevirtual 258, 3), (34, .aload_n 0, 1), (35, .aload_n 0, 1), (36, .iload_n 2, 1), (37, .invokevirtual 321, 3), (40, .invokevirtual 258, 3), (43, .if_icmp .eq 30, 3), (46, .aload_n 0, 1), (47, .aload_n 0, 1), (48, .iload_n 1, 1), (49, .invokevirtual 321, 3), (52, .aload_n 0, 1), (53, .iload_n 2, 1), (54, .invokevirtual 321, 3), (57, .invokevirtual 261, 3), (60, .aload_n 0, 1), (61, .getfield 26, 3), (64, .iconst 3, 1), (65, .iaload, 1), (66, .if_icmp .gt 7, 3), (69, .iconst 1, 1), (70, .goto 4, 3), (73, .iconst 0, 1), (74, .ireturn, 1)]
set_option maxRecDepth 100000 in
theorem cd_d220 : ∀ q ∈ cd_t220, decode cX11_canMate q.1 = .ok q.2 := by decide +kernel
def cd_t221 : List (Nat × Instr × Nat) := [(0, .aload_n 0, 1), (1, .iconst 0, 1), (2, .putfield 324, 3), (5, .aload_n 0, 1), (6, .iconst 0, 1), (7, .putfield 327, 3), (10, .aload_n 0, 1), (11, .iconst 0, 1), (12, .putfield 330, 3), (15, .iconst 0, 1), (16, .istore_n 1, 1), (17, .iload_n 1, 1), (18, .aload_n 0, 1), (19, .getfield 312, 3), (22, .if_icmp .ge 31, 3), (25, .aload_n 0, 1), (26, .dup, 1), (27, .getfield 324, 3), (30, .aload_n 0, 1), (31, .iload_n 1, 1), (32, .invokevirtual 318, 3), (35, .ifCond .eq 7, 3), (38, .iconst 1, 1), (39, .goto 4, 3), (42, .iconst 0, 1), (43, .iadd, 1), (44, .putfield 324, 3), (47, .iinc 1 1, 3), (50, .goto (-33), 3), (53, .iconst 0, 1), (54, .istore_n 1, 1), (55, .iload_n 1, 1), (56, .iconst 1, 1), (57, .iadd, 1), (58, .aload_n 0, 1), (59, .getfield 312, 3), (62, .if_icmp .ge 51, 3), (65, .aload_n 0, 1), (66, .iload_n 1, 1), (67, .iload_n 1, 1), (68, .iconst 1, 1), (69, .iadd, 1), (70, .invokevirtual 333, 3), (73, .ifCond .ne 6, 3), (76, .goto 31, 3), (79, .aload_n 0, 1), (80, .getfield 69, 3), (83, .iload_n 1, 1), (84, .iload_n 1, 1), (85, .iconst 1, 1), (86, .iadd, 1), (87, .iastore, 1), (88, .aload_n 0, 1), (89, .getfield 69, 3), (92, .iload_n 1, 1), (93, .iconst 1, 1), (94, .iadd, 1), (95, .iload_n 1, 1), (96, .iastore, 1), (97, .aload_n 0, 1), (98, .dup, 1), (99, .getfield 327, 3), (102, .iconst 1, 1), (103, .iadd, 1), (104, .putfield 327, 3), (107, .iinc 1 1, 3), (110, .goto (-55), 3), (113, .iconst 0, 1), (114, .istore_n 1, 1), (115, .iload_n 1, 1), (116, .aload_n 0, 1), (117, .getfield 312, 3), (120, .if_icmp .ge 202, 3), (123, .aload_n 0, 1), (124, .getfield 69, 3), (127, .iload_n 1, 1), (128, .iaload, 1), (129, .ifCond .lt 30, 3), (132, .aload_n 0, 1), (133, .getfield 69, 3), (136, .iload_n 1, 1), (137, .iaload, 1), (138, .iload_n 1, 1), (139, .if_icmp .ge 20, 3), (142, .aload_n 0, 1), (143, .getfield 72, 3), (146, .iload_n 1, 1), (147, .aload_n 0, 1), (148, .getfield 72, 3), (151, .iload_n 1, 1), (152, .iconst 1, 1), (153, .isub, 1), (154, .iaload, 1), (155, .iastore, 1), (156, .goto 160, 3), (159, .aload_n 0, 1), (160, .getfield 72, 3), (163, .iload_n 1, 1), (164, .aload_n 0, 1), (165, .getfield 330, 3), (168, .iastore, 1), (169, .aload_n 0, 1), (170, .iload_n 1, 1), (171, .invokevirtual 321, 3), (174, .istore_n 2, 1), (175, .aload_n 0, 1), (176, .getfield 66, 3), (179, .iconst 2, 1), (180, .iload_n 1, 1), (181, .imul, 1), (182, .iaload, 1), (183, .ifCond .lt 14, 3), (186, .aload_n 0, 1), (187, .getfield 66, 3), (190, .iconst 2, 1), (191, .iload_n 1, 1), (192, .imul, 1), (193, .iaload, 1), (194, .goto 4, 3), (197, .iload_n 2, 1), (198, .istore_n 3, 1), (199, .aload_n 0, 1), (200, .getfield 66, 3), (203, .iconst 2, 1), (204, .iload_n 1, 1), (205, .imul, 1), (206, .iconst 1, 1), (207, .iadd, 1), (208, .iaload, 1), (209, .ifCond .lt 16, 3), (212, .aload_n 0, 1), (213, .getfield 66, 3), (216, .iconst 2, 1), (217, .iload_n 1, 1), (218, .imul, 1), (219, .iconst 1, 1), (220, .iadd, 1), (221, .iaload, 1), (222, .goto 4, 3), (225, .iload_n 2, 1), (226, .istore 4, 2), (228, .aload_n 0, 1), (229, .getfield 69, 3), (232, .iload_n 1, 1), (233, .iaload, 1), (234, .iload_n 1, 1), (235, .if_icmp .le 44, 3), (238, .aload_n 0, 1), (239, .iload_n 1, 1), (240, .iconst 1, 1), (241, .iadd, 1), (242, .invokevirtual 321, 3), (245, .istore 5, 2), (247, .aload_n 0, 1), (248, .iload_n 2, 1), (249, .invokevirtual 258, 3), (252, .ifCond .ne 7, 3), (255, .iload_n 2, 1), (256, .goto 5, 3), (259, .iload 5, 2), (261, .istore_n 3, 1), (262, .aload_n 0, 1), (263, .iload_n 2, 1), (264, .invokevirtual 258, 3), (267, .iconst 1, 1), (268, .if_icmp .ne 7, 3), (271, .iload_n 2, 1), (272, .goto 5, 3), (275, .iload 5, 2), (277, .istore 4, 2), (279, .aload_n 0, 1), (280, .getfield 75, 3), (283, .iconst 2, 1), (284, .aload_n 0, 1), (285, .getfield 330, 3), (288, .imul, 1), (289, .iload_n 3, 1), (290, .iastore, 1), (291, .aload_n 0, 1), (292, .getfield 75, 3), (295, .iconst 2, 1), (296, .aload_n 0, 1), (297, .getfield 330, 3), (300, .imul, 1), (301, .iconst 1, 1), (302, .iadd, 1), (303, .iload 4, 2), (305, .iastore, 1), (306, .aload_n 0, 1), (307, .dup, 1), (308, .getfield 330, 3), (311, .iconst 1, 1), (312, .iadd, 1), (313, .putfield 330, 3), (316, .iinc 1 1, 3), (319, .goto (-204), 3), (322, .return_, 1)]
set_option maxRecDepth 100000 in
theorem cd_d221 : ∀ q ∈ cd_t221, decode cX11_laysFound q.1 = .ok q.2 := by decide +kernel
def cd_t222 : List (Nat × Instr × Nat) := [(0, .aload_n 0, 1), (1, .aload_n 0, 1), (2, .getfield 227, 3), (5, .invokevirtual 336, 3), (8, .aload_n 0, 1), (9, .invokevirtual 339, 3), (12, .aload_n 0, 1), (13, .invokevirtual 342, 3), (16, .return_, 1)]
set_option maxRecDepth 100000 in
theorem cd_d222 : ∀ q ∈ cd_t222, decode cX11_laysAll q.1 = .ok q.2 := by decide +kernel
def cd_t223 : List (Nat × Instr × Nat) := [(0, .aload_n 0, 1), (1, .iconst 0, 1), (2, .putfield 95, 3), (5, .aload_n 0, 1), (6, .iload_n 1, 1), (7, .invokevirtual 251, 3), (10, .ifCond .ne 5, 3), (13, .iconst (-1), 1), (14, .ireturn, 1), (15, .aload_n 0, 1), (16, .invokevirtual 345, 3), (19, .iload_n 2, 1), (20, .tableswitch 133 0 7 #[48, 58, 69, 78, 93, 99, 106, 121], 48), (68, .aload_n 0, 1), (69, .getfield 51, 3), (72, .iload_n 1, 1), (73, .iaload, 1), (74, .bipush 25, 2), (76, .idiv, 1), (77, .ireturn, 1), (78, .aload_n 0, 1), (79, .getfield 51, 3), (82, .iload_n 1, 1), (83, .iaload, 1), (84, .iconst 5, 1), (85, .idiv, 1), (86, .iconst 5, 1), (87, .irem, 1), (88, .ireturn, 1), (89, .aload_n 0, 1), (90, .getfield 51, 3), (93, .iload_n 1, 1), (94, .iaload, 1), (95, .iconst 5, 1), (96, .irem, 1), (97, .ireturn, 1), (98, .aload_n 0, 1), (99, .getfield 54, 3), (102, .iload_n 1, 1), (103, .baload, 1), (104, .ifCond .eq 7, 3), (107, .iconst 1, 1), (108, .goto 4, 3), (111, .iconst 0, 1), (112, .ireturn, 1), (113, .aload_n 0, 1), (114, .iload_n 1, 1), (115, .invokevirtual 309, 3), (118, .ireturn, 1), (119, .aload_n 0, 1), (120, .getfield 57, 3), (123, .iload_n 1, 1), (124, .iaload, 1), (125, .ireturn, 1), (126, .aload_n 0, 1), (127, .getfield 63, 3), (130, .iload_n 1, 1), (131, .baload, 1), (132, .ifCond .eq 7, 3), (135, .iconst 1, 1), (136, .goto 4, 3), (139, .iconst 0, 1), (140, .ireturn, 1), (141, .aload_n 0, 1), (142, .getfield 72, 3), (145, .aload_n 0, 1), (146, .getfield 57, 3), (149, .iload_n 1, 1), (150, .iaload, 1), (151, .iaload, 1), (152, .ireturn, 1), (153, .iconst (-1), 1), (154, .ireturn, 1)]
set_option maxRecDepth 100000 in
theorem cd_d223 : ∀ q ∈ cd_t223, decode cX11_path q.1 = .ok q.2 := by decide +kernel
def cd_t224 : List (Nat × Instr × Nat) := [(0, .aload_n 0, 1), (1, .iconst 0, 1), (2, .putfield 95, 3), (5, .aload_n 0, 1), (6, .invokevirtual 345, 3), (9, .iload_n 1, 1), (10, .tableswitch 77 0 6 #[42, 47, 52, 57, 62, 67, 72], 42), (52, .aload_n 0, 1), (53, .getfield 300, 3), (56, .ireturn, 1), (57, .aload_n 0, 1), (58, .getfield 303, 3), (61, .ireturn, 1), (62, .aload_n 0, 1), (63, .getfield 312, 3), (66, .ireturn, 1), (67, .aload_n 0, 1), (68, .getfield 315, 3), (71, .ireturn, 1), (72, .aload_n 0, 1), (73, .getfield 324, 3), (76, .ireturn, 1), (77, .aload_n 0, 1), (78, .getfield 327, 3), (81, .ireturn, 1), (82, .aload_n 0, 1), (83, .getfield 330, 3), (86, .ireturn, 1), (87, .iconst (-1), 1), (88, .ireturn, 1)]
set_option maxRecDepth 100000 in
theorem cd_d224 : ∀ q ∈ cd_t224, decode cX11_all q.1 = .ok q.2 := by decide +kernel
def cd_t225 : List (Nat × Instr × Nat) := [(0, .aload_n 0, 1), (1, .iconst 0, 1), (2, .putfield 95, 3), (5, .iload_n 1, 1), (6, .ifCond .ge 5, 3), (9, .iconst (-1), 1), (10, .ireturn, 1), (11, .aload_n 0, 1), (12, .invokevirtual 345, 3), (15, .iconst 0, 1), (16, .istore_n 2, 1), (17, .iconst 0, 1), (18, .istore_n 3, 1), (19, .iload_n 3, 1), (20, .aload_n 0, 1), (21, .getfield 195, 3), (24, .if_icmp .ge 31, 3), (27, .aload_n 0, 1), (28, .getfield 54, 3), (31, .iload_n 3, 1), (32, .baload, 1), (33, .ifCond .ne 6, 3), (36, .goto 13, 3), (39, .iload_n 2, 1), (40, .iload_n 1, 1), (41, .if_icmp .ne 5, 3), (44, .iload_n 3, 1), (45, .ireturn, 1), (46, .iinc 2 1, 3), (49, .iinc 3 1, 3), (52, .goto (-33), 3), (55, .iconst (-1), 1), (56, .ireturn, 1)]
set_option maxRecDepth 100000 in
theorem cd_d225 : ∀ q ∈ cd_t225, decode cX11_edit q.1 = .ok q.2 := by decide +kernel
def cd_t226 : List (Nat × Instr × Nat) := [(0, .aload_n 0, 1), (1, .iconst 0, 1), (2, .putfield 95, 3), (5, .aload_n 0, 1), (6, .invokevirtual 345, 3), (9, .iload_n 1, 1), (10, .i2l, 1), (11, .lconst 0, 1), (12, .aload_n 0, 1), (13, .getfield 312, 3), (16, .iconst 1, 1), (17, .isub, 1), (18, .i2l, 1), (19, .invokestatic 127, 3), (22, .ifCond .ne 6, 3), (25, .bipush (-2), 2), (27, .ireturn, 1), (28, .iload_n 2, 1), (29, .tableswitch 75 0 3 #[31, 38, 54, 68], 31), (60, .aload_n 0, 1), (61, .getfield 60, 3), (64, .iload_n 1, 1), (65, .iaload, 1), (66, .ireturn, 1), (67, .aload_n 0, 1), (68, .getfield 60, 3), (71, .iload_n 1, 1), (72, .iconst 1, 1), (73, .iadd, 1), (74, .iaload, 1), (75, .aload_n 0, 1), (76, .getfield 60, 3), (79, .iload_n 1, 1), (80, .iaload, 1), (81, .isub, 1), (82, .ireturn, 1), (83, .aload_n 0, 1), (84, .iload_n 1, 1), (85, .invokevirtual 318, 3), (88, .ifCond .eq 7, 3), (91, .iconst 1, 1), (92, .goto 4, 3), (95, .iconst 0, 1), (96, .ireturn, 1), (97, .aload_n 0, 1), (98, .getfield 69, 3), (101, .iload_n 1, 1), (102, .iaload, 1), (103, .ireturn, 1), (104, .bipush (-2), 2), (106, .ireturn, 1)]
set_option maxRecDepth 100000 in
theorem cd_d226 : ∀ q ∈ cd_t226, decode cX11_group q.1 = .ok q.2 := by decide +kernel
def cd_t227 : List (Nat × Instr × Nat) := [(0, .aload_n 0, 1), (1, .iconst 0, 1), (2, .putfield 95, 3), (5, .aload_n 0, 1), (6, .invokevirtual 345, 3), (9, .iload_n 1, 1), (10, .i2l, 1), (11, .lconst 0, 1), (12, .aload_n 0, 1), (13, .getfield 330, 3), (16, .iconst 1, 1), (17, .isub, 1), (18, .i2l, 1), (19, .invokestatic 127, 3), (22, .ifCond .eq 47, 3), (25, .iload_n 2, 1), (26, .i2l, 1), (27, .lconst 0, 1), (28, .lconst 1, 1), (29, .invokestatic 127, 3), (32, .ifCond .eq 37, 3), (35, .iload_n 3, 1), (36, .i2l, 1), (37, .lconst 0, 1), (38, .aload_n 0, 1), (39, .getfield 189, 3), (42, .iconst 1, 1), (43, .isub, 1), (44, .i2l, 1), (45, .invokestatic 127, 3), (48, .ifCond .eq 21, 3), (51, .aload_n 0, 1), (52, .aload_n 0, 1), (53, .getfield 75, 3), (56, .iconst 2, 1), (57, .iload_n 1, 1), (58, .imul, 1), (59, .iload_n 2, 1), (60, .iadd, 1), (61, .iaload, 1), (62, .iload_n 3, 1), (63, .invokevirtual 247, 3), (66, .goto 4, 3), (69, .iconst (-1), 1), (70, .ireturn, 1)]
set_option maxRecDepth 100000 in
theorem cd_d227 : ∀ q ∈ cd_t227, decode cX11_found q.1 = .ok q.2 := by decide +kernel
def cd_t228 : List (Nat × Instr × Nat) := [(0, .iconst 0, 1), (1, .istore_n 3, 1), (2, .iload_n 3, 1), (3, .iconst 2, 1), (4, .if_icmp .ge 60, 3), (7, .iconst 0, 1), (8, .istore 4, 2), (10, .iload 4, 2), (12, .aload_n 0, 1), (13, .getfield 189, 3), (16, .if_icmp .ge 42, 3), (19, .aload_n 0, 1), (20, .getfield 13, 3), (23, .iload_n 1, 1), (24, .iload_n 3, 1), (25, .iload 4, 2), (27, .invokestatic 169, 3), (30, .iaload, 1), (31, .aload_n 0, 1), (32, .aload_n 0, 1), (33, .getfield 75, 3), (36, .iconst 2, 1), (37, .iload_n 2, 1), (38, .imul, 1), (39, .iload_n 3, 1), (40, .iadd, 1), (41, .iaload, 1), (42, .iload 4, 2), (44, .invokevirtual 247, 3), (47, .if_icmp .eq 5, 3), (50, .iconst 0, 1), (51, .ireturn, 1), (52, .iinc 4 1, 3), (55, .goto (-45), 3), (58, .iinc 3 1, 3), (61, .goto (-59), 3), (64, .iconst 1, 1), (65, .ireturn, 1)]
set_option maxRecDepth 100000 in
theorem cd_d228 : ∀ q ∈ cd_t228, decode cX11_areSame q.1 = .ok q.2 := by decide +kernel
def cd_t229 : List (Nat × Instr × Nat) := [(0, .aload_n 0, 1), (1, .iconst 0, 1), (2, .putfield 95, 3), (5, .aload_n 0, 1), (6, .invokevirtual 345, 3), (9, .iload_n 1, 1), (10, .i2l, 1), (11, .lconst 0, 1), (12, .aload_n 0, 1), (13, .getfield 330, 3), (16, .iconst 1, 1), (17, .isub, 1), (18, .i2l, 1), (19, .invokestatic 127, 3), (22, .ifCond .ne 5, 3), (25, .iconst (-1), 1), (26, .ireturn, 1), (27, .iconst 0, 1), (28, .istore_n 2, 1), (29, .iload_n 2, 1), (30, .aload_n 0, 1), (31, .getfield 192, 3), (34, .if_icmp .ge 20, 3), (37, .aload_n 0, 1), (38, .iload_n 2, 1), (39, .iload_n 1, 1), (40, .invokevirtual 348, 3), (43, .ifCond .eq 5, 3), (46, .iload_n 2, 1), (47, .ireturn, 1), (48, .iinc 2 1, 3), (51, .goto (-22), 3), (54, .iconst (-1), 1), (55, .ireturn, 1)]
set_option maxRecDepth 100000 in
theorem cd_d229 : ∀ q ∈ cd_t229, decode cX11_known q.1 = .ok q.2 := by decide +kernel
def cd_t230 : List (Nat × Instr × Nat) := [(0, .aload_n 0, 1), (1, .iconst 0, 1), (2, .putfield 95, 3), (5, .aload_n 0, 1), (6, .getfield 192, 3), (9, .ifCond .ne 5, 3), (12, .iconst (-1), 1), (13, .ireturn, 1), (14, .aload_n 0, 1), (15, .invokevirtual 345, 3), (18, .iconst 0, 1), (19, .istore_n 1, 1), (20, .iload_n 1, 1), (21, .aload_n 0, 1), (22, .getfield 330, 3), (25, .if_icmp .gt 16, 3), (28, .aload_n 0, 1), (29, .getfield 78, 3), (32, .iload_n 1, 1), (33, .iconst 0, 1), (34, .iastore, 1), (35, .iinc 1 1, 3), (38, .goto (-18), 3), (41, .iconst 0, 1), (42, .istore_n 1, 1), (43, .iload_n 1, 1), (44, .aload_n 0, 1), (45, .getfield 192, 3), (48, .if_icmp .ge 92, 3), (51, .iconst 0, 1), (52, .istore_n 2, 1), (53, .iconst 1, 1), (54, .istore_n 3, 1), (55, .iload_n 3, 1), (56, .aload_n 0, 1), (57, .getfield 330, 3), (60, .if_icmp .gt 74, 3), (63, .aload_n 0, 1), (64, .getfield 78, 3), (67, .iload_n 3, 1), (68, .iaload, 1), (69, .istore 4, 2), (71, .aload_n 0, 1), (72, .iload_n 1, 1), (73, .iload_n 3, 1), (74, .iconst 1, 1), (75, .isub, 1), (76, .invokevirtual 348, 3), (79, .ifCond .eq 15, 3), (82, .aload_n 0, 1), (83, .getfield 78, 3), (86, .iload_n 3, 1), (87, .iload_n 2, 1), (88, .iconst 1, 1), (89, .iadd, 1), (90, .iastore, 1), (91, .goto 34, 3), (94, .aload_n 0, 1), (95, .getfield 78, 3), (98, .iload_n 3, 1), (99, .iconst 1, 1), (100, .isub, 1), (101, .iaload, 1), (102, .aload_n 0, 1), (103, .getfield 78, 3), (106, .iload_n 3, 1), (107, .iaload, 1), (108, .if_icmp .le 17, 3), (111, .aload_n 0, 1), (112, .getfield 78, 3), (115, .iload_n 3, 1), (116, .aload_n 0, 1), (117, .getfield 78, 3), (120, .iload_n 3, 1), (121, .iconst 1, 1), (122, .isub, 1), (123, .iaload, 1), (124, .iastore, 1), (125, .iload 4, 2), (127, .istore_n 2, 1), (128, .iinc 3 1, 3), (131, .goto (-76), 3), (134, .iinc 1 1, 3), (137, .goto (-94), 3), (140, .aload_n 0, 1), (141, .getfield 78, 3), (144, .aload_n 0, 1), (145, .getfield 330, 3), (148, .iaload, 1), (149, .ireturn, 1)]
set_option maxRecDepth 100000 in
theorem cd_d230 : ∀ q ∈ cd_t230, decode cX11_restored q.1 = .ok q.2 := by decide +kernel
def cd_t231 : List (Nat × Instr × Nat) := [(0, .aload_n 0, 1), (1, .iconst 0, 1), (2, .putfield 95, 3), (5, .aload_n 0, 1), (6, .iload_n 1, 1), (7, .invokevirtual 230, 3), (10, .ifCond .ne 5, 3), (13, .iconst (-1), 1), (14, .ireturn, 1), (15, .aload_n 0, 1), (16, .iload_n 1, 1), (17, .invokevirtual 336, 3), (20, .aload_n 0, 1), (21, .getfield 300, 3), (24, .ireturn, 1)]
set_option maxRecDepth 100000 in
theorem cd_d231 : ∀ q ∈ cd_t231, decode cX11_costs_ q.1 = .ok q.2 := by decide +kernel
def cd_t232 : List (Nat × Instr × Nat) := [(0, .aload_n 0, 1), (1, .iconst 0, 1), (2, .putfield 95, 3), (5, .iload_n 1, 1), (6, .i2l, 1), (7, .lconst 0, 1), (8, .ldc2_w 204, 3), (11, .invokestatic 127, 3), (14, .ifCond .ne 5, 3), (17, .iconst (-1), 1), (18, .ireturn, 1), (19, .iconst (-1), 1), (20, .istore_n 2, 1), (21, .iconst 0, 1), (22, .istore_n 3, 1), (23, .iconst (-1), 1), (24, .istore 4, 2), (26, .iconst 0, 1), (27, .istore 5, 2), (29, .iload 5, 2), (31, .aload_n 0, 1), (32, .getfield 87, 3), (35, .if_icmp .ge 57, 3), (38, .aload_n 0, 1), (39, .iload 5, 2), (41, .invokevirtual 336, 3), (44, .iload_n 2, 1), (45, .ifCond .lt 14, 3), (48, .aload_n 0, 1), (49, .getfield 300, 3), (52, .iload_n 3, 1), (53, .if_icmp .lt 6, 3), (56, .goto 30, 3), (59, .iload 5, 2), (61, .istore_n 2, 1), (62, .aload_n 0, 1), (63, .getfield 300, 3), (66, .istore_n 3, 1), (67, .aload_n 0, 1), (68, .getfield 195, 3), (71, .ifCond .ne 7, 3), (74, .iconst (-1), 1), (75, .goto 9, 3), (78, .aload_n 0, 1), (79, .getfield 51, 3), (82, .iconst 0, 1), (83, .iaload, 1), (84, .istore 4, 2), (86, .iinc 5 1, 3), (89, .goto (-60), 3), (92, .iload_n 1, 1), (93, .ifCond .ne 5, 3), (96, .iload_n 2, 1), (97, .ireturn, 1), (98, .iload 4, 2), (100, .ifCond .ge 7, 3), (103, .iconst (-1), 1), (104, .goto 22, 3), (107, .iload_n 1, 1), (108, .iconst 1, 1), (109, .if_icmp .ne 11, 3), (112, .iload 4, 2), (114, .bipush 25, 2), (116, .idiv, 1), (117, .goto 9, 3), (120, .iload 4, 2), (122, .iconst 5, 1), (123, .idiv, 1), (124, .iconst 5, 1), (125, .irem, 1), (126, .ireturn, 1)]
set_option maxRecDepth 100000 in
theorem cd_d232 : ∀ q ∈ cd_t232, decode cX11_guess q.1 = .ok q.2 := by decide +kernel
def cd_t233 : List (Nat × Instr × Nat) := [(0, .aload_n 0, 1), (1, .invokevirtual 345, 3), (4, .aload_n 0, 1), (5, .iconst 0, 1), (6, .putfield 351, 3), (9, .iconst 0, 1), (10, .istore_n 2, 1), (11, .iconst 0, 1), (12, .istore_n 3, 1), (13, .iload_n 3, 1), (14, .aload_n 0, 1), (15, .getfield 330, 3), (18, .if_icmp .ge 84, 3), (21, .iconst 0, 1), (22, .istore 4, 2), (24, .iload 4, 2), (26, .aload_n 0, 1), (27, .getfield 23, 3), (30, .bipush 6, 2), (32, .iload_n 1, 1), (33, .imul, 1), (34, .iload_n 3, 1), (35, .aload_n 0, 1), (36, .getfield 20, 3), (39, .iload_n 1, 1), (40, .iaload, 1), (41, .irem, 1), (42, .iadd, 1), (43, .iaload, 1), (44, .if_icmp .ge 52, 3), (47, .aload_n 0, 1), (48, .getfield 351, 3), (51, .bipush 90, 2), (53, .if_icmp .ge 43, 3), (56, .aload_n 0, 1), (57, .getfield 81, 3), (60, .aload_n 0, 1), (61, .getfield 351, 3), (64, .iload_n 3, 1), (65, .iastore, 1), (66, .aload_n 0, 1), (67, .getfield 84, 3), (70, .aload_n 0, 1), (71, .getfield 351, 3), (74, .iload_n 2, 1), (75, .iastore, 1), (76, .iconst 1, 1), (77, .iload_n 2, 1), (78, .isub, 1), (79, .istore_n 2, 1), (80, .aload_n 0, 1), (81, .dup, 1), (82, .getfield 351, 3), (85, .iconst 1, 1), (86, .iadd, 1), (87, .putfield 351, 3), (90, .iinc 4 1, 3), (93, .goto (-69), 3), (96, .iinc 3 1, 3), (99, .goto (-86), 3), (102, .return_, 1)]
set_option maxRecDepth 100000 in
theorem cd_d233 : ∀ q ∈ cd_t233, decode cX11_laysAnew q.1 = .ok q.2 := by decide +kernel
def cd_t234 : List (Nat × Instr × Nat) := [(0, .aload_n 0, 1), (1, .aload_n 0, 1), (2, .getfield 75, 3), (5, .iconst 2, 1), (6, .aload_n 0, 1), (7, .getfield 81, 3), (10, .iload_n 1, 1), (11, .iaload, 1), (12, .imul, 1), (13, .aload_n 0, 1), (14, .getfield 84, 3), (17, .iload_n 1, 1), (18, .iaload, 1), (19, .iadd, 1), (20, .iaload, 1), (21, .iload_n 2, 1), (22, .invokevirtual 247, 3), (25, .ireturn, 1)]
set_option maxRecDepth 100000 in
theorem cd_d234 : ∀ q ∈ cd_t234, decode cX11_anewSample q.1 = .ok q.2 := by decide +kernel
def cd_t235 : List (Nat × Instr × Nat) := [(0, .aload_n 0, 1), (1, .iconst 0, 1), (2, .putfield 95, 3), (5, .aload_n 0, 1), (6, .iload_n 1, 1), (7, .invokevirtual 230, 3), (10, .ifCond .ne 5, 3), (13, .iconst (-1), 1), (14, .ireturn, 1), (15, .aload_n 0, 1), (16, .iload_n 1, 1), (17, .invokevirtual 354, 3), (20, .iload_n 3, 1), (21, .iconst (-1), 1), (22, .if_icmp .ne 8, 3), (25, .aload_n 0, 1), (26, .getfield 351, 3), (29, .ireturn, 1), (30, .iload_n 2, 1), (31, .i2l, 1), (32, .lconst 0, 1), (33, .aload_n 0, 1), (34, .getfield 351, 3), (37, .iconst 1, 1), (38, .isub, 1), (39, .i2l, 1), (40, .invokestatic 127, 3), (43, .ifCond .ne 5, 3), (46, .iconst (-1), 1), (47, .ireturn, 1), (48, .iload_n 3, 1), (49, .bipush (-2), 2), (51, .if_icmp .ne 10, 3), (54, .aload_n 0, 1), (55, .getfield 84, 3), (58, .iload_n 2, 1), (59, .iaload, 1), (60, .ireturn, 1), (61, .iload_n 3, 1), (62, .i2l, 1), (63, .lconst 0, 1), (64, .aload_n 0, 1), (65, .getfield 189, 3), (68, .iconst 1, 1), (69, .isub, 1), (70, .i2l, 1), (71, .invokestatic 127, 3), (74, .ifCond .eq 12, 3), (77, .aload_n 0, 1), (78, .iload_n 2, 1), (79, .iload_n 3, 1), (80, .invokevirtual 357, 3), (83, .goto 4, 3), (86, .iconst (-1), 1), (87, .ireturn, 1)]
set_option maxRecDepth 100000 in
theorem cd_d235 : ∀ q ∈ cd_t235, decode cX11_anew q.1 = .ok q.2 := by decide +kernel
def cd_t236 : List (Nat × Instr × Nat) := [(0, .aload_n 0, 1), (1, .iconst 0, 1), (2, .putfield 95, 3), (5, .aload_n 0, 1), (6, .iload_n 1, 1), (7, .invokevirtual 230, 3), (10, .ifCond .ne 5, 3), (13, .iconst 0, 1), (14, .ireturn, 1), (15, .aload_n 0, 1), (16, .iload_n 1, 1), (17, .invokevirtual 354, 3), (20, .aload_n 0, 1), (21, .getfield 351, 3), (24, .aload_n 0, 1), (25, .getfield 195, 3), (28, .if_icmp .eq 5, 3), (31, .iconst 0, 1), (32, .ireturn, 1), (33, .iconst 0, 1), (34, .istore_n 2, 1), (35, .iload_n 2, 1), (36, .aload_n 0, 1), (37, .getfield 351, 3), (40, .if_icmp .ge 58, 3), (43, .aload_n 0, 1), (44, .getfield 84, 3), (47, .iload_n 2, 1), (48, .iaload, 1), (49, .aload_n 0, 1), (50, .iload_n 2, 1), (51, .invokevirtual 258, 3), (54, .if_icmp .eq 5, 3), (57, .iconst 0, 1), (58, .ireturn, 1), (59, .iconst 0, 1), (60, .istore_n 3, 1), (61, .iload_n 3, 1), (62, .aload_n 0, 1), (63, .getfield 189, 3), (66, .if_icmp .ge 26, 3), (69, .aload_n 0, 1), (70, .iload_n 2, 1), (71, .iload_n 3, 1), (72, .invokevirtual 357, 3), (75, .aload_n 0, 1), (76, .iload_n 2, 1), (77, .iload_n 3, 1), (78, .invokevirtual 247, 3), (81, .if_icmp .eq 5, 3), (84, .iconst 0, 1), (85, .ireturn, 1), (86, .iinc 3 1, 3), (89, .goto (-28), 3), (92, .iinc 2 1, 3), (95, .goto (-60), 3), (98, .iconst 1, 1), (99, .ireturn, 1)]
set_option maxRecDepth 100000 in
theorem cd_d236 : ∀ q ∈ cd_t236, decode cX11_isClean q.1 = .ok q.2 := by decide +kernel
def cd_t237 : List (Nat × Instr × Nat) := [(0, .aload_n 0, 1), (1, .iconst 0, 1), (2, .putfield 95, 3), (5, .iload_n 1, 1), (6, .tableswitch 132 0 11 #[62, 67, 72, 77, 82, 87, 94, 101, 108, 115, 122, 127], 62), (68, .aload_n 0, 1), (69, .getfield 189, 3), (72, .ireturn, 1), (73, .aload_n 0, 1), (74, .getfield 192, 3), (77, .ireturn, 1), (78, .aload_n 0, 1), (79, .getfield 195, 3), (82, .ireturn, 1), (83, .aload_n 0, 1), (84, .getfield 87, 3), (87, .ireturn, 1), (88, .aload_n 0, 1), (89, .getfield 227, 3), (92, .ireturn, 1), (93, .aload_n 0, 1), (94, .getfield 26, 3), (97, .iconst 0, 1), (98, .iaload, 1), (99, .ireturn, 1), (100, .aload_n 0, 1), (101, .getfield 26, 3), (104, .iconst 1, 1), (105, .iaload, 1), (106, .ireturn, 1), (107, .aload_n 0, 1), (108, .getfield 26, 3), (111, .iconst 2, 1), (112, .iaload, 1), (113, .ireturn, 1), (114, .aload_n 0, 1), (115, .getfield 26, 3), (118, .iconst 3, 1), (119, .iaload, 1), (120, .ireturn, 1), (121, .aload_n 0, 1), (122, .getfield 26, 3), (125, .iconst 4, 1), (126, .iaload, 1), (127, .ireturn, 1), (128, .aload_n 0, 1), (129, .getfield 198, 3), (132, .ireturn, 1), (133, .aload_n 0, 1), (134, .getfield 98, 3), (137, .ireturn, 1), (138, .iconst (-1), 1), (139, .ireturn, 1)]
set_option maxRecDepth 100000 in
theorem cd_d237 : ∀ q ∈ cd_t237, decode cX11_count q.1 = .ok q.2 := by decide +kernel
def cd_t238 : List (Nat × Instr × Nat) := [(0, .aload_n 0, 1), (1, .getfield 9, 3), (4, .arraylength, 1), (5, .aload_n 0, 1), (6, .invokevirtual 335, 3), (9, .ishr, 1), (10, .ireturn, 1)]
set_option maxRecDepth 100000 in
theorem cd_d238 : ∀ q ∈ cd_t238, decode cJ0_length_8abf5 q.1 = .ok q.2 := by decide +kernel
def cd_t239 : List (Nat × Instr × Nat) := [(0, .aload_n 0, 1), (1, .invokevirtual 492, 3), (4, .ifCond .eq 12, 3), (7, .aload_n 0, 1), (8, .getfield 9, 3), (11, .iload_n 1, 1), (12, .invokestatic 495, 3), (15, .ireturn, 1), (16, .aload_n 0, 1), (17, .getfield 9, 3), (20, .iload_n 1, 1), (21, .invokestatic 498, 3), (24, .ireturn, 1)]
set_option maxRecDepth 100000 in
theorem cd_d239 : ∀ q ∈ cd_t239, decode cJ0_charAt_5068e q.1 = .ok q.2 := by decide +kernel
def cd_t240 : List (Nat × Instr × Nat) := [(0, .getstatic 38, 3), (3, .ifCond .eq 10, 3), (6, .aload_n 0, 1), (7, .getfield 15, 3), (10, .goto 4, 3), (13, .iconst 1, 1), (14, .ireturn, 1)]
set_option maxRecDepth 100000 in
theorem cd_d240 : ∀ q ∈ cd_t240, decode cJ0_coder_7d493 q.1 = .ok q.2 := by decide +kernel
def cd_t241 : List (Nat × Instr × Nat) := [(0, .getstatic 38, 3), (3, .ifCond .eq 14, 3), (6, .aload_n 0, 1), (7, .getfield 15, 3), (10, .ifCond .ne 7, 3), (13, .iconst 1, 1), (14, .goto 4, 3), (17, .iconst 0, 1), (18, .ireturn, 1)]
set_option maxRecDepth 100000 in
theorem cd_d241 : ∀ q ∈ cd_t241, decode cJ0_isLatin1_aae02 q.1 = .ok q.2 := by decide +kernel
def cd_t242 : List (Nat × Instr × Nat) := [(0, .iload_n 0, 1), (1, .iload_n 1, 1), (2, .getstatic 1053, 3), (5, .invokestatic 1059, 3), (8, .pop, 1), (9, .return_, 1)]
set_option maxRecDepth 100000 in
theorem cd_d242 : ∀ q ∈ cd_t242, decode cJ0_checkIndex_df160 q.1 = .ok q.2 := by decide +kernel
def cd_t243 : List (Nat × Instr × Nat) := [(0, .iload_n 1, 1), (1, .aload_n 0, 1), (2, .arraylength, 1), (3, .invokestatic 9, 3), (6, .aload_n 0, 1), (7, .iload_n 1, 1), (8, .baload, 1), (9, .sipush 255, 3), (12, .iand, 1), (13, .i2c, 1), (14, .ireturn, 1)]
set_option maxRecDepth 100000 in
theorem cd_d243 : ∀ q ∈ cd_t243, decode cJ1_charAt_3b067 q.1 = .ok q.2 := by decide +kernel
def cd_t244 : List (Nat × Instr × Nat) := [(0, .iload_n 0, 1), (1, .ifCond .lt 8, 3), (4, .iload_n 0, 1), (5, .iload_n 1, 1), (6, .if_icmp .lt 10, 3), (9, .aload_n 2, 1), (10, .iload_n 0, 1), (11, .iload_n 1, 1), (12, .invokestatic 95, 3), (15, .athrow, 1), (16, .iload_n 0, 1), (17, .ireturn, 1)]
set_option maxRecDepth 100000 in
theorem cd_d244 : ∀ q ∈ cd_t244, decode cJ3_checkIndex_8e157 q.1 = .ok q.2 := by decide +kernel
end
section
/-! all code rows in one table, and what the tables of the claim say of them -/
def cd_codes_0 : List (ByteArray × List (Nat × Instr × Nat)) := [(cX0_states, cd_t0), (cX0_forget, cd_t1), (cX0_costBy, cd_t2), (cX0_firstPlace, cd_t3), (cX0_firstStep, cd_t4), (cX0_entry, cd_t5), (cX0_goesOn, cd_t6), (cX0_solve, cd_t7), (cX0_weighStates, cd_t8), (cX0_isBetterOn, cd_t9), (cX0_leastEntry, cd_t10), (cX1_begin, cd_t11), (cX1_width, cd_t12), (cX1_size, cd_t13), (cX1_has, cd_t14), (cX1_add, cd_t15), (cX1_row, cd_t16), (cX1_isSame, cd_t17), (cX1_copyFrom, cd_t18), (cX2_gather, cd_t19), (cX2_addField, cd_t20), (cX2_mateOrphans, cd_t21), (cX2_canMate, cd_t22), (cX2_rebuildFrames, cd_t23), (cX2_partner, cd_t24), (cX2_addFrame, cd_t25), (cX2_has, cd_t26), (cX2_size, cd_t27), (cX2_orphans, cd_t28), (cX2_pairs, cd_t29), (cX2_frames, cd_t30), (cX2_groupOf, cd_t31), (cX2_frameOf, cd_t32), (cX2_start, cd_t33), (cX2_length, cd_t34)]
theorem cd_codes_0_ok : ∀ e ∈ cd_codes_0, ∀ q ∈ e.2, decode e.1 q.1 = .ok q.2 := List.forall_mem_cons.mpr ⟨cd_d0, List.forall_mem_cons.mpr ⟨cd_d1, List.forall_mem_cons.mpr ⟨cd_d2, List.forall_mem_cons.mpr ⟨cd_d3, List.forall_mem_cons.mpr ⟨cd_d4, List.forall_mem_cons.mpr ⟨cd_d5, List.forall_mem_cons.mpr ⟨cd_d6, List.forall_mem_cons.mpr ⟨cd_d7, List.forall_mem_cons.mpr ⟨cd_d8, List.forall_mem_cons.mpr ⟨cd_d9, List.forall_mem_cons.mpr ⟨cd_d10, List.forall_mem_cons.mpr ⟨cd_d11, List.forall_mem_cons.mpr ⟨cd_d12, List.forall_mem_cons.mpr ⟨cd_d13, List.forall_mem_cons.mpr ⟨cd_d14, List.forall_mem_cons.mpr ⟨cd_d15, List.forall_mem_cons.mpr ⟨cd_d16, List.forall_mem_cons.mpr ⟨cd_d17, List.forall_mem_cons.mpr ⟨cd_d18, List.forall_mem_cons.mpr ⟨cd_d19, List.forall_mem_cons.mpr ⟨cd_d20, List.forall_mem_cons.mpr ⟨cd_d21, List.forall_mem_cons.mpr ⟨cd_d22, List.forall_mem_cons.mpr ⟨cd_d23, List.forall_mem_cons.mpr ⟨cd_d24, List.forall_mem_cons.mpr ⟨cd_d25, List.forall_mem_cons.mpr ⟨cd_d26, List.forall_mem_cons.mpr ⟨cd_d27, List.forall_mem_cons.mpr ⟨cd_d28, List.forall_mem_cons.mpr ⟨cd_d29, List.forall_mem_cons.mpr ⟨cd_d30, List.forall_mem_cons.mpr ⟨cd_d31, List.forall_mem_cons.mpr ⟨cd_d32, List.forall_mem_cons.mpr ⟨cd_d33, List.forall_mem_cons.mpr ⟨cd_d34, fun _ h => absurd h List.not_mem_nil⟩⟩⟩⟩⟩⟩⟩⟩⟩⟩⟩⟩⟩⟩⟩⟩⟩⟩⟩⟩⟩⟩⟩⟩⟩⟩⟩⟩⟩⟩⟩⟩⟩⟩⟩
def cd_codes_1 : List (ByteArray × List (Nat × Instr × Nat)) := [(cX2_isOrphan, cd_t35), (cX2_mateOf, cd_t36), (cX3_size, cd_t37), (cX3_empty, cd_t38), (cX3_keep, cd_t39), (cX3_giveBack, cd_t40), (cX4_size, cd_t41), (cX4_empty, cd_t42), (cX4_has, cd_t43), (cX4_hasSpan, cd_t44), (cX4_row, cd_t45), (cX4_parity, cd_t46), (cX4_sample, cd_t47), (cX4_putSample, cd_t48), (cX4_carryFrames, cd_t49), (cX4_addField, cd_t50), (cX4_removeSpan, cd_t51), (cX4_repeatSpan, cd_t52), (cX4_disturb, cd_t53), (cX4_isSame, cd_t54), (cX5_clear, cd_t55), (cX5_addCadence, cd_t56), (cX5_addNumber, cd_t57), (cX5_putValue, cd_t58), (cX5_copyFrom, cd_t59), (cX5_cadences, cd_t60), (cX5_hasCadence, cd_t61), (cX5_length, cd_t62), (cX5_hasPlace, cd_t63), (cX5_number, cd_t64), (cX5_value, cd_t65), (cX5_distance, cd_t66), (cX5_costOfRepeat, cd_t67), (cX5_costOfFresh, cd_t68), (cX6_size, cd_t69)]
theorem cd_codes_1_ok : ∀ e ∈ cd_codes_1, ∀ q ∈ e.2, decode e.1 q.1 = .ok q.2 := List.forall_mem_cons.mpr ⟨cd_d35, List.forall_mem_cons.mpr ⟨cd_d36, List.forall_mem_cons.mpr ⟨cd_d37, List.forall_mem_cons.mpr ⟨cd_d38, List.forall_mem_cons.mpr ⟨cd_d39, List.forall_mem_cons.mpr ⟨cd_d40, List.forall_mem_cons.mpr ⟨cd_d41, List.forall_mem_cons.mpr ⟨cd_d42, List.forall_mem_cons.mpr ⟨cd_d43, List.forall_mem_cons.mpr ⟨cd_d44, List.forall_mem_cons.mpr ⟨cd_d45, List.forall_mem_cons.mpr ⟨cd_d46, List.forall_mem_cons.mpr ⟨cd_d47, List.forall_mem_cons.mpr ⟨cd_d48, List.forall_mem_cons.mpr ⟨cd_d49, List.forall_mem_cons.mpr ⟨cd_d50, List.forall_mem_cons.mpr ⟨cd_d51, List.forall_mem_cons.mpr ⟨cd_d52, List.forall_mem_cons.mpr ⟨cd_d53, List.forall_mem_cons.mpr ⟨cd_d54, List.forall_mem_cons.mpr ⟨cd_d55, List.forall_mem_cons.mpr ⟨cd_d56, List.forall_mem_cons.mpr ⟨cd_d57, List.forall_mem_cons.mpr ⟨cd_d58, List.forall_mem_cons.mpr ⟨cd_d59, List.forall_mem_cons.mpr ⟨cd_d60, List.forall_mem_cons.mpr ⟨cd_d61, List.forall_mem_cons.mpr ⟨cd_d62, List.forall_mem_cons.mpr ⟨cd_d63, List.forall_mem_cons.mpr ⟨cd_d64, List.forall_mem_cons.mpr ⟨cd_d65, List.forall_mem_cons.mpr ⟨cd_d66, List.forall_mem_cons.mpr ⟨cd_d67, List.forall_mem_cons.mpr ⟨cd_d68, List.forall_mem_cons.mpr ⟨cd_d69, fun _ h => absurd h List.not_mem_nil⟩⟩⟩⟩⟩⟩⟩⟩⟩⟩⟩⟩⟩⟩⟩⟩⟩⟩⟩⟩⟩⟩⟩⟩⟩⟩⟩⟩⟩⟩⟩⟩⟩⟩⟩
def cd_codes_2 : List (ByteArray × List (Nat × Instr × Nat)) := [(cX6_place, cd_t70), (cX6_step, cd_t71), (cX6_seen, cd_t72), (cX6_next, cd_t73), (cX6_has, cd_t74), (cX6_build, cd_t75), (cX6_addPlace, cd_t76), (cX6_addState, cd_t77), (cX6_firstOfStep, cd_t78), (cX7_hasRoom, cd_t79), (cX7_put, cd_t80), (cX7_size, cd_t81), (cX7_holds, cd_t82), (cX7_empty, cd_t83), (cX7_open, cd_t84), (cX7_kind, cd_t85), (cX7_start, cd_t86), (cX7_number, cd_t87), (cX7_advance, cd_t88), (cX7_isWord, cd_t89), (cX7_passWord, cd_t90), (cX7_passNumber, cd_t91), (cX7_byteAt, cd_t92), (cX7_isBlank, cd_t93), (cX7_isLetter, cd_t94), (cX7_isDigit, cd_t95), (cX8_tape, cd_t96), (cX8_frames, cd_t97), (cX8_rulesRead, cd_t98), (cX8_fault, cd_t99), (cX8_readFilm, cd_t100), (cX8_readFrame, cd_t101), (cX8_readRules, cd_t102), (cX8_readCadence, cd_t103), (cX8_valueTold, cd_t104)]
theorem cd_codes_2_ok : ∀ e ∈ cd_codes_2, ∀ q ∈ e.2, decode e.1 q.1 = .ok q.2 := List.forall_mem_cons.mpr ⟨cd_d70, List.forall_mem_cons.mpr ⟨cd_d71, List.forall_mem_cons.mpr ⟨cd_d72, List.forall_mem_cons.mpr ⟨cd_d73, List.forall_mem_cons.mpr ⟨cd_d74, List.forall_mem_cons.mpr ⟨cd_d75, List.forall_mem_cons.mpr ⟨cd_d76, List.forall_mem_cons.mpr ⟨cd_d77, List.forall_mem_cons.mpr ⟨cd_d78, List.forall_mem_cons.mpr ⟨cd_d79, List.forall_mem_cons.mpr ⟨cd_d80, List.forall_mem_cons.mpr ⟨cd_d81, List.forall_mem_cons.mpr ⟨cd_d82, List.forall_mem_cons.mpr ⟨cd_d83, List.forall_mem_cons.mpr ⟨cd_d84, List.forall_mem_cons.mpr ⟨cd_d85, List.forall_mem_cons.mpr ⟨cd_d86, List.forall_mem_cons.mpr ⟨cd_d87, List.forall_mem_cons.mpr ⟨cd_d88, List.forall_mem_cons.mpr ⟨cd_d89, List.forall_mem_cons.mpr ⟨cd_d90, List.forall_mem_cons.mpr ⟨cd_d91, List.forall_mem_cons.mpr ⟨cd_d92, List.forall_mem_cons.mpr ⟨cd_d93, List.forall_mem_cons.mpr ⟨cd_d94, List.forall_mem_cons.mpr ⟨cd_d95, List.forall_mem_cons.mpr ⟨cd_d96, List.forall_mem_cons.mpr ⟨cd_d97, List.forall_mem_cons.mpr ⟨cd_d98, List.forall_mem_cons.mpr ⟨cd_d99, List.forall_mem_cons.mpr ⟨cd_d100, List.forall_mem_cons.mpr ⟨cd_d101, List.forall_mem_cons.mpr ⟨cd_d102, List.forall_mem_cons.mpr ⟨cd_d103, List.forall_mem_cons.mpr ⟨cd_d104, fun _ h => absurd h List.not_mem_nil⟩⟩⟩⟩⟩⟩⟩⟩⟩⟩⟩⟩⟩⟩⟩⟩⟩⟩⟩⟩⟩⟩⟩⟩⟩⟩⟩⟩⟩⟩⟩⟩⟩⟩⟩
def cd_codes_3 : List (ByteArray × List (Nat × Instr × Nat)) := [(cX8_readValue, cd_t105), (cX8_takeMeasure, cd_t106), (cX8_takeWord, cd_t107), (cX8_takeSemicolon, cd_t108), (cX8_takeNumber, cd_t109), (cX8_isNumberWithin, cd_t110), (cX8_refuse, cd_t111), (cX9_follow, cd_t112), (cX9_addField, cd_t113), (cX9_putPrice, cd_t114), (cX9_has, cd_t115), (cX9_place, cd_t116), (cX9_step, cd_t117), (cX9_seen, cd_t118), (cX9_isEdit, cd_t119), (cX9_price, cd_t120), (cX9_isKept, cd_t121), (cX9_fieldOfEdit, cd_t122), (cX9_edits, cd_t123), (cX9_dropped, cd_t124), (cX9_total, cd_t125), (cX10_feed, cd_t126), (cX10_film, cd_t127), (cX10_rules, cd_t128), (cX10_frame, cd_t129), (cX10_cadence, cd_t130), (cX10_force, cd_t131), (cX10_carry, cd_t132), (cX10_cut, cd_t133), (cX10_doubled, cd_t134), (cX10_noise, cd_t135), (cX10_set, cd_t136), (cX10_undo, cd_t137), (cX10_apart, cd_t138), (cX10_path, cd_t139)]
theorem cd_codes_3_ok : ∀ e ∈ cd_codes_3, ∀ q ∈ e.2, decode e.1 q.1 = .ok q.2 := List.forall_mem_cons.mpr ⟨cd_d105, List.forall_mem_cons.mpr ⟨cd_d106, List.forall_mem_cons.mpr ⟨cd_d107, List.forall_mem_cons.mpr ⟨cd_d108, List.forall_mem_cons.mpr ⟨cd_d109, List.forall_mem_cons.mpr ⟨cd_d110, List.forall_mem_cons.mpr ⟨cd_d111, List.forall_mem_cons.mpr ⟨cd_d112, List.forall_mem_cons.mpr ⟨cd_d113, List.forall_mem_cons.mpr ⟨cd_d114, List.forall_mem_cons.mpr ⟨cd_d115, List.forall_mem_cons.mpr ⟨cd_d116, List.forall_mem_cons.mpr ⟨cd_d117, List.forall_mem_cons.mpr ⟨cd_d118, List.forall_mem_cons.mpr ⟨cd_d119, List.forall_mem_cons.mpr ⟨cd_d120, List.forall_mem_cons.mpr ⟨cd_d121, List.forall_mem_cons.mpr ⟨cd_d122, List.forall_mem_cons.mpr ⟨cd_d123, List.forall_mem_cons.mpr ⟨cd_d124, List.forall_mem_cons.mpr ⟨cd_d125, List.forall_mem_cons.mpr ⟨cd_d126, List.forall_mem_cons.mpr ⟨cd_d127, List.forall_mem_cons.mpr ⟨cd_d128, List.forall_mem_cons.mpr ⟨cd_d129, List.forall_mem_cons.mpr ⟨cd_d130, List.forall_mem_cons.mpr ⟨cd_d131, List.forall_mem_cons.mpr ⟨cd_d132, List.forall_mem_cons.mpr ⟨cd_d133, List.forall_mem_cons.mpr ⟨cd_d134, List.forall_mem_cons.mpr ⟨cd_d135, List.forall_mem_cons.mpr ⟨cd_d136, List.forall_mem_cons.mpr ⟨cd_d137, List.forall_mem_cons.mpr ⟨cd_d138, List.forall_mem_cons.mpr ⟨cd_d139, fun _ h => absurd h List.not_mem_nil⟩⟩⟩⟩⟩⟩⟩⟩⟩⟩⟩⟩⟩⟩⟩⟩⟩⟩⟩⟩⟩⟩⟩⟩⟩⟩⟩⟩⟩⟩⟩⟩⟩⟩⟩
def cd_codes_4 : List (ByteArray × List (Nat × Instr × Nat)) := [(cX10_all, cd_t140), (cX10_edit, cd_t141), (cX10_group, cd_t142), (cX10_found, cd_t143), (cX10_known, cd_t144), (cX10_restored, cd_t145), (cX10_costs, cd_t146), (cX10_guess, cd_t147), (cX10_anew, cd_t148), (cX10_isClean, cd_t149), (cX10_count, cd_t150), (cX10_beginAct, cd_t151), (cX10_forgetPaths, cd_t152), (cX10_followPath, cd_t153), (cX10_mostInOrder, cd_t154), (cX10_sampleOfFrame, cd_t155), (cX10_isSampleNumber, cd_t156), (cX10_isParity, cd_t157), (cX10_sampleOf, cd_t158), (cX10_withSample, cd_t159), (cX11_thrown, cd_t160), (cX11_within, cd_t161), (cX11_puts, cd_t162), (cX11_feed, cd_t163), (cX11_see, cd_t164), (cX11_steps, cd_t165), (cX11_must, cd_t166), (cX11_isWord, cd_t167), (cX11_isFrame, cd_t168), (cX11_takesEnd, cd_t169), (cX11_takesNumber, cd_t170), (cX11_begins, cd_t171), (cX11_told, cd_t172), (cX11_filmAt, cd_t173), (cX11_frameHere, cd_t174)]
theorem cd_codes_4_ok : ∀ e ∈ cd_codes_4, ∀ q ∈ e.2, decode e.1 q.1 = .ok q.2 := List.forall_mem_cons.mpr ⟨cd_d140, List.forall_mem_cons.mpr ⟨cd_d141, List.forall_mem_cons.mpr ⟨cd_d142, List.forall_mem_cons.mpr ⟨cd_d143, List.forall_mem_cons.mpr ⟨cd_d144, List.forall_mem_cons.mpr ⟨cd_d145, List.forall_mem_cons.mpr ⟨cd_d146, List.forall_mem_cons.mpr ⟨cd_d147, List.forall_mem_cons.mpr ⟨cd_d148, List.forall_mem_cons.mpr ⟨cd_d149, List.forall_mem_cons.mpr ⟨cd_d150, List.forall_mem_cons.mpr ⟨cd_d151, List.forall_mem_cons.mpr ⟨cd_d152, List.forall_mem_cons.mpr ⟨cd_d153, List.forall_mem_cons.mpr ⟨cd_d154, List.forall_mem_cons.mpr ⟨cd_d155, List.forall_mem_cons.mpr ⟨cd_d156, List.forall_mem_cons.mpr ⟨cd_d157, List.forall_mem_cons.mpr ⟨cd_d158, List.forall_mem_cons.mpr ⟨cd_d159, List.forall_mem_cons.mpr ⟨cd_d160, List.forall_mem_cons.mpr ⟨cd_d161, List.forall_mem_cons.mpr ⟨cd_d162, List.forall_mem_cons.mpr ⟨cd_d163, List.forall_mem_cons.mpr ⟨cd_d164, List.forall_mem_cons.mpr ⟨cd_d165, List.forall_mem_cons.mpr ⟨cd_d166, List.forall_mem_cons.mpr ⟨cd_d167, List.forall_mem_cons.mpr ⟨cd_d168, List.forall_mem_cons.mpr ⟨cd_d169, List.forall_mem_cons.mpr ⟨cd_d170, List.forall_mem_cons.mpr ⟨cd_d171, List.forall_mem_cons.mpr ⟨cd_d172, List.forall_mem_cons.mpr ⟨cd_d173, List.forall_mem_cons.mpr ⟨cd_d174, fun _ h => absurd h List.not_mem_nil⟩⟩⟩⟩⟩⟩⟩⟩⟩⟩⟩⟩⟩⟩⟩⟩⟩⟩⟩⟩⟩⟩⟩⟩⟩⟩⟩⟩⟩⟩⟩⟩⟩⟩⟩
def cd_codes_5 : List (ByteArray × List (Nat × Instr × Nat)) := [(cX11_readsFilm, cd_t175), (cX11_film, cd_t176), (cX11_asAtFirst, cd_t177), (cX11_cadenceHere, cd_t178), (cX11_measureHere, cd_t179), (cX11_ruleHere, cd_t180), (cX11_oneRule, cd_t181), (cX11_lineHere, cd_t182), (cX11_readsRules, cd_t183), (cX11_rules, cd_t184), (cX11_isCadence, cd_t185), (cX11_frame, cd_t186), (cX11_cadence, cd_t187), (cX11_force, cd_t188), (cX11_isField, cd_t189), (cX11_parityOf, cd_t190), (cX11_sample, cd_t191), (cX11_copiesField, cd_t192), (cX11_keeps, cd_t193), (cX11_carry, cd_t194), (cX11_areThere, cd_t195), (cX11_cut, cd_t196), (cX11_doubled, cd_t197), (cX11_noise, cd_t198), (cX11_set, cd_t199), (cX11_undo, cd_t200), (cX11_field, cd_t201), (cX11_apartOf, cd_t202), (cX11_apart, cd_t203), (cX11_areAlike, cd_t204), (cX11_stateOf, cd_t205), (cX11_numberAt, cd_t206), (cX11_isState, cd_t207), (cX11_laysCosts, cd_t208), (cX11_costAt, cd_t209)]
theorem cd_codes_5_ok : ∀ e ∈ cd_codes_5, ∀ q ∈ e.2, decode e.1 q.1 = .ok q.2 := List.forall_mem_cons.mpr ⟨cd_d175, List.forall_mem_cons.mpr ⟨cd_d176, List.forall_mem_cons.mpr ⟨cd_d177, List.forall_mem_cons.mpr ⟨cd_d178, List.forall_mem_cons.mpr ⟨cd_d179, List.forall_mem_cons.mpr ⟨cd_d180, List.forall_mem_cons.mpr ⟨cd_d181, List.forall_mem_cons.mpr ⟨cd_d182, List.forall_mem_cons.mpr ⟨cd_d183, List.forall_mem_cons.mpr ⟨cd_d184, List.forall_mem_cons.mpr ⟨cd_d185, List.forall_mem_cons.mpr ⟨cd_d186, List.forall_mem_cons.mpr ⟨cd_d187, List.forall_mem_cons.mpr ⟨cd_d188, List.forall_mem_cons.mpr ⟨cd_d189, List.forall_mem_cons.mpr ⟨cd_d190, List.forall_mem_cons.mpr ⟨cd_d191, List.forall_mem_cons.mpr ⟨cd_d192, List.forall_mem_cons.mpr ⟨cd_d193, List.forall_mem_cons.mpr ⟨cd_d194, List.forall_mem_cons.mpr ⟨cd_d195, List.forall_mem_cons.mpr ⟨cd_d196, List.forall_mem_cons.mpr ⟨cd_d197, List.forall_mem_cons.mpr ⟨cd_d198, List.forall_mem_cons.mpr ⟨cd_d199, List.forall_mem_cons.mpr ⟨cd_d200, List.forall_mem_cons.mpr ⟨cd_d201, List.forall_mem_cons.mpr ⟨cd_d202, List.forall_mem_cons.mpr ⟨cd_d203, List.forall_mem_cons.mpr ⟨cd_d204, List.forall_mem_cons.mpr ⟨cd_d205, List.forall_mem_cons.mpr ⟨cd_d206, List.forall_mem_cons.mpr ⟨cd_d207, List.forall_mem_cons.mpr ⟨cd_d208, List.forall_mem_cons.mpr ⟨cd_d209, fun _ h => absurd h List.not_mem_nil⟩⟩⟩⟩⟩⟩⟩⟩⟩⟩⟩⟩⟩⟩⟩⟩⟩⟩⟩⟩⟩⟩⟩⟩⟩⟩⟩⟩⟩⟩⟩⟩⟩⟩⟩
def cd_codes_6 : List (ByteArray × List (Nat × Instr × Nat)) := [(cX11_on, cd_t210), (cX11_costs, cd_t211), (cX11_leastBehind, cd_t212), (cX11_laysRest, cd_t213), (cX11_goes, cd_t214), (cX11_laysPath, cd_t215), (cX11_costOf, cd_t216), (cX11_isOrphan, cd_t217), (cX11_loneOf, cd_t218), (cX11_laysGroups, cd_t219), (cX11_canMate, cd_t220), (cX11_laysFound, cd_t221), (cX11_laysAll, cd_t222), (cX11_path, cd_t223), (cX11_all, cd_t224), (cX11_edit, cd_t225), (cX11_group, cd_t226), (cX11_found, cd_t227), (cX11_areSame, cd_t228), (cX11_known, cd_t229), (cX11_restored, cd_t230), (cX11_costs_, cd_t231), (cX11_guess, cd_t232), (cX11_laysAnew, cd_t233), (cX11_anewSample, cd_t234), (cX11_anew, cd_t235), (cX11_isClean, cd_t236), (cX11_count, cd_t237), (cJ0_length_8abf5, cd_t238), (cJ0_charAt_5068e, cd_t239), (cJ0_coder_7d493, cd_t240), (cJ0_isLatin1_aae02, cd_t241), (cJ0_checkIndex_df160, cd_t242), (cJ1_charAt_3b067, cd_t243), (cJ3_checkIndex_8e157, cd_t244)]
theorem cd_codes_6_ok : ∀ e ∈ cd_codes_6, ∀ q ∈ e.2, decode e.1 q.1 = .ok q.2 := List.forall_mem_cons.mpr ⟨cd_d210, List.forall_mem_cons.mpr ⟨cd_d211, List.forall_mem_cons.mpr ⟨cd_d212, List.forall_mem_cons.mpr ⟨cd_d213, List.forall_mem_cons.mpr ⟨cd_d214, List.forall_mem_cons.mpr ⟨cd_d215, List.forall_mem_cons.mpr ⟨cd_d216, List.forall_mem_cons.mpr ⟨cd_d217, List.forall_mem_cons.mpr ⟨cd_d218, List.forall_mem_cons.mpr ⟨cd_d219, List.forall_mem_cons.mpr ⟨cd_d220, List.forall_mem_cons.mpr ⟨cd_d221, List.forall_mem_cons.mpr ⟨cd_d222, List.forall_mem_cons.mpr ⟨cd_d223, List.forall_mem_cons.mpr ⟨cd_d224, List.forall_mem_cons.mpr ⟨cd_d225, List.forall_mem_cons.mpr ⟨cd_d226, List.forall_mem_cons.mpr ⟨cd_d227, List.forall_mem_cons.mpr ⟨cd_d228, List.forall_mem_cons.mpr ⟨cd_d229, List.forall_mem_cons.mpr ⟨cd_d230, List.forall_mem_cons.mpr ⟨cd_d231, List.forall_mem_cons.mpr ⟨cd_d232, List.forall_mem_cons.mpr ⟨cd_d233, List.forall_mem_cons.mpr ⟨cd_d234, List.forall_mem_cons.mpr ⟨cd_d235, List.forall_mem_cons.mpr ⟨cd_d236, List.forall_mem_cons.mpr ⟨cd_d237, List.forall_mem_cons.mpr ⟨cd_d238, List.forall_mem_cons.mpr ⟨cd_d239, List.forall_mem_cons.mpr ⟨cd_d240, List.forall_mem_cons.mpr ⟨cd_d241, List.forall_mem_cons.mpr ⟨cd_d242, List.forall_mem_cons.mpr ⟨cd_d243, List.forall_mem_cons.mpr ⟨cd_d244, fun _ h => absurd h List.not_mem_nil⟩⟩⟩⟩⟩⟩⟩⟩⟩⟩⟩⟩⟩⟩⟩⟩⟩⟩⟩⟩⟩⟩⟩⟩⟩⟩⟩⟩⟩⟩⟩⟩⟩⟩⟩
def cd_codes : List (ByteArray × List (Nat × Instr × Nat)) := cd_codes_0 ++ (cd_codes_1 ++ (cd_codes_2 ++ (cd_codes_3 ++ (cd_codes_4 ++ (cd_codes_5 ++ (cd_codes_6))))))
theorem cd_codes_ok : ∀ e ∈ cd_codes, ∀ q ∈ e.2, decode e.1 q.1 = .ok q.2 := List.forall_mem_append.mpr ⟨cd_codes_0_ok, List.forall_mem_append.mpr ⟨cd_codes_1_ok, List.forall_mem_append.mpr ⟨cd_codes_2_ok, List.forall_mem_append.mpr ⟨cd_codes_3_ok, List.forall_mem_append.mpr ⟨cd_codes_4_ok, List.forall_mem_append.mpr ⟨cd_codes_5_ok, cd_codes_6_ok⟩⟩⟩⟩⟩⟩
def cd_code (y : Nat) : ByteArray × List (Nat × Instr × Nat) := cd_codes.getD y (⟨#[]⟩, [])
def cd_y (y : Nat) : MethodName := cd_my.getD y ⟨"", "", ""⟩
def cd_c (o : Nat) : String := cd_cn.getD o ""
def cd_strI : List (Nat × Nat × Nat) := [(8, 47, 0), (8, 72, 1), (8, 99, 2), (8, 122, 3), (8, 124, 4), (8, 126, 5), (8, 128, 6), (8, 130, 7), (8, 139, 8), (8, 141, 9), (8, 143, 10), (10, 206, 11), (10, 214, 12)]
def cd_F (ci : Nat) : vw_C := cd_cl.getD ci ("", fun _ => ("", "", "", false), 0)
def cd_tb : Nat → List Cond
  | 0 => k2_sels lw_privs
  | 1 => tables_1_1
  | 2 => tables_1_2
  | 3 => tables_1_3
  | 4 => tables_1_4
  | 5 => tables_1_5
  | 6 => tables_1_6
  | 7 => tables_1_7
  | 8 => tables_1_8
  | _ => []
def cd_big : List Cond := lw_tbl.filter goodWord
theorem cd_tb_in : ∀ (k : Nat) (w : Cond), w ∈ cd_tb k → w ∈ lw_tbl
  | 0, w, h => List.mem_append_left _ h
  | 1, w, h => by
    have h : w ∈ tables_1_1 := h
    simp only [lw_tbl, tables_1, List.mem_append]
    simp [h]
  | 2, w, h => by
    have h : w ∈ tables_1_2 := h
    simp only [lw_tbl, tables_1, List.mem_append]
    simp [h]
  | 3, w, h => by
    have h : w ∈ tables_1_3 := h
    simp only [lw_tbl, tables_1, List.mem_append]
    simp [h]
  | 4, w, h => by
    have h : w ∈ tables_1_4 := h
    simp only [lw_tbl, tables_1, List.mem_append]
    simp [h]
  | 5, w, h => by
    have h : w ∈ tables_1_5 := h
    simp only [lw_tbl, tables_1, List.mem_append]
    simp [h]
  | 6, w, h => by
    have h : w ∈ tables_1_6 := h
    simp only [lw_tbl, tables_1, List.mem_append]
    simp [h]
  | 7, w, h => by
    have h : w ∈ tables_1_7 := h
    simp only [lw_tbl, tables_1, List.mem_append]
    simp [h]
  | 8, w, h => by
    have h : w ∈ tables_1_8 := h
    simp only [lw_tbl, tables_1, List.mem_append]
    simp [h]
  | k + 9, w, h => absurd h List.not_mem_nil
theorem cd_m (k j : Nat) {w : Cond} (h : (cd_tb k)[j]? = some w) (hg : goodWord w = true) : w ∈ cd_big := List.mem_filter.mpr ⟨cd_tb_in k w (List.mem_of_getElem? h), hg⟩
end
section
/-! the words that the machine's rows need, by their places -/
def cd_mP (y : Nat) : Prop := Cond.code (cd_y y) (cd_code y).1 (cd_ml.getD y 0) (cd_mr.getD y none) ∈ cd_big
theorem cd_w0 : cd_mP 0 := cd_m 4 172 rfl rfl
theorem cd_w1 : cd_mP 1 := cd_m 3 79 rfl rfl
theorem cd_w2 : cd_mP 2 := cd_m 5 116 rfl rfl
theorem cd_w3 : cd_mP 3 := cd_m 5 125 rfl rfl
theorem cd_w4 : cd_mP 4 := cd_m 5 129 rfl rfl
theorem cd_w5 : cd_mP 5 := cd_m 4 141 rfl rfl
theorem cd_w6 : cd_mP 6 := cd_m 4 168 rfl rfl
theorem cd_w7 : cd_mP 7 := cd_m 4 78 rfl rfl
theorem cd_w8 : cd_mP 8 := cd_m 4 100 rfl rfl
theorem cd_w9 : cd_mP 9 := cd_m 4 137 rfl rfl
theorem cd_w10 : cd_mP 10 := cd_m 4 149 rfl rfl
theorem cd_w11 : cd_mP 11 := cd_m 3 15 rfl rfl
theorem cd_w12 : cd_mP 12 := cd_m 3 28 rfl rfl
theorem cd_w13 : cd_mP 13 := cd_m 3 83 rfl rfl
theorem cd_w14 : cd_mP 14 := cd_m 3 62 rfl rfl
theorem cd_w15 : cd_mP 15 := cd_m 3 37 rfl rfl
theorem cd_w16 : cd_mP 16 := cd_m 3 58 rfl rfl
theorem cd_w17 : cd_mP 17 := cd_m 5 99 rfl rfl
theorem cd_w18 : cd_mP 18 := cd_m 3 53 rfl rfl
theorem cd_w19 : cd_mP 19 := cd_m 4 199 rfl rfl
theorem cd_w20 : cd_mP 20 := cd_m 4 208 rfl rfl
theorem cd_w21 : cd_mP 21 := cd_m 4 212 rfl rfl
theorem cd_w22 : cd_mP 22 := cd_m 4 224 rfl rfl
theorem cd_w23 : cd_mP 23 := cd_m 4 232 rfl rfl
theorem cd_w24 : cd_mP 24 := cd_m 4 237 rfl rfl
theorem cd_w25 : cd_mP 25 := cd_m 5 1 rfl rfl
theorem cd_w26 : cd_mP 26 := cd_m 4 220 rfl rfl
theorem cd_w27 : cd_mP 27 := cd_m 5 45 rfl rfl
theorem cd_w28 : cd_mP 28 := cd_m 5 53 rfl rfl
theorem cd_w29 : cd_mP 29 := cd_m 5 57 rfl rfl
theorem cd_w30 : cd_mP 30 := cd_m 5 61 rfl rfl
theorem cd_w31 : cd_mP 31 := cd_m 5 24 rfl rfl
theorem cd_w32 : cd_mP 32 := cd_m 5 29 rfl rfl
theorem cd_w33 : cd_mP 33 := cd_m 5 78 rfl rfl
theorem cd_w34 : cd_mP 34 := cd_m 5 82 rfl rfl
theorem cd_w35 : cd_mP 35 := cd_m 4 216 rfl rfl
theorem cd_w36 : cd_mP 36 := cd_m 5 87 rfl rfl
theorem cd_w37 : cd_mP 37 := cd_m 4 48 rfl rfl
theorem cd_w38 : cd_mP 38 := cd_m 3 71 rfl rfl
theorem cd_w39 : cd_mP 39 := cd_m 3 200 rfl rfl
theorem cd_w40 : cd_mP 40 := cd_m 4 52 rfl rfl
theorem cd_w41 : cd_mP 41 := cd_m 3 220 rfl rfl
theorem cd_w42 : cd_mP 42 := cd_m 3 67 rfl rfl
theorem cd_w43 : cd_mP 43 := cd_m 3 232 rfl rfl
theorem cd_w44 : cd_mP 44 := cd_m 3 228 rfl rfl
theorem cd_w45 : cd_mP 45 := cd_m 4 24 rfl rfl
theorem cd_w46 : cd_mP 46 := cd_m 4 104 rfl rfl
theorem cd_w47 : cd_mP 47 := cd_m 4 20 rfl rfl
theorem cd_w48 : cd_mP 48 := cd_m 4 32 rfl rfl
theorem cd_w49 : cd_mP 49 := cd_m 3 208 rfl rfl
theorem cd_w50 : cd_mP 50 := cd_m 3 215 rfl rfl
theorem cd_w51 : cd_mP 51 := cd_m 3 236 rfl rfl
theorem cd_w52 : cd_mP 52 := cd_m 4 6 rfl rfl
theorem cd_w53 : cd_mP 53 := cd_m 4 14 rfl rfl
theorem cd_w54 : cd_mP 54 := cd_m 5 142 rfl rfl
theorem cd_w55 : cd_mP 55 := cd_m 1 98 rfl rfl
theorem cd_w56 : cd_mP 56 := cd_m 1 102 rfl rfl
theorem cd_w57 : cd_mP 57 := cd_m 1 106 rfl rfl
theorem cd_w58 : cd_mP 58 := cd_m 3 128 rfl rfl
theorem cd_w59 : cd_mP 59 := cd_m 3 136 rfl rfl
theorem cd_w60 : cd_mP 60 := cd_m 3 97 rfl rfl
theorem cd_w61 : cd_mP 61 := cd_m 3 169 rfl rfl
theorem cd_w62 : cd_mP 62 := cd_m 3 173 rfl rfl
theorem cd_w63 : cd_mP 63 := cd_m 3 178 rfl rfl
theorem cd_w64 : cd_mP 64 := cd_m 3 183 rfl rfl
theorem cd_w65 : cd_mP 65 := cd_m 4 121 rfl rfl
theorem cd_w66 : cd_mP 66 := cd_m 4 61 rfl rfl
theorem cd_w67 : cd_mP 67 := cd_m 4 116 rfl rfl
theorem cd_w68 : cd_mP 68 := cd_m 4 108 rfl rfl
theorem cd_w69 : cd_mP 69 := cd_m 4 125 rfl rfl
theorem cd_w70 : cd_mP 70 := cd_m 4 154 rfl rfl
theorem cd_w71 : cd_mP 71 := cd_m 4 158 rfl rfl
theorem cd_w72 : cd_mP 72 := cd_m 4 145 rfl rfl
theorem cd_w73 : cd_mP 73 := cd_m 4 129 rfl rfl
theorem cd_w74 : cd_mP 74 := cd_m 4 133 rfl rfl
theorem cd_w75 : cd_mP 75 := cd_m 4 82 rfl rfl
theorem cd_w76 : cd_mP 76 := cd_m 4 88 rfl rfl
theorem cd_w77 : cd_mP 77 := cd_m 4 95 rfl rfl
theorem cd_w78 : cd_mP 78 := cd_m 4 91 rfl rfl
theorem cd_w79 : cd_mP 79 := cd_m 2 118 rfl rfl
theorem cd_w80 : cd_mP 80 := cd_m 2 122 rfl rfl
theorem cd_w81 : cd_mP 81 := cd_m 2 126 rfl rfl
theorem cd_w82 : cd_mP 82 := cd_m 2 134 rfl rfl
theorem cd_w83 : cd_mP 83 := cd_m 3 41 rfl rfl
theorem cd_w84 : cd_mP 84 := cd_m 2 143 rfl rfl
theorem cd_w85 : cd_mP 85 := cd_m 3 7 rfl rfl
theorem cd_w86 : cd_mP 86 := cd_m 2 234 rfl rfl
theorem cd_w87 : cd_mP 87 := cd_m 3 11 rfl rfl
theorem cd_w88 : cd_mP 88 := cd_m 2 148 rfl rfl
theorem cd_w89 : cd_mP 89 := cd_m 2 178 rfl rfl
theorem cd_w90 : cd_mP 90 := cd_m 2 162 rfl rfl
theorem cd_w91 : cd_mP 91 := cd_m 2 169 rfl rfl
theorem cd_w92 : cd_mP 92 := cd_m 2 152 rfl rfl
theorem cd_w93 : cd_mP 93 := cd_m 2 155 rfl rfl
theorem cd_w94 : cd_mP 94 := cd_m 2 158 rfl rfl
theorem cd_w95 : cd_mP 95 := cd_m 2 165 rfl rfl
theorem cd_w96 : cd_mP 96 := cd_m 2 114 rfl rfl
theorem cd_w97 : cd_mP 97 := cd_m 3 49 rfl rfl
theorem cd_w98 : cd_mP 98 := cd_m 3 132 rfl rfl
theorem cd_w99 : cd_mP 99 := cd_m 3 45 rfl rfl
theorem cd_w100 : cd_mP 100 := cd_m 2 139 rfl rfl
theorem cd_w101 : cd_mP 101 := cd_m 3 23 rfl rfl
theorem cd_w102 : cd_mP 102 := cd_m 3 92 rfl rfl
theorem cd_w103 : cd_mP 103 := cd_m 3 102 rfl rfl
theorem cd_w104 : cd_mP 104 := cd_m 3 108 rfl rfl
theorem cd_w105 : cd_mP 105 := cd_m 3 117 rfl rfl
theorem cd_w106 : cd_mP 106 := cd_m 3 121 rfl rfl
theorem cd_w107 : cd_mP 107 := cd_m 2 174 rfl rfl
theorem cd_w108 : cd_mP 108 := cd_m 3 19 rfl rfl
theorem cd_w109 : cd_mP 109 := cd_m 2 239 rfl rfl
theorem cd_w110 : cd_mP 110 := cd_m 3 3 rfl rfl
theorem cd_w111 : cd_mP 111 := cd_m 2 230 rfl rfl
theorem cd_w112 : cd_mP 112 := cd_m 4 162 rfl rfl
theorem cd_w113 : cd_mP 113 := cd_m 4 177 rfl rfl
theorem cd_w114 : cd_mP 114 := cd_m 4 184 rfl rfl
theorem cd_w115 : cd_mP 115 := cd_m 4 188 rfl rfl
theorem cd_w116 : cd_mP 116 := cd_m 5 7 rfl rfl
theorem cd_w117 : cd_mP 117 := cd_m 5 11 rfl rfl
theorem cd_w118 : cd_mP 118 := cd_m 4 204 rfl rfl
theorem cd_w119 : cd_mP 119 := cd_m 5 16 rfl rfl
theorem cd_w120 : cd_mP 120 := cd_m 5 20 rfl rfl
theorem cd_w121 : cd_mP 121 := cd_m 4 192 rfl rfl
theorem cd_w122 : cd_mP 122 := cd_m 5 69 rfl rfl
theorem cd_w123 : cd_mP 123 := cd_m 5 41 rfl rfl
theorem cd_w124 : cd_mP 124 := cd_m 5 49 rfl rfl
theorem cd_w125 : cd_mP 125 := cd_m 5 37 rfl rfl
theorem cd_w126 : cd_mP 126 := cd_m 2 110 rfl rfl
theorem cd_w127 : cd_mP 127 := cd_m 2 130 rfl rfl
theorem cd_w128 : cd_mP 128 := cd_m 3 88 rfl rfl
theorem cd_w129 : cd_mP 129 := cd_m 3 144 rfl rfl
theorem cd_w130 : cd_mP 130 := cd_m 3 165 rfl rfl
theorem cd_w131 : cd_mP 131 := cd_m 3 188 rfl rfl
theorem cd_w132 : cd_mP 132 := cd_m 3 192 rfl rfl
theorem cd_w133 : cd_mP 133 := cd_m 3 224 rfl rfl
theorem cd_w134 : cd_mP 134 := cd_m 4 2 rfl rfl
theorem cd_w135 : cd_mP 135 := cd_m 4 10 rfl rfl
theorem cd_w136 : cd_mP 136 := cd_m 4 37 rfl rfl
theorem cd_w137 : cd_mP 137 := cd_m 4 44 rfl rfl
theorem cd_w138 : cd_mP 138 := cd_m 4 56 rfl rfl
theorem cd_w139 : cd_mP 139 := cd_m 4 70 rfl rfl
theorem cd_w140 : cd_mP 140 := cd_m 5 33 rfl rfl
theorem cd_w141 : cd_mP 141 := cd_m 5 65 rfl rfl
theorem cd_w142 : cd_mP 142 := cd_m 5 73 rfl rfl
theorem cd_w143 : cd_mP 143 := cd_m 5 91 rfl rfl
theorem cd_w144 : cd_mP 144 := cd_m 5 95 rfl rfl
theorem cd_w145 : cd_mP 145 := cd_m 5 103 rfl rfl
theorem cd_w146 : cd_mP 146 := cd_m 5 112 rfl rfl
theorem cd_w147 : cd_mP 147 := cd_m 5 121 rfl rfl
theorem cd_w148 : cd_mP 148 := cd_m 5 133 rfl rfl
theorem cd_w149 : cd_mP 149 := cd_m 5 138 rfl rfl
theorem cd_w150 : cd_mP 150 := cd_m 5 146 rfl rfl
theorem cd_w151 : cd_mP 151 := cd_m 3 196 rfl rfl
theorem cd_w152 : cd_mP 152 := cd_m 3 75 rfl rfl
theorem cd_w153 : cd_mP 153 := cd_m 4 74 rfl rfl
theorem cd_w154 : cd_mP 154 := cd_m 5 107 rfl rfl
theorem cd_w155 : cd_mP 155 := cd_m 3 148 rfl rfl
theorem cd_w156 : cd_mP 156 := cd_m 3 156 rfl rfl
theorem cd_w157 : cd_mP 157 := cd_m 3 152 rfl rfl
theorem cd_w158 : cd_mP 158 := cd_m 3 161 rfl rfl
theorem cd_w159 : cd_mP 159 := cd_m 3 31 rfl rfl
theorem cd_w160 : cd_mP 160 := cd_m 6 155 rfl rfl
theorem cd_w161 : cd_mP 161 := cd_m 6 170 rfl rfl
theorem cd_w162 : cd_mP 162 := cd_m 6 163 rfl rfl
theorem cd_w163 : cd_mP 163 := cd_m 6 159 rfl rfl
theorem cd_w164 : cd_mP 164 := cd_m 6 182 rfl rfl
theorem cd_w165 : cd_mP 165 := cd_m 6 178 rfl rfl
theorem cd_w166 : cd_mP 166 := cd_m 6 198 rfl rfl
theorem cd_w167 : cd_mP 167 := cd_m 6 194 rfl rfl
theorem cd_w168 : cd_mP 168 := cd_m 6 214 rfl rfl
theorem cd_w169 : cd_mP 169 := cd_m 6 206 rfl rfl
theorem cd_w170 : cd_mP 170 := cd_m 6 202 rfl rfl
theorem cd_w171 : cd_mP 171 := cd_m 6 174 rfl rfl
theorem cd_w172 : cd_mP 172 := cd_m 6 221 rfl rfl
theorem cd_w173 : cd_mP 173 := cd_m 6 217 rfl rfl
theorem cd_w174 : cd_mP 174 := cd_m 6 210 rfl rfl
theorem cd_w175 : cd_mP 175 := cd_m 6 190 rfl rfl
theorem cd_w176 : cd_mP 176 := cd_m 6 167 rfl rfl
theorem cd_w177 : cd_mP 177 := cd_m 5 231 rfl rfl
theorem cd_w178 : cd_mP 178 := cd_m 6 237 rfl rfl
theorem cd_w179 : cd_mP 179 := cd_m 7 11 rfl rfl
theorem cd_w180 : cd_mP 180 := cd_m 7 3 rfl rfl
theorem cd_w181 : cd_mP 181 := cd_m 7 7 rfl rfl
theorem cd_w182 : cd_mP 182 := cd_m 6 233 rfl rfl
theorem cd_w183 : cd_mP 183 := cd_m 6 229 rfl rfl
theorem cd_w184 : cd_mP 184 := cd_m 6 225 rfl rfl
theorem cd_w185 : cd_mP 185 := cd_m 7 23 rfl rfl
theorem cd_w186 : cd_mP 186 := cd_m 7 15 rfl rfl
theorem cd_w187 : cd_mP 187 := cd_m 7 19 rfl rfl
theorem cd_w188 : cd_mP 188 := cd_m 7 27 rfl rfl
theorem cd_w189 : cd_mP 189 := cd_m 7 70 rfl rfl
theorem cd_w190 : cd_mP 190 := cd_m 7 84 rfl rfl
theorem cd_w191 : cd_mP 191 := cd_m 7 62 rfl rfl
theorem cd_w192 : cd_mP 192 := cd_m 7 47 rfl rfl
theorem cd_w193 : cd_mP 193 := cd_m 7 35 rfl rfl
theorem cd_w194 : cd_mP 194 := cd_m 7 31 rfl rfl
theorem cd_w195 : cd_mP 195 := cd_m 7 43 rfl rfl
theorem cd_w196 : cd_mP 196 := cd_m 7 39 rfl rfl
theorem cd_w197 : cd_mP 197 := cd_m 7 51 rfl rfl
theorem cd_w198 : cd_mP 198 := cd_m 7 55 rfl rfl
theorem cd_w199 : cd_mP 199 := cd_m 7 66 rfl rfl
theorem cd_w200 : cd_mP 200 := cd_m 7 75 rfl rfl
theorem cd_w201 : cd_mP 201 := cd_m 7 79 rfl rfl
theorem cd_w202 : cd_mP 202 := cd_m 7 92 rfl rfl
theorem cd_w203 : cd_mP 203 := cd_m 7 88 rfl rfl
theorem cd_w204 : cd_mP 204 := cd_m 7 112 rfl rfl
theorem cd_w205 : cd_mP 205 := cd_m 7 135 rfl rfl
theorem cd_w206 : cd_mP 206 := cd_m 7 124 rfl rfl
theorem cd_w207 : cd_mP 207 := cd_m 7 120 rfl rfl
theorem cd_w208 : cd_mP 208 := cd_m 7 108 rfl rfl
theorem cd_w209 : cd_mP 209 := cd_m 7 144 rfl rfl
theorem cd_w210 : cd_mP 210 := cd_m 7 132 rfl rfl
theorem cd_w211 : cd_mP 211 := cd_m 7 140 rfl rfl
theorem cd_w212 : cd_mP 212 := cd_m 7 128 rfl rfl
theorem cd_w213 : cd_mP 213 := cd_m 7 116 rfl rfl
theorem cd_w214 : cd_mP 214 := cd_m 7 148 rfl rfl
theorem cd_w215 : cd_mP 215 := cd_m 7 104 rfl rfl
theorem cd_w216 : cd_mP 216 := cd_m 7 152 rfl rfl
theorem cd_w217 : cd_mP 217 := cd_m 7 164 rfl rfl
theorem cd_w218 : cd_mP 218 := cd_m 7 172 rfl rfl
theorem cd_w219 : cd_mP 219 := cd_m 7 156 rfl rfl
theorem cd_w220 : cd_mP 220 := cd_m 7 168 rfl rfl
theorem cd_w221 : cd_mP 221 := cd_m 7 160 rfl rfl
theorem cd_w222 : cd_mP 222 := cd_m 7 100 rfl rfl
theorem cd_w223 : cd_mP 223 := cd_m 7 96 rfl rfl
theorem cd_w224 : cd_mP 224 := cd_m 7 176 rfl rfl
theorem cd_w225 : cd_mP 225 := cd_m 7 180 rfl rfl
theorem cd_w226 : cd_mP 226 := cd_m 7 184 rfl rfl
theorem cd_w227 : cd_mP 227 := cd_m 7 188 rfl rfl
theorem cd_w228 : cd_mP 228 := cd_m 7 196 rfl rfl
theorem cd_w229 : cd_mP 229 := cd_m 7 192 rfl rfl
theorem cd_w230 : cd_mP 230 := cd_m 7 200 rfl rfl
theorem cd_w231 : cd_mP 231 := cd_m 7 204 rfl rfl
theorem cd_w232 : cd_mP 232 := cd_m 7 208 rfl rfl
theorem cd_w233 : cd_mP 233 := cd_m 7 216 rfl rfl
theorem cd_w234 : cd_mP 234 := cd_m 7 220 rfl rfl
theorem cd_w235 : cd_mP 235 := cd_m 7 212 rfl rfl
theorem cd_w236 : cd_mP 236 := cd_m 7 224 rfl rfl
theorem cd_w237 : cd_mP 237 := cd_m 7 228 rfl rfl
theorem cd_w238 : cd_mP 238 := cd_m 2 182 rfl rfl
theorem cd_w239 : cd_mP 239 := cd_m 2 192 rfl rfl
theorem cd_w240 : cd_mP 240 := cd_m 2 186 rfl rfl
theorem cd_w241 : cd_mP 241 := cd_m 2 196 rfl rfl
theorem cd_w242 : cd_mP 242 := cd_m 2 202 rfl rfl
theorem cd_w243 : cd_mP 243 := cd_m 2 199 rfl rfl
theorem cd_w244 : cd_mP 244 := cd_m 2 207 rfl rfl
theorem cd_mOK_0 : ∀ k, k < 10 → cd_mP (0 + k) := by
  intro k hk
  match k, hk with
  | 0, _ => exact cd_w0
  | 1, _ => exact cd_w1
  | 2, _ => exact cd_w2
  | 3, _ => exact cd_w3
  | 4, _ => exact cd_w4
  | 5, _ => exact cd_w5
  | 6, _ => exact cd_w6
  | 7, _ => exact cd_w7
  | 8, _ => exact cd_w8
  | 9, _ => exact cd_w9
  | k + 10, hk => exact absurd hk (by omega)
theorem cd_mOK_1 : ∀ k, k < 10 → cd_mP (10 + k) := by
  intro k hk
  match k, hk with
  | 0, _ => exact cd_w10
  | 1, _ => exact cd_w11
  | 2, _ => exact cd_w12
  | 3, _ => exact cd_w13
  | 4, _ => exact cd_w14
  | 5, _ => exact cd_w15
  | 6, _ => exact cd_w16
  | 7, _ => exact cd_w17
  | 8, _ => exact cd_w18
  | 9, _ => exact cd_w19
  | k + 10, hk => exact absurd hk (by omega)
theorem cd_mOK_2 : ∀ k, k < 10 → cd_mP (20 + k) := by
  intro k hk
  match k, hk with
  | 0, _ => exact cd_w20
  | 1, _ => exact cd_w21
  | 2, _ => exact cd_w22
  | 3, _ => exact cd_w23
  | 4, _ => exact cd_w24
  | 5, _ => exact cd_w25
  | 6, _ => exact cd_w26
  | 7, _ => exact cd_w27
  | 8, _ => exact cd_w28
  | 9, _ => exact cd_w29
  | k + 10, hk => exact absurd hk (by omega)
theorem cd_mOK_3 : ∀ k, k < 10 → cd_mP (30 + k) := by
  intro k hk
  match k, hk with
  | 0, _ => exact cd_w30
  | 1, _ => exact cd_w31
  | 2, _ => exact cd_w32
  | 3, _ => exact cd_w33
  | 4, _ => exact cd_w34
  | 5, _ => exact cd_w35
  | 6, _ => exact cd_w36
  | 7, _ => exact cd_w37
  | 8, _ => exact cd_w38
  | 9, _ => exact cd_w39
  | k + 10, hk => exact absurd hk (by omega)
theorem cd_mOK_4 : ∀ k, k < 10 → cd_mP (40 + k) := by
  intro k hk
  match k, hk with
  | 0, _ => exact cd_w40
  | 1, _ => exact cd_w41
  | 2, _ => exact cd_w42
  | 3, _ => exact cd_w43
  | 4, _ => exact cd_w44
  | 5, _ => exact cd_w45
  | 6, _ => exact cd_w46
  | 7, _ => exact cd_w47
  | 8, _ => exact cd_w48
  | 9, _ => exact cd_w49
  | k + 10, hk => exact absurd hk (by omega)
theorem cd_mOK_5 : ∀ k, k < 10 → cd_mP (50 + k) := by
  intro k hk
  match k, hk with
  | 0, _ => exact cd_w50
  | 1, _ => exact cd_w51
  | 2, _ => exact cd_w52
  | 3, _ => exact cd_w53
  | 4, _ => exact cd_w54
  | 5, _ => exact cd_w55
  | 6, _ => exact cd_w56
  | 7, _ => exact cd_w57
  | 8, _ => exact cd_w58
  | 9, _ => exact cd_w59
  | k + 10, hk => exact absurd hk (by omega)
theorem cd_mOK_6 : ∀ k, k < 10 → cd_mP (60 + k) := by
  intro k hk
  match k, hk with
  | 0, _ => exact cd_w60
  | 1, _ => exact cd_w61
  | 2, _ => exact cd_w62
  | 3, _ => exact cd_w63
  | 4, _ => exact cd_w64
  | 5, _ => exact cd_w65
  | 6, _ => exact cd_w66
  | 7, _ => exact cd_w67
  | 8, _ => exact cd_w68
  | 9, _ => exact cd_w69
  | k + 10, hk => exact absurd hk (by omega)
theorem cd_mOK_7 : ∀ k, k < 10 → cd_mP (70 + k) := by
  intro k hk
  match k, hk with
  | 0, _ => exact cd_w70
  | 1, _ => exact cd_w71
  | 2, _ => exact cd_w72
  | 3, _ => exact cd_w73
  | 4, _ => exact cd_w74
  | 5, _ => exact cd_w75
  | 6, _ => exact cd_w76
  | 7, _ => exact cd_w77
  | 8, _ => exact cd_w78
  | 9, _ => exact cd_w79
  | k + 10, hk => exact absurd hk (by omega)
theorem cd_mOK_8 : ∀ k, k < 10 → cd_mP (80 + k) := by
  intro k hk
  match k, hk with
  | 0, _ => exact cd_w80
  | 1, _ => exact cd_w81
  | 2, _ => exact cd_w82
  | 3, _ => exact cd_w83
  | 4, _ => exact cd_w84
  | 5, _ => exact cd_w85
  | 6, _ => exact cd_w86
  | 7, _ => exact cd_w87
  | 8, _ => exact cd_w88
  | 9, _ => exact cd_w89
  | k + 10, hk => exact absurd hk (by omega)
theorem cd_mOK_9 : ∀ k, k < 10 → cd_mP (90 + k) := by
  intro k hk
  match k, hk with
  | 0, _ => exact cd_w90
  | 1, _ => exact cd_w91
  | 2, _ => exact cd_w92
  | 3, _ => exact cd_w93
  | 4, _ => exact cd_w94
  | 5, _ => exact cd_w95
  | 6, _ => exact cd_w96
  | 7, _ => exact cd_w97
  | 8, _ => exact cd_w98
  | 9, _ => exact cd_w99
  | k + 10, hk => exact absurd hk (by omega)
theorem cd_mOK_10 : ∀ k, k < 10 → cd_mP (100 + k) := by
  intro k hk
  match k, hk with
  | 0, _ => exact cd_w100
  | 1, _ => exact cd_w101
  | 2, _ => exact cd_w102
  | 3, _ => exact cd_w103
  | 4, _ => exact cd_w104
  | 5, _ => exact cd_w105
  | 6, _ => exact cd_w106
  | 7, _ => exact cd_w107
  | 8, _ => exact cd_w108
  | 9, _ => exact cd_w109
  | k + 10, hk => exact absurd hk (by omega)
theorem cd_mOK_11 : ∀ k, k < 10 → cd_mP (110 + k) := by
  intro k hk
  match k, hk with
  | 0, _ => exact cd_w110
  | 1, _ => exact cd_w111
  | 2, _ => exact cd_w112
  | 3, _ => exact cd_w113
  | 4, _ => exact cd_w114
  | 5, _ => exact cd_w115
  | 6, _ => exact cd_w116
  | 7, _ => exact cd_w117
  | 8, _ => exact cd_w118
  | 9, _ => exact cd_w119
  | k + 10, hk => exact absurd hk (by omega)
theorem cd_mOK_12 : ∀ k, k < 10 → cd_mP (120 + k) := by
  intro k hk
  match k, hk with
  | 0, _ => exact cd_w120
  | 1, _ => exact cd_w121
  | 2, _ => exact cd_w122
  | 3, _ => exact cd_w123
  | 4, _ => exact cd_w124
  | 5, _ => exact cd_w125
  | 6, _ => exact cd_w126
  | 7, _ => exact cd_w127
  | 8, _ => exact cd_w128
  | 9, _ => exact cd_w129
  | k + 10, hk => exact absurd hk (by omega)
theorem cd_mOK_13 : ∀ k, k < 10 → cd_mP (130 + k) := by
  intro k hk
  match k, hk with
  | 0, _ => exact cd_w130
  | 1, _ => exact cd_w131
  | 2, _ => exact cd_w132
  | 3, _ => exact cd_w133
  | 4, _ => exact cd_w134
  | 5, _ => exact cd_w135
  | 6, _ => exact cd_w136
  | 7, _ => exact cd_w137
  | 8, _ => exact cd_w138
  | 9, _ => exact cd_w139
  | k + 10, hk => exact absurd hk (by omega)
theorem cd_mOK_14 : ∀ k, k < 10 → cd_mP (140 + k) := by
  intro k hk
  match k, hk with
  | 0, _ => exact cd_w140
  | 1, _ => exact cd_w141
  | 2, _ => exact cd_w142
  | 3, _ => exact cd_w143
  | 4, _ => exact cd_w144
  | 5, _ => exact cd_w145
  | 6, _ => exact cd_w146
  | 7, _ => exact cd_w147
  | 8, _ => exact cd_w148
  | 9, _ => exact cd_w149
  | k + 10, hk => exact absurd hk (by omega)
theorem cd_mOK_15 : ∀ k, k < 10 → cd_mP (150 + k) := by
  intro k hk
  match k, hk with
  | 0, _ => exact cd_w150
  | 1, _ => exact cd_w151
  | 2, _ => exact cd_w152
  | 3, _ => exact cd_w153
  | 4, _ => exact cd_w154
  | 5, _ => exact cd_w155
  | 6, _ => exact cd_w156
  | 7, _ => exact cd_w157
  | 8, _ => exact cd_w158
  | 9, _ => exact cd_w159
  | k + 10, hk => exact absurd hk (by omega)
theorem cd_mOK_16 : ∀ k, k < 10 → cd_mP (160 + k) := by
  intro k hk
  match k, hk with
  | 0, _ => exact cd_w160
  | 1, _ => exact cd_w161
  | 2, _ => exact cd_w162
  | 3, _ => exact cd_w163
  | 4, _ => exact cd_w164
  | 5, _ => exact cd_w165
  | 6, _ => exact cd_w166
  | 7, _ => exact cd_w167
  | 8, _ => exact cd_w168
  | 9, _ => exact cd_w169
  | k + 10, hk => exact absurd hk (by omega)
theorem cd_mOK_17 : ∀ k, k < 10 → cd_mP (170 + k) := by
  intro k hk
  match k, hk with
  | 0, _ => exact cd_w170
  | 1, _ => exact cd_w171
  | 2, _ => exact cd_w172
  | 3, _ => exact cd_w173
  | 4, _ => exact cd_w174
  | 5, _ => exact cd_w175
  | 6, _ => exact cd_w176
  | 7, _ => exact cd_w177
  | 8, _ => exact cd_w178
  | 9, _ => exact cd_w179
  | k + 10, hk => exact absurd hk (by omega)
theorem cd_mOK_18 : ∀ k, k < 10 → cd_mP (180 + k) := by
  intro k hk
  match k, hk with
  | 0, _ => exact cd_w180
  | 1, _ => exact cd_w181
  | 2, _ => exact cd_w182
  | 3, _ => exact cd_w183
  | 4, _ => exact cd_w184
  | 5, _ => exact cd_w185
  | 6, _ => exact cd_w186
  | 7, _ => exact cd_w187
  | 8, _ => exact cd_w188
  | 9, _ => exact cd_w189
  | k + 10, hk => exact absurd hk (by omega)
theorem cd_mOK_19 : ∀ k, k < 10 → cd_mP (190 + k) := by
  intro k hk
  match k, hk with
  | 0, _ => exact cd_w190
  | 1, _ => exact cd_w191
  | 2, _ => exact cd_w192
  | 3, _ => exact cd_w193
  | 4, _ => exact cd_w194
  | 5, _ => exact cd_w195
  | 6, _ => exact cd_w196
  | 7, _ => exact cd_w197
  | 8, _ => exact cd_w198
  | 9, _ => exact cd_w199
  | k + 10, hk => exact absurd hk (by omega)
theorem cd_mOK_20 : ∀ k, k < 10 → cd_mP (200 + k) := by
  intro k hk
  match k, hk with
  | 0, _ => exact cd_w200
  | 1, _ => exact cd_w201
  | 2, _ => exact cd_w202
  | 3, _ => exact cd_w203
  | 4, _ => exact cd_w204
  | 5, _ => exact cd_w205
  | 6, _ => exact cd_w206
  | 7, _ => exact cd_w207
  | 8, _ => exact cd_w208
  | 9, _ => exact cd_w209
  | k + 10, hk => exact absurd hk (by omega)
theorem cd_mOK_21 : ∀ k, k < 10 → cd_mP (210 + k) := by
  intro k hk
  match k, hk with
  | 0, _ => exact cd_w210
  | 1, _ => exact cd_w211
  | 2, _ => exact cd_w212
  | 3, _ => exact cd_w213
  | 4, _ => exact cd_w214
  | 5, _ => exact cd_w215
  | 6, _ => exact cd_w216
  | 7, _ => exact cd_w217
  | 8, _ => exact cd_w218
  | 9, _ => exact cd_w219
  | k + 10, hk => exact absurd hk (by omega)
theorem cd_mOK_22 : ∀ k, k < 10 → cd_mP (220 + k) := by
  intro k hk
  match k, hk with
  | 0, _ => exact cd_w220
  | 1, _ => exact cd_w221
  | 2, _ => exact cd_w222
  | 3, _ => exact cd_w223
  | 4, _ => exact cd_w224
  | 5, _ => exact cd_w225
  | 6, _ => exact cd_w226
  | 7, _ => exact cd_w227
  | 8, _ => exact cd_w228
  | 9, _ => exact cd_w229
  | k + 10, hk => exact absurd hk (by omega)
theorem cd_mOK_23 : ∀ k, k < 10 → cd_mP (230 + k) := by
  intro k hk
  match k, hk with
  | 0, _ => exact cd_w230
  | 1, _ => exact cd_w231
  | 2, _ => exact cd_w232
  | 3, _ => exact cd_w233
  | 4, _ => exact cd_w234
  | 5, _ => exact cd_w235
  | 6, _ => exact cd_w236
  | 7, _ => exact cd_w237
  | 8, _ => exact cd_w238
  | 9, _ => exact cd_w239
  | k + 10, hk => exact absurd hk (by omega)
theorem cd_mOK_24 : ∀ k, k < 5 → cd_mP (240 + k) := by
  intro k hk
  match k, hk with
  | 0, _ => exact cd_w240
  | 1, _ => exact cd_w241
  | 2, _ => exact cd_w242
  | 3, _ => exact cd_w243
  | 4, _ => exact cd_w244
  | k + 5, hk => exact absurd hk (by omega)
theorem cd_mOK : ∀ y, y < 245 → cd_mP y := by
  intro y hy
  by_cases h0 : y < 10
  · have h := cd_mOK_0 (y - 0) (by omega)
    rwa [show 0 + (y - 0) = y by omega] at h
  by_cases h1 : y < 20
  · have h := cd_mOK_1 (y - 10) (by omega)
    rwa [show 10 + (y - 10) = y by omega] at h
  by_cases h2 : y < 30
  · have h := cd_mOK_2 (y - 20) (by omega)
    rwa [show 20 + (y - 20) = y by omega] at h
  by_cases h3 : y < 40
  · have h := cd_mOK_3 (y - 30) (by omega)
    rwa [show 30 + (y - 30) = y by omega] at h
  by_cases h4 : y < 50
  · have h := cd_mOK_4 (y - 40) (by omega)
    rwa [show 40 + (y - 40) = y by omega] at h
  by_cases h5 : y < 60
  · have h := cd_mOK_5 (y - 50) (by omega)
    rwa [show 50 + (y - 50) = y by omega] at h
  by_cases h6 : y < 70
  · have h := cd_mOK_6 (y - 60) (by omega)
    rwa [show 60 + (y - 60) = y by omega] at h
  by_cases h7 : y < 80
  · have h := cd_mOK_7 (y - 70) (by omega)
    rwa [show 70 + (y - 70) = y by omega] at h
  by_cases h8 : y < 90
  · have h := cd_mOK_8 (y - 80) (by omega)
    rwa [show 80 + (y - 80) = y by omega] at h
  by_cases h9 : y < 100
  · have h := cd_mOK_9 (y - 90) (by omega)
    rwa [show 90 + (y - 90) = y by omega] at h
  by_cases h10 : y < 110
  · have h := cd_mOK_10 (y - 100) (by omega)
    rwa [show 100 + (y - 100) = y by omega] at h
  by_cases h11 : y < 120
  · have h := cd_mOK_11 (y - 110) (by omega)
    rwa [show 110 + (y - 110) = y by omega] at h
  by_cases h12 : y < 130
  · have h := cd_mOK_12 (y - 120) (by omega)
    rwa [show 120 + (y - 120) = y by omega] at h
  by_cases h13 : y < 140
  · have h := cd_mOK_13 (y - 130) (by omega)
    rwa [show 130 + (y - 130) = y by omega] at h
  by_cases h14 : y < 150
  · have h := cd_mOK_14 (y - 140) (by omega)
    rwa [show 140 + (y - 140) = y by omega] at h
  by_cases h15 : y < 160
  · have h := cd_mOK_15 (y - 150) (by omega)
    rwa [show 150 + (y - 150) = y by omega] at h
  by_cases h16 : y < 170
  · have h := cd_mOK_16 (y - 160) (by omega)
    rwa [show 160 + (y - 160) = y by omega] at h
  by_cases h17 : y < 180
  · have h := cd_mOK_17 (y - 170) (by omega)
    rwa [show 170 + (y - 170) = y by omega] at h
  by_cases h18 : y < 190
  · have h := cd_mOK_18 (y - 180) (by omega)
    rwa [show 180 + (y - 180) = y by omega] at h
  by_cases h19 : y < 200
  · have h := cd_mOK_19 (y - 190) (by omega)
    rwa [show 190 + (y - 190) = y by omega] at h
  by_cases h20 : y < 210
  · have h := cd_mOK_20 (y - 200) (by omega)
    rwa [show 200 + (y - 200) = y by omega] at h
  by_cases h21 : y < 220
  · have h := cd_mOK_21 (y - 210) (by omega)
    rwa [show 210 + (y - 210) = y by omega] at h
  by_cases h22 : y < 230
  · have h := cd_mOK_22 (y - 220) (by omega)
    rwa [show 220 + (y - 220) = y by omega] at h
  by_cases h23 : y < 240
  · have h := cd_mOK_23 (y - 230) (by omega)
    rwa [show 230 + (y - 230) = y by omega] at h
  by_cases h24 : y < 245
  · have h := cd_mOK_24 (y - 240) (by omega)
    rwa [show 240 + (y - 240) = y by omega] at h
  exact absurd hy (by omega)
end
section
set_option maxRecDepth 100000 in
set_option maxHeartbeats 4000000 in
theorem cd_mOK2 : ∀ y, y < 245 → (cd_y y).cls = cd_c (cd_mo.getD y 99) ∧ plainName (cd_y y).cls = true ∧ (cd_y y).cls ≠ "java/lang/invoke/MethodHandle" ∧ (cd_y y).cls ≠ "java/lang/invoke/VarHandle" := by decide +kernel
def cd_flP (e : Nat × Nat × Nat × Nat × Nat) : Prop := Cond.fieldLink (cd_c e.1) e.2.1 ((cd_F e.2.2.1).2.1 e.2.2.2.1).1 ((cd_F e.2.2.1).2.1 e.2.2.2.1).2.1 ((cd_F e.2.2.1).2.1 e.2.2.2.1).2.2.1 ∈ cd_big ∧ e.2.2.1 < 12 ∧ e.2.2.2.1 < (cd_F e.2.2.1).2.2
def cd_lkP (e : Nat × Nat × Nat × Nat × Nat × Nat × Nat × Nat) : Prop := e.2.2.1 < 245 ∧ Cond.initialized (cd_y e.2.2.1).cls ∈ cd_big ∧ (e.2.2.2.1 = 0 → Cond.methodLink (cd_c e.1) e.2.1 (cd_y e.2.2.1) ∈ cd_big ∧ Cond.instanceMethod (cd_y e.2.2.1) ∈ cd_big ∧ Cond.selects (cd_y e.2.2.1).cls (cd_y e.2.2.1) (cd_y e.2.2.1) ∈ cd_big ∧ (parseMethodDescriptor (cd_y e.2.2.1).desc).map (fun d => d.parameters.length + 1) = some (cd_mn.getD e.2.2.1 0)) ∧ (¬ e.2.2.2.1 = 0 → Cond.static (cd_y e.2.2.1) ∈ cd_big ∧ (parseMethodDescriptor (cd_y e.2.2.1).desc).map (fun d => d.parameters.length) = some (cd_mn.getD e.2.2.1 0) ∧ (¬ e.2.2.2.1 = 1 → e.2.2.2.1 = 2 ∧ Cond.methodLinkNest (cd_c e.1) e.2.1 (cd_y e.2.2.1) RX10 ∈ cd_nest) ∧ (¬ e.2.2.2.1 = 2 → e.2.2.2.1 = 1 ∧ Cond.methodLink (cd_c e.1) e.2.1 (cd_y e.2.2.1) ∈ cd_big))
theorem cd_fa0 : cd_flP (0, 12, 0, 0, 289) := ⟨cd_m 1 205 rfl rfl, by decide, by decide⟩
theorem cd_fa1 : cd_flP (0, 36, 0, 6, 295) := ⟨cd_m 1 211 rfl rfl, by decide, by decide⟩
theorem cd_fa2 : cd_flP (0, 40, 0, 7, 296) := ⟨cd_m 1 212 rfl rfl, by decide, by decide⟩
theorem cd_fa3 : cd_flP (0, 43, 0, 8, 297) := ⟨cd_m 1 213 rfl rfl, by decide, by decide⟩
theorem cd_fa4 : cd_flP (0, 46, 0, 9, 298) := ⟨cd_m 1 214 rfl rfl, by decide, by decide⟩
theorem cd_fa5 : cd_flP (0, 29, 0, 4, 293) := ⟨cd_m 1 209 rfl rfl, by decide, by decide⟩
theorem cd_fa6 : cd_flP (0, 25, 0, 3, 292) := ⟨cd_m 1 208 rfl rfl, by decide, by decide⟩
theorem cd_fa7 : cd_flP (0, 32, 0, 5, 294) := ⟨cd_m 1 210 rfl rfl, by decide, by decide⟩
theorem cd_fa8 : cd_flP (0, 18, 0, 1, 290) := ⟨cd_m 1 206 rfl rfl, by decide, by decide⟩
theorem cd_fa9 : cd_flP (0, 22, 0, 2, 291) := ⟨cd_m 1 207 rfl rfl, by decide, by decide⟩
theorem cd_fa10 : cd_flP (1, 7, 1, 2, 161) := ⟨cd_m 1 77 rfl rfl, by decide, by decide⟩
theorem cd_fa11 : cd_flP (1, 13, 1, 3, 162) := ⟨cd_m 1 78 rfl rfl, by decide, by decide⟩
theorem cd_fa12 : cd_flP (1, 22, 1, 0, 159) := ⟨cd_m 1 75 rfl rfl, by decide, by decide⟩
theorem cd_fa13 : cd_flP (1, 26, 1, 1, 160) := ⟨cd_m 1 76 rfl rfl, by decide, by decide⟩
theorem cd_fa14 : cd_flP (2, 36, 2, 6, 372) := ⟨cd_m 2 48 rfl rfl, by decide, by decide⟩
theorem cd_fa15 : cd_flP (2, 15, 2, 1, 367) := ⟨cd_m 2 43 rfl rfl, by decide, by decide⟩
theorem cd_fa16 : cd_flP (2, 18, 2, 2, 368) := ⟨cd_m 2 44 rfl rfl, by decide, by decide⟩
theorem cd_fa17 : cd_flP (2, 21, 2, 3, 369) := ⟨cd_m 2 45 rfl rfl, by decide, by decide⟩
theorem cd_fa18 : cd_flP (2, 9, 2, 0, 366) := ⟨cd_m 2 42 rfl rfl, by decide, by decide⟩
theorem cd_fa19 : cd_flP (2, 40, 2, 7, 373) := ⟨cd_m 2 49 rfl rfl, by decide, by decide⟩
theorem cd_fa20 : cd_flP (2, 43, 2, 8, 374) := ⟨cd_m 2 50 rfl rfl, by decide, by decide⟩
theorem cd_fa21 : cd_flP (2, 32, 2, 5, 371) := ⟨cd_m 2 47 rfl rfl, by decide, by decide⟩
theorem cd_fa22 : cd_flP (2, 24, 2, 4, 370) := ⟨cd_m 2 46 rfl rfl, by decide, by decide⟩
theorem cd_fa23 : cd_flP (3, 23, 3, 3, 251) := ⟨cd_m 1 167 rfl rfl, by decide, by decide⟩
theorem cd_fa24 : cd_flP (3, 9, 3, 0, 248) := ⟨cd_m 1 164 rfl rfl, by decide, by decide⟩
theorem cd_fa25 : cd_flP (3, 19, 3, 2, 250) := ⟨cd_m 1 166 rfl rfl, by decide, by decide⟩
theorem cd_fa26 : cd_flP (3, 15, 3, 1, 249) := ⟨cd_m 1 165 rfl rfl, by decide, by decide⟩
theorem cd_fa27 : cd_flP (4, 15, 4, 1, 235) := ⟨cd_m 1 151 rfl rfl, by decide, by decide⟩
theorem cd_fa28 : cd_flP (4, 11, 4, 0, 233) := ⟨cd_m 1 149 rfl rfl, by decide, by decide⟩
theorem cd_fa29 : cd_flP (5, 21, 5, 3, 194) := ⟨cd_m 1 110 rfl rfl, by decide, by decide⟩
theorem cd_fa30 : cd_flP (5, 18, 5, 2, 193) := ⟨cd_m 1 109 rfl rfl, by decide, by decide⟩
theorem cd_fa31 : cd_flP (5, 15, 5, 1, 192) := ⟨cd_m 1 108 rfl rfl, by decide, by decide⟩
theorem cd_fa32 : cd_flP (5, 9, 5, 0, 191) := ⟨cd_m 1 107 rfl rfl, by decide, by decide⟩
theorem cd_fa33 : cd_flP (6, 24, 6, 4, 277) := ⟨cd_m 1 193 rfl rfl, by decide, by decide⟩
theorem cd_fa34 : cd_flP (6, 9, 6, 0, 273) := ⟨cd_m 1 189 rfl rfl, by decide, by decide⟩
theorem cd_fa35 : cd_flP (6, 15, 6, 1, 274) := ⟨cd_m 1 190 rfl rfl, by decide, by decide⟩
theorem cd_fa36 : cd_flP (6, 18, 6, 2, 275) := ⟨cd_m 1 191 rfl rfl, by decide, by decide⟩
theorem cd_fa37 : cd_flP (6, 21, 6, 3, 276) := ⟨cd_m 1 192 rfl rfl, by decide, by decide⟩
theorem cd_fa38 : cd_flP (7, 15, 7, 1, 128) := ⟨cd_m 1 44 rfl rfl, by decide, by decide⟩
theorem cd_fa39 : cd_flP (7, 9, 7, 0, 127) := ⟨cd_m 1 43 rfl rfl, by decide, by decide⟩
theorem cd_fa40 : cd_flP (7, 19, 7, 2, 129) := ⟨cd_m 1 45 rfl rfl, by decide, by decide⟩
theorem cd_fa41 : cd_flP (7, 22, 7, 3, 130) := ⟨cd_m 1 46 rfl rfl, by decide, by decide⟩
theorem cd_fa42 : cd_flP (7, 28, 7, 5, 132) := ⟨cd_m 1 48 rfl rfl, by decide, by decide⟩
theorem cd_fa43 : cd_flP (7, 25, 7, 4, 131) := ⟨cd_m 1 47 rfl rfl, by decide, by decide⟩
theorem cd_fa44 : cd_flP (7, 31, 7, 6, 133) := ⟨cd_m 1 49 rfl rfl, by decide, by decide⟩
theorem cd_fa45 : cd_flP (8, 12, 8, 0, 204) := ⟨cd_m 1 120 rfl rfl, by decide, by decide⟩
theorem cd_fa46 : cd_flP (8, 23, 8, 1, 205) := ⟨cd_m 1 121 rfl rfl, by decide, by decide⟩
theorem cd_fa47 : cd_flP (8, 30, 8, 2, 206) := ⟨cd_m 1 122 rfl rfl, by decide, by decide⟩
theorem cd_fa48 : cd_flP (8, 34, 8, 3, 207) := ⟨cd_m 1 123 rfl rfl, by decide, by decide⟩
theorem cd_fa49 : cd_flP (8, 38, 8, 4, 208) := ⟨cd_m 1 124 rfl rfl, by decide, by decide⟩
theorem cd_fa50 : cd_flP (8, 41, 8, 5, 209) := ⟨cd_m 1 125 rfl rfl, by decide, by decide⟩
theorem cd_fa51 : cd_flP (9, 31, 9, 6, 333) := ⟨cd_m 2 9 rfl rfl, by decide, by decide⟩
theorem cd_fa52 : cd_flP (9, 35, 9, 7, 334) := ⟨cd_m 2 10 rfl rfl, by decide, by decide⟩
theorem cd_fa53 : cd_flP (9, 38, 9, 8, 335) := ⟨cd_m 2 11 rfl rfl, by decide, by decide⟩
theorem cd_fa54 : cd_flP (9, 41, 9, 9, 336) := ⟨cd_m 2 12 rfl rfl, by decide, by decide⟩
theorem cd_fa55 : cd_flP (9, 9, 9, 0, 327) := ⟨cd_m 2 3 rfl rfl, by decide, by decide⟩
theorem cd_fa56 : cd_flP (9, 15, 9, 1, 328) := ⟨cd_m 2 4 rfl rfl, by decide, by decide⟩
theorem cd_fa57 : cd_flP (9, 18, 9, 2, 329) := ⟨cd_m 2 5 rfl rfl, by decide, by decide⟩
theorem cd_fa58 : cd_flP (9, 21, 9, 3, 330) := ⟨cd_m 2 6 rfl rfl, by decide, by decide⟩
theorem cd_fa59 : cd_flP (9, 28, 9, 5, 332) := ⟨cd_m 2 8 rfl rfl, by decide, by decide⟩
theorem cd_fa60 : cd_flP (9, 25, 9, 4, 331) := ⟨cd_m 2 7 rfl rfl, by decide, by decide⟩
theorem cd_fa61 : cd_flP (10, 10, 10, 0, 394) := ⟨cd_m 2 70 rfl rfl, by decide, by decide⟩
theorem cd_fa62 : cd_flP (10, 21, 10, 1, 395) := ⟨cd_m 2 71 rfl rfl, by decide, by decide⟩
theorem cd_fa63 : cd_flP (10, 35, 10, 3, 397) := ⟨cd_m 2 73 rfl rfl, by decide, by decide⟩
theorem cd_fa64 : cd_flP (10, 42, 10, 4, 398) := ⟨cd_m 2 74 rfl rfl, by decide, by decide⟩
theorem cd_fa65 : cd_flP (10, 28, 10, 2, 396) := ⟨cd_m 2 72 rfl rfl, by decide, by decide⟩
theorem cd_fa66 : cd_flP (10, 74, 10, 10, 404) := ⟨cd_m 2 80 rfl rfl, by decide, by decide⟩
theorem cd_fa67 : cd_flP (10, 78, 10, 11, 405) := ⟨cd_m 2 81 rfl rfl, by decide, by decide⟩
theorem cd_fa68 : cd_flP (10, 56, 10, 6, 400) := ⟨cd_m 2 76 rfl rfl, by decide, by decide⟩
theorem cd_fa69 : cd_flP (10, 63, 10, 7, 401) := ⟨cd_m 2 77 rfl rfl, by decide, by decide⟩
theorem cd_fa70 : cd_flP (10, 49, 10, 5, 399) := ⟨cd_m 2 75 rfl rfl, by decide, by decide⟩
theorem cd_fa71 : cd_flP (10, 67, 10, 8, 402) := ⟨cd_m 2 78 rfl rfl, by decide, by decide⟩
theorem cd_fa72 : cd_flP (10, 70, 10, 9, 403) := ⟨cd_m 2 79 rfl rfl, by decide, by decide⟩
theorem cd_fa73 : cd_flP (11, 95, 11, 0, 1276) := ⟨cd_m 5 232 rfl rfl, by decide, by decide⟩
theorem cd_fa74 : cd_flP (11, 7, 11, 1, 1277) := ⟨cd_m 5 233 rfl rfl, by decide, by decide⟩
theorem cd_fa75 : cd_flP (11, 98, 11, 2, 1278) := ⟨cd_m 5 234 rfl rfl, by decide, by decide⟩
theorem cd_fa76 : cd_flP (11, 104, 11, 3, 1279) := ⟨cd_m 5 235 rfl rfl, by decide, by decide⟩
theorem cd_fa77 : cd_flP (11, 107, 11, 5, 1281) := ⟨cd_m 5 237 rfl rfl, by decide, by decide⟩
theorem cd_fa78 : cd_flP (11, 110, 11, 4, 1280) := ⟨cd_m 5 236 rfl rfl, by decide, by decide⟩
theorem cd_fa79 : cd_flP (11, 117, 11, 6, 1282) := ⟨cd_m 5 238 rfl rfl, by decide, by decide⟩
theorem cd_fa80 : cd_flP (11, 120, 11, 7, 1283) := ⟨cd_m 5 239 rfl rfl, by decide, by decide⟩
theorem cd_fa81 : cd_flP (11, 135, 11, 8, 1284) := ⟨cd_m 6 0 rfl rfl, by decide, by decide⟩
theorem cd_fa82 : cd_flP (11, 138, 11, 9, 1285) := ⟨cd_m 6 1 rfl rfl, by decide, by decide⟩
theorem cd_fa83 : cd_flP (11, 152, 11, 10, 1286) := ⟨cd_m 6 2 rfl rfl, by decide, by decide⟩
theorem cd_fa84 : cd_flP (11, 159, 11, 15, 1291) := ⟨cd_m 6 7 rfl rfl, by decide, by decide⟩
theorem cd_fa85 : cd_flP (11, 162, 11, 14, 1290) := ⟨cd_m 6 6 rfl rfl, by decide, by decide⟩
theorem cd_fa86 : cd_flP (11, 17, 11, 16, 1292) := ⟨cd_m 6 8 rfl rfl, by decide, by decide⟩
theorem cd_fa87 : cd_flP (11, 189, 11, 11, 1287) := ⟨cd_m 6 3 rfl rfl, by decide, by decide⟩
theorem cd_fa88 : cd_flP (11, 192, 11, 12, 1288) := ⟨cd_m 6 4 rfl rfl, by decide, by decide⟩
theorem cd_fa89 : cd_flP (11, 13, 11, 13, 1289) := ⟨cd_m 6 5 rfl rfl, by decide, by decide⟩
theorem cd_fa90 : cd_flP (11, 195, 11, 24, 1300) := ⟨cd_m 6 16 rfl rfl, by decide, by decide⟩
theorem cd_fa91 : cd_flP (11, 198, 11, 26, 1302) := ⟨cd_m 6 18 rfl rfl, by decide, by decide⟩
theorem cd_fa92 : cd_flP (11, 26, 11, 21, 1297) := ⟨cd_m 6 13 rfl rfl, by decide, by decide⟩
theorem cd_fa93 : cd_flP (11, 201, 11, 18, 1294) := ⟨cd_m 6 10 rfl rfl, by decide, by decide⟩
theorem cd_fa94 : cd_flP (11, 20, 11, 19, 1295) := ⟨cd_m 6 11 rfl rfl, by decide, by decide⟩
theorem cd_fa95 : cd_flP (11, 23, 11, 20, 1296) := ⟨cd_m 6 12 rfl rfl, by decide, by decide⟩
theorem cd_fa96 : cd_flP (11, 29, 11, 22, 1298) := ⟨cd_m 6 14 rfl rfl, by decide, by decide⟩
theorem cd_fa97 : cd_flP (11, 87, 11, 17, 1293) := ⟨cd_m 6 9 rfl rfl, by decide, by decide⟩
theorem cd_fa98 : cd_flP (11, 227, 11, 23, 1299) := ⟨cd_m 6 15 rfl rfl, by decide, by decide⟩
theorem cd_fa99 : cd_flP (11, 33, 11, 25, 1301) := ⟨cd_m 6 17 rfl rfl, by decide, by decide⟩
theorem cd_fa100 : cd_flP (11, 36, 11, 27, 1303) := ⟨cd_m 6 19 rfl rfl, by decide, by decide⟩
theorem cd_fa101 : cd_flP (11, 39, 11, 28, 1304) := ⟨cd_m 6 20 rfl rfl, by decide, by decide⟩
theorem cd_fa102 : cd_flP (11, 264, 11, 29, 1305) := ⟨cd_m 6 21 rfl rfl, by decide, by decide⟩
theorem cd_fa103 : cd_flP (11, 42, 11, 30, 1306) := ⟨cd_m 6 22 rfl rfl, by decide, by decide⟩
theorem cd_fa104 : cd_flP (11, 45, 11, 31, 1307) := ⟨cd_m 6 23 rfl rfl, by decide, by decide⟩
theorem cd_fa105 : cd_flP (11, 48, 11, 32, 1308) := ⟨cd_m 6 24 rfl rfl, by decide, by decide⟩
theorem cd_fa106 : cd_flP (11, 51, 11, 33, 1309) := ⟨cd_m 6 25 rfl rfl, by decide, by decide⟩
theorem cd_fa107 : cd_flP (11, 54, 11, 34, 1310) := ⟨cd_m 6 26 rfl rfl, by decide, by decide⟩
theorem cd_fa108 : cd_flP (11, 300, 11, 35, 1311) := ⟨cd_m 6 27 rfl rfl, by decide, by decide⟩
theorem cd_fa109 : cd_flP (11, 303, 11, 36, 1312) := ⟨cd_m 6 28 rfl rfl, by decide, by decide⟩
theorem cd_fa110 : cd_flP (11, 66, 11, 41, 1317) := ⟨cd_m 6 33 rfl rfl, by decide, by decide⟩
theorem cd_fa111 : cd_flP (11, 312, 11, 37, 1313) := ⟨cd_m 6 29 rfl rfl, by decide, by decide⟩
theorem cd_fa112 : cd_flP (11, 315, 11, 47, 1323) := ⟨cd_m 6 39 rfl rfl, by decide, by decide⟩
theorem cd_fa113 : cd_flP (11, 60, 11, 39, 1315) := ⟨cd_m 6 31 rfl rfl, by decide, by decide⟩
theorem cd_fa114 : cd_flP (11, 69, 11, 42, 1318) := ⟨cd_m 6 34 rfl rfl, by decide, by decide⟩
theorem cd_fa115 : cd_flP (11, 57, 11, 38, 1314) := ⟨cd_m 6 30 rfl rfl, by decide, by decide⟩
theorem cd_fa116 : cd_flP (11, 63, 11, 40, 1316) := ⟨cd_m 6 32 rfl rfl, by decide, by decide⟩
theorem cd_fa117 : cd_flP (11, 324, 11, 45, 1321) := ⟨cd_m 6 37 rfl rfl, by decide, by decide⟩
theorem cd_fa118 : cd_flP (11, 327, 11, 46, 1322) := ⟨cd_m 6 38 rfl rfl, by decide, by decide⟩
theorem cd_fa119 : cd_flP (11, 330, 11, 44, 1320) := ⟨cd_m 6 36 rfl rfl, by decide, by decide⟩
theorem cd_fa120 : cd_flP (11, 72, 11, 43, 1319) := ⟨cd_m 6 35 rfl rfl, by decide, by decide⟩
theorem cd_fa121 : cd_flP (11, 75, 11, 48, 1324) := ⟨cd_m 6 40 rfl rfl, by decide, by decide⟩
theorem cd_fa122 : cd_flP (11, 78, 11, 49, 1325) := ⟨cd_m 6 41 rfl rfl, by decide, by decide⟩
theorem cd_fa123 : cd_flP (11, 351, 11, 50, 1326) := ⟨cd_m 6 42 rfl rfl, by decide, by decide⟩
theorem cd_fa124 : cd_flP (11, 81, 11, 51, 1327) := ⟨cd_m 6 43 rfl rfl, by decide, by decide⟩
theorem cd_fa125 : cd_flP (11, 84, 11, 52, 1328) := ⟨cd_m 6 44 rfl rfl, by decide, by decide⟩
end
section
theorem cd_la0 : cd_lkP (0, 49, 7, 0, 1161, 880, 881, 93) := ⟨by decide, cd_m 1 9 rfl rfl, fun _ => ⟨cd_m 5 117 rfl rfl, cd_m 4 76 rfl rfl, cd_m 4 77 rfl rfl, by decide +kernel⟩, fun h => absurd rfl h⟩
theorem cd_la1 : cd_lkP (0, 53, 75, 0, 883, 884, 885, 94) := ⟨by decide, cd_m 1 10 rfl rfl, fun _ => ⟨cd_m 4 79 rfl rfl, cd_m 4 80 rfl rfl, cd_m 4 81 rfl rfl, by decide +kernel⟩, fun h => absurd rfl h⟩
theorem cd_la2 : cd_lkP (0, 57, 41, 0, 900, 782, 783, 91) := ⟨by decide, cd_m 1 7 rfl rfl, fun _ => ⟨cd_m 4 96 rfl rfl, cd_m 3 218 rfl rfl, cd_m 3 219 rfl rfl, by decide +kernel⟩, fun h => absurd rfl h⟩
theorem cd_la3 : cd_lkP (0, 63, 8, 0, 901, 903, 21, 93) := ⟨by decide, cd_m 1 9 rfl rfl, fun _ => ⟨cd_m 4 97 rfl rfl, cd_m 4 99 rfl rfl, cd_m 0 21 rfl rfl, by decide +kernel⟩, fun h => absurd rfl h⟩
theorem cd_la4 : cd_lkP (0, 66, 10, 0, 950, 952, 24, 93) := ⟨by decide, cd_m 1 9 rfl rfl, fun _ => ⟨cd_m 4 146 rfl rfl, cd_m 4 148 rfl rfl, cd_m 0 24 rfl rfl, by decide +kernel⟩, fun h => absurd rfl h⟩
theorem cd_la5 : cd_lkP (0, 75, 70, 0, 955, 956, 957, 94) := ⟨by decide, cd_m 1 10 rfl rfl, fun _ => ⟨cd_m 4 151 rfl rfl, cd_m 4 152 rfl rfl, cd_m 4 153 rfl rfl, by decide +kernel⟩, fun h => absurd rfl h⟩
theorem cd_la6 : cd_lkP (0, 79, 71, 0, 959, 960, 961, 94) := ⟨by decide, cd_m 1 10 rfl rfl, fun _ => ⟨cd_m 4 155 rfl rfl, cd_m 4 156 rfl rfl, cd_m 4 157 rfl rfl, by decide +kernel⟩, fun h => absurd rfl h⟩
theorem cd_la7 : cd_lkP (0, 82, 46, 0, 905, 906, 907, 91) := ⟨by decide, cd_m 1 7 rfl rfl, fun _ => ⟨cd_m 4 101 rfl rfl, cd_m 4 102 rfl rfl, cd_m 4 103 rfl rfl, by decide +kernel⟩, fun h => absurd rfl h⟩
theorem cd_la8 : cd_lkP (0, 85, 68, 0, 909, 910, 911, 90) := ⟨by decide, cd_m 1 6 rfl rfl, fun _ => ⟨cd_m 4 105 rfl rfl, cd_m 4 106 rfl rfl, cd_m 4 107 rfl rfl, by decide +kernel⟩, fun h => absurd rfl h⟩
theorem cd_la9 : cd_lkP (0, 91, 67, 0, 917, 918, 919, 90) := ⟨by decide, cd_m 1 6 rfl rfl, fun _ => ⟨cd_m 4 113 rfl rfl, cd_m 4 114 rfl rfl, cd_m 4 115 rfl rfl, by decide +kernel⟩, fun h => absurd rfl h⟩
theorem cd_la10 : cd_lkP (0, 94, 65, 0, 922, 923, 924, 90) := ⟨by decide, cd_m 1 6 rfl rfl, fun _ => ⟨cd_m 4 118 rfl rfl, cd_m 4 119 rfl rfl, cd_m 4 120 rfl rfl, by decide +kernel⟩, fun h => absurd rfl h⟩
theorem cd_la11 : cd_lkP (0, 97, 69, 0, 926, 927, 928, 94) := ⟨by decide, cd_m 1 10 rfl rfl, fun _ => ⟨cd_m 4 122 rfl rfl, cd_m 4 123 rfl rfl, cd_m 4 124 rfl rfl, by decide +kernel⟩, fun h => absurd rfl h⟩
theorem cd_la12 : cd_lkP (0, 98, 73, 0, 930, 931, 932, 94) := ⟨by decide, cd_m 1 10 rfl rfl, fun _ => ⟨cd_m 4 126 rfl rfl, cd_m 4 127 rfl rfl, cd_m 4 128 rfl rfl, by decide +kernel⟩, fun h => absurd rfl h⟩
theorem cd_la13 : cd_lkP (0, 101, 9, 0, 938, 940, 23, 93) := ⟨by decide, cd_m 1 9 rfl rfl, fun _ => ⟨cd_m 4 134 rfl rfl, cd_m 4 136 rfl rfl, cd_m 0 23 rfl rfl, by decide +kernel⟩, fun h => absurd rfl h⟩
theorem cd_la14 : cd_lkP (0, 105, 72, 0, 946, 947, 948, 94) := ⟨by decide, cd_m 1 10 rfl rfl, fun _ => ⟨cd_m 4 142 rfl rfl, cd_m 4 143 rfl rfl, cd_m 4 144 rfl rfl, by decide +kernel⟩, fun h => absurd rfl h⟩
theorem cd_la15 : cd_lkP (0, 108, 5, 0, 942, 943, 944, 93) := ⟨by decide, cd_m 1 9 rfl rfl, fun _ => ⟨cd_m 4 138 rfl rfl, cd_m 4 139 rfl rfl, cd_m 4 140 rfl rfl, by decide +kernel⟩, fun h => absurd rfl h⟩
theorem cd_la16 : cd_lkP (1, 29, 14, 0, 623, 624, 625, 88) := ⟨by decide, cd_m 1 4 rfl rfl, fun _ => ⟨cd_m 3 59 rfl rfl, cd_m 3 60 rfl rfl, cd_m 3 61 rfl rfl, by decide +kernel⟩, fun h => absurd rfl h⟩
theorem cd_la17 : cd_lkP (1, 33, 16, 0, 619, 620, 621, 88) := ⟨by decide, cd_m 1 4 rfl rfl, fun _ => ⟨cd_m 3 55 rfl rfl, cd_m 3 56 rfl rfl, cd_m 3 57 rfl rfl, by decide +kernel⟩, fun h => absurd rfl h⟩
theorem cd_la18 : cd_lkP (1, 37, 11, 0, 618, 577, 578, 88) := ⟨by decide, cd_m 1 4 rfl rfl, fun _ => ⟨cd_m 3 54 rfl rfl, cd_m 3 13 rfl rfl, cd_m 3 14 rfl rfl, by decide +kernel⟩, fun h => absurd rfl h⟩
theorem cd_la19 : cd_lkP (1, 41, 15, 0, 627, 599, 600, 88) := ⟨by decide, cd_m 1 4 rfl rfl, fun _ => ⟨cd_m 3 63 rfl rfl, cd_m 3 35 rfl rfl, cd_m 3 36 rfl rfl, by decide +kernel⟩, fun h => absurd rfl h⟩
theorem cd_la20 : cd_lkP (2, 46, 41, 0, 1004, 782, 783, 91) := ⟨by decide, cd_m 1 7 rfl rfl, fun _ => ⟨cd_m 4 200 rfl rfl, cd_m 3 218 rfl rfl, cd_m 3 219 rfl rfl, by decide +kernel⟩, fun h => absurd rfl h⟩
theorem cd_la21 : cd_lkP (2, 51, 118, 0, 1005, 1006, 1007, 95) := ⟨by decide, cd_m 1 11 rfl rfl, fun _ => ⟨cd_m 4 201 rfl rfl, cd_m 4 202 rfl rfl, cd_m 4 203 rfl rfl, by decide +kernel⟩, fun h => absurd rfl h⟩
theorem cd_la22 : cd_lkP (2, 57, 20, 0, 1009, 1011, 28, 96) := ⟨by decide, cd_m 1 12 rfl rfl, fun _ => ⟨cd_m 4 205 rfl rfl, cd_m 4 207 rfl rfl, cd_m 0 28 rfl rfl, by decide +kernel⟩, fun h => absurd rfl h⟩
theorem cd_la23 : cd_lkP (2, 61, 21, 0, 1013, 1015, 29, 96) := ⟨by decide, cd_m 1 12 rfl rfl, fun _ => ⟨cd_m 4 209 rfl rfl, cd_m 4 211 rfl rfl, cd_m 0 29 rfl rfl, by decide +kernel⟩, fun h => absurd rfl h⟩
theorem cd_la24 : cd_lkP (2, 65, 23, 0, 1033, 1035, 31, 96) := ⟨by decide, cd_m 1 12 rfl rfl, fun _ => ⟨cd_m 4 229 rfl rfl, cd_m 4 231 rfl rfl, cd_m 0 31 rfl rfl, by decide +kernel⟩, fun h => absurd rfl h⟩
theorem cd_la25 : cd_lkP (2, 69, 35, 0, 1017, 1018, 1019, 96) := ⟨by decide, cd_m 1 12 rfl rfl, fun _ => ⟨cd_m 4 213 rfl rfl, cd_m 4 214 rfl rfl, cd_m 4 215 rfl rfl, by decide +kernel⟩, fun h => absurd rfl h⟩
theorem cd_la26 : cd_lkP (2, 73, 22, 0, 1025, 1027, 30, 96) := ⟨by decide, cd_m 1 12 rfl rfl, fun _ => ⟨cd_m 4 221 rfl rfl, cd_m 4 223 rfl rfl, cd_m 0 30 rfl rfl, by decide +kernel⟩, fun h => absurd rfl h⟩
theorem cd_la27 : cd_lkP (2, 77, 46, 0, 1029, 906, 907, 91) := ⟨by decide, cd_m 1 7 rfl rfl, fun _ => ⟨cd_m 4 225 rfl rfl, cd_m 4 102 rfl rfl, cd_m 4 103 rfl rfl, by decide +kernel⟩, fun h => absurd rfl h⟩
theorem cd_la28 : cd_lkP (2, 80, 45, 0, 1030, 826, 827, 91) := ⟨by decide, cd_m 1 7 rfl rfl, fun _ => ⟨cd_m 4 226 rfl rfl, cd_m 4 22 rfl rfl, cd_m 4 23 rfl rfl, by decide +kernel⟩, fun h => absurd rfl h⟩
theorem cd_la29 : cd_lkP (2, 84, 66, 0, 1031, 863, 864, 90) := ⟨by decide, cd_m 1 6 rfl rfl, fun _ => ⟨cd_m 4 227 rfl rfl, cd_m 4 59 rfl rfl, cd_m 4 60 rfl rfl, by decide +kernel⟩, fun h => absurd rfl h⟩
theorem cd_la30 : cd_lkP (2, 90, 65, 0, 1032, 923, 924, 90) := ⟨by decide, cd_m 1 6 rfl rfl, fun _ => ⟨cd_m 4 228 rfl rfl, cd_m 4 119 rfl rfl, cd_m 4 120 rfl rfl, by decide +kernel⟩, fun h => absurd rfl h⟩
theorem cd_la31 : cd_lkP (2, 93, 11, 0, 1037, 577, 578, 88) := ⟨by decide, cd_m 1 4 rfl rfl, fun _ => ⟨cd_m 4 233 rfl rfl, cd_m 3 13 rfl rfl, cd_m 3 14 rfl rfl, by decide +kernel⟩, fun h => absurd rfl h⟩
theorem cd_la32 : cd_lkP (2, 96, 24, 0, 1038, 1040, 32, 96) := ⟨by decide, cd_m 1 12 rfl rfl, fun _ => ⟨cd_m 4 234 rfl rfl, cd_m 4 236 rfl rfl, cd_m 0 32 rfl rfl, by decide +kernel⟩, fun h => absurd rfl h⟩
theorem cd_la33 : cd_lkP (2, 99, 25, 0, 1042, 1044, 33, 96) := ⟨by decide, cd_m 1 12 rfl rfl, fun _ => ⟨cd_m 4 238 rfl rfl, cd_m 5 0 rfl rfl, cd_m 0 33 rfl rfl, by decide +kernel⟩, fun h => absurd rfl h⟩
theorem cd_la34 : cd_lkP (2, 103, 13, 0, 1047, 645, 646, 88) := ⟨by decide, cd_m 1 4 rfl rfl, fun _ => ⟨cd_m 5 3 rfl rfl, cd_m 3 81 rfl rfl, cd_m 3 82 rfl rfl, by decide +kernel⟩, fun h => absurd rfl h⟩
theorem cd_la35 : cd_lkP (2, 104, 26, 0, 1021, 1022, 1023, 96) := ⟨by decide, cd_m 1 12 rfl rfl, fun _ => ⟨cd_m 4 217 rfl rfl, cd_m 4 218 rfl rfl, cd_m 4 219 rfl rfl, by decide +kernel⟩, fun h => absurd rfl h⟩
theorem cd_la36 : cd_lkP (2, 107, 15, 0, 1046, 599, 600, 88) := ⟨by decide, cd_m 1 4 rfl rfl, fun _ => ⟨cd_m 5 2 rfl rfl, cd_m 3 35 rfl rfl, cd_m 3 36 rfl rfl, by decide +kernel⟩, fun h => absurd rfl h⟩
theorem cd_la37 : cd_lkP (4, 19, 43, 0, 793, 794, 795, 91) := ⟨by decide, cd_m 1 7 rfl rfl, fun _ => ⟨cd_m 3 229 rfl rfl, cd_m 3 230 rfl rfl, cd_m 3 231 rfl rfl, by decide +kernel⟩, fun h => absurd rfl h⟩
theorem cd_la38 : cd_lkP (4, 25, 45, 0, 825, 826, 827, 91) := ⟨by decide, cd_m 1 7 rfl rfl, fun _ => ⟨cd_m 4 21 rfl rfl, cd_m 4 22 rfl rfl, cd_m 4 23 rfl rfl, by decide +kernel⟩, fun h => absurd rfl h⟩
theorem cd_la39 : cd_lkP (4, 29, 158, 2, 0, 724, 0, 85) := ⟨by decide, cd_m 1 1 rfl rfl, fun h => absurd h (by decide), fun _ => ⟨cd_m 3 160 rfl rfl, by decide +kernel, fun _ => ⟨rfl, by first | exact List.mem_of_getElem? (i := 2) rfl | exact List.mem_of_getElem? (i := 3) rfl | exact List.mem_of_getElem? (i := 4) rfl | exact List.mem_of_getElem? (i := 5) rfl⟩, fun h => absurd rfl h⟩⟩
theorem cd_la40 : cd_lkP (4, 33, 159, 2, 0, 594, 0, 85) := ⟨by decide, cd_m 1 1 rfl rfl, fun h => absurd h (by decide), fun _ => ⟨cd_m 3 30 rfl rfl, by decide +kernel, fun _ => ⟨rfl, by first | exact List.mem_of_getElem? (i := 2) rfl | exact List.mem_of_getElem? (i := 3) rfl | exact List.mem_of_getElem? (i := 4) rfl | exact List.mem_of_getElem? (i := 5) rfl⟩, fun h => absurd rfl h⟩⟩
theorem cd_la41 : cd_lkP (4, 37, 13, 0, 773, 645, 646, 88) := ⟨by decide, cd_m 1 4 rfl rfl, fun _ => ⟨cd_m 3 209 rfl rfl, cd_m 3 81 rfl rfl, cd_m 3 82 rfl rfl, by decide +kernel⟩, fun h => absurd rfl h⟩
theorem cd_la42 : cd_lkP (4, 42, 64, 0, 774, 745, 746, 90) := ⟨by decide, cd_m 1 6 rfl rfl, fun _ => ⟨cd_m 3 210 rfl rfl, cd_m 3 181 rfl rfl, cd_m 3 182 rfl rfl, by decide +kernel⟩, fun h => absurd rfl h⟩
theorem cd_la43 : cd_lkP (4, 48, 16, 0, 775, 620, 621, 88) := ⟨by decide, cd_m 1 4 rfl rfl, fun _ => ⟨cd_m 3 211 rfl rfl, cd_m 3 56 rfl rfl, cd_m 3 57 rfl rfl, by decide +kernel⟩, fun h => absurd rfl h⟩
theorem cd_la44 : cd_lkP (4, 51, 50, 0, 776, 778, 17, 91) := ⟨by decide, cd_m 1 7 rfl rfl, fun _ => ⟨cd_m 3 212 rfl rfl, cd_m 3 214 rfl rfl, cd_m 0 17 rfl rfl, by decide +kernel⟩, fun h => absurd rfl h⟩
theorem cd_la45 : cd_lkP (4, 55, 63, 0, 780, 740, 741, 90) := ⟨by decide, cd_m 1 6 rfl rfl, fun _ => ⟨cd_m 3 216 rfl rfl, cd_m 3 176 rfl rfl, cd_m 3 177 rfl rfl, by decide +kernel⟩, fun h => absurd rfl h⟩
theorem cd_la46 : cd_lkP (4, 59, 44, 0, 801, 790, 791, 91) := ⟨by decide, cd_m 1 7 rfl rfl, fun _ => ⟨cd_m 3 237 rfl rfl, cd_m 3 226 rfl rfl, cd_m 3 227 rfl rfl, by decide +kernel⟩, fun h => absurd rfl h⟩
theorem cd_la47 : cd_lkP (4, 70, 47, 0, 821, 822, 823, 91) := ⟨by decide, cd_m 1 7 rfl rfl, fun _ => ⟨cd_m 4 17 rfl rfl, cd_m 4 18 rfl rfl, cd_m 4 19 rfl rfl, by decide +kernel⟩, fun h => absurd rfl h⟩
theorem cd_la48 : cd_lkP (4, 81, 48, 0, 833, 834, 835, 91) := ⟨by decide, cd_m 1 7 rfl rfl, fun _ => ⟨cd_m 4 29 rfl rfl, cd_m 4 30 rfl rfl, cd_m 4 31 rfl rfl, by decide +kernel⟩, fun h => absurd rfl h⟩
theorem cd_la49 : cd_lkP (5, 41, 61, 0, 738, 731, 732, 90) := ⟨by decide, cd_m 1 6 rfl rfl, fun _ => ⟨cd_m 3 174 rfl rfl, cd_m 3 167 rfl rfl, cd_m 3 168 rfl rfl, by decide +kernel⟩, fun h => absurd rfl h⟩
theorem cd_la50 : cd_lkP (5, 45, 62, 0, 743, 735, 736, 90) := ⟨by decide, cd_m 1 6 rfl rfl, fun _ => ⟨cd_m 3 179 rfl rfl, cd_m 3 171 rfl rfl, cd_m 3 172 rfl rfl, by decide +kernel⟩, fun h => absurd rfl h⟩
theorem cd_la51 : cd_lkP (5, 49, 63, 0, 748, 740, 741, 90) := ⟨by decide, cd_m 1 6 rfl rfl, fun _ => ⟨cd_m 3 184 rfl rfl, cd_m 3 176 rfl rfl, cd_m 3 177 rfl rfl, by decide +kernel⟩, fun h => absurd rfl h⟩
theorem cd_la52 : cd_lkP (5, 53, 158, 2, 0, 724, 0, 85) := ⟨by decide, cd_m 1 1 rfl rfl, fun h => absurd h (by decide), fun _ => ⟨cd_m 3 160 rfl rfl, by decide +kernel, fun _ => ⟨rfl, by first | exact List.mem_of_getElem? (i := 2) rfl | exact List.mem_of_getElem? (i := 3) rfl | exact List.mem_of_getElem? (i := 4) rfl | exact List.mem_of_getElem? (i := 5) rfl⟩, fun h => absurd rfl h⟩⟩
theorem cd_la53 : cd_lkP (5, 66, 43, 0, 913, 794, 795, 91) := ⟨by decide, cd_m 1 7 rfl rfl, fun _ => ⟨cd_m 4 109 rfl rfl, cd_m 3 230 rfl rfl, cd_m 3 231 rfl rfl, by decide +kernel⟩, fun h => absurd rfl h⟩
theorem cd_la54 : cd_lkP (5, 71, 45, 0, 915, 826, 827, 91) := ⟨by decide, cd_m 1 7 rfl rfl, fun _ => ⟨cd_m 4 111 rfl rfl, cd_m 4 22 rfl rfl, cd_m 4 23 rfl rfl, by decide +kernel⟩, fun h => absurd rfl h⟩
theorem cd_la55 : cd_lkP (5, 75, 66, 0, 916, 863, 864, 90) := ⟨by decide, cd_m 1 6 rfl rfl, fun _ => ⟨cd_m 4 112 rfl rfl, cd_m 4 59 rfl rfl, cd_m 4 60 rfl rfl, by decide +kernel⟩, fun h => absurd rfl h⟩
theorem cd_la56 : cd_lkP (5, 82, 46, 0, 914, 906, 907, 91) := ⟨by decide, cd_m 1 7 rfl rfl, fun _ => ⟨cd_m 4 110 rfl rfl, cd_m 4 102 rfl rfl, cd_m 4 103 rfl rfl, by decide +kernel⟩, fun h => absurd rfl h⟩
theorem cd_la57 : cd_lkP (6, 28, 74, 0, 934, 936, 22, 94) := ⟨by decide, cd_m 1 10 rfl rfl, fun _ => ⟨cd_m 4 130 rfl rfl, cd_m 4 132 rfl rfl, cd_m 0 22 rfl rfl, by decide +kernel⟩, fun h => absurd rfl h⟩
theorem cd_la58 : cd_lkP (6, 32, 62, 0, 887, 735, 736, 90) := ⟨by decide, cd_m 1 6 rfl rfl, fun _ => ⟨cd_m 4 83 rfl rfl, cd_m 3 171 rfl rfl, cd_m 3 172 rfl rfl, by decide +kernel⟩, fun h => absurd rfl h⟩
theorem cd_la59 : cd_lkP (6, 38, 64, 0, 888, 745, 746, 90) := ⟨by decide, cd_m 1 6 rfl rfl, fun _ => ⟨cd_m 4 84 rfl rfl, cd_m 3 181 rfl rfl, cd_m 3 182 rfl rfl, by decide +kernel⟩, fun h => absurd rfl h⟩
theorem cd_la60 : cd_lkP (6, 42, 76, 0, 889, 891, 19, 94) := ⟨by decide, cd_m 1 10 rfl rfl, fun _ => ⟨cd_m 4 85 rfl rfl, cd_m 4 87 rfl rfl, cd_m 0 19 rfl rfl, by decide +kernel⟩, fun h => absurd rfl h⟩
theorem cd_la61 : cd_lkP (6, 46, 78, 1, 893, 894, 0, 94) := ⟨by decide, cd_m 1 10 rfl rfl, fun h => absurd h (by decide), fun _ => ⟨cd_m 4 90 rfl rfl, by decide +kernel, fun h => absurd rfl h, fun _ => ⟨rfl, cd_m 4 89 rfl rfl⟩⟩⟩
end
section
theorem cd_la62 : cd_lkP (6, 49, 77, 0, 896, 898, 20, 94) := ⟨by decide, cd_m 1 10 rfl rfl, fun _ => ⟨cd_m 4 92 rfl rfl, cd_m 4 94 rfl rfl, cd_m 0 20 rfl rfl, by decide +kernel⟩, fun h => absurd rfl h⟩
theorem cd_la63 : cd_lkP (7, 34, 81, 0, 459, 448, 449, 87) := ⟨by decide, cd_m 1 3 rfl rfl, fun _ => ⟨cd_m 2 135 rfl rfl, cd_m 2 124 rfl rfl, cd_m 2 125 rfl rfl, by decide +kernel⟩, fun h => absurd rfl h⟩
theorem cd_la64 : cd_lkP (7, 38, 82, 0, 468, 456, 457, 87) := ⟨by decide, cd_m 1 3 rfl rfl, fun _ => ⟨cd_m 2 144 rfl rfl, cd_m 2 132 rfl rfl, cd_m 2 133 rfl rfl, by decide +kernel⟩, fun h => absurd rfl h⟩
theorem cd_la65 : cd_lkP (7, 42, 88, 0, 469, 470, 471, 87) := ⟨by decide, cd_m 1 3 rfl rfl, fun _ => ⟨cd_m 2 145 rfl rfl, cd_m 2 146 rfl rfl, cd_m 2 147 rfl rfl, by decide +kernel⟩, fun h => absurd rfl h⟩
theorem cd_la66 : cd_lkP (7, 45, 92, 0, 473, 475, 0, 87) := ⟨by decide, cd_m 1 3 rfl rfl, fun _ => ⟨cd_m 2 149 rfl rfl, cd_m 2 151 rfl rfl, cd_m 0 0 rfl rfl, by decide +kernel⟩, fun h => absurd rfl h⟩
theorem cd_la67 : cd_lkP (7, 49, 93, 1, 477, 478, 0, 87) := ⟨by decide, cd_m 1 3 rfl rfl, fun h => absurd h (by decide), fun _ => ⟨cd_m 2 154 rfl rfl, by decide +kernel, fun h => absurd rfl h, fun _ => ⟨rfl, cd_m 2 153 rfl rfl⟩⟩⟩
theorem cd_la68 : cd_lkP (7, 52, 94, 1, 480, 481, 0, 87) := ⟨by decide, cd_m 1 3 rfl rfl, fun h => absurd h (by decide), fun _ => ⟨cd_m 2 157 rfl rfl, by decide +kernel, fun h => absurd rfl h, fun _ => ⟨rfl, cd_m 2 156 rfl rfl⟩⟩⟩
theorem cd_la69 : cd_lkP (7, 55, 90, 0, 483, 485, 1, 87) := ⟨by decide, cd_m 1 3 rfl rfl, fun _ => ⟨cd_m 2 159 rfl rfl, cd_m 2 161 rfl rfl, cd_m 0 1 rfl rfl, by decide +kernel⟩, fun h => absurd rfl h⟩
theorem cd_la70 : cd_lkP (7, 58, 95, 1, 487, 488, 0, 87) := ⟨by decide, cd_m 1 3 rfl rfl, fun h => absurd h (by decide), fun _ => ⟨cd_m 2 164 rfl rfl, by decide +kernel, fun h => absurd rfl h, fun _ => ⟨rfl, cd_m 2 163 rfl rfl⟩⟩⟩
theorem cd_la71 : cd_lkP (7, 61, 91, 0, 490, 492, 2, 87) := ⟨by decide, cd_m 1 3 rfl rfl, fun _ => ⟨cd_m 2 166 rfl rfl, cd_m 2 168 rfl rfl, cd_m 0 2 rfl rfl, by decide +kernel⟩, fun h => absurd rfl h⟩
theorem cd_la72 : cd_lkP (7, 64, 238, 0, 503, 504, 505, 98) := ⟨by decide, cd_m 1 14 rfl rfl, fun _ => ⟨cd_m 2 179 rfl rfl, cd_m 2 180 rfl rfl, cd_m 2 181 rfl rfl, by decide +kernel⟩, fun h => absurd rfl h⟩
theorem cd_la73 : cd_lkP (7, 69, 239, 0, 513, 514, 515, 98) := ⟨by decide, cd_m 1 14 rfl rfl, fun _ => ⟨cd_m 2 189 rfl rfl, cd_m 2 190 rfl rfl, cd_m 2 191 rfl rfl, by decide +kernel⟩, fun h => absurd rfl h⟩
theorem cd_la74 : cd_lkP (8, 44, 84, 0, 464, 465, 466, 87) := ⟨by decide, cd_m 1 3 rfl rfl, fun _ => ⟨cd_m 2 140 rfl rfl, cd_m 2 141 rfl rfl, cd_m 2 142 rfl rfl, by decide +kernel⟩, fun h => absurd rfl h⟩
theorem cd_la75 : cd_lkP (8, 49, 107, 0, 495, 497, 3, 86) := ⟨by decide, cd_m 1 2 rfl rfl, fun _ => ⟨cd_m 2 171 rfl rfl, cd_m 2 173 rfl rfl, cd_m 0 3 rfl rfl, by decide +kernel⟩, fun h => absurd rfl h⟩
theorem cd_la76 : cd_lkP (8, 53, 109, 0, 560, 562, 5, 86) := ⟨by decide, cd_m 1 2 rfl rfl, fun _ => ⟨cd_m 2 236 rfl rfl, cd_m 2 238 rfl rfl, cd_m 0 5 rfl rfl, by decide +kernel⟩, fun h => absurd rfl h⟩
theorem cd_la77 : cd_lkP (8, 57, 11, 0, 576, 577, 578, 88) := ⟨by decide, cd_m 1 4 rfl rfl, fun _ => ⟨cd_m 3 12 rfl rfl, cd_m 3 13 rfl rfl, cd_m 3 14 rfl rfl, by decide +kernel⟩, fun h => absurd rfl h⟩
theorem cd_la78 : cd_lkP (8, 60, 108, 0, 580, 582, 7, 86) := ⟨by decide, cd_m 1 2 rfl rfl, fun _ => ⟨cd_m 3 16 rfl rfl, cd_m 3 18 rfl rfl, cd_m 0 7 rfl rfl, by decide +kernel⟩, fun h => absurd rfl h⟩
theorem cd_la79 : cd_lkP (8, 64, 85, 0, 568, 569, 570, 87) := ⟨by decide, cd_m 1 3 rfl rfl, fun _ => ⟨cd_m 3 4 rfl rfl, cd_m 3 5 rfl rfl, cd_m 3 6 rfl rfl, by decide +kernel⟩, fun h => absurd rfl h⟩
theorem cd_la80 : cd_lkP (8, 68, 101, 0, 584, 586, 8, 86) := ⟨by decide, cd_m 1 2 rfl rfl, fun _ => ⟨cd_m 3 20 rfl rfl, cd_m 3 22 rfl rfl, cd_m 0 8 rfl rfl, by decide +kernel⟩, fun h => absurd rfl h⟩
theorem cd_la81 : cd_lkP (8, 74, 89, 0, 499, 500, 501, 87) := ⟨by decide, cd_m 1 3 rfl rfl, fun _ => ⟨cd_m 2 175 rfl rfl, cd_m 2 176 rfl rfl, cd_m 2 177 rfl rfl, by decide +kernel⟩, fun h => absurd rfl h⟩
theorem cd_la82 : cd_lkP (8, 77, 111, 0, 551, 553, 4, 86) := ⟨by decide, cd_m 1 2 rfl rfl, fun _ => ⟨cd_m 2 227 rfl rfl, cd_m 2 229 rfl rfl, cd_m 0 4 rfl rfl, by decide +kernel⟩, fun h => absurd rfl h⟩
theorem cd_la83 : cd_lkP (8, 80, 88, 0, 559, 470, 471, 87) := ⟨by decide, cd_m 1 3 rfl rfl, fun _ => ⟨cd_m 2 235 rfl rfl, cd_m 2 146 rfl rfl, cd_m 2 147 rfl rfl, by decide +kernel⟩, fun h => absurd rfl h⟩
theorem cd_la84 : cd_lkP (8, 83, 12, 0, 589, 590, 591, 88) := ⟨by decide, cd_m 1 4 rfl rfl, fun _ => ⟨cd_m 3 25 rfl rfl, cd_m 3 26 rfl rfl, cd_m 3 27 rfl rfl, by decide +kernel⟩, fun h => absurd rfl h⟩
theorem cd_la85 : cd_lkP (8, 85, 159, 2, 0, 594, 0, 85) := ⟨by decide, cd_m 1 1 rfl rfl, fun h => absurd h (by decide), fun _ => ⟨cd_m 3 30 rfl rfl, by decide +kernel, fun _ => ⟨rfl, by first | exact List.mem_of_getElem? (i := 2) rfl | exact List.mem_of_getElem? (i := 3) rfl | exact List.mem_of_getElem? (i := 4) rfl | exact List.mem_of_getElem? (i := 5) rfl⟩, fun h => absurd rfl h⟩⟩
theorem cd_la86 : cd_lkP (8, 89, 15, 0, 598, 599, 600, 88) := ⟨by decide, cd_m 1 4 rfl rfl, fun _ => ⟨cd_m 3 34 rfl rfl, cd_m 3 35 rfl rfl, cd_m 3 36 rfl rfl, by decide +kernel⟩, fun h => absurd rfl h⟩
theorem cd_la87 : cd_lkP (8, 93, 55, 0, 657, 180, 181, 90) := ⟨by decide, cd_m 1 6 rfl rfl, fun _ => ⟨cd_m 3 93 rfl rfl, cd_m 1 96 rfl rfl, cd_m 1 97 rfl rfl, by decide +kernel⟩, fun h => absurd rfl h⟩
theorem cd_la88 : cd_lkP (8, 96, 60, 0, 658, 659, 660, 90) := ⟨by decide, cd_m 1 6 rfl rfl, fun _ => ⟨cd_m 3 94 rfl rfl, cd_m 3 95 rfl rfl, cd_m 3 96 rfl rfl, by decide +kernel⟩, fun h => absurd rfl h⟩
theorem cd_la89 : cd_lkP (8, 101, 103, 0, 663, 665, 10, 86) := ⟨by decide, cd_m 1 2 rfl rfl, fun _ => ⟨cd_m 3 99 rfl rfl, cd_m 3 101 rfl rfl, cd_m 0 10 rfl rfl, by decide +kernel⟩, fun h => absurd rfl h⟩
theorem cd_la90 : cd_lkP (8, 104, 104, 0, 669, 671, 11, 86) := ⟨by decide, cd_m 1 2 rfl rfl, fun _ => ⟨cd_m 3 105 rfl rfl, cd_m 3 107 rfl rfl, cd_m 0 11 rfl rfl, by decide +kernel⟩, fun h => absurd rfl h⟩
theorem cd_la91 : cd_lkP (8, 107, 105, 0, 678, 680, 12, 86) := ⟨by decide, cd_m 1 2 rfl rfl, fun _ => ⟨cd_m 3 114 rfl rfl, cd_m 3 116 rfl rfl, cd_m 0 12 rfl rfl, by decide +kernel⟩, fun h => absurd rfl h⟩
theorem cd_la92 : cd_lkP (8, 110, 56, 0, 667, 184, 185, 90) := ⟨by decide, cd_m 1 6 rfl rfl, fun _ => ⟨cd_m 3 103 rfl rfl, cd_m 1 100 rfl rfl, cd_m 1 101 rfl rfl, by decide +kernel⟩, fun h => absurd rfl h⟩
theorem cd_la93 : cd_lkP (8, 113, 110, 0, 564, 566, 6, 86) := ⟨by decide, cd_m 1 2 rfl rfl, fun _ => ⟨cd_m 3 0 rfl rfl, cd_m 3 2 rfl rfl, cd_m 0 6 rfl rfl, by decide +kernel⟩, fun h => absurd rfl h⟩
theorem cd_la94 : cd_lkP (8, 116, 87, 0, 572, 573, 574, 87) := ⟨by decide, cd_m 1 3 rfl rfl, fun _ => ⟨cd_m 3 8 rfl rfl, cd_m 3 9 rfl rfl, cd_m 3 10 rfl rfl, by decide +kernel⟩, fun h => absurd rfl h⟩
theorem cd_la95 : cd_lkP (8, 119, 57, 0, 668, 188, 189, 90) := ⟨by decide, cd_m 1 6 rfl rfl, fun _ => ⟨cd_m 3 104 rfl rfl, cd_m 1 104 rfl rfl, cd_m 1 105 rfl rfl, by decide +kernel⟩, fun h => absurd rfl h⟩
theorem cd_la96 : cd_lkP (8, 132, 106, 0, 682, 684, 13, 86) := ⟨by decide, cd_m 1 2 rfl rfl, fun _ => ⟨cd_m 3 118 rfl rfl, cd_m 3 120 rfl rfl, cd_m 0 13 rfl rfl, by decide +kernel⟩, fun h => absurd rfl h⟩
theorem cd_la97 : cd_lkP (8, 135, 58, 0, 689, 690, 691, 90) := ⟨by decide, cd_m 1 6 rfl rfl, fun _ => ⟨cd_m 3 125 rfl rfl, cd_m 3 126 rfl rfl, cd_m 3 127 rfl rfl, by decide +kernel⟩, fun h => absurd rfl h⟩
theorem cd_la98 : cd_lkP (8, 145, 86, 0, 555, 556, 557, 87) := ⟨by decide, cd_m 1 3 rfl rfl, fun _ => ⟨cd_m 2 231 rfl rfl, cd_m 2 232 rfl rfl, cd_m 2 233 rfl rfl, by decide +kernel⟩, fun h => absurd rfl h⟩
theorem cd_la99 : cd_lkP (9, 44, 5, 0, 967, 943, 944, 93) := ⟨by decide, cd_m 1 9 rfl rfl, fun _ => ⟨cd_m 4 163 rfl rfl, cd_m 4 139 rfl rfl, cd_m 4 140 rfl rfl, by decide +kernel⟩, fun h => absurd rfl h⟩
theorem cd_la100 : cd_lkP (9, 50, 41, 0, 968, 782, 783, 91) := ⟨by decide, cd_m 1 7 rfl rfl, fun _ => ⟨cd_m 4 164 rfl rfl, cd_m 3 218 rfl rfl, cd_m 3 219 rfl rfl, by decide +kernel⟩, fun h => absurd rfl h⟩
theorem cd_la101 : cd_lkP (9, 55, 6, 0, 969, 970, 971, 93) := ⟨by decide, cd_m 1 9 rfl rfl, fun _ => ⟨cd_m 4 165 rfl rfl, cd_m 4 166 rfl rfl, cd_m 4 167 rfl rfl, by decide +kernel⟩, fun h => absurd rfl h⟩
theorem cd_la102 : cd_lkP (9, 59, 0, 0, 973, 974, 975, 93) := ⟨by decide, cd_m 1 9 rfl rfl, fun _ => ⟨cd_m 4 169 rfl rfl, cd_m 4 170 rfl rfl, cd_m 4 171 rfl rfl, by decide +kernel⟩, fun h => absurd rfl h⟩
theorem cd_la103 : cd_lkP (9, 63, 73, 0, 977, 931, 932, 94) := ⟨by decide, cd_m 1 10 rfl rfl, fun _ => ⟨cd_m 4 173 rfl rfl, cd_m 4 127 rfl rfl, cd_m 4 128 rfl rfl, by decide +kernel⟩, fun h => absurd rfl h⟩
theorem cd_la104 : cd_lkP (9, 68, 113, 0, 978, 980, 25, 95) := ⟨by decide, cd_m 1 11 rfl rfl, fun _ => ⟨cd_m 4 174 rfl rfl, cd_m 4 176 rfl rfl, cd_m 0 25 rfl rfl, by decide +kernel⟩, fun h => absurd rfl h⟩
theorem cd_la105 : cd_lkP (9, 72, 114, 0, 985, 987, 26, 95) := ⟨by decide, cd_m 1 11 rfl rfl, fun _ => ⟨cd_m 4 181 rfl rfl, cd_m 4 183 rfl rfl, cd_m 0 26 rfl rfl, by decide +kernel⟩, fun h => absurd rfl h⟩
theorem cd_la106 : cd_lkP (9, 76, 70, 0, 982, 956, 957, 94) := ⟨by decide, cd_m 1 10 rfl rfl, fun _ => ⟨cd_m 4 178 rfl rfl, cd_m 4 152 rfl rfl, cd_m 4 153 rfl rfl, by decide +kernel⟩, fun h => absurd rfl h⟩
theorem cd_la107 : cd_lkP (9, 79, 71, 0, 983, 960, 961, 94) := ⟨by decide, cd_m 1 10 rfl rfl, fun _ => ⟨cd_m 4 179 rfl rfl, cd_m 4 156 rfl rfl, cd_m 4 157 rfl rfl, by decide +kernel⟩, fun h => absurd rfl h⟩
theorem cd_la108 : cd_lkP (9, 82, 72, 0, 984, 947, 948, 94) := ⟨by decide, cd_m 1 10 rfl rfl, fun _ => ⟨cd_m 4 180 rfl rfl, cd_m 4 143 rfl rfl, cd_m 4 144 rfl rfl, by decide +kernel⟩, fun h => absurd rfl h⟩
theorem cd_la109 : cd_lkP (9, 85, 115, 0, 989, 991, 27, 95) := ⟨by decide, cd_m 1 11 rfl rfl, fun _ => ⟨cd_m 4 185 rfl rfl, cd_m 4 187 rfl rfl, cd_m 0 27 rfl rfl, by decide +kernel⟩, fun h => absurd rfl h⟩
theorem cd_la110 : cd_lkP (9, 89, 121, 0, 993, 994, 995, 95) := ⟨by decide, cd_m 1 11 rfl rfl, fun _ => ⟨cd_m 4 189 rfl rfl, cd_m 4 190 rfl rfl, cd_m 4 191 rfl rfl, by decide +kernel⟩, fun h => absurd rfl h⟩
theorem cd_la111 : cd_lkP (9, 92, 68, 0, 997, 910, 911, 90) := ⟨by decide, cd_m 1 6 rfl rfl, fun _ => ⟨cd_m 4 193 rfl rfl, cd_m 4 106 rfl rfl, cd_m 4 107 rfl rfl, by decide +kernel⟩, fun h => absurd rfl h⟩
theorem cd_la112 : cd_lkP (9, 98, 67, 0, 998, 918, 919, 90) := ⟨by decide, cd_m 1 6 rfl rfl, fun _ => ⟨cd_m 4 194 rfl rfl, cd_m 4 114 rfl rfl, cd_m 4 115 rfl rfl, by decide +kernel⟩, fun h => absurd rfl h⟩
theorem cd_la113 : cd_lkP (9, 101, 65, 0, 999, 923, 924, 90) := ⟨by decide, cd_m 1 6 rfl rfl, fun _ => ⟨cd_m 4 195 rfl rfl, cd_m 4 119 rfl rfl, cd_m 4 120 rfl rfl, by decide +kernel⟩, fun h => absurd rfl h⟩
theorem cd_la114 : cd_lkP (10, 82, 96, 0, 435, 436, 437, 86) := ⟨by decide, cd_m 1 2 rfl rfl, fun _ => ⟨cd_m 2 111 rfl rfl, cd_m 2 112 rfl rfl, cd_m 2 113 rfl rfl, by decide +kernel⟩, fun h => absurd rfl h⟩
theorem cd_la115 : cd_lkP (10, 86, 79, 0, 439, 440, 441, 87) := ⟨by decide, cd_m 1 3 rfl rfl, fun _ => ⟨cd_m 2 115 rfl rfl, cd_m 2 116 rfl rfl, cd_m 2 117 rfl rfl, by decide +kernel⟩, fun h => absurd rfl h⟩
theorem cd_la116 : cd_lkP (10, 92, 80, 0, 443, 444, 445, 87) := ⟨by decide, cd_m 1 3 rfl rfl, fun _ => ⟨cd_m 2 119 rfl rfl, cd_m 2 120 rfl rfl, cd_m 2 121 rfl rfl, by decide +kernel⟩, fun h => absurd rfl h⟩
theorem cd_la117 : cd_lkP (10, 95, 81, 0, 447, 448, 449, 87) := ⟨by decide, cd_m 1 3 rfl rfl, fun _ => ⟨cd_m 2 123 rfl rfl, cd_m 2 124 rfl rfl, cd_m 2 125 rfl rfl, by decide +kernel⟩, fun h => absurd rfl h⟩
theorem cd_la118 : cd_lkP (10, 99, 82, 0, 455, 456, 457, 87) := ⟨by decide, cd_m 1 3 rfl rfl, fun _ => ⟨cd_m 2 131 rfl rfl, cd_m 2 132 rfl rfl, cd_m 2 133 rfl rfl, by decide +kernel⟩, fun h => absurd rfl h⟩
theorem cd_la119 : cd_lkP (10, 103, 100, 0, 460, 461, 462, 86) := ⟨by decide, cd_m 1 2 rfl rfl, fun _ => ⟨cd_m 2 136 rfl rfl, cd_m 2 137 rfl rfl, cd_m 2 138 rfl rfl, by decide +kernel⟩, fun h => absurd rfl h⟩
theorem cd_la120 : cd_lkP (10, 106, 83, 0, 602, 603, 604, 87) := ⟨by decide, cd_m 1 3 rfl rfl, fun _ => ⟨cd_m 3 38 rfl rfl, cd_m 3 39 rfl rfl, cd_m 3 40 rfl rfl, by decide +kernel⟩, fun h => absurd rfl h⟩
theorem cd_la121 : cd_lkP (10, 109, 99, 0, 606, 607, 608, 86) := ⟨by decide, cd_m 1 2 rfl rfl, fun _ => ⟨cd_m 3 42 rfl rfl, cd_m 3 43 rfl rfl, cd_m 3 44 rfl rfl, by decide +kernel⟩, fun h => absurd rfl h⟩
theorem cd_la122 : cd_lkP (10, 112, 97, 0, 610, 611, 612, 86) := ⟨by decide, cd_m 1 2 rfl rfl, fun _ => ⟨cd_m 3 46 rfl rfl, cd_m 3 47 rfl rfl, cd_m 3 48 rfl rfl, by decide +kernel⟩, fun h => absurd rfl h⟩
theorem cd_la123 : cd_lkP (10, 116, 18, 0, 614, 615, 616, 88) := ⟨by decide, cd_m 1 4 rfl rfl, fun _ => ⟨cd_m 3 50 rfl rfl, cd_m 3 51 rfl rfl, cd_m 3 52 rfl rfl, by decide +kernel⟩, fun h => absurd rfl h⟩
end
section
theorem cd_la124 : cd_lkP (10, 120, 42, 0, 628, 629, 630, 91) := ⟨by decide, cd_m 1 7 rfl rfl, fun _ => ⟨cd_m 3 64 rfl rfl, cd_m 3 65 rfl rfl, cd_m 3 66 rfl rfl, by decide +kernel⟩, fun h => absurd rfl h⟩
theorem cd_la125 : cd_lkP (10, 121, 38, 0, 632, 633, 634, 92) := ⟨by decide, cd_m 1 8 rfl rfl, fun _ => ⟨cd_m 3 68 rfl rfl, cd_m 3 69 rfl rfl, cd_m 3 70 rfl rfl, by decide +kernel⟩, fun h => absurd rfl h⟩
theorem cd_la126 : cd_lkP (10, 122, 152, 0, 636, 638, 9, 85) := ⟨by decide, cd_m 1 1 rfl rfl, fun _ => ⟨cd_m 3 72 rfl rfl, cd_m 3 74 rfl rfl, cd_m 0 9 rfl rfl, by decide +kernel⟩, fun h => absurd rfl h⟩
theorem cd_la127 : cd_lkP (10, 125, 13, 0, 644, 645, 646, 88) := ⟨by decide, cd_m 1 4 rfl rfl, fun _ => ⟨cd_m 3 80 rfl rfl, cd_m 3 81 rfl rfl, cd_m 3 82 rfl rfl, by decide +kernel⟩, fun h => absurd rfl h⟩
theorem cd_la128 : cd_lkP (10, 126, 102, 0, 653, 654, 655, 86) := ⟨by decide, cd_m 1 2 rfl rfl, fun _ => ⟨cd_m 3 89 rfl rfl, cd_m 3 90 rfl rfl, cd_m 3 91 rfl rfl, by decide +kernel⟩, fun h => absurd rfl h⟩
theorem cd_la129 : cd_lkP (10, 129, 98, 0, 693, 694, 695, 86) := ⟨by decide, cd_m 1 2 rfl rfl, fun _ => ⟨cd_m 3 129 rfl rfl, cd_m 3 130 rfl rfl, cd_m 3 131 rfl rfl, by decide +kernel⟩, fun h => absurd rfl h⟩
theorem cd_la130 : cd_lkP (10, 133, 59, 0, 697, 698, 699, 90) := ⟨by decide, cd_m 1 6 rfl rfl, fun _ => ⟨cd_m 3 133 rfl rfl, cd_m 3 134 rfl rfl, cd_m 3 135 rfl rfl, by decide +kernel⟩, fun h => absurd rfl h⟩
theorem cd_la131 : cd_lkP (10, 136, 60, 0, 704, 659, 660, 90) := ⟨by decide, cd_m 1 6 rfl rfl, fun _ => ⟨cd_m 3 140 rfl rfl, cd_m 3 95 rfl rfl, cd_m 3 96 rfl rfl, by decide +kernel⟩, fun h => absurd rfl h⟩
theorem cd_la132 : cd_lkP (10, 139, 155, 0, 709, 711, 14, 85) := ⟨by decide, cd_m 1 1 rfl rfl, fun _ => ⟨cd_m 3 145 rfl rfl, cd_m 3 147 rfl rfl, cd_m 0 14 rfl rfl, by decide +kernel⟩, fun h => absurd rfl h⟩
theorem cd_la133 : cd_lkP (10, 143, 61, 0, 730, 731, 732, 90) := ⟨by decide, cd_m 1 6 rfl rfl, fun _ => ⟨cd_m 3 166 rfl rfl, cd_m 3 167 rfl rfl, cd_m 3 168 rfl rfl, by decide +kernel⟩, fun h => absurd rfl h⟩
theorem cd_la134 : cd_lkP (10, 146, 62, 0, 734, 735, 736, 90) := ⟨by decide, cd_m 1 6 rfl rfl, fun _ => ⟨cd_m 3 170 rfl rfl, cd_m 3 171 rfl rfl, cd_m 3 172 rfl rfl, by decide +kernel⟩, fun h => absurd rfl h⟩
theorem cd_la135 : cd_lkP (10, 150, 63, 0, 739, 740, 741, 90) := ⟨by decide, cd_m 1 6 rfl rfl, fun _ => ⟨cd_m 3 175 rfl rfl, cd_m 3 176 rfl rfl, cd_m 3 177 rfl rfl, by decide +kernel⟩, fun h => absurd rfl h⟩
theorem cd_la136 : cd_lkP (10, 154, 64, 0, 744, 745, 746, 90) := ⟨by decide, cd_m 1 6 rfl rfl, fun _ => ⟨cd_m 3 180 rfl rfl, cd_m 3 181 rfl rfl, cd_m 3 182 rfl rfl, by decide +kernel⟩, fun h => absurd rfl h⟩
theorem cd_la137 : cd_lkP (10, 158, 157, 1, 714, 715, 0, 85) := ⟨by decide, cd_m 1 1 rfl rfl, fun h => absurd h (by decide), fun _ => ⟨cd_m 3 151 rfl rfl, by decide +kernel, fun h => absurd rfl h, fun _ => ⟨rfl, cd_m 3 150 rfl rfl⟩⟩⟩
theorem cd_la138 : cd_lkP (10, 161, 151, 0, 757, 759, 16, 85) := ⟨by decide, cd_m 1 1 rfl rfl, fun _ => ⟨cd_m 3 193 rfl rfl, cd_m 3 195 rfl rfl, cd_m 0 16 rfl rfl, by decide +kernel⟩, fun h => absurd rfl h⟩
theorem cd_la139 : cd_lkP (10, 164, 49, 0, 769, 770, 771, 91) := ⟨by decide, cd_m 1 7 rfl rfl, fun _ => ⟨cd_m 3 205 rfl rfl, cd_m 3 206 rfl rfl, cd_m 3 207 rfl rfl, by decide +kernel⟩, fun h => absurd rfl h⟩
theorem cd_la140 : cd_lkP (10, 168, 41, 0, 781, 782, 783, 91) := ⟨by decide, cd_m 1 7 rfl rfl, fun _ => ⟨cd_m 3 217 rfl rfl, cd_m 3 218 rfl rfl, cd_m 3 219 rfl rfl, by decide +kernel⟩, fun h => absurd rfl h⟩
theorem cd_la141 : cd_lkP (10, 169, 44, 0, 789, 790, 791, 91) := ⟨by decide, cd_m 1 7 rfl rfl, fun _ => ⟨cd_m 3 225 rfl rfl, cd_m 3 226 rfl rfl, cd_m 3 227 rfl rfl, by decide +kernel⟩, fun h => absurd rfl h⟩
theorem cd_la142 : cd_lkP (10, 172, 51, 0, 797, 798, 799, 91) := ⟨by decide, cd_m 1 7 rfl rfl, fun _ => ⟨cd_m 3 233 rfl rfl, cd_m 3 234 rfl rfl, cd_m 3 235 rfl rfl, by decide +kernel⟩, fun h => absurd rfl h⟩
theorem cd_la143 : cd_lkP (10, 176, 52, 0, 807, 808, 809, 91) := ⟨by decide, cd_m 1 7 rfl rfl, fun _ => ⟨cd_m 4 3 rfl rfl, cd_m 4 4 rfl rfl, cd_m 4 5 rfl rfl, by decide +kernel⟩, fun h => absurd rfl h⟩
theorem cd_la144 : cd_lkP (10, 179, 12, 0, 721, 590, 591, 88) := ⟨by decide, cd_m 1 4 rfl rfl, fun _ => ⟨cd_m 3 157 rfl rfl, cd_m 3 26 rfl rfl, cd_m 3 27 rfl rfl, by decide +kernel⟩, fun h => absurd rfl h⟩
theorem cd_la145 : cd_lkP (10, 182, 53, 0, 815, 816, 817, 91) := ⟨by decide, cd_m 1 7 rfl rfl, fun _ => ⟨cd_m 4 11 rfl rfl, cd_m 4 12 rfl rfl, cd_m 4 13 rfl rfl, by decide +kernel⟩, fun h => absurd rfl h⟩
theorem cd_la146 : cd_lkP (10, 186, 43, 0, 842, 794, 795, 91) := ⟨by decide, cd_m 1 7 rfl rfl, fun _ => ⟨cd_m 4 38 rfl rfl, cd_m 3 230 rfl rfl, cd_m 3 231 rfl rfl, by decide +kernel⟩, fun h => absurd rfl h⟩
theorem cd_la147 : cd_lkP (10, 189, 156, 0, 717, 719, 15, 85) := ⟨by decide, cd_m 1 1 rfl rfl, fun _ => ⟨cd_m 3 153 rfl rfl, cd_m 3 155 rfl rfl, cd_m 0 15 rfl rfl, by decide +kernel⟩, fun h => absurd rfl h⟩
theorem cd_la148 : cd_lkP (10, 192, 47, 0, 843, 822, 823, 91) := ⟨by decide, cd_m 1 7 rfl rfl, fun _ => ⟨cd_m 4 39 rfl rfl, cd_m 4 18 rfl rfl, cd_m 4 19 rfl rfl, by decide +kernel⟩, fun h => absurd rfl h⟩
theorem cd_la149 : cd_lkP (10, 195, 48, 0, 844, 834, 835, 91) := ⟨by decide, cd_m 1 7 rfl rfl, fun _ => ⟨cd_m 4 40 rfl rfl, cd_m 4 30 rfl rfl, cd_m 4 31 rfl rfl, by decide +kernel⟩, fun h => absurd rfl h⟩
theorem cd_la150 : cd_lkP (10, 199, 37, 0, 849, 850, 851, 92) := ⟨by decide, cd_m 1 8 rfl rfl, fun _ => ⟨cd_m 4 45 rfl rfl, cd_m 4 46 rfl rfl, cd_m 4 47 rfl rfl, by decide +kernel⟩, fun h => absurd rfl h⟩
theorem cd_la151 : cd_lkP (10, 200, 40, 0, 853, 854, 855, 92) := ⟨by decide, cd_m 1 8 rfl rfl, fun _ => ⟨cd_m 4 49 rfl rfl, cd_m 4 50 rfl rfl, cd_m 4 51 rfl rfl, by decide +kernel⟩, fun h => absurd rfl h⟩
theorem cd_la152 : cd_lkP (10, 216, 45, 0, 861, 826, 827, 91) := ⟨by decide, cd_m 1 7 rfl rfl, fun _ => ⟨cd_m 4 57 rfl rfl, cd_m 4 22 rfl rfl, cd_m 4 23 rfl rfl, by decide +kernel⟩, fun h => absurd rfl h⟩
theorem cd_la153 : cd_lkP (10, 220, 66, 0, 862, 863, 864, 90) := ⟨by decide, cd_m 1 6 rfl rfl, fun _ => ⟨cd_m 4 58 rfl rfl, cd_m 4 59 rfl rfl, cd_m 4 60 rfl rfl, by decide +kernel⟩, fun h => absurd rfl h⟩
theorem cd_la154 : cd_lkP (10, 224, 153, 0, 875, 877, 18, 85) := ⟨by decide, cd_m 1 1 rfl rfl, fun _ => ⟨cd_m 4 71 rfl rfl, cd_m 4 73 rfl rfl, cd_m 0 18 rfl rfl, by decide +kernel⟩, fun h => absurd rfl h⟩
theorem cd_la155 : cd_lkP (10, 227, 116, 0, 1048, 1049, 1050, 95) := ⟨by decide, cd_m 1 11 rfl rfl, fun _ => ⟨cd_m 5 4 rfl rfl, cd_m 5 5 rfl rfl, cd_m 5 6 rfl rfl, by decide +kernel⟩, fun h => absurd rfl h⟩
theorem cd_la156 : cd_lkP (10, 230, 117, 0, 1052, 1053, 1054, 95) := ⟨by decide, cd_m 1 11 rfl rfl, fun _ => ⟨cd_m 5 8 rfl rfl, cd_m 5 9 rfl rfl, cd_m 5 10 rfl rfl, by decide +kernel⟩, fun h => absurd rfl h⟩
theorem cd_la157 : cd_lkP (10, 233, 118, 0, 1056, 1006, 1007, 95) := ⟨by decide, cd_m 1 11 rfl rfl, fun _ => ⟨cd_m 5 12 rfl rfl, cd_m 4 202 rfl rfl, cd_m 4 203 rfl rfl, by decide +kernel⟩, fun h => absurd rfl h⟩
theorem cd_la158 : cd_lkP (10, 236, 119, 0, 1057, 1058, 1059, 95) := ⟨by decide, cd_m 1 11 rfl rfl, fun _ => ⟨cd_m 5 13 rfl rfl, cd_m 5 14 rfl rfl, cd_m 5 15 rfl rfl, by decide +kernel⟩, fun h => absurd rfl h⟩
theorem cd_la159 : cd_lkP (10, 239, 120, 0, 1061, 1062, 1063, 95) := ⟨by decide, cd_m 1 11 rfl rfl, fun _ => ⟨cd_m 5 17 rfl rfl, cd_m 5 18 rfl rfl, cd_m 5 19 rfl rfl, by decide +kernel⟩, fun h => absurd rfl h⟩
theorem cd_la160 : cd_lkP (10, 242, 31, 0, 1065, 1066, 1067, 96) := ⟨by decide, cd_m 1 12 rfl rfl, fun _ => ⟨cd_m 5 21 rfl rfl, cd_m 5 22 rfl rfl, cd_m 5 23 rfl rfl, by decide +kernel⟩, fun h => absurd rfl h⟩
theorem cd_la161 : cd_lkP (10, 245, 121, 0, 1069, 994, 995, 95) := ⟨by decide, cd_m 1 11 rfl rfl, fun _ => ⟨cd_m 5 25 rfl rfl, cd_m 4 190 rfl rfl, cd_m 4 191 rfl rfl, by decide +kernel⟩, fun h => absurd rfl h⟩
theorem cd_la162 : cd_lkP (10, 248, 32, 0, 1070, 1071, 1072, 96) := ⟨by decide, cd_m 1 12 rfl rfl, fun _ => ⟨cd_m 5 26 rfl rfl, cd_m 5 27 rfl rfl, cd_m 5 28 rfl rfl, by decide +kernel⟩, fun h => absurd rfl h⟩
theorem cd_la163 : cd_lkP (10, 251, 125, 0, 1078, 1079, 1080, 95) := ⟨by decide, cd_m 1 11 rfl rfl, fun _ => ⟨cd_m 5 34 rfl rfl, cd_m 5 35 rfl rfl, cd_m 5 36 rfl rfl, by decide +kernel⟩, fun h => absurd rfl h⟩
theorem cd_la164 : cd_lkP (10, 254, 123, 0, 1082, 1083, 1084, 95) := ⟨by decide, cd_m 1 11 rfl rfl, fun _ => ⟨cd_m 5 38 rfl rfl, cd_m 5 39 rfl rfl, cd_m 5 40 rfl rfl, by decide +kernel⟩, fun h => absurd rfl h⟩
theorem cd_la165 : cd_lkP (10, 257, 27, 0, 1086, 1087, 1088, 96) := ⟨by decide, cd_m 1 12 rfl rfl, fun _ => ⟨cd_m 5 42 rfl rfl, cd_m 5 43 rfl rfl, cd_m 5 44 rfl rfl, by decide +kernel⟩, fun h => absurd rfl h⟩
theorem cd_la166 : cd_lkP (10, 258, 124, 0, 1090, 1091, 1092, 95) := ⟨by decide, cd_m 1 11 rfl rfl, fun _ => ⟨cd_m 5 46 rfl rfl, cd_m 5 47 rfl rfl, cd_m 5 48 rfl rfl, by decide +kernel⟩, fun h => absurd rfl h⟩
theorem cd_la167 : cd_lkP (10, 261, 28, 0, 1094, 1095, 1096, 96) := ⟨by decide, cd_m 1 12 rfl rfl, fun _ => ⟨cd_m 5 50 rfl rfl, cd_m 5 51 rfl rfl, cd_m 5 52 rfl rfl, by decide +kernel⟩, fun h => absurd rfl h⟩
theorem cd_la168 : cd_lkP (10, 264, 29, 0, 1098, 1099, 1100, 96) := ⟨by decide, cd_m 1 12 rfl rfl, fun _ => ⟨cd_m 5 54 rfl rfl, cd_m 5 55 rfl rfl, cd_m 5 56 rfl rfl, by decide +kernel⟩, fun h => absurd rfl h⟩
theorem cd_la169 : cd_lkP (10, 267, 30, 0, 1102, 1103, 1104, 96) := ⟨by decide, cd_m 1 12 rfl rfl, fun _ => ⟨cd_m 5 58 rfl rfl, cd_m 5 59 rfl rfl, cd_m 5 60 rfl rfl, by decide +kernel⟩, fun h => absurd rfl h⟩
theorem cd_la170 : cd_lkP (10, 268, 122, 0, 1110, 1111, 1112, 95) := ⟨by decide, cd_m 1 11 rfl rfl, fun _ => ⟨cd_m 5 66 rfl rfl, cd_m 5 67 rfl rfl, cd_m 5 68 rfl rfl, by decide +kernel⟩, fun h => absurd rfl h⟩
theorem cd_la171 : cd_lkP (10, 271, 26, 0, 1118, 1022, 1023, 96) := ⟨by decide, cd_m 1 12 rfl rfl, fun _ => ⟨cd_m 5 74 rfl rfl, cd_m 4 218 rfl rfl, cd_m 4 219 rfl rfl, by decide +kernel⟩, fun h => absurd rfl h⟩
theorem cd_la172 : cd_lkP (10, 272, 33, 0, 1119, 1120, 1121, 96) := ⟨by decide, cd_m 1 12 rfl rfl, fun _ => ⟨cd_m 5 75 rfl rfl, cd_m 5 76 rfl rfl, cd_m 5 77 rfl rfl, by decide +kernel⟩, fun h => absurd rfl h⟩
theorem cd_la173 : cd_lkP (10, 275, 34, 0, 1123, 1124, 1125, 96) := ⟨by decide, cd_m 1 12 rfl rfl, fun _ => ⟨cd_m 5 79 rfl rfl, cd_m 5 80 rfl rfl, cd_m 5 81 rfl rfl, by decide +kernel⟩, fun h => absurd rfl h⟩
theorem cd_la174 : cd_lkP (10, 276, 35, 0, 1127, 1018, 1019, 96) := ⟨by decide, cd_m 1 12 rfl rfl, fun _ => ⟨cd_m 5 83 rfl rfl, cd_m 4 214 rfl rfl, cd_m 4 215 rfl rfl, by decide +kernel⟩, fun h => absurd rfl h⟩
theorem cd_la175 : cd_lkP (10, 279, 36, 0, 1128, 1129, 1130, 96) := ⟨by decide, cd_m 1 12 rfl rfl, fun _ => ⟨cd_m 5 84 rfl rfl, cd_m 5 85 rfl rfl, cd_m 5 86 rfl rfl, by decide +kernel⟩, fun h => absurd rfl h⟩
theorem cd_la176 : cd_lkP (10, 282, 14, 0, 713, 624, 625, 88) := ⟨by decide, cd_m 1 4 rfl rfl, fun _ => ⟨cd_m 3 149 rfl rfl, cd_m 3 60 rfl rfl, cd_m 3 61 rfl rfl, by decide +kernel⟩, fun h => absurd rfl h⟩
theorem cd_la177 : cd_lkP (10, 283, 17, 0, 1140, 1141, 1142, 88) := ⟨by decide, cd_m 1 4 rfl rfl, fun _ => ⟨cd_m 5 96 rfl rfl, cd_m 5 97 rfl rfl, cd_m 5 98 rfl rfl, by decide +kernel⟩, fun h => absurd rfl h⟩
theorem cd_la178 : cd_lkP (10, 287, 154, 0, 1148, 1150, 34, 85) := ⟨by decide, cd_m 1 1 rfl rfl, fun _ => ⟨cd_m 5 104 rfl rfl, cd_m 5 106 rfl rfl, cd_m 0 34 rfl rfl, by decide +kernel⟩, fun h => absurd rfl h⟩
theorem cd_la179 : cd_lkP (10, 291, 2, 0, 1157, 1158, 1159, 93) := ⟨by decide, cd_m 1 9 rfl rfl, fun _ => ⟨cd_m 5 113 rfl rfl, cd_m 5 114 rfl rfl, cd_m 5 115 rfl rfl, by decide +kernel⟩, fun h => absurd rfl h⟩
theorem cd_la180 : cd_lkP (10, 295, 3, 0, 1166, 1167, 1168, 93) := ⟨by decide, cd_m 1 9 rfl rfl, fun _ => ⟨cd_m 5 122 rfl rfl, cd_m 5 123 rfl rfl, cd_m 5 124 rfl rfl, by decide +kernel⟩, fun h => absurd rfl h⟩
theorem cd_la181 : cd_lkP (10, 298, 4, 0, 1170, 1171, 1172, 93) := ⟨by decide, cd_m 1 9 rfl rfl, fun _ => ⟨cd_m 5 126 rfl rfl, cd_m 5 127 rfl rfl, cd_m 5 128 rfl rfl, by decide +kernel⟩, fun h => absurd rfl h⟩
theorem cd_la182 : cd_lkP (10, 211, 46, 0, 1178, 906, 907, 91) := ⟨by decide, cd_m 1 7 rfl rfl, fun _ => ⟨cd_m 5 134 rfl rfl, cd_m 4 102 rfl rfl, cd_m 4 103 rfl rfl, by decide +kernel⟩, fun h => absurd rfl h⟩
theorem cd_la183 : cd_lkP (10, 301, 54, 0, 1183, 1184, 1185, 91) := ⟨by decide, cd_m 1 7 rfl rfl, fun _ => ⟨cd_m 5 139 rfl rfl, cd_m 5 140 rfl rfl, cd_m 5 141 rfl rfl, by decide +kernel⟩, fun h => absurd rfl h⟩
theorem cd_la184 : cd_lkP (10, 304, 65, 0, 1191, 923, 924, 90) := ⟨by decide, cd_m 1 6 rfl rfl, fun _ => ⟨cd_m 5 147 rfl rfl, cd_m 4 119 rfl rfl, cd_m 4 120 rfl rfl, by decide +kernel⟩, fun h => absurd rfl h⟩
theorem cd_la185 : cd_lkP (10, 307, 39, 0, 761, 762, 763, 92) := ⟨by decide, cd_m 1 8 rfl rfl, fun _ => ⟨cd_m 3 197 rfl rfl, cd_m 3 198 rfl rfl, cd_m 3 199 rfl rfl, by decide +kernel⟩, fun h => absurd rfl h⟩
end
section
theorem cd_la186 : cd_lkP (10, 310, 1, 0, 640, 641, 642, 93) := ⟨by decide, cd_m 1 9 rfl rfl, fun _ => ⟨cd_m 3 76 rfl rfl, cd_m 3 77 rfl rfl, cd_m 3 78 rfl rfl, by decide +kernel⟩, fun h => absurd rfl h⟩
theorem cd_la187 : cd_lkP (10, 313, 7, 0, 879, 880, 881, 93) := ⟨by decide, cd_m 1 9 rfl rfl, fun _ => ⟨cd_m 4 75 rfl rfl, cd_m 4 76 rfl rfl, cd_m 4 77 rfl rfl, by decide +kernel⟩, fun h => absurd rfl h⟩
theorem cd_la188 : cd_lkP (10, 317, 112, 0, 963, 964, 965, 95) := ⟨by decide, cd_m 1 11 rfl rfl, fun _ => ⟨cd_m 4 159 rfl rfl, cd_m 4 160 rfl rfl, cd_m 4 161 rfl rfl, by decide +kernel⟩, fun h => absurd rfl h⟩
theorem cd_la189 : cd_lkP (10, 321, 19, 0, 1000, 1001, 1002, 96) := ⟨by decide, cd_m 1 12 rfl rfl, fun _ => ⟨cd_m 4 196 rfl rfl, cd_m 4 197 rfl rfl, cd_m 4 198 rfl rfl, by decide +kernel⟩, fun h => absurd rfl h⟩
theorem cd_la190 : cd_lkP (10, 330, 16, 0, 722, 620, 621, 88) := ⟨by decide, cd_m 1 4 rfl rfl, fun _ => ⟨cd_m 3 158 rfl rfl, cd_m 3 56 rfl rfl, cd_m 3 57 rfl rfl, by decide +kernel⟩, fun h => absurd rfl h⟩
theorem cd_la191 : cd_lkP (10, 333, 158, 1, 723, 724, 0, 85) := ⟨by decide, cd_m 1 1 rfl rfl, fun h => absurd h (by decide), fun _ => ⟨cd_m 3 160 rfl rfl, by decide +kernel, fun h => absurd rfl h, fun _ => ⟨rfl, cd_m 3 159 rfl rfl⟩⟩⟩
theorem cd_la192 : cd_lkP (11, 101, 162, 0, 1444, 1446, 37, 97) := ⟨by decide, cd_m 1 13 rfl rfl, fun _ => ⟨cd_m 6 160 rfl rfl, cd_m 6 162 rfl rfl, cd_m 0 37 rfl rfl, by decide +kernel⟩, fun h => absurd rfl h⟩
theorem cd_la193 : cd_lkP (11, 113, 164, 0, 1463, 1465, 40, 97) := ⟨by decide, cd_m 1 13 rfl rfl, fun _ => ⟨cd_m 6 179 rfl rfl, cd_m 6 181 rfl rfl, cd_m 0 40 rfl rfl, by decide +kernel⟩, fun h => absurd rfl h⟩
theorem cd_la194 : cd_lkP (11, 127, 161, 1, 1452, 1453, 0, 97) := ⟨by decide, cd_m 1 13 rfl rfl, fun h => absurd h (by decide), fun _ => ⟨cd_m 6 169 rfl rfl, by decide +kernel, fun h => absurd rfl h, fun _ => ⟨rfl, cd_m 6 168 rfl rfl⟩⟩⟩
theorem cd_la195 : cd_lkP (11, 141, 167, 0, 1475, 1477, 42, 97) := ⟨by decide, cd_m 1 13 rfl rfl, fun _ => ⟨cd_m 6 191 rfl rfl, cd_m 6 193 rfl rfl, cd_m 0 42 rfl rfl, by decide +kernel⟩, fun h => absurd rfl h⟩
theorem cd_la196 : cd_lkP (11, 145, 166, 0, 1479, 1481, 43, 97) := ⟨by decide, cd_m 1 13 rfl rfl, fun _ => ⟨cd_m 6 195 rfl rfl, cd_m 6 197 rfl rfl, cd_m 0 43 rfl rfl, by decide +kernel⟩, fun h => absurd rfl h⟩
theorem cd_la197 : cd_lkP (11, 149, 165, 0, 1459, 1461, 39, 97) := ⟨by decide, cd_m 1 13 rfl rfl, fun _ => ⟨cd_m 6 175 rfl rfl, cd_m 6 177 rfl rfl, cd_m 0 39 rfl rfl, by decide +kernel⟩, fun h => absurd rfl h⟩
theorem cd_la198 : cd_lkP (11, 155, 168, 0, 1495, 1497, 47, 97) := ⟨by decide, cd_m 1 13 rfl rfl, fun _ => ⟨cd_m 6 211 rfl rfl, cd_m 6 213 rfl rfl, cd_m 0 47 rfl rfl, by decide +kernel⟩, fun h => absurd rfl h⟩
theorem cd_la199 : cd_lkP (11, 165, 170, 0, 1483, 1485, 44, 97) := ⟨by decide, cd_m 1 13 rfl rfl, fun _ => ⟨cd_m 6 199 rfl rfl, cd_m 6 201 rfl rfl, cd_m 0 44 rfl rfl, by decide +kernel⟩, fun h => absurd rfl h⟩
theorem cd_la200 : cd_lkP (11, 169, 173, 1, 1499, 1500, 0, 97) := ⟨by decide, cd_m 1 13 rfl rfl, fun h => absurd h (by decide), fun _ => ⟨cd_m 6 216 rfl rfl, by decide +kernel, fun h => absurd rfl h, fun _ => ⟨rfl, cd_m 6 215 rfl rfl⟩⟩⟩
theorem cd_la201 : cd_lkP (11, 173, 169, 0, 1487, 1489, 45, 97) := ⟨by decide, cd_m 1 13 rfl rfl, fun _ => ⟨cd_m 6 203 rfl rfl, cd_m 6 205 rfl rfl, cd_m 0 45 rfl rfl, by decide +kernel⟩, fun h => absurd rfl h⟩
theorem cd_la202 : cd_lkP (11, 176, 174, 0, 1491, 1493, 46, 97) := ⟨by decide, cd_m 1 13 rfl rfl, fun _ => ⟨cd_m 6 207 rfl rfl, cd_m 6 209 rfl rfl, cd_m 0 46 rfl rfl, by decide +kernel⟩, fun h => absurd rfl h⟩
theorem cd_la203 : cd_lkP (11, 179, 171, 0, 1455, 1457, 38, 97) := ⟨by decide, cd_m 1 13 rfl rfl, fun _ => ⟨cd_m 6 171 rfl rfl, cd_m 6 173 rfl rfl, cd_m 0 38 rfl rfl, by decide +kernel⟩, fun h => absurd rfl h⟩
theorem cd_la204 : cd_lkP (11, 182, 175, 0, 1471, 1473, 41, 97) := ⟨by decide, cd_m 1 13 rfl rfl, fun _ => ⟨cd_m 6 187 rfl rfl, cd_m 6 189 rfl rfl, cd_m 0 41 rfl rfl, by decide +kernel⟩, fun h => absurd rfl h⟩
theorem cd_la205 : cd_lkP (11, 185, 172, 0, 1502, 1504, 48, 97) := ⟨by decide, cd_m 1 13 rfl rfl, fun _ => ⟨cd_m 6 218 rfl rfl, cd_m 6 220 rfl rfl, cd_m 0 48 rfl rfl, by decide +kernel⟩, fun h => absurd rfl h⟩
theorem cd_la206 : cd_lkP (11, 208, 179, 0, 1532, 1534, 54, 97) := ⟨by decide, cd_m 1 13 rfl rfl, fun _ => ⟨cd_m 7 8 rfl rfl, cd_m 7 10 rfl rfl, cd_m 0 54 rfl rfl, by decide +kernel⟩, fun h => absurd rfl h⟩
theorem cd_la207 : cd_lkP (11, 211, 178, 0, 1518, 1520, 51, 97) := ⟨by decide, cd_m 1 13 rfl rfl, fun _ => ⟨cd_m 6 234 rfl rfl, cd_m 6 236 rfl rfl, cd_m 0 51 rfl rfl, by decide +kernel⟩, fun h => absurd rfl h⟩
theorem cd_la208 : cd_lkP (11, 214, 180, 0, 1524, 1526, 52, 97) := ⟨by decide, cd_m 1 13 rfl rfl, fun _ => ⟨cd_m 7 0 rfl rfl, cd_m 7 2 rfl rfl, cd_m 0 52 rfl rfl, by decide +kernel⟩, fun h => absurd rfl h⟩
theorem cd_la209 : cd_lkP (11, 217, 181, 0, 1528, 1530, 53, 97) := ⟨by decide, cd_m 1 13 rfl rfl, fun _ => ⟨cd_m 7 4 rfl rfl, cd_m 7 6 rfl rfl, cd_m 0 53 rfl rfl, by decide +kernel⟩, fun h => absurd rfl h⟩
theorem cd_la210 : cd_lkP (11, 221, 182, 0, 1514, 1516, 50, 97) := ⟨by decide, cd_m 1 13 rfl rfl, fun _ => ⟨cd_m 6 230 rfl rfl, cd_m 6 232 rfl rfl, cd_m 0 50 rfl rfl, by decide +kernel⟩, fun h => absurd rfl h⟩
theorem cd_la211 : cd_lkP (11, 91, 177, 0, 1272, 1274, 36, 97) := ⟨by decide, cd_m 1 13 rfl rfl, fun _ => ⟨cd_m 5 228 rfl rfl, cd_m 5 230 rfl rfl, cd_m 0 36 rfl rfl, by decide +kernel⟩, fun h => absurd rfl h⟩
theorem cd_la212 : cd_lkP (11, 224, 183, 0, 1510, 1512, 49, 97) := ⟨by decide, cd_m 1 13 rfl rfl, fun _ => ⟨cd_m 6 226 rfl rfl, cd_m 6 228 rfl rfl, cd_m 0 49 rfl rfl, by decide +kernel⟩, fun h => absurd rfl h⟩
theorem cd_la213 : cd_lkP (11, 230, 185, 0, 1544, 1546, 55, 97) := ⟨by decide, cd_m 1 13 rfl rfl, fun _ => ⟨cd_m 7 20 rfl rfl, cd_m 7 22 rfl rfl, cd_m 0 55 rfl rfl, by decide +kernel⟩, fun h => absurd rfl h⟩
theorem cd_la214 : cd_lkP (11, 233, 193, 0, 1556, 1558, 56, 97) := ⟨by decide, cd_m 1 13 rfl rfl, fun _ => ⟨cd_m 7 32 rfl rfl, cd_m 7 34 rfl rfl, cd_m 0 56 rfl rfl, by decide +kernel⟩, fun h => absurd rfl h⟩
theorem cd_la215 : cd_lkP (11, 236, 195, 0, 1564, 1566, 57, 97) := ⟨by decide, cd_m 1 13 rfl rfl, fun _ => ⟨cd_m 7 40 rfl rfl, cd_m 7 42 rfl rfl, cd_m 0 57 rfl rfl, by decide +kernel⟩, fun h => absurd rfl h⟩
theorem cd_la216 : cd_lkP (11, 239, 192, 0, 1568, 1570, 58, 97) := ⟨by decide, cd_m 1 13 rfl rfl, fun _ => ⟨cd_m 7 44 rfl rfl, cd_m 7 46 rfl rfl, cd_m 0 58 rfl rfl, by decide +kernel⟩, fun h => absurd rfl h⟩
theorem cd_la217 : cd_lkP (11, 247, 191, 0, 1583, 1585, 59, 97) := ⟨by decide, cd_m 1 13 rfl rfl, fun _ => ⟨cd_m 7 59 rfl rfl, cd_m 7 61 rfl rfl, cd_m 0 59 rfl rfl, by decide +kernel⟩, fun h => absurd rfl h⟩
theorem cd_la218 : cd_lkP (11, 251, 189, 0, 1591, 1593, 60, 97) := ⟨by decide, cd_m 1 13 rfl rfl, fun _ => ⟨cd_m 7 67 rfl rfl, cd_m 7 69 rfl rfl, cd_m 0 60 rfl rfl, by decide +kernel⟩, fun h => absurd rfl h⟩
theorem cd_la219 : cd_lkP (11, 258, 190, 0, 1605, 1607, 61, 97) := ⟨by decide, cd_m 1 13 rfl rfl, fun _ => ⟨cd_m 7 81 rfl rfl, cd_m 7 83 rfl rfl, cd_m 0 61 rfl rfl, by decide +kernel⟩, fun h => absurd rfl h⟩
theorem cd_la220 : cd_lkP (11, 261, 202, 0, 1613, 1615, 62, 97) := ⟨by decide, cd_m 1 13 rfl rfl, fun _ => ⟨cd_m 7 89 rfl rfl, cd_m 7 91 rfl rfl, cd_m 0 62 rfl rfl, by decide +kernel⟩, fun h => absurd rfl h⟩
theorem cd_la221 : cd_lkP (11, 267, 206, 0, 1645, 1647, 69, 97) := ⟨by decide, cd_m 1 13 rfl rfl, fun _ => ⟨cd_m 7 121 rfl rfl, cd_m 7 123 rfl rfl, cd_m 0 69 rfl rfl, by decide +kernel⟩, fun h => absurd rfl h⟩
theorem cd_la222 : cd_lkP (11, 270, 204, 0, 1633, 1635, 66, 97) := ⟨by decide, cd_m 1 13 rfl rfl, fun _ => ⟨cd_m 7 109 rfl rfl, cd_m 7 111 rfl rfl, cd_m 0 66 rfl rfl, by decide +kernel⟩, fun h => absurd rfl h⟩
theorem cd_la223 : cd_lkP (11, 273, 205, 1, 1657, 1658, 0, 97) := ⟨by decide, cd_m 1 13 rfl rfl, fun h => absurd h (by decide), fun _ => ⟨cd_m 7 134 rfl rfl, by decide +kernel, fun h => absurd rfl h, fun _ => ⟨rfl, cd_m 7 133 rfl rfl⟩⟩⟩
theorem cd_la224 : cd_lkP (11, 276, 209, 0, 1665, 1667, 73, 97) := ⟨by decide, cd_m 1 13 rfl rfl, fun _ => ⟨cd_m 7 141 rfl rfl, cd_m 7 143 rfl rfl, cd_m 0 73 rfl rfl, by decide +kernel⟩, fun h => absurd rfl h⟩
theorem cd_la225 : cd_lkP (11, 279, 210, 0, 1653, 1655, 71, 97) := ⟨by decide, cd_m 1 13 rfl rfl, fun _ => ⟨cd_m 7 129 rfl rfl, cd_m 7 131 rfl rfl, cd_m 0 71 rfl rfl, by decide +kernel⟩, fun h => absurd rfl h⟩
theorem cd_la226 : cd_lkP (11, 283, 211, 0, 1661, 1663, 72, 97) := ⟨by decide, cd_m 1 13 rfl rfl, fun _ => ⟨cd_m 7 137 rfl rfl, cd_m 7 139 rfl rfl, cd_m 0 72 rfl rfl, by decide +kernel⟩, fun h => absurd rfl h⟩
theorem cd_la227 : cd_lkP (11, 287, 207, 0, 1641, 1643, 68, 97) := ⟨by decide, cd_m 1 13 rfl rfl, fun _ => ⟨cd_m 7 117 rfl rfl, cd_m 7 119 rfl rfl, cd_m 0 68 rfl rfl, by decide +kernel⟩, fun h => absurd rfl h⟩
theorem cd_la228 : cd_lkP (11, 291, 212, 0, 1649, 1651, 70, 97) := ⟨by decide, cd_m 1 13 rfl rfl, fun _ => ⟨cd_m 7 125 rfl rfl, cd_m 7 127 rfl rfl, cd_m 0 70 rfl rfl, by decide +kernel⟩, fun h => absurd rfl h⟩
theorem cd_la229 : cd_lkP (11, 294, 208, 0, 1629, 1631, 65, 97) := ⟨by decide, cd_m 1 13 rfl rfl, fun _ => ⟨cd_m 7 105 rfl rfl, cd_m 7 107 rfl rfl, cd_m 0 65 rfl rfl, by decide +kernel⟩, fun h => absurd rfl h⟩
theorem cd_la230 : cd_lkP (11, 297, 213, 0, 1637, 1639, 67, 97) := ⟨by decide, cd_m 1 13 rfl rfl, fun _ => ⟨cd_m 7 113 rfl rfl, cd_m 7 115 rfl rfl, cd_m 0 67 rfl rfl, by decide +kernel⟩, fun h => absurd rfl h⟩
theorem cd_la231 : cd_lkP (11, 306, 214, 0, 1669, 1671, 74, 97) := ⟨by decide, cd_m 1 13 rfl rfl, fun _ => ⟨cd_m 7 145 rfl rfl, cd_m 7 147 rfl rfl, cd_m 0 74 rfl rfl, by decide +kernel⟩, fun h => absurd rfl h⟩
theorem cd_la232 : cd_lkP (11, 309, 216, 0, 1673, 1675, 75, 97) := ⟨by decide, cd_m 1 13 rfl rfl, fun _ => ⟨cd_m 7 149 rfl rfl, cd_m 7 151 rfl rfl, cd_m 0 75 rfl rfl, by decide +kernel⟩, fun h => absurd rfl h⟩
theorem cd_la233 : cd_lkP (11, 318, 217, 0, 1685, 1687, 78, 97) := ⟨by decide, cd_m 1 13 rfl rfl, fun _ => ⟨cd_m 7 161 rfl rfl, cd_m 7 163 rfl rfl, cd_m 0 78 rfl rfl, by decide +kernel⟩, fun h => absurd rfl h⟩
theorem cd_la234 : cd_lkP (11, 321, 218, 0, 1693, 1695, 80, 97) := ⟨by decide, cd_m 1 13 rfl rfl, fun _ => ⟨cd_m 7 169 rfl rfl, cd_m 7 171 rfl rfl, cd_m 0 80 rfl rfl, by decide +kernel⟩, fun h => absurd rfl h⟩
theorem cd_la235 : cd_lkP (11, 333, 220, 0, 1689, 1691, 79, 97) := ⟨by decide, cd_m 1 13 rfl rfl, fun _ => ⟨cd_m 7 165 rfl rfl, cd_m 7 167 rfl rfl, cd_m 0 79 rfl rfl, by decide +kernel⟩, fun h => absurd rfl h⟩
theorem cd_la236 : cd_lkP (11, 336, 215, 0, 1625, 1627, 64, 97) := ⟨by decide, cd_m 1 13 rfl rfl, fun _ => ⟨cd_m 7 101 rfl rfl, cd_m 7 103 rfl rfl, cd_m 0 64 rfl rfl, by decide +kernel⟩, fun h => absurd rfl h⟩
theorem cd_la237 : cd_lkP (11, 339, 219, 0, 1677, 1679, 76, 97) := ⟨by decide, cd_m 1 13 rfl rfl, fun _ => ⟨cd_m 7 153 rfl rfl, cd_m 7 155 rfl rfl, cd_m 0 76 rfl rfl, by decide +kernel⟩, fun h => absurd rfl h⟩
theorem cd_la238 : cd_lkP (11, 342, 221, 0, 1681, 1683, 77, 97) := ⟨by decide, cd_m 1 13 rfl rfl, fun _ => ⟨cd_m 7 157 rfl rfl, cd_m 7 159 rfl rfl, cd_m 0 77 rfl rfl, by decide +kernel⟩, fun h => absurd rfl h⟩
theorem cd_la239 : cd_lkP (11, 345, 222, 0, 1621, 1623, 63, 97) := ⟨by decide, cd_m 1 13 rfl rfl, fun _ => ⟨cd_m 7 97 rfl rfl, cd_m 7 99 rfl rfl, cd_m 0 63 rfl rfl, by decide +kernel⟩, fun h => absurd rfl h⟩
theorem cd_la240 : cd_lkP (11, 348, 228, 0, 1717, 1719, 81, 97) := ⟨by decide, cd_m 1 13 rfl rfl, fun _ => ⟨cd_m 7 193 rfl rfl, cd_m 7 195 rfl rfl, cd_m 0 81 rfl rfl, by decide +kernel⟩, fun h => absurd rfl h⟩
theorem cd_la241 : cd_lkP (11, 354, 233, 0, 1737, 1739, 82, 97) := ⟨by decide, cd_m 1 13 rfl rfl, fun _ => ⟨cd_m 7 213 rfl rfl, cd_m 7 215 rfl rfl, cd_m 0 82 rfl rfl, by decide +kernel⟩, fun h => absurd rfl h⟩
theorem cd_la242 : cd_lkP (11, 357, 234, 0, 1741, 1743, 83, 97) := ⟨by decide, cd_m 1 13 rfl rfl, fun _ => ⟨cd_m 7 217 rfl rfl, cd_m 7 219 rfl rfl, cd_m 0 83 rfl rfl, by decide +kernel⟩, fun h => absurd rfl h⟩
theorem cd_la243 : cd_lkP (12, 335, 240, 0, 507, 508, 509, 98) := ⟨by decide, cd_m 1 14 rfl rfl, fun _ => ⟨cd_m 2 183 rfl rfl, cd_m 2 184 rfl rfl, cd_m 2 185 rfl rfl, by decide +kernel⟩, fun h => absurd rfl h⟩
theorem cd_la244 : cd_lkP (12, 492, 241, 0, 517, 518, 519, 98) := ⟨by decide, cd_m 1 14 rfl rfl, fun _ => ⟨cd_m 2 193 rfl rfl, cd_m 2 194 rfl rfl, cd_m 2 195 rfl rfl, by decide +kernel⟩, fun h => absurd rfl h⟩
theorem cd_la245 : cd_lkP (12, 495, 243, 1, 521, 522, 0, 99) := ⟨by decide, cd_m 1 15 rfl rfl, fun h => absurd h (by decide), fun _ => ⟨cd_m 2 198 rfl rfl, by decide +kernel, fun h => absurd rfl h, fun _ => ⟨rfl, cd_m 2 197 rfl rfl⟩⟩⟩
theorem cd_la246 : cd_lkP (12, 1059, 244, 1, 529, 530, 0, 100) := ⟨by decide, cd_m 1 16 rfl rfl, fun h => absurd h (by decide), fun _ => ⟨cd_m 2 206 rfl rfl, by decide +kernel, fun h => absurd rfl h, fun _ => ⟨rfl, cd_m 2 205 rfl rfl⟩⟩⟩
theorem cd_la247 : cd_lkP (13, 9, 242, 1, 524, 525, 0, 98) := ⟨by decide, cd_m 1 14 rfl rfl, fun h => absurd h (by decide), fun _ => ⟨cd_m 2 201 rfl rfl, by decide +kernel, fun h => absurd rfl h, fun _ => ⟨rfl, cd_m 2 200 rfl rfl⟩⟩⟩
end
section

end
section
theorem cd_flOK_0 : ∀ e ∈ cd_fl_0, cd_flP e := List.forall_mem_cons.mpr ⟨cd_fa0, List.forall_mem_cons.mpr ⟨cd_fa1, List.forall_mem_cons.mpr ⟨cd_fa2, List.forall_mem_cons.mpr ⟨cd_fa3, List.forall_mem_cons.mpr ⟨cd_fa4, List.forall_mem_cons.mpr ⟨cd_fa5, List.forall_mem_cons.mpr ⟨cd_fa6, List.forall_mem_cons.mpr ⟨cd_fa7, List.forall_mem_cons.mpr ⟨cd_fa8, List.forall_mem_cons.mpr ⟨cd_fa9, List.forall_mem_cons.mpr ⟨cd_fa10, List.forall_mem_cons.mpr ⟨cd_fa11, List.forall_mem_cons.mpr ⟨cd_fa12, List.forall_mem_cons.mpr ⟨cd_fa13, List.forall_mem_cons.mpr ⟨cd_fa14, List.forall_mem_cons.mpr ⟨cd_fa15, List.forall_mem_cons.mpr ⟨cd_fa16, List.forall_mem_cons.mpr ⟨cd_fa17, List.forall_mem_cons.mpr ⟨cd_fa18, List.forall_mem_cons.mpr ⟨cd_fa19, List.forall_mem_cons.mpr ⟨cd_fa20, List.forall_mem_cons.mpr ⟨cd_fa21, List.forall_mem_cons.mpr ⟨cd_fa22, List.forall_mem_cons.mpr ⟨cd_fa23, List.forall_mem_cons.mpr ⟨cd_fa24, List.forall_mem_cons.mpr ⟨cd_fa25, List.forall_mem_cons.mpr ⟨cd_fa26, List.forall_mem_cons.mpr ⟨cd_fa27, List.forall_mem_cons.mpr ⟨cd_fa28, List.forall_mem_cons.mpr ⟨cd_fa29, List.forall_mem_cons.mpr ⟨cd_fa30, List.forall_mem_cons.mpr ⟨cd_fa31, List.forall_mem_cons.mpr ⟨cd_fa32, List.forall_mem_cons.mpr ⟨cd_fa33, List.forall_mem_cons.mpr ⟨cd_fa34, List.forall_mem_cons.mpr ⟨cd_fa35, List.forall_mem_cons.mpr ⟨cd_fa36, List.forall_mem_cons.mpr ⟨cd_fa37, List.forall_mem_cons.mpr ⟨cd_fa38, List.forall_mem_cons.mpr ⟨cd_fa39, List.forall_mem_cons.mpr ⟨cd_fa40, List.forall_mem_cons.mpr ⟨cd_fa41, List.forall_mem_cons.mpr ⟨cd_fa42, List.forall_mem_cons.mpr ⟨cd_fa43, List.forall_mem_cons.mpr ⟨cd_fa44, List.forall_mem_cons.mpr ⟨cd_fa45, List.forall_mem_cons.mpr ⟨cd_fa46, List.forall_mem_cons.mpr ⟨cd_fa47, List.forall_mem_cons.mpr ⟨cd_fa48, List.forall_mem_cons.mpr ⟨cd_fa49, List.forall_mem_cons.mpr ⟨cd_fa50, List.forall_mem_cons.mpr ⟨cd_fa51, List.forall_mem_cons.mpr ⟨cd_fa52, List.forall_mem_cons.mpr ⟨cd_fa53, List.forall_mem_cons.mpr ⟨cd_fa54, List.forall_mem_cons.mpr ⟨cd_fa55, List.forall_mem_cons.mpr ⟨cd_fa56, List.forall_mem_cons.mpr ⟨cd_fa57, List.forall_mem_cons.mpr ⟨cd_fa58, List.forall_mem_cons.mpr ⟨cd_fa59, List.forall_mem_cons.mpr ⟨cd_fa60, List.forall_mem_cons.mpr ⟨cd_fa61, List.forall_mem_cons.mpr ⟨cd_fa62, List.forall_mem_cons.mpr ⟨cd_fa63, List.forall_mem_cons.mpr ⟨cd_fa64, List.forall_mem_cons.mpr ⟨cd_fa65, List.forall_mem_cons.mpr ⟨cd_fa66, List.forall_mem_cons.mpr ⟨cd_fa67, List.forall_mem_cons.mpr ⟨cd_fa68, List.forall_mem_cons.mpr ⟨cd_fa69, List.forall_mem_cons.mpr ⟨cd_fa70, List.forall_mem_cons.mpr ⟨cd_fa71, List.forall_mem_cons.mpr ⟨cd_fa72, List.forall_mem_cons.mpr ⟨cd_fa73, List.forall_mem_cons.mpr ⟨cd_fa74, List.forall_mem_cons.mpr ⟨cd_fa75, List.forall_mem_cons.mpr ⟨cd_fa76, List.forall_mem_cons.mpr ⟨cd_fa77, List.forall_mem_cons.mpr ⟨cd_fa78, List.forall_mem_cons.mpr ⟨cd_fa79, fun _ h => absurd h List.not_mem_nil⟩⟩⟩⟩⟩⟩⟩⟩⟩⟩⟩⟩⟩⟩⟩⟩⟩⟩⟩⟩⟩⟩⟩⟩⟩⟩⟩⟩⟩⟩⟩⟩⟩⟩⟩⟩⟩⟩⟩⟩⟩⟩⟩⟩⟩⟩⟩⟩⟩⟩⟩⟩⟩⟩⟩⟩⟩⟩⟩⟩⟩⟩⟩⟩⟩⟩⟩⟩⟩⟩⟩⟩⟩⟩⟩⟩⟩⟩⟩⟩
theorem cd_flOK_1 : ∀ e ∈ cd_fl_1, cd_flP e := List.forall_mem_cons.mpr ⟨cd_fa80, List.forall_mem_cons.mpr ⟨cd_fa81, List.forall_mem_cons.mpr ⟨cd_fa82, List.forall_mem_cons.mpr ⟨cd_fa83, List.forall_mem_cons.mpr ⟨cd_fa84, List.forall_mem_cons.mpr ⟨cd_fa85, List.forall_mem_cons.mpr ⟨cd_fa86, List.forall_mem_cons.mpr ⟨cd_fa87, List.forall_mem_cons.mpr ⟨cd_fa88, List.forall_mem_cons.mpr ⟨cd_fa89, List.forall_mem_cons.mpr ⟨cd_fa90, List.forall_mem_cons.mpr ⟨cd_fa91, List.forall_mem_cons.mpr ⟨cd_fa92, List.forall_mem_cons.mpr ⟨cd_fa93, List.forall_mem_cons.mpr ⟨cd_fa94, List.forall_mem_cons.mpr ⟨cd_fa95, List.forall_mem_cons.mpr ⟨cd_fa96, List.forall_mem_cons.mpr ⟨cd_fa97, List.forall_mem_cons.mpr ⟨cd_fa98, List.forall_mem_cons.mpr ⟨cd_fa99, List.forall_mem_cons.mpr ⟨cd_fa100, List.forall_mem_cons.mpr ⟨cd_fa101, List.forall_mem_cons.mpr ⟨cd_fa102, List.forall_mem_cons.mpr ⟨cd_fa103, List.forall_mem_cons.mpr ⟨cd_fa104, List.forall_mem_cons.mpr ⟨cd_fa105, List.forall_mem_cons.mpr ⟨cd_fa106, List.forall_mem_cons.mpr ⟨cd_fa107, List.forall_mem_cons.mpr ⟨cd_fa108, List.forall_mem_cons.mpr ⟨cd_fa109, List.forall_mem_cons.mpr ⟨cd_fa110, List.forall_mem_cons.mpr ⟨cd_fa111, List.forall_mem_cons.mpr ⟨cd_fa112, List.forall_mem_cons.mpr ⟨cd_fa113, List.forall_mem_cons.mpr ⟨cd_fa114, List.forall_mem_cons.mpr ⟨cd_fa115, List.forall_mem_cons.mpr ⟨cd_fa116, List.forall_mem_cons.mpr ⟨cd_fa117, List.forall_mem_cons.mpr ⟨cd_fa118, List.forall_mem_cons.mpr ⟨cd_fa119, List.forall_mem_cons.mpr ⟨cd_fa120, List.forall_mem_cons.mpr ⟨cd_fa121, List.forall_mem_cons.mpr ⟨cd_fa122, List.forall_mem_cons.mpr ⟨cd_fa123, List.forall_mem_cons.mpr ⟨cd_fa124, List.forall_mem_cons.mpr ⟨cd_fa125, fun _ h => absurd h List.not_mem_nil⟩⟩⟩⟩⟩⟩⟩⟩⟩⟩⟩⟩⟩⟩⟩⟩⟩⟩⟩⟩⟩⟩⟩⟩⟩⟩⟩⟩⟩⟩⟩⟩⟩⟩⟩⟩⟩⟩⟩⟩⟩⟩⟩⟩⟩⟩
theorem cd_flOK : ∀ e ∈ cd_fl, cd_flP e := List.forall_mem_append.mpr ⟨cd_flOK_0, cd_flOK_1⟩
theorem cd_lkOK_0 : ∀ e ∈ cd_lkT_0, cd_lkP e := List.forall_mem_cons.mpr ⟨cd_la0, List.forall_mem_cons.mpr ⟨cd_la1, List.forall_mem_cons.mpr ⟨cd_la2, List.forall_mem_cons.mpr ⟨cd_la3, List.forall_mem_cons.mpr ⟨cd_la4, List.forall_mem_cons.mpr ⟨cd_la5, List.forall_mem_cons.mpr ⟨cd_la6, List.forall_mem_cons.mpr ⟨cd_la7, List.forall_mem_cons.mpr ⟨cd_la8, List.forall_mem_cons.mpr ⟨cd_la9, List.forall_mem_cons.mpr ⟨cd_la10, List.forall_mem_cons.mpr ⟨cd_la11, List.forall_mem_cons.mpr ⟨cd_la12, List.forall_mem_cons.mpr ⟨cd_la13, List.forall_mem_cons.mpr ⟨cd_la14, List.forall_mem_cons.mpr ⟨cd_la15, List.forall_mem_cons.mpr ⟨cd_la16, List.forall_mem_cons.mpr ⟨cd_la17, List.forall_mem_cons.mpr ⟨cd_la18, List.forall_mem_cons.mpr ⟨cd_la19, List.forall_mem_cons.mpr ⟨cd_la20, List.forall_mem_cons.mpr ⟨cd_la21, List.forall_mem_cons.mpr ⟨cd_la22, List.forall_mem_cons.mpr ⟨cd_la23, List.forall_mem_cons.mpr ⟨cd_la24, List.forall_mem_cons.mpr ⟨cd_la25, List.forall_mem_cons.mpr ⟨cd_la26, List.forall_mem_cons.mpr ⟨cd_la27, List.forall_mem_cons.mpr ⟨cd_la28, List.forall_mem_cons.mpr ⟨cd_la29, List.forall_mem_cons.mpr ⟨cd_la30, List.forall_mem_cons.mpr ⟨cd_la31, List.forall_mem_cons.mpr ⟨cd_la32, List.forall_mem_cons.mpr ⟨cd_la33, List.forall_mem_cons.mpr ⟨cd_la34, List.forall_mem_cons.mpr ⟨cd_la35, List.forall_mem_cons.mpr ⟨cd_la36, List.forall_mem_cons.mpr ⟨cd_la37, List.forall_mem_cons.mpr ⟨cd_la38, List.forall_mem_cons.mpr ⟨cd_la39, List.forall_mem_cons.mpr ⟨cd_la40, List.forall_mem_cons.mpr ⟨cd_la41, List.forall_mem_cons.mpr ⟨cd_la42, List.forall_mem_cons.mpr ⟨cd_la43, List.forall_mem_cons.mpr ⟨cd_la44, List.forall_mem_cons.mpr ⟨cd_la45, List.forall_mem_cons.mpr ⟨cd_la46, List.forall_mem_cons.mpr ⟨cd_la47, List.forall_mem_cons.mpr ⟨cd_la48, List.forall_mem_cons.mpr ⟨cd_la49, List.forall_mem_cons.mpr ⟨cd_la50, List.forall_mem_cons.mpr ⟨cd_la51, List.forall_mem_cons.mpr ⟨cd_la52, List.forall_mem_cons.mpr ⟨cd_la53, List.forall_mem_cons.mpr ⟨cd_la54, List.forall_mem_cons.mpr ⟨cd_la55, List.forall_mem_cons.mpr ⟨cd_la56, List.forall_mem_cons.mpr ⟨cd_la57, List.forall_mem_cons.mpr ⟨cd_la58, List.forall_mem_cons.mpr ⟨cd_la59, fun _ h => absurd h List.not_mem_nil⟩⟩⟩⟩⟩⟩⟩⟩⟩⟩⟩⟩⟩⟩⟩⟩⟩⟩⟩⟩⟩⟩⟩⟩⟩⟩⟩⟩⟩⟩⟩⟩⟩⟩⟩⟩⟩⟩⟩⟩⟩⟩⟩⟩⟩⟩⟩⟩⟩⟩⟩⟩⟩⟩⟩⟩⟩⟩⟩⟩
theorem cd_lkOK_1 : ∀ e ∈ cd_lkT_1, cd_lkP e := List.forall_mem_cons.mpr ⟨cd_la60, List.forall_mem_cons.mpr ⟨cd_la61, List.forall_mem_cons.mpr ⟨cd_la62, List.forall_mem_cons.mpr ⟨cd_la63, List.forall_mem_cons.mpr ⟨cd_la64, List.forall_mem_cons.mpr ⟨cd_la65, List.forall_mem_cons.mpr ⟨cd_la66, List.forall_mem_cons.mpr ⟨cd_la67, List.forall_mem_cons.mpr ⟨cd_la68, List.forall_mem_cons.mpr ⟨cd_la69, List.forall_mem_cons.mpr ⟨cd_la70, List.forall_mem_cons.mpr ⟨cd_la71, List.forall_mem_cons.mpr ⟨cd_la72, List.forall_mem_cons.mpr ⟨cd_la73, List.forall_mem_cons.mpr ⟨cd_la74, List.forall_mem_cons.mpr ⟨cd_la75, List.forall_mem_cons.mpr ⟨cd_la76, List.forall_mem_cons.mpr ⟨cd_la77, List.forall_mem_cons.mpr ⟨cd_la78, List.forall_mem_cons.mpr ⟨cd_la79, List.forall_mem_cons.mpr ⟨cd_la80, List.forall_mem_cons.mpr ⟨cd_la81, List.forall_mem_cons.mpr ⟨cd_la82, List.forall_mem_cons.mpr ⟨cd_la83, List.forall_mem_cons.mpr ⟨cd_la84, List.forall_mem_cons.mpr ⟨cd_la85, List.forall_mem_cons.mpr ⟨cd_la86, List.forall_mem_cons.mpr ⟨cd_la87, List.forall_mem_cons.mpr ⟨cd_la88, List.forall_mem_cons.mpr ⟨cd_la89, List.forall_mem_cons.mpr ⟨cd_la90, List.forall_mem_cons.mpr ⟨cd_la91, List.forall_mem_cons.mpr ⟨cd_la92, List.forall_mem_cons.mpr ⟨cd_la93, List.forall_mem_cons.mpr ⟨cd_la94, List.forall_mem_cons.mpr ⟨cd_la95, List.forall_mem_cons.mpr ⟨cd_la96, List.forall_mem_cons.mpr ⟨cd_la97, List.forall_mem_cons.mpr ⟨cd_la98, List.forall_mem_cons.mpr ⟨cd_la99, List.forall_mem_cons.mpr ⟨cd_la100, List.forall_mem_cons.mpr ⟨cd_la101, List.forall_mem_cons.mpr ⟨cd_la102, List.forall_mem_cons.mpr ⟨cd_la103, List.forall_mem_cons.mpr ⟨cd_la104, List.forall_mem_cons.mpr ⟨cd_la105, List.forall_mem_cons.mpr ⟨cd_la106, List.forall_mem_cons.mpr ⟨cd_la107, List.forall_mem_cons.mpr ⟨cd_la108, List.forall_mem_cons.mpr ⟨cd_la109, List.forall_mem_cons.mpr ⟨cd_la110, List.forall_mem_cons.mpr ⟨cd_la111, List.forall_mem_cons.mpr ⟨cd_la112, List.forall_mem_cons.mpr ⟨cd_la113, List.forall_mem_cons.mpr ⟨cd_la114, List.forall_mem_cons.mpr ⟨cd_la115, List.forall_mem_cons.mpr ⟨cd_la116, List.forall_mem_cons.mpr ⟨cd_la117, List.forall_mem_cons.mpr ⟨cd_la118, List.forall_mem_cons.mpr ⟨cd_la119, fun _ h => absurd h List.not_mem_nil⟩⟩⟩⟩⟩⟩⟩⟩⟩⟩⟩⟩⟩⟩⟩⟩⟩⟩⟩⟩⟩⟩⟩⟩⟩⟩⟩⟩⟩⟩⟩⟩⟩⟩⟩⟩⟩⟩⟩⟩⟩⟩⟩⟩⟩⟩⟩⟩⟩⟩⟩⟩⟩⟩⟩⟩⟩⟩⟩⟩
theorem cd_lkOK_2 : ∀ e ∈ cd_lkT_2, cd_lkP e := List.forall_mem_cons.mpr ⟨cd_la120, List.forall_mem_cons.mpr ⟨cd_la121, List.forall_mem_cons.mpr ⟨cd_la122, List.forall_mem_cons.mpr ⟨cd_la123, List.forall_mem_cons.mpr ⟨cd_la124, List.forall_mem_cons.mpr ⟨cd_la125, List.forall_mem_cons.mpr ⟨cd_la126, List.forall_mem_cons.mpr ⟨cd_la127, List.forall_mem_cons.mpr ⟨cd_la128, List.forall_mem_cons.mpr ⟨cd_la129, List.forall_mem_cons.mpr ⟨cd_la130, List.forall_mem_cons.mpr ⟨cd_la131, List.forall_mem_cons.mpr ⟨cd_la132, List.forall_mem_cons.mpr ⟨cd_la133, List.forall_mem_cons.mpr ⟨cd_la134, List.forall_mem_cons.mpr ⟨cd_la135, List.forall_mem_cons.mpr ⟨cd_la136, List.forall_mem_cons.mpr ⟨cd_la137, List.forall_mem_cons.mpr ⟨cd_la138, List.forall_mem_cons.mpr ⟨cd_la139, List.forall_mem_cons.mpr ⟨cd_la140, List.forall_mem_cons.mpr ⟨cd_la141, List.forall_mem_cons.mpr ⟨cd_la142, List.forall_mem_cons.mpr ⟨cd_la143, List.forall_mem_cons.mpr ⟨cd_la144, List.forall_mem_cons.mpr ⟨cd_la145, List.forall_mem_cons.mpr ⟨cd_la146, List.forall_mem_cons.mpr ⟨cd_la147, List.forall_mem_cons.mpr ⟨cd_la148, List.forall_mem_cons.mpr ⟨cd_la149, List.forall_mem_cons.mpr ⟨cd_la150, List.forall_mem_cons.mpr ⟨cd_la151, List.forall_mem_cons.mpr ⟨cd_la152, List.forall_mem_cons.mpr ⟨cd_la153, List.forall_mem_cons.mpr ⟨cd_la154, List.forall_mem_cons.mpr ⟨cd_la155, List.forall_mem_cons.mpr ⟨cd_la156, List.forall_mem_cons.mpr ⟨cd_la157, List.forall_mem_cons.mpr ⟨cd_la158, List.forall_mem_cons.mpr ⟨cd_la159, List.forall_mem_cons.mpr ⟨cd_la160, List.forall_mem_cons.mpr ⟨cd_la161, List.forall_mem_cons.mpr ⟨cd_la162, List.forall_mem_cons.mpr ⟨cd_la163, List.forall_mem_cons.mpr ⟨cd_la164, List.forall_mem_cons.mpr ⟨cd_la165, List.forall_mem_cons.mpr ⟨cd_la166, List.forall_mem_cons.mpr ⟨cd_la167, List.forall_mem_cons.mpr ⟨cd_la168, List.forall_mem_cons.mpr ⟨cd_la169, List.forall_mem_cons.mpr ⟨cd_la170, List.forall_mem_cons.mpr ⟨cd_la171, List.forall_mem_cons.mpr ⟨cd_la172, List.forall_mem_cons.mpr ⟨cd_la173, List.forall_mem_cons.mpr ⟨cd_la174, List.forall_mem_cons.mpr ⟨cd_la175, List.forall_mem_cons.mpr ⟨cd_la176, List.forall_mem_cons.mpr ⟨cd_la177, List.forall_mem_cons.mpr ⟨cd_la178, List.forall_mem_cons.mpr ⟨cd_la179, fun _ h => absurd h List.not_mem_nil⟩⟩⟩⟩⟩⟩⟩⟩⟩⟩⟩⟩⟩⟩⟩⟩⟩⟩⟩⟩⟩⟩⟩⟩⟩⟩⟩⟩⟩⟩⟩⟩⟩⟩⟩⟩⟩⟩⟩⟩⟩⟩⟩⟩⟩⟩⟩⟩⟩⟩⟩⟩⟩⟩⟩⟩⟩⟩⟩⟩
theorem cd_lkOK_3 : ∀ e ∈ cd_lkT_3, cd_lkP e := List.forall_mem_cons.mpr ⟨cd_la180, List.forall_mem_cons.mpr ⟨cd_la181, List.forall_mem_cons.mpr ⟨cd_la182, List.forall_mem_cons.mpr ⟨cd_la183, List.forall_mem_cons.mpr ⟨cd_la184, List.forall_mem_cons.mpr ⟨cd_la185, List.forall_mem_cons.mpr ⟨cd_la186, List.forall_mem_cons.mpr ⟨cd_la187, List.forall_mem_cons.mpr ⟨cd_la188, List.forall_mem_cons.mpr ⟨cd_la189, List.forall_mem_cons.mpr ⟨cd_la190, List.forall_mem_cons.mpr ⟨cd_la191, List.forall_mem_cons.mpr ⟨cd_la192, List.forall_mem_cons.mpr ⟨cd_la193, List.forall_mem_cons.mpr ⟨cd_la194, List.forall_mem_cons.mpr ⟨cd_la195, List.forall_mem_cons.mpr ⟨cd_la196, List.forall_mem_cons.mpr ⟨cd_la197, List.forall_mem_cons.mpr ⟨cd_la198, List.forall_mem_cons.mpr ⟨cd_la199, List.forall_mem_cons.mpr ⟨cd_la200, List.forall_mem_cons.mpr ⟨cd_la201, List.forall_mem_cons.mpr ⟨cd_la202, List.forall_mem_cons.mpr ⟨cd_la203, List.forall_mem_cons.mpr ⟨cd_la204, List.forall_mem_cons.mpr ⟨cd_la205, List.forall_mem_cons.mpr ⟨cd_la206, List.forall_mem_cons.mpr ⟨cd_la207, List.forall_mem_cons.mpr ⟨cd_la208, List.forall_mem_cons.mpr ⟨cd_la209, List.forall_mem_cons.mpr ⟨cd_la210, List.forall_mem_cons.mpr ⟨cd_la211, List.forall_mem_cons.mpr ⟨cd_la212, List.forall_mem_cons.mpr ⟨cd_la213, List.forall_mem_cons.mpr ⟨cd_la214, List.forall_mem_cons.mpr ⟨cd_la215, List.forall_mem_cons.mpr ⟨cd_la216, List.forall_mem_cons.mpr ⟨cd_la217, List.forall_mem_cons.mpr ⟨cd_la218, List.forall_mem_cons.mpr ⟨cd_la219, List.forall_mem_cons.mpr ⟨cd_la220, List.forall_mem_cons.mpr ⟨cd_la221, List.forall_mem_cons.mpr ⟨cd_la222, List.forall_mem_cons.mpr ⟨cd_la223, List.forall_mem_cons.mpr ⟨cd_la224, List.forall_mem_cons.mpr ⟨cd_la225, List.forall_mem_cons.mpr ⟨cd_la226, List.forall_mem_cons.mpr ⟨cd_la227, List.forall_mem_cons.mpr ⟨cd_la228, List.forall_mem_cons.mpr ⟨cd_la229, List.forall_mem_cons.mpr ⟨cd_la230, List.forall_mem_cons.mpr ⟨cd_la231, List.forall_mem_cons.mpr ⟨cd_la232, List.forall_mem_cons.mpr ⟨cd_la233, List.forall_mem_cons.mpr ⟨cd_la234, List.forall_mem_cons.mpr ⟨cd_la235, List.forall_mem_cons.mpr ⟨cd_la236, List.forall_mem_cons.mpr ⟨cd_la237, List.forall_mem_cons.mpr ⟨cd_la238, List.forall_mem_cons.mpr ⟨cd_la239, fun _ h => absurd h List.not_mem_nil⟩⟩⟩⟩⟩⟩⟩⟩⟩⟩⟩⟩⟩⟩⟩⟩⟩⟩⟩⟩⟩⟩⟩⟩⟩⟩⟩⟩⟩⟩⟩⟩⟩⟩⟩⟩⟩⟩⟩⟩⟩⟩⟩⟩⟩⟩⟩⟩⟩⟩⟩⟩⟩⟩⟩⟩⟩⟩⟩⟩
theorem cd_lkOK_4 : ∀ e ∈ cd_lkT_4, cd_lkP e := List.forall_mem_cons.mpr ⟨cd_la240, List.forall_mem_cons.mpr ⟨cd_la241, List.forall_mem_cons.mpr ⟨cd_la242, List.forall_mem_cons.mpr ⟨cd_la243, List.forall_mem_cons.mpr ⟨cd_la244, List.forall_mem_cons.mpr ⟨cd_la245, List.forall_mem_cons.mpr ⟨cd_la246, List.forall_mem_cons.mpr ⟨cd_la247, fun _ h => absurd h List.not_mem_nil⟩⟩⟩⟩⟩⟩⟩⟩
theorem cd_lkOK : ∀ e ∈ cd_lkT, cd_lkP e := List.forall_mem_append.mpr ⟨cd_lkOK_0, List.forall_mem_append.mpr ⟨cd_lkOK_1, List.forall_mem_append.mpr ⟨cd_lkOK_2, List.forall_mem_append.mpr ⟨cd_lkOK_3, cd_lkOK_4⟩⟩⟩⟩
def cd_natP (e : Nat × Nat × Nat × Nat) : Prop := Cond.methodLink (cd_c e.1) e.2.1 (match e.2.2.1 with | 0 => Lib.Math.max.name | 1 => Lib.Math.min.name | 2 => Lib.Math.abs.name | _ => arraycopyName) ∈ cd_big ∧ e.2.2.1 < 4
theorem cd_na0 : cd_natP (0, 69, 3, 954) := ⟨cd_m 4 150 rfl rfl, by decide⟩
theorem cd_na1 : cd_natP (3, 32, 3, 765) := ⟨cd_m 3 201 rfl rfl, by decide⟩
theorem cd_na2 : cd_natP (3, 38, 1, 766) := ⟨cd_m 3 202 rfl rfl, by decide⟩
theorem cd_na3 : cd_natP (4, 62, 3, 802) := ⟨cd_m 3 238 rfl rfl, by decide⟩
theorem cd_na4 : cd_natP (4, 73, 1, 831) := ⟨cd_m 4 27 rfl rfl, by decide⟩
theorem cd_na5 : cd_natP (4, 78, 0, 832) := ⟨cd_m 4 28 rfl rfl, by decide⟩
theorem cd_na6 : cd_natP (5, 35, 3, 701) := ⟨cd_m 3 137 rfl rfl, by decide⟩
theorem cd_na7 : cd_natP (5, 57, 2, 867) := ⟨cd_m 4 63 rfl rfl, by decide⟩
theorem cd_na8 : cd_natP (5, 62, 0, 870) := ⟨cd_m 4 66 rfl rfl, by decide⟩
theorem cd_na9 : cd_natP (5, 79, 1, 921) := ⟨cd_m 4 117 rfl rfl, by decide⟩
theorem cd_na10 : cd_natP (10, 325, 0, 1152) := ⟨cd_m 5 108 rfl rfl, by decide⟩
theorem cd_natOK_0 : ∀ e ∈ cd_nat_0, cd_natP e := List.forall_mem_cons.mpr ⟨cd_na0, List.forall_mem_cons.mpr ⟨cd_na1, List.forall_mem_cons.mpr ⟨cd_na2, List.forall_mem_cons.mpr ⟨cd_na3, List.forall_mem_cons.mpr ⟨cd_na4, List.forall_mem_cons.mpr ⟨cd_na5, List.forall_mem_cons.mpr ⟨cd_na6, List.forall_mem_cons.mpr ⟨cd_na7, List.forall_mem_cons.mpr ⟨cd_na8, List.forall_mem_cons.mpr ⟨cd_na9, List.forall_mem_cons.mpr ⟨cd_na10, fun _ h => absurd h List.not_mem_nil⟩⟩⟩⟩⟩⟩⟩⟩⟩⟩⟩
theorem cd_natOK : ∀ e ∈ cd_nat, cd_natP e := cd_natOK_0
def cd_kIP (e : Nat × Nat × Int32 × Nat) : Prop := Cond.constant (cd_c e.1) e.2.1 e.2.2.1 ∈ cd_big
theorem cd_ka0 : cd_kIP (4, 68, (1664525), 819) := cd_m 4 15 rfl rfl
theorem cd_ka1 : cd_kIP (4, 69, (1013904223), 820) := cd_m 4 16 rfl rfl
theorem cd_ka2 : cd_kIP (11, 245, (1664525), 1581) := cd_m 7 57 rfl rfl
theorem cd_ka3 : cd_kIP (11, 246, (1013904223), 1582) := cd_m 7 58 rfl rfl
theorem cd_ka4 : cd_kIP (11, 282, (1000000000), 1660) := cd_m 7 136 rfl rfl
theorem cd_kIOK_0 : ∀ e ∈ cd_kI_0, cd_kIP e := List.forall_mem_cons.mpr ⟨cd_ka0, List.forall_mem_cons.mpr ⟨cd_ka1, List.forall_mem_cons.mpr ⟨cd_ka2, List.forall_mem_cons.mpr ⟨cd_ka3, List.forall_mem_cons.mpr ⟨cd_ka4, fun _ h => absurd h List.not_mem_nil⟩⟩⟩⟩⟩
theorem cd_kIOK : ∀ e ∈ cd_kI, cd_kIP e := cd_kIOK_0
def cd_kLP (e : Nat × Nat × Int64 × Nat) : Prop := Cond.constantLong (cd_c e.1) e.2.1 e.2.2.1 ∈ cd_big
theorem cd_kb0 : cd_kLP (10, 337, (127), 596) := cd_m 3 32 rfl rfl
theorem cd_kb1 : cd_kLP (10, 339, (-1), 597) := cd_m 3 33 rfl rfl
theorem cd_kb2 : cd_kLP (4, 23, (4398046511103), 829) := cd_m 4 25 rfl rfl
theorem cd_kb3 : cd_kLP (11, 123, (97), 1467) := cd_m 6 183 rfl rfl
theorem cd_kb4 : cd_kLP (11, 125, (122), 1468) := cd_m 6 184 rfl rfl
theorem cd_kb5 : cd_kLP (11, 131, (48), 1469) := cd_m 6 185 rfl rfl
theorem cd_kb6 : cd_kLP (11, 133, (57), 1470) := cd_m 6 186 rfl rfl
theorem cd_kb7 : cd_kLP (11, 204, (2), 1522) := cd_m 6 238 rfl rfl
theorem cd_kb8 : cd_kLP (11, 206, (5), 1523) := cd_m 6 239 rfl rfl
theorem cd_kb9 : cd_kLP (11, 243, (9), 1580) := cd_m 7 56 rfl rfl
theorem cd_kb10 : cd_kLP (11, 254, (99), 1595) := cd_m 7 71 rfl rfl
theorem cd_kb11 : cd_kLP (11, 256, (-1), 1604) := cd_m 7 80 rfl rfl
theorem cd_kLOK_0 : ∀ e ∈ cd_kL_0, cd_kLP e := List.forall_mem_cons.mpr ⟨cd_kb0, List.forall_mem_cons.mpr ⟨cd_kb1, List.forall_mem_cons.mpr ⟨cd_kb2, List.forall_mem_cons.mpr ⟨cd_kb3, List.forall_mem_cons.mpr ⟨cd_kb4, List.forall_mem_cons.mpr ⟨cd_kb5, List.forall_mem_cons.mpr ⟨cd_kb6, List.forall_mem_cons.mpr ⟨cd_kb7, List.forall_mem_cons.mpr ⟨cd_kb8, List.forall_mem_cons.mpr ⟨cd_kb9, List.forall_mem_cons.mpr ⟨cd_kb10, List.forall_mem_cons.mpr ⟨cd_kb11, fun _ h => absurd h List.not_mem_nil⟩⟩⟩⟩⟩⟩⟩⟩⟩⟩⟩⟩
theorem cd_kLOK : ∀ e ∈ cd_kL, cd_kLP e := cd_kLOK_0
theorem cd_fnOK : ∀ e ∈ cd_fn, Cond.fieldLinkNest (cd_c e.1) e.2.1 ((cd_F e.2.2.1).2.1 e.2.2.2).1 ((cd_F e.2.2.1).2.1 e.2.2.2).2.1 ((cd_F e.2.2.1).2.1 e.2.2.2).2.2.1 RX10 ∈ cd_nest ∧ e.2.2.1 < 12 ∧ e.2.2.2 < (cd_F e.2.2.1).2.2 := List.forall_mem_cons.mpr ⟨⟨List.mem_of_getElem? (i := 0) rfl, by decide, by decide⟩, List.forall_mem_cons.mpr ⟨⟨List.mem_of_getElem? (i := 1) rfl, by decide, by decide⟩, fun _ h => absurd h List.not_mem_nil⟩⟩
theorem cd_max1 : Cond.static Lib.Math.max.name ∈ cd_big := cd_m 1 73 rfl rfl
theorem cd_max2 : Cond.code Lib.Math.max.name Lib.Math.max.code 2 (some .int) ∈ cd_big := cd_m 1 74 rfl rfl
theorem cd_min1 : Cond.static Lib.Math.min.name ∈ cd_big := cd_m 3 203 rfl rfl
theorem cd_min2 : Cond.code Lib.Math.min.name Lib.Math.min.code 2 (some .int) ∈ cd_big := cd_m 3 204 rfl rfl
theorem cd_abs1 : Cond.static Lib.Math.abs.name ∈ cd_big := cd_m 4 64 rfl rfl
theorem cd_abs2 : Cond.code Lib.Math.abs.name Lib.Math.abs.code 1 (some .int) ∈ cd_big := cd_m 4 65 rfl rfl
theorem cd_math1 : Cond.initialized "java/lang/Math" ∈ cd_big := cd_m 1 5 rfl rfl
theorem cd_cpy1 : Cond.native arraycopyName ∈ cd_big := cd_m 3 139 rfl rfl
theorem cd_cpy2 : Cond.static arraycopyName ∈ cd_big := cd_m 3 138 rfl rfl
theorem cd_cpy3 : Cond.initialized "java/lang/System" ∈ cd_big := cd_m 1 18 rfl rfl
theorem cd_y0_0 : u_lay RX0 TX0 0 ∈ cd_big := cd_m 1 215 rfl rfl
theorem cd_y0_1 : u_lay RX0 TX0 1 ∈ cd_big := cd_m 1 217 rfl rfl
theorem cd_y0_2 : u_lay RX0 TX0 2 ∈ cd_big := cd_m 1 219 rfl rfl
theorem cd_y0_3 : u_lay RX0 TX0 3 ∈ cd_big := cd_m 1 221 rfl rfl
theorem cd_y0_4 : u_lay RX0 TX0 4 ∈ cd_big := cd_m 1 223 rfl rfl
theorem cd_y0_5 : u_lay RX0 TX0 5 ∈ cd_big := cd_m 1 225 rfl rfl
theorem cd_y0_6 : u_lay RX0 TX0 6 ∈ cd_big := cd_m 1 227 rfl rfl
theorem cd_y0_7 : u_lay RX0 TX0 7 ∈ cd_big := cd_m 1 229 rfl rfl
theorem cd_y0_8 : u_lay RX0 TX0 8 ∈ cd_big := cd_m 1 231 rfl rfl
theorem cd_y0_9 : u_lay RX0 TX0 9 ∈ cd_big := cd_m 1 233 rfl rfl
theorem cd_lay0 : ∀ w ∈ u_ws RX0 TX0 10, w ∈ cd_big := by
  intro w hw
  obtain ⟨k, hk, rfl⟩ := List.mem_map.mp hw
  have hk := List.mem_range.mp hk
  match k, hk with
  | 0, _ => exact cd_y0_0
  | 1, _ => exact cd_y0_1
  | 2, _ => exact cd_y0_2
  | 3, _ => exact cd_y0_3
  | 4, _ => exact cd_y0_4
  | 5, _ => exact cd_y0_5
  | 6, _ => exact cd_y0_6
  | 7, _ => exact cd_y0_7
  | 8, _ => exact cd_y0_8
  | 9, _ => exact cd_y0_9
  | k + 10, hk => exact absurd hk (by omega)
theorem cd_y1_0 : u_lay RX1 TX1 0 ∈ cd_big := cd_m 1 79 rfl rfl
theorem cd_y1_1 : u_lay RX1 TX1 1 ∈ cd_big := cd_m 1 81 rfl rfl
theorem cd_y1_2 : u_lay RX1 TX1 2 ∈ cd_big := cd_m 1 83 rfl rfl
theorem cd_y1_3 : u_lay RX1 TX1 3 ∈ cd_big := cd_m 1 85 rfl rfl
theorem cd_lay1 : ∀ w ∈ u_ws RX1 TX1 4, w ∈ cd_big := by
  intro w hw
  obtain ⟨k, hk, rfl⟩ := List.mem_map.mp hw
  have hk := List.mem_range.mp hk
  match k, hk with
  | 0, _ => exact cd_y1_0
  | 1, _ => exact cd_y1_1
  | 2, _ => exact cd_y1_2
  | 3, _ => exact cd_y1_3
  | k + 4, hk => exact absurd hk (by omega)
theorem cd_y2_0 : u_lay RX2 TX2 0 ∈ cd_big := cd_m 2 51 rfl rfl
theorem cd_y2_1 : u_lay RX2 TX2 1 ∈ cd_big := cd_m 2 53 rfl rfl
theorem cd_y2_2 : u_lay RX2 TX2 2 ∈ cd_big := cd_m 2 55 rfl rfl
theorem cd_y2_3 : u_lay RX2 TX2 3 ∈ cd_big := cd_m 2 57 rfl rfl
theorem cd_y2_4 : u_lay RX2 TX2 4 ∈ cd_big := cd_m 2 59 rfl rfl
theorem cd_y2_5 : u_lay RX2 TX2 5 ∈ cd_big := cd_m 2 61 rfl rfl
theorem cd_y2_6 : u_lay RX2 TX2 6 ∈ cd_big := cd_m 2 63 rfl rfl
theorem cd_y2_7 : u_lay RX2 TX2 7 ∈ cd_big := cd_m 2 65 rfl rfl
theorem cd_y2_8 : u_lay RX2 TX2 8 ∈ cd_big := cd_m 2 67 rfl rfl
theorem cd_lay2 : ∀ w ∈ u_ws RX2 TX2 9, w ∈ cd_big := by
  intro w hw
  obtain ⟨k, hk, rfl⟩ := List.mem_map.mp hw
  have hk := List.mem_range.mp hk
  match k, hk with
  | 0, _ => exact cd_y2_0
  | 1, _ => exact cd_y2_1
  | 2, _ => exact cd_y2_2
  | 3, _ => exact cd_y2_3
  | 4, _ => exact cd_y2_4
  | 5, _ => exact cd_y2_5
  | 6, _ => exact cd_y2_6
  | 7, _ => exact cd_y2_7
  | 8, _ => exact cd_y2_8
  | k + 9, hk => exact absurd hk (by omega)
theorem cd_y3_0 : u_lay RX3 TX3 0 ∈ cd_big := cd_m 1 168 rfl rfl
theorem cd_y3_1 : u_lay RX3 TX3 1 ∈ cd_big := cd_m 1 170 rfl rfl
theorem cd_y3_2 : u_lay RX3 TX3 2 ∈ cd_big := cd_m 1 172 rfl rfl
theorem cd_y3_3 : u_lay RX3 TX3 3 ∈ cd_big := cd_m 1 174 rfl rfl
theorem cd_lay3 : ∀ w ∈ u_ws RX3 TX3 4, w ∈ cd_big := by
  intro w hw
  obtain ⟨k, hk, rfl⟩ := List.mem_map.mp hw
  have hk := List.mem_range.mp hk
  match k, hk with
  | 0, _ => exact cd_y3_0
  | 1, _ => exact cd_y3_1
  | 2, _ => exact cd_y3_2
  | 3, _ => exact cd_y3_3
  | k + 4, hk => exact absurd hk (by omega)
theorem cd_y4_0 : u_lay RX4 TX4 0 ∈ cd_big := cd_m 1 153 rfl rfl
theorem cd_y4_1 : u_lay RX4 TX4 1 ∈ cd_big := cd_m 1 155 rfl rfl
theorem cd_lay4 : ∀ w ∈ u_ws RX4 TX4 2, w ∈ cd_big := by
  intro w hw
  obtain ⟨k, hk, rfl⟩ := List.mem_map.mp hw
  have hk := List.mem_range.mp hk
  match k, hk with
  | 0, _ => exact cd_y4_0
  | 1, _ => exact cd_y4_1
  | k + 2, hk => exact absurd hk (by omega)
theorem cd_y5_0 : u_lay RX5 TX5 0 ∈ cd_big := cd_m 1 111 rfl rfl
theorem cd_y5_1 : u_lay RX5 TX5 1 ∈ cd_big := cd_m 1 113 rfl rfl
theorem cd_y5_2 : u_lay RX5 TX5 2 ∈ cd_big := cd_m 1 115 rfl rfl
theorem cd_y5_3 : u_lay RX5 TX5 3 ∈ cd_big := cd_m 1 117 rfl rfl
theorem cd_lay5 : ∀ w ∈ u_ws RX5 TX5 4, w ∈ cd_big := by
  intro w hw
  obtain ⟨k, hk, rfl⟩ := List.mem_map.mp hw
  have hk := List.mem_range.mp hk
  match k, hk with
  | 0, _ => exact cd_y5_0
  | 1, _ => exact cd_y5_1
  | 2, _ => exact cd_y5_2
  | 3, _ => exact cd_y5_3
  | k + 4, hk => exact absurd hk (by omega)
theorem cd_y6_0 : u_lay RX6 TX6 0 ∈ cd_big := cd_m 1 194 rfl rfl
theorem cd_y6_1 : u_lay RX6 TX6 1 ∈ cd_big := cd_m 1 196 rfl rfl
theorem cd_y6_2 : u_lay RX6 TX6 2 ∈ cd_big := cd_m 1 198 rfl rfl
theorem cd_y6_3 : u_lay RX6 TX6 3 ∈ cd_big := cd_m 1 200 rfl rfl
theorem cd_y6_4 : u_lay RX6 TX6 4 ∈ cd_big := cd_m 1 202 rfl rfl
theorem cd_lay6 : ∀ w ∈ u_ws RX6 TX6 5, w ∈ cd_big := by
  intro w hw
  obtain ⟨k, hk, rfl⟩ := List.mem_map.mp hw
  have hk := List.mem_range.mp hk
  match k, hk with
  | 0, _ => exact cd_y6_0
  | 1, _ => exact cd_y6_1
  | 2, _ => exact cd_y6_2
  | 3, _ => exact cd_y6_3
  | 4, _ => exact cd_y6_4
  | k + 5, hk => exact absurd hk (by omega)
theorem cd_y7_0 : u_lay RX7 TX7 0 ∈ cd_big := cd_m 1 50 rfl rfl
theorem cd_y7_1 : u_lay RX7 TX7 1 ∈ cd_big := cd_m 1 52 rfl rfl
theorem cd_y7_2 : u_lay RX7 TX7 2 ∈ cd_big := cd_m 1 54 rfl rfl
theorem cd_y7_3 : u_lay RX7 TX7 3 ∈ cd_big := cd_m 1 56 rfl rfl
theorem cd_y7_4 : u_lay RX7 TX7 4 ∈ cd_big := cd_m 1 58 rfl rfl
theorem cd_y7_5 : u_lay RX7 TX7 5 ∈ cd_big := cd_m 1 60 rfl rfl
theorem cd_y7_6 : u_lay RX7 TX7 6 ∈ cd_big := cd_m 1 62 rfl rfl
theorem cd_lay7 : ∀ w ∈ u_ws RX7 TX7 7, w ∈ cd_big := by
  intro w hw
  obtain ⟨k, hk, rfl⟩ := List.mem_map.mp hw
  have hk := List.mem_range.mp hk
  match k, hk with
  | 0, _ => exact cd_y7_0
  | 1, _ => exact cd_y7_1
  | 2, _ => exact cd_y7_2
  | 3, _ => exact cd_y7_3
  | 4, _ => exact cd_y7_4
  | 5, _ => exact cd_y7_5
  | 6, _ => exact cd_y7_6
  | k + 7, hk => exact absurd hk (by omega)
theorem cd_y8_0 : u_lay RX8 TX8 0 ∈ cd_big := cd_m 1 126 rfl rfl
theorem cd_y8_1 : u_lay RX8 TX8 1 ∈ cd_big := cd_m 1 128 rfl rfl
theorem cd_y8_2 : u_lay RX8 TX8 2 ∈ cd_big := cd_m 1 130 rfl rfl
theorem cd_y8_3 : u_lay RX8 TX8 3 ∈ cd_big := cd_m 1 132 rfl rfl
theorem cd_y8_4 : u_lay RX8 TX8 4 ∈ cd_big := cd_m 1 134 rfl rfl
theorem cd_y8_5 : u_lay RX8 TX8 5 ∈ cd_big := cd_m 1 136 rfl rfl
theorem cd_lay8 : ∀ w ∈ u_ws RX8 TX8 6, w ∈ cd_big := by
  intro w hw
  obtain ⟨k, hk, rfl⟩ := List.mem_map.mp hw
  have hk := List.mem_range.mp hk
  match k, hk with
  | 0, _ => exact cd_y8_0
  | 1, _ => exact cd_y8_1
  | 2, _ => exact cd_y8_2
  | 3, _ => exact cd_y8_3
  | 4, _ => exact cd_y8_4
  | 5, _ => exact cd_y8_5
  | k + 6, hk => exact absurd hk (by omega)
theorem cd_y9_0 : u_lay RX9 TX9 0 ∈ cd_big := cd_m 2 13 rfl rfl
theorem cd_y9_1 : u_lay RX9 TX9 1 ∈ cd_big := cd_m 2 15 rfl rfl
theorem cd_y9_2 : u_lay RX9 TX9 2 ∈ cd_big := cd_m 2 17 rfl rfl
theorem cd_y9_3 : u_lay RX9 TX9 3 ∈ cd_big := cd_m 2 19 rfl rfl
theorem cd_y9_4 : u_lay RX9 TX9 4 ∈ cd_big := cd_m 2 21 rfl rfl
theorem cd_y9_5 : u_lay RX9 TX9 5 ∈ cd_big := cd_m 2 23 rfl rfl
theorem cd_y9_6 : u_lay RX9 TX9 6 ∈ cd_big := cd_m 2 25 rfl rfl
theorem cd_y9_7 : u_lay RX9 TX9 7 ∈ cd_big := cd_m 2 27 rfl rfl
theorem cd_y9_8 : u_lay RX9 TX9 8 ∈ cd_big := cd_m 2 29 rfl rfl
theorem cd_y9_9 : u_lay RX9 TX9 9 ∈ cd_big := cd_m 2 31 rfl rfl
theorem cd_lay9 : ∀ w ∈ u_ws RX9 TX9 10, w ∈ cd_big := by
  intro w hw
  obtain ⟨k, hk, rfl⟩ := List.mem_map.mp hw
  have hk := List.mem_range.mp hk
  match k, hk with
  | 0, _ => exact cd_y9_0
  | 1, _ => exact cd_y9_1
  | 2, _ => exact cd_y9_2
  | 3, _ => exact cd_y9_3
  | 4, _ => exact cd_y9_4
  | 5, _ => exact cd_y9_5
  | 6, _ => exact cd_y9_6
  | 7, _ => exact cd_y9_7
  | 8, _ => exact cd_y9_8
  | 9, _ => exact cd_y9_9
  | k + 10, hk => exact absurd hk (by omega)
theorem cd_y10_0 : u_lay RX10 TX10 0 ∈ cd_big := cd_m 2 82 rfl rfl
theorem cd_y10_1 : u_lay RX10 TX10 1 ∈ cd_big := cd_m 2 84 rfl rfl
theorem cd_y10_2 : u_lay RX10 TX10 2 ∈ cd_big := cd_m 2 86 rfl rfl
theorem cd_y10_3 : u_lay RX10 TX10 3 ∈ cd_big := cd_m 2 88 rfl rfl
theorem cd_y10_4 : u_lay RX10 TX10 4 ∈ cd_big := cd_m 2 90 rfl rfl
theorem cd_y10_5 : u_lay RX10 TX10 5 ∈ cd_big := cd_m 2 92 rfl rfl
theorem cd_y10_6 : u_lay RX10 TX10 6 ∈ cd_big := cd_m 2 94 rfl rfl
theorem cd_y10_7 : u_lay RX10 TX10 7 ∈ cd_big := cd_m 2 96 rfl rfl
theorem cd_y10_8 : u_lay RX10 TX10 8 ∈ cd_big := cd_m 2 98 rfl rfl
theorem cd_y10_9 : u_lay RX10 TX10 9 ∈ cd_big := cd_m 2 100 rfl rfl
theorem cd_y10_10 : u_lay RX10 TX10 10 ∈ cd_big := cd_m 2 102 rfl rfl
theorem cd_y10_11 : u_lay RX10 TX10 11 ∈ cd_big := cd_m 2 104 rfl rfl
theorem cd_lay10 : ∀ w ∈ u_ws RX10 TX10 12, w ∈ cd_big := by
  intro w hw
  obtain ⟨k, hk, rfl⟩ := List.mem_map.mp hw
  have hk := List.mem_range.mp hk
  match k, hk with
  | 0, _ => exact cd_y10_0
  | 1, _ => exact cd_y10_1
  | 2, _ => exact cd_y10_2
  | 3, _ => exact cd_y10_3
  | 4, _ => exact cd_y10_4
  | 5, _ => exact cd_y10_5
  | 6, _ => exact cd_y10_6
  | 7, _ => exact cd_y10_7
  | 8, _ => exact cd_y10_8
  | 9, _ => exact cd_y10_9
  | 10, _ => exact cd_y10_10
  | 11, _ => exact cd_y10_11
  | k + 12, hk => exact absurd hk (by omega)
theorem cd_y11_0 : u_lay RX11 TX11 0 ∈ cd_big := cd_m 6 45 rfl rfl
theorem cd_y11_1 : u_lay RX11 TX11 1 ∈ cd_big := cd_m 6 47 rfl rfl
theorem cd_y11_2 : u_lay RX11 TX11 2 ∈ cd_big := cd_m 6 49 rfl rfl
theorem cd_y11_3 : u_lay RX11 TX11 3 ∈ cd_big := cd_m 6 51 rfl rfl
theorem cd_y11_4 : u_lay RX11 TX11 4 ∈ cd_big := cd_m 6 53 rfl rfl
theorem cd_y11_5 : u_lay RX11 TX11 5 ∈ cd_big := cd_m 6 55 rfl rfl
theorem cd_y11_6 : u_lay RX11 TX11 6 ∈ cd_big := cd_m 6 57 rfl rfl
theorem cd_y11_7 : u_lay RX11 TX11 7 ∈ cd_big := cd_m 6 59 rfl rfl
theorem cd_y11_8 : u_lay RX11 TX11 8 ∈ cd_big := cd_m 6 61 rfl rfl
theorem cd_y11_9 : u_lay RX11 TX11 9 ∈ cd_big := cd_m 6 63 rfl rfl
theorem cd_y11_10 : u_lay RX11 TX11 10 ∈ cd_big := cd_m 6 65 rfl rfl
theorem cd_y11_11 : u_lay RX11 TX11 11 ∈ cd_big := cd_m 6 67 rfl rfl
theorem cd_y11_12 : u_lay RX11 TX11 12 ∈ cd_big := cd_m 6 69 rfl rfl
theorem cd_y11_13 : u_lay RX11 TX11 13 ∈ cd_big := cd_m 6 71 rfl rfl
theorem cd_y11_14 : u_lay RX11 TX11 14 ∈ cd_big := cd_m 6 73 rfl rfl
theorem cd_y11_15 : u_lay RX11 TX11 15 ∈ cd_big := cd_m 6 75 rfl rfl
theorem cd_y11_16 : u_lay RX11 TX11 16 ∈ cd_big := cd_m 6 77 rfl rfl
theorem cd_y11_17 : u_lay RX11 TX11 17 ∈ cd_big := cd_m 6 79 rfl rfl
theorem cd_y11_18 : u_lay RX11 TX11 18 ∈ cd_big := cd_m 6 81 rfl rfl
theorem cd_y11_19 : u_lay RX11 TX11 19 ∈ cd_big := cd_m 6 83 rfl rfl
theorem cd_y11_20 : u_lay RX11 TX11 20 ∈ cd_big := cd_m 6 85 rfl rfl
theorem cd_y11_21 : u_lay RX11 TX11 21 ∈ cd_big := cd_m 6 87 rfl rfl
theorem cd_y11_22 : u_lay RX11 TX11 22 ∈ cd_big := cd_m 6 89 rfl rfl
theorem cd_y11_23 : u_lay RX11 TX11 23 ∈ cd_big := cd_m 6 91 rfl rfl
theorem cd_y11_24 : u_lay RX11 TX11 24 ∈ cd_big := cd_m 6 93 rfl rfl
theorem cd_y11_25 : u_lay RX11 TX11 25 ∈ cd_big := cd_m 6 95 rfl rfl
theorem cd_y11_26 : u_lay RX11 TX11 26 ∈ cd_big := cd_m 6 97 rfl rfl
theorem cd_y11_27 : u_lay RX11 TX11 27 ∈ cd_big := cd_m 6 99 rfl rfl
theorem cd_y11_28 : u_lay RX11 TX11 28 ∈ cd_big := cd_m 6 101 rfl rfl
theorem cd_y11_29 : u_lay RX11 TX11 29 ∈ cd_big := cd_m 6 103 rfl rfl
theorem cd_y11_30 : u_lay RX11 TX11 30 ∈ cd_big := cd_m 6 105 rfl rfl
theorem cd_y11_31 : u_lay RX11 TX11 31 ∈ cd_big := cd_m 6 107 rfl rfl
theorem cd_y11_32 : u_lay RX11 TX11 32 ∈ cd_big := cd_m 6 109 rfl rfl
theorem cd_y11_33 : u_lay RX11 TX11 33 ∈ cd_big := cd_m 6 111 rfl rfl
theorem cd_y11_34 : u_lay RX11 TX11 34 ∈ cd_big := cd_m 6 113 rfl rfl
theorem cd_y11_35 : u_lay RX11 TX11 35 ∈ cd_big := cd_m 6 115 rfl rfl
theorem cd_y11_36 : u_lay RX11 TX11 36 ∈ cd_big := cd_m 6 117 rfl rfl
theorem cd_y11_37 : u_lay RX11 TX11 37 ∈ cd_big := cd_m 6 119 rfl rfl
theorem cd_y11_38 : u_lay RX11 TX11 38 ∈ cd_big := cd_m 6 121 rfl rfl
theorem cd_y11_39 : u_lay RX11 TX11 39 ∈ cd_big := cd_m 6 123 rfl rfl
theorem cd_y11_40 : u_lay RX11 TX11 40 ∈ cd_big := cd_m 6 125 rfl rfl
theorem cd_y11_41 : u_lay RX11 TX11 41 ∈ cd_big := cd_m 6 127 rfl rfl
theorem cd_y11_42 : u_lay RX11 TX11 42 ∈ cd_big := cd_m 6 129 rfl rfl
theorem cd_y11_43 : u_lay RX11 TX11 43 ∈ cd_big := cd_m 6 131 rfl rfl
theorem cd_y11_44 : u_lay RX11 TX11 44 ∈ cd_big := cd_m 6 133 rfl rfl
theorem cd_y11_45 : u_lay RX11 TX11 45 ∈ cd_big := cd_m 6 135 rfl rfl
theorem cd_y11_46 : u_lay RX11 TX11 46 ∈ cd_big := cd_m 6 137 rfl rfl
theorem cd_y11_47 : u_lay RX11 TX11 47 ∈ cd_big := cd_m 6 139 rfl rfl
theorem cd_y11_48 : u_lay RX11 TX11 48 ∈ cd_big := cd_m 6 141 rfl rfl
theorem cd_y11_49 : u_lay RX11 TX11 49 ∈ cd_big := cd_m 6 143 rfl rfl
theorem cd_y11_50 : u_lay RX11 TX11 50 ∈ cd_big := cd_m 6 145 rfl rfl
theorem cd_y11_51 : u_lay RX11 TX11 51 ∈ cd_big := cd_m 6 147 rfl rfl
theorem cd_y11_52 : u_lay RX11 TX11 52 ∈ cd_big := cd_m 6 149 rfl rfl
theorem cd_lay11 : ∀ w ∈ u_ws RX11 TX11 53, w ∈ cd_big := by
  intro w hw
  obtain ⟨k, hk, rfl⟩ := List.mem_map.mp hw
  have hk := List.mem_range.mp hk
  match k, hk with
  | 0, _ => exact cd_y11_0
  | 1, _ => exact cd_y11_1
  | 2, _ => exact cd_y11_2
  | 3, _ => exact cd_y11_3
  | 4, _ => exact cd_y11_4
  | 5, _ => exact cd_y11_5
  | 6, _ => exact cd_y11_6
  | 7, _ => exact cd_y11_7
  | 8, _ => exact cd_y11_8
  | 9, _ => exact cd_y11_9
  | 10, _ => exact cd_y11_10
  | 11, _ => exact cd_y11_11
  | 12, _ => exact cd_y11_12
  | 13, _ => exact cd_y11_13
  | 14, _ => exact cd_y11_14
  | 15, _ => exact cd_y11_15
  | 16, _ => exact cd_y11_16
  | 17, _ => exact cd_y11_17
  | 18, _ => exact cd_y11_18
  | 19, _ => exact cd_y11_19
  | 20, _ => exact cd_y11_20
  | 21, _ => exact cd_y11_21
  | 22, _ => exact cd_y11_22
  | 23, _ => exact cd_y11_23
  | 24, _ => exact cd_y11_24
  | 25, _ => exact cd_y11_25
  | 26, _ => exact cd_y11_26
  | 27, _ => exact cd_y11_27
  | 28, _ => exact cd_y11_28
  | 29, _ => exact cd_y11_29
  | 30, _ => exact cd_y11_30
  | 31, _ => exact cd_y11_31
  | 32, _ => exact cd_y11_32
  | 33, _ => exact cd_y11_33
  | 34, _ => exact cd_y11_34
  | 35, _ => exact cd_y11_35
  | 36, _ => exact cd_y11_36
  | 37, _ => exact cd_y11_37
  | 38, _ => exact cd_y11_38
  | 39, _ => exact cd_y11_39
  | 40, _ => exact cd_y11_40
  | 41, _ => exact cd_y11_41
  | 42, _ => exact cd_y11_42
  | 43, _ => exact cd_y11_43
  | 44, _ => exact cd_y11_44
  | 45, _ => exact cd_y11_45
  | 46, _ => exact cd_y11_46
  | 47, _ => exact cd_y11_47
  | 48, _ => exact cd_y11_48
  | 49, _ => exact cd_y11_49
  | 50, _ => exact cd_y11_50
  | 51, _ => exact cd_y11_51
  | 52, _ => exact cd_y11_52
  | k + 53, hk => exact absurd hk (by omega)
end
section
/-! the abstract machine: int-like cells and long cells by the number of the object or array and the place in it; references are the numbers of cd_shT (fixed for ever), 1000+i the text constants, 1100+i their bytes, 1200 the JDK's formatter -/
abbrev cd_M : Type := (Nat → Nat → Int32) × (Nat → Nat → Int64)
def cd_wI (M : cd_M) (k j : Nat) (v : Int32) : cd_M := (fun a => if a = k then upd (M.1 a) j v else M.1 a, M.2)
def cd_wL (M : cd_M) (k j : Nat) (v : Int64) : cd_M := (M.1, fun a => if a = k then vp_updL (M.2 a) j v else M.2 a)
def cd_cI (M : cd_M) (k0 k1 sp dp n : Nat) : cd_M := (fun a => if a = k1 then va_cpy (M.1 k0) (M.1 a) sp dp n else M.1 a, M.2)
def cd_cL (M : cd_M) (k0 k1 sp dp n : Nat) : cd_M := (M.1, fun a => if a = k1 then va_cpy (M.2 k0) (M.2 a) sp dp n else M.2 a)
def cd_sh (k : Nat) : Nat × Nat := cd_shT.getD k (99, 0)
def cd_rf (k j : Nat) : Option Nat := (cd_rfT.getD k []).getD j none
def cd_fv (M : cd_M) (k j : Nat) : Value := match cd_rf k j with
  | some q => .ref q
  | none => .int (M.1 k j)
def cd_lk : List (Nat × Instr × Nat) → Nat → Option (Instr × Nat)
  | [], _ => none
  | q :: r, pc => bif Nat.beq q.1 pc then some q.2 else cd_lk r pc
theorem cd_lk_mem : ∀ (l : List (Nat × Instr × Nat)) (pc : Nat) (x : Instr × Nat), cd_lk l pc = some x → (pc, x) ∈ l
  | [], _, _, h => by cases h
  | q :: r, pc, x, h => by
    rw [cd_lk] at h
    cases hq : Nat.beq q.1 pc with
    | true =>
      rw [hq] at h
      have e : q.1 = pc := Nat.eq_of_beq_eq_true hq
      have e2 : q.2 = x := Option.some.inj h
      rw [← e, ← e2]
      exact List.mem_cons_self
    | false =>
      rw [hq] at h
      exact List.mem_cons_of_mem _ (cd_lk_mem r pc x h)
def cd_lenOK : Instr → Nat → Bool
  | .iload _, n => Nat.beq n 2
  | .lload _, n => Nat.beq n 2
  | .aload _, n => Nat.beq n 2
  | .istore _, n => Nat.beq n 2
  | .lstore _, n => Nat.beq n 2
  | .astore _, n => Nat.beq n 2
  | .bipush _, n => Nat.beq n 2
  | .ldc _, n => Nat.beq n 2
  | .sipush _, n => Nat.beq n 3
  | .ldc_w _, n => Nat.beq n 3
  | .ldc2_w _, n => Nat.beq n 3
  | .iinc _ _, n => Nat.beq n 3
  | .goto _, n => Nat.beq n 3
  | .ifCond _ _, n => Nat.beq n 3
  | .if_icmp _ _, n => Nat.beq n 3
  | .getfield _, n => Nat.beq n 3
  | .putfield _, n => Nat.beq n 3
  | .getstatic _, n => Nat.beq n 3
  | .invokevirtual _, n => Nat.beq n 3
  | .invokestatic _, n => Nat.beq n 3
  | .tableswitch _ _ _ _, _ => true
  | _, n => Nat.beq n 1
def cd_tab (y pc : Nat) : Option (Instr × Nat) := match cd_lk (cd_code y).2 pc with
  | some (i, n) => bif cd_lenOK i n then some (i, n) else none
  | none => none
/-- a place in a table of (own, index, ..) -/
def cd_at2 {α : Type} : List (Nat × Nat × α) → Nat → Nat → Option α
  | [], _, _ => none
  | q :: r, o, i => bif Nat.beq q.1 o && Nat.beq q.2.1 i then some q.2.2 else cd_at2 r o i
theorem cd_at2_mem {α : Type} : ∀ (l : List (Nat × Nat × α)) (o i : Nat) (x : α), cd_at2 l o i = some x → (o, i, x) ∈ l
  | [], _, _, _, h => by cases h
  | q :: r, o, i, x, h => by
    rw [cd_at2] at h
    cases hq : Nat.beq q.1 o && Nat.beq q.2.1 i with
    | true =>
      rw [hq] at h
      simp only [Bool.and_eq_true] at hq
      have e : q.1 = o := Nat.eq_of_beq_eq_true hq.1
      have e1 : q.2.1 = i := Nat.eq_of_beq_eq_true hq.2
      have e2 : q.2.2 = x := Option.some.inj h
      rw [← e, ← e1, ← e2]
      exact List.mem_cons_self
    | false =>
      rw [hq] at h
      exact List.mem_cons_of_mem _ (cd_at2_mem r o i x h)
def cd_in (i : Int32) (n : Nat) : Bool := decide (¬ (i < 0 ∨ n ≤ i.toNatClampNeg))
def cd_ty : Value → Nat
  | .int _ => 0
  | .long _ => 1
  | .ref _ => 2
  | _ => 9
/-- loads and stores: (0 a load, 1 a store; kind; place) -/
def cd_loc : Instr → Option (Nat × Nat × Nat)
  | .iload_n k => some (0, 0, k)
  | .iload k => some (0, 0, k)
  | .lload_n k => some (0, 1, k)
  | .lload k => some (0, 1, k)
  | .aload_n k => some (0, 2, k)
  | .aload k => some (0, 2, k)
  | .istore_n k => some (1, 0, k)
  | .istore k => some (1, 0, k)
  | .lstore_n k => some (1, 1, k)
  | .lstore k => some (1, 1, k)
  | .astore_n k => some (1, 2, k)
  | .astore k => some (1, 2, k)
  | _ => none
def cd_inc : Instr → Option (Nat × Int)
  | .iinc k d => some (k, d)
  | _ => none
def cd_kill : Option Value → Option Value
  | some (.long _) => none
  | some (.double _) => none
  | x => x
def cd_pre (ls : List (Option Value)) : Nat → List (Option Value)
  | 0 => ls
  | j + 1 => ls.set j (cd_kill (ls.getD j none))
def cd_sto (ls : List (Option Value)) (k : Nat) (v : Value) : List (Option Value) :=
  bif Nat.beq (cd_ty v) 1 then ((cd_pre ls k).set k (some v)).set (k + 1) none else (cd_pre ls k).set k (some v)
abbrev cd_A : Type := (Nat × List Value × cd_M) ⊕ (Option Value × cd_M) ⊕ (Nat × List Value × List Value)
def cd_go (pc : Nat) (st : List Value) (M : cd_M) : Option cd_A := some (.inl (pc, st, M))
def cd_i1 (st : List Value) (f : Int32 → List Value → Option cd_A) : Option cd_A := match st with
  | .int a :: r => f a r
  | _ => none
def cd_i2 (st : List Value) (f : Int32 → Int32 → List Value → Option cd_A) : Option cd_A := match st with
  | .int b :: .int a :: r => f a b r
  | _ => none
def cd_l1 (st : List Value) (f : Int64 → List Value → Option cd_A) : Option cd_A := match st with
  | .long a :: r => f a r
  | _ => none
def cd_l2 (st : List Value) (f : Int64 → Int64 → List Value → Option cd_A) : Option cd_A := match st with
  | .long b :: .long a :: r => f a b r
  | _ => none
def cd_li (st : List Value) (f : Int64 → Int32 → List Value → Option cd_A) : Option cd_A := match st with
  | .int b :: .long a :: r => f a b r
  | _ => none
def cd_r1 (st : List Value) (f : Nat → List Value → Option cd_A) : Option cd_A := match st with
  | .ref k :: r => f k r
  | _ => none
def cd_ri (st : List Value) (f : Nat → Int32 → List Value → Option cd_A) : Option cd_A := match st with
  | .int i :: .ref k :: r => f k i r
  | _ => none
def cd_rii (st : List Value) (f : Nat → Int32 → Int32 → List Value → Option cd_A) : Option cd_A := match st with
  | .int x :: .int i :: .ref k :: r => f k i x r
  | _ => none
def cd_ril (st : List Value) (f : Nat → Int32 → Int64 → List Value → Option cd_A) : Option cd_A := match st with
  | .long x :: .int i :: .ref k :: r => f k i x r
  | _ => none
def cd_fi (st : List Value) (f : Nat → Int32 → List Value → Option cd_A) : Option cd_A := match st with
  | .int x :: .ref k :: r => f k x r
  | _ => none
def cd_cpyA (st : List Value) (f : Nat → Int32 → Nat → Int32 → Int32 → List Value → Option cd_A) : Option cd_A := match st with
  | .int n :: .int dp :: .ref k1 :: .int sp :: .ref k0 :: r => f k0 sp k1 dp n r
  | _ => none
/-- a jump's goal -/
def cd_to (pc : Nat) (off : Int) (f : Nat → Option cd_A) : Option cd_A := if (pc : Int) + off = (((pc : Int) + off).toNat : Int) then f ((pc : Int) + off).toNat else none
def cd_own (y : Nat) : Nat := cd_mo.getD y 99
def cd_cat (st : List Value) : Nat := (st.map fun v => v.category).sum
def cd_sz (vs : List Value) : Nat := (lg_sl vs).length
def cd_isR (k : Nat) (c : Nat) : Bool := bif Nat.ble 1000 k then Nat.beq c 12 && Nat.ble (k + 1) 1013 else Nat.beq (cd_sh k).1 c
/-- a call of one of the methods: the callee, the arguments, what is left -/
def cd_call (y idx : Nat) (vir : Bool) (st : List Value) : Option cd_A := match cd_at2 cd_lkT (cd_own y) idx with
  | some (yc, kind, _) =>
    let na := cd_mn.getD yc 0
    let as := (st.take na).reverse
    let r := st.drop na
    bif Nat.ble na st.length && Nat.ble (cd_cat r) 8 && Nat.ble (cd_sz as) (cd_ml.getD yc 0) && Nat.ble (cd_mf.getD yc 0 + 1) (cd_mf.getD y 0) && Nat.ble (8 + (cd_ml.getD yc 0 + 11) + cd_mw.getD yc 0) (cd_mw.getD y 0) &&
      (bif vir then Nat.beq kind 0 && (match as with | .ref k :: _ => cd_isR k (cd_own yc) | _ => false) else !(Nat.beq kind 0))
    then some (.inr (.inr (yc, as, r))) else none
  | none => none
def cd_math (n : Nat) (st : List Value) (y pc : Nat) (M : cd_M) : Option cd_A := match n with
  | 0 => cd_i2 st fun a b r => bif Nat.ble 1 (cd_mf.getD y 0) && Nat.ble (cd_cat r + 13) (cd_mw.getD y 0) then cd_go (pc + 3) (.int (if a < b then b else a) :: r) M else none
  | 1 => cd_i2 st fun a b r => bif Nat.ble 1 (cd_mf.getD y 0) && Nat.ble (cd_cat r + 13) (cd_mw.getD y 0) then cd_go (pc + 3) (.int (if b < a then b else a) :: r) M else none
  | 2 => cd_i1 st fun a r => bif Nat.ble 1 (cd_mf.getD y 0) && Nat.ble (cd_cat r + 13) (cd_mw.getD y 0) then cd_go (pc + 3) (.int (if 0 ≤ a then a else 0 - a) :: r) M else none
  | _ => cd_cpyA st fun k0 sp k1 dp n r => bif Nat.ble 1 (cd_mf.getD y 0) && Nat.ble (cd_cat r + 18) (cd_mw.getD y 0) then
      (if (cd_sh k0).1 = (cd_sh k1).1 ∧ ¬ sp < 0 ∧ ¬ dp < 0 ∧ ¬ n < 0 ∧ sp.toNatClampNeg + n.toNatClampNeg ≤ (cd_sh k0).2 ∧ dp.toNatClampNeg + n.toNatClampNeg ≤ (cd_sh k1).2 then
        (if (cd_sh k0).1 = 20 then cd_go (pc + 3) r (cd_cI M k0 k1 sp.toNatClampNeg dp.toNatClampNeg n.toNatClampNeg)
        else if (cd_sh k0).1 = 21 then cd_go (pc + 3) r (cd_cL M k0 k1 sp.toNatClampNeg dp.toNatClampNeg n.toNatClampNeg) else none)
      else none) else none
def cd_get (y idx pc k : Nat) (r : List Value) (M : cd_M) : Option cd_A :=
  bif Nat.ble 1000 k then (bif Nat.beq (cd_own y) 12 && Nat.ble (k + 1) 1013 then (bif Nat.beq idx 9 then cd_go (pc + 3) (.ref (k + 100) :: r) M else bif Nat.beq idx 15 then cd_go (pc + 3) (.int 0 :: r) M else none) else none)
  else match cd_at2 cd_fl (cd_own y) idx with
  | some (ci, sl, _) => if (cd_sh k).1 = ci then cd_go (pc + 3) (cd_fv M k sl :: r) M else none
  | none => match cd_at2 cd_fn (cd_own y) idx with
    | some (ci, sl) => if (cd_sh k).1 = ci then cd_go (pc + 3) (cd_fv M k sl :: r) M else none
    | none => none
def cd_fty (ci sl : Nat) : Option FieldType := (cd_cl[ci]?).bind fun q => parseFieldDescriptor (q.2.1 sl).2.2.1
def cd_put2 (ci sl pc k : Nat) (x : Int32) (r : List Value) (M : cd_M) : Option cd_A :=
  if (cd_sh k).1 = ci ∧ cd_rf k sl = none then (match cd_fty ci sl with
    | some .int => cd_go (pc + 3) r (cd_wI M k sl x)
    | some .boolean => if x = 0 ∨ x = 1 then cd_go (pc + 3) r (cd_wI M k sl x) else none
    | _ => none) else none
def cd_put (y idx pc k : Nat) (x : Int32) (r : List Value) (M : cd_M) : Option cd_A := match cd_at2 cd_fl (cd_own y) idx with
  | some (ci, sl, _) => cd_put2 ci sl pc k x r M
  | none => match cd_at2 cd_fn (cd_own y) idx with
    | some (ci, sl) => cd_put2 ci sl pc k x r M
    | none => none
def cd_sbyte (k : Nat) (i : Int32) : Int32 := (cd_sb.getD (k - 1100) []).getD i.toNatClampNeg 0
/-- one instruction that is no load, no store -/
def cd_oth (y pc len : Nat) (i : Instr) (st : List Value) (M : cd_M) : Option cd_A := match i with
  | .iconst n => cd_go (pc + len) (.int (Int32.ofInt n) :: st) M
  | .bipush n => cd_go (pc + len) (.int (Int8.ofInt n).toInt32 :: st) M
  | .sipush n => cd_go (pc + len) (.int (Int16.ofInt n).toInt32 :: st) M
  | .lconst n => cd_go (pc + len) (.long (Int64.ofNat (n : Nat)) :: st) M
  | .ldc k => match cd_at2 cd_kI (cd_own y) k with
    | some (v, _) => cd_go (pc + len) (.int v :: st) M
    | none => match cd_at2 cd_strI (cd_own y) k with
      | some j => cd_go (pc + len) (.ref (1000 + j) :: st) M
      | none => none
  | .ldc_w k => match cd_at2 cd_kI (cd_own y) k with
    | some (v, _) => cd_go (pc + len) (.int v :: st) M
    | none => none
  | .ldc2_w k => match cd_at2 cd_kL (cd_own y) k with
    | some (v, _) => cd_go (pc + len) (.long v :: st) M
    | none => none
  | .iadd => cd_i2 st fun a b r => cd_go (pc + len) (.int (a + b) :: r) M
  | .isub => cd_i2 st fun a b r => cd_go (pc + len) (.int (a - b) :: r) M
  | .imul => cd_i2 st fun a b r => cd_go (pc + len) (.int (a * b) :: r) M
  | .iand => cd_i2 st fun a b r => cd_go (pc + len) (.int (a &&& b) :: r) M
  | .ior => cd_i2 st fun a b r => cd_go (pc + len) (.int (a ||| b) :: r) M
  | .ishl => cd_i2 st fun a b r => cd_go (pc + len) (.int (a <<< (b &&& 31)) :: r) M
  | .ishr => cd_i2 st fun a b r => cd_go (pc + len) (.int (a >>> (b &&& 31)) :: r) M
  | .iushr => cd_i2 st fun a b r => cd_go (pc + len) (.int (a.toUInt32 >>> (b.toUInt32 &&& Int32.toUInt32 31)).toInt32 :: r) M
  | .idiv => cd_i2 st fun a b r => if b = 0 then none else cd_go (pc + len) (.int (a / b) :: r) M
  | .irem => cd_i2 st fun a b r => if b = 0 then none else cd_go (pc + len) (.int (a - a / b * b) :: r) M
  | .ineg => cd_i1 st fun a r => cd_go (pc + len) (.int (-a) :: r) M
  | .land => cd_l2 st fun a b r => cd_go (pc + len) (.long (a &&& b) :: r) M
  | .lor => cd_l2 st fun a b r => cd_go (pc + len) (.long (a ||| b) :: r) M
  | .lxor => cd_l2 st fun a b r => cd_go (pc + len) (.long (a ^^^ b) :: r) M
  | .lcmp => cd_l2 st fun a b r => cd_go (pc + len) (.int (lg_cmp a b) :: r) M
  | .lshl => cd_li st fun a b r => cd_go (pc + len) (.long (a <<< (b.toInt64 &&& 63)) :: r) M
  | .lushr => cd_li st fun a b r => cd_go (pc + len) (.long (a.toUInt64 >>> (b.toInt64.toUInt64 &&& Int64.toUInt64 63)).toInt64 :: r) M
  | .i2l => cd_i1 st fun a r => cd_go (pc + len) (.long a.toInt64 :: r) M
  | .l2i => cd_l1 st fun a r => cd_go (pc + len) (.int a.toInt32 :: r) M
  | .i2b => cd_i1 st fun a r => cd_go (pc + len) (.int a.toInt8.toInt32 :: r) M
  | .i2c => cd_i1 st fun a r => cd_go (pc + len) (.int (a.toUInt32 % 65536).toInt32 :: r) M
  | .goto off => cd_to pc off fun t => cd_go t st M
  | .ifCond .eq off => cd_i1 st fun a r => cd_to pc off fun t => if a = 0 then cd_go t r M else cd_go (pc + len) r M
  | .ifCond .ne off => cd_i1 st fun a r => cd_to pc off fun t => if a = 0 then cd_go (pc + len) r M else cd_go t r M
  | .ifCond .lt off => cd_i1 st fun a r => cd_to pc off fun t => if a < 0 then cd_go t r M else cd_go (pc + len) r M
  | .ifCond .ge off => cd_i1 st fun a r => cd_to pc off fun t => if 0 ≤ a then cd_go t r M else cd_go (pc + len) r M
  | .ifCond .gt off => cd_i1 st fun a r => cd_to pc off fun t => if 0 < a then cd_go t r M else cd_go (pc + len) r M
  | .ifCond .le off => cd_i1 st fun a r => cd_to pc off fun t => if a ≤ 0 then cd_go t r M else cd_go (pc + len) r M
  | .if_icmp .eq off => cd_i2 st fun a b r => cd_to pc off fun t => if a = b then cd_go t r M else cd_go (pc + len) r M
  | .if_icmp .ne off => cd_i2 st fun a b r => cd_to pc off fun t => if a = b then cd_go (pc + len) r M else cd_go t r M
  | .if_icmp .lt off => cd_i2 st fun a b r => cd_to pc off fun t => if a < b then cd_go t r M else cd_go (pc + len) r M
  | .if_icmp .ge off => cd_i2 st fun a b r => cd_to pc off fun t => if b ≤ a then cd_go t r M else cd_go (pc + len) r M
  | .if_icmp .gt off => cd_i2 st fun a b r => cd_to pc off fun t => if b < a then cd_go t r M else cd_go (pc + len) r M
  | .if_icmp .le off => cd_i2 st fun a b r => cd_to pc off fun t => if a ≤ b then cd_go t r M else cd_go (pc + len) r M
  | .tableswitch dflt lo hi offs => cd_i1 st fun x r => if x.toInt < lo ∨ hi < x.toInt then cd_to pc dflt fun t => cd_go t r M else (match offs[(x.toInt - lo).toNat]? with
    | some off => cd_to pc off fun t => cd_go t r M
    | none => none)
  | .dup => match st with
    | v :: r => if v.category = 1 then cd_go (pc + len) (v :: v :: r) M else none
    | _ => none
  | .pop => match st with
    | v :: r => if v.category = 1 then cd_go (pc + len) r M else none
    | _ => none
  | .dup2 => match st with
    | v :: w :: r => if v.category = 1 ∧ w.category = 1 then cd_go (pc + len) (v :: w :: v :: w :: r) M else none
    | _ => none
  | .iaload => cd_ri st fun k j r => if (cd_sh k).1 = 20 ∧ cd_in j (cd_sh k).2 = true then cd_go (pc + len) (.int (M.1 k j.toNatClampNeg) :: r) M else none
  | .laload => cd_ri st fun k j r => if (cd_sh k).1 = 21 ∧ cd_in j (cd_sh k).2 = true then cd_go (pc + len) (.long (M.2 k j.toNatClampNeg) :: r) M else none
  | .baload => cd_ri st fun k j r => bif Nat.ble 1100 k then (if k < 1113 ∧ cd_in j (cd_sl.getD (k - 1100) 0) = true then cd_go (pc + len) (.int (cd_sbyte k j) :: r) M else none)
      else if ((cd_sh k).1 = 22 ∨ (cd_sh k).1 = 23) ∧ cd_in j (cd_sh k).2 = true then cd_go (pc + len) (.int (M.1 k j.toNatClampNeg) :: r) M else none
  | .iastore => cd_rii st fun k j x r => if (cd_sh k).1 = 20 ∧ cd_in j (cd_sh k).2 = true then cd_go (pc + len) r (cd_wI M k j.toNatClampNeg x) else none
  | .bastore => cd_rii st fun k j x r => if (cd_sh k).1 = 22 ∧ cd_in j (cd_sh k).2 = true then cd_go (pc + len) r (cd_wI M k j.toNatClampNeg (vp_nar .byte x))
      else if (cd_sh k).1 = 23 ∧ cd_in j (cd_sh k).2 = true then cd_go (pc + len) r (cd_wI M k j.toNatClampNeg (vp_nar .boolean x)) else none
  | .lastore => cd_ril st fun k j x r => if (cd_sh k).1 = 21 ∧ cd_in j (cd_sh k).2 = true then cd_go (pc + len) r (cd_wL M k j.toNatClampNeg x) else none
  | .arraylength => cd_r1 st fun k r => bif Nat.ble 1100 k then (if k < 1113 then cd_go (pc + len) (.int (Int32.ofNat (cd_sl.getD (k - 1100) 0)) :: r) M else none)
      else if 20 ≤ (cd_sh k).1 ∧ (cd_sh k).1 ≤ 23 then cd_go (pc + len) (.int (Int32.ofNat (cd_sh k).2) :: r) M else none
  | .getfield idx => cd_r1 st fun k r => cd_get y idx pc k r M
  | .putfield idx => cd_fi st fun k x r => cd_put y idx pc k x r M
  | .getstatic idx => bif Nat.beq (cd_own y) 12 && Nat.beq idx 38 then cd_go (pc + len) (.int 1 :: st) M else bif Nat.beq (cd_own y) 12 && Nat.beq idx 1053 then cd_go (pc + len) (.ref 1200 :: st) M else none
  | .invokevirtual idx => cd_call y idx true st
  | .invokestatic idx => match cd_at2 cd_nat (cd_own y) idx with
    | some (n, _) => cd_math n st y pc M
    | none => cd_call y idx false st
  | .ireturn => match st with
    | [.int v] => match cd_mr.getD y none with
      | some .int => some (.inr (.inl (some (.int v), M)))
      | some .boolean => if v = 0 ∨ v = 1 then some (.inr (.inl (some (.int v), M))) else none
      | some .char => if narrow .char (.int v) = .int v then some (.inr (.inl (some (.int v), M))) else none
      | some .byte => if narrow .byte (.int v) = .int v then some (.inr (.inl (some (.int v), M))) else none
      | _ => none
    | _ => none
  | .lreturn => match st with
    | [.long v] => match cd_mr.getD y none with
      | some .long => some (.inr (.inl (some (.long v), M)))
      | _ => none
    | _ => none
  | .areturn => match st with
    | [.ref k] => match cd_mr.getD y none with
      | some (.object _) => some (.inr (.inl (some (.ref k), M)))
      | _ => none
    | _ => none
  | .return_ => match st with
    | [] => match cd_mr.getD y none with
      | none => bif Nat.ble y 244 then some (.inr (.inl (none, M))) else none
      | _ => none
    | _ => none
  | _ => none
/-- a method's locals at its start -/
def cd_ent (y : Nat) (as : List Value) : List (Option Value) := (lg_sl as).map (fun x => match x with | .val v => some v | _ => none) ++ List.replicate (cd_ml.getD y 0 - (lg_sl as).length) none
def cd_ex : Nat → Nat → Nat → List (Option Value) → List Value → cd_M → Option (Option Value × cd_M)
  | 0, _, _, _, _, _ => none
  | n + 1, y, pc, ls, st, M => match cd_tab y pc with
    | none => none
    | some (i, len) => match cd_loc i with
      | some (0, t, k) => match ls.getD k none with
        | some v => bif Nat.beq (cd_ty v) t then cd_ex n y (pc + len) ls (v :: st) M else none
        | none => none
      | some (_ + 1, t, k) => match st with
        | v :: r => bif Nat.beq (cd_ty v) t && Nat.ble (k + v.category) ls.length then cd_ex n y (pc + len) (cd_sto ls k v) r M else none
        | [] => none
      | none => match cd_inc i with
        | some (k, d) => match ls.getD k none with
          | some (.int x) => bif Nat.ble (k + 1) ls.length then cd_ex n y (pc + len) (cd_sto ls k (.int (x + Int32.ofInt d))) st M else none
          | _ => none
        | none => match cd_oth y pc len i st M with
          | some (.inl (pc', st', M')) => cd_ex n y pc' ls st' M'
          | some (.inr (.inl r)) => some r
          | some (.inr (.inr (yc, as, r))) => match cd_ex n yc 0 (cd_ent yc as) [] M with
            | some (v, M') => cd_ex n y (pc + 3) ls (v.toList ++ r) M'
            | none => none
          | none => none
end
section
/-! the abstract machine is the machine: what cd_ex comes to, the method does -/
theorem cd_lk_ok {cc : ByteArray × List (Nat × Instr × Nat)} {pc : Nat} {x : Instr × Nat} (hc : cc ∈ cd_codes ∨ cc.2 = []) (h : cd_lk cc.2 pc = some x) : decode cc.1 pc = .ok x := by
  rcases hc with hc | hc
  · exact cd_codes_ok cc hc (pc, x) (cd_lk_mem _ _ _ h)
  · rw [hc] at h
    cases h
theorem cd_code_in (y : Nat) : cd_code y ∈ cd_codes ∨ (cd_code y).2 = [] := by
  unfold cd_code
  generalize cd_codes = L
  by_cases hy : y < L.length
  · left
    rw [List.getD_eq_getElem?_getD, List.getElem?_eq_getElem hy]
    exact List.getElem_mem hy
  · right
    rw [List.getD_eq_getElem?_getD, List.getElem?_eq_none (Nat.not_lt.mp hy)]
    rfl
theorem cd_code_ok {y pc : Nat} {i : Instr} {n : Nat} (h : cd_tab y pc = some (i, n)) : decode (cd_code y).1 pc = .ok (i, n) ∧ cd_lenOK i n = true := by
  unfold cd_tab at h
  have hi := cd_code_in y
  generalize cd_code y = cc at h hi
  cases hk : cd_lk cc.2 pc with
  | none => rw [hk] at h; cases h
  | some x =>
    obtain ⟨i', n'⟩ := x
    rw [hk] at h
    have h : (bif cd_lenOK i' n' then some (i', n') else none) = some (i, n) := h
    cases hq : cd_lenOK i' n' with
    | false => rw [hq] at h; cases h
    | true =>
      rw [hq] at h
      have e : (i', n') = (i, n) := Option.some.inj h
      rw [e] at hk
      have e1 : i' = i := congrArg Prod.fst e
      have e2 : n' = n := congrArg Prod.snd e
      rw [e1, e2] at hq
      exact ⟨cd_lk_ok hi hk, hq⟩
/-- the world's cells -/
def cd_cell (cy : Nat → ClassId) (ad : Nat → Nat) (M : cd_M) (k : Nat) : va_E :=
  if (cd_sh k).1 = 20 then .inl (cy 0, (cd_sh k).2, .inl (M.1 k))
  else if (cd_sh k).1 = 21 then .inl (cy 1, (cd_sh k).2, .inr (.inl (M.2 k)))
  else if (cd_sh k).1 = 22 then .inl (cy 2, (cd_sh k).2, .inl (M.1 k))
  else if (cd_sh k).1 = 23 then .inl (cy 3, (cd_sh k).2, .inl (M.1 k))
  else .inr ((cd_sh k).1, (List.range (cd_sh k).2).map (fun j => match cd_rf k j with
    | some q => .ref (ad q)
    | none => .int (M.1 k j)))
def cd_ws (cy : Nat → ClassId) (ad : Nat → Nat) (M : cd_M) : va_W := (List.range cd_NC).map (fun k => (ad k, cd_cell cy ad M k))
def cd_tys (cy : Nat → ClassId) : List (ClassId × FieldType) := [(cy 0, .int), (cy 1, .long), (cy 2, .byte), (cy 3, .boolean)]
def cd_em (ad : Nat → Nat) (fm : Value) : Value → Value
  | .ref k => if k = 1200 then fm else .ref (ad k)
  | v => v
theorem cd_em_cat (ad : Nat → Nat) (fm : Value) (hf : fm = .null ∨ ∃ a, fm = .ref a) (v : Value) : (cd_em ad fm v).category = v.category := by
  cases v with
  | ref k =>
    show (if k = 1200 then fm else Value.ref (ad k)).category = 1
    split
    · rcases hf with rfl | ⟨a, rfl⟩ <;> rfl
    · rfl
  | _ => rfl
theorem cd_em_ref (ad : Nat → Nat) (fm : Value) {k : Nat} (h : ¬ k = 1200) : cd_em ad fm (.ref k) = .ref (ad k) := if_neg h
theorem cd_sh_lt {k : Nat} (h : (cd_sh k).1 < 99) : k < cd_NC := by
  by_cases hk : k < cd_NC
  · exact hk
  · exfalso
    unfold cd_sh at h
    rw [List.getD_eq_getElem?_getD, List.getElem?_eq_none (by rw [show cd_shT.length = cd_NC by decide]; omega)] at h
    exact absurd h (by decide)
theorem cd_ne1200 {k : Nat} (h : k < cd_NC) : ¬ k = 1200 := by
  have : cd_NC = 83 := rfl
  omega
theorem cd_ws_at {cy : Nat → ClassId} {ad : Nat → Nat} {M : cd_M} {k : Nat} (h : k < cd_NC) : (cd_ws cy ad M)[k]? = some (ad k, cd_cell cy ad M k) := by
  unfold cd_ws
  rw [List.getElem?_map, List.getElem?_range h]
  rfl
theorem cd_ws_set {cy : Nat → ClassId} {ad : Nat → Nat} {M M' : cd_M} {k : Nat} (h : k < cd_NC) {x : va_E} (hx : cd_cell cy ad M' k = x) (ho : ∀ a, ¬ a = k → cd_cell cy ad M' a = cd_cell cy ad M a) : (cd_ws cy ad M).set k (ad k, x) = cd_ws cy ad M' := by
  apply List.ext_getElem?
  intro j
  have hl : (cd_ws cy ad M).length = cd_NC := by unfold cd_ws; simp
  by_cases hj : j = k
  · subst hj
    rw [List.getElem?_set_self (by rw [hl]; exact h), cd_ws_at h, hx]
  · rw [List.getElem?_set_ne (fun q => hj q.symm)]
    by_cases hjl : j < cd_NC
    · rw [cd_ws_at hjl, cd_ws_at hjl, ho j hj]
    · have hl' : (cd_ws cy ad M').length = cd_NC := by unfold cd_ws; simp
      rw [List.getElem?_eq_none (by omega), List.getElem?_eq_none (by omega)]
theorem cd_cell_wI_ne {cy : Nat → ClassId} {ad : Nat → Nat} {M : cd_M} {k j : Nat} {v : Int32} {a : Nat} (h : ¬ a = k) : cd_cell cy ad (cd_wI M k j v) a = cd_cell cy ad M a := by
  have e : (cd_wI M k j v).1 a = M.1 a := if_neg h
  unfold cd_cell
  rw [e]
  rfl
theorem cd_cell_wL_ne {cy : Nat → ClassId} {ad : Nat → Nat} {M : cd_M} {k j : Nat} {v : Int64} {a : Nat} (h : ¬ a = k) : cd_cell cy ad (cd_wL M k j v) a = cd_cell cy ad M a := by
  have e : (cd_wL M k j v).2 a = M.2 a := if_neg h
  unfold cd_cell
  rw [e]
  rfl
theorem cd_cell_cI_ne {cy : Nat → ClassId} {ad : Nat → Nat} {M : cd_M} {k0 k sp dp n : Nat} {a : Nat} (h : ¬ a = k) : cd_cell cy ad (cd_cI M k0 k sp dp n) a = cd_cell cy ad M a := by
  have e : (cd_cI M k0 k sp dp n).1 a = M.1 a := if_neg h
  unfold cd_cell
  rw [e]
  rfl
theorem cd_cell_cL_ne {cy : Nat → ClassId} {ad : Nat → Nat} {M : cd_M} {k0 k sp dp n : Nat} {a : Nat} (h : ¬ a = k) : cd_cell cy ad (cd_cL M k0 k sp dp n) a = cd_cell cy ad M a := by
  have e : (cd_cL M k0 k sp dp n).2 a = M.2 a := if_neg h
  unfold cd_cell
  rw [e]
  rfl
theorem cd_wI_s (M : cd_M) (k j : Nat) (v : Int32) : (cd_wI M k j v).1 k = upd (M.1 k) j v := if_pos rfl
theorem cd_wL_s (M : cd_M) (k j : Nat) (v : Int64) : (cd_wL M k j v).2 k = vp_updL (M.2 k) j v := if_pos rfl
theorem cd_cI_s (M : cd_M) (k0 k sp dp n : Nat) : (cd_cI M k0 k sp dp n).1 k = va_cpy (M.1 k0) (M.1 k) sp dp n := if_pos rfl
theorem cd_cL_s (M : cd_M) (k0 k sp dp n : Nat) : (cd_cL M k0 k sp dp n).2 k = va_cpy (M.2 k0) (M.2 k) sp dp n := if_pos rfl
theorem cd_cell20 {cy : Nat → ClassId} {ad : Nat → Nat} {M : cd_M} {k : Nat} (h : (cd_sh k).1 = 20) : cd_cell cy ad M k = .inl (cy 0, (cd_sh k).2, .inl (M.1 k)) := if_pos h
theorem cd_cell21 {cy : Nat → ClassId} {ad : Nat → Nat} {M : cd_M} {k : Nat} (h : (cd_sh k).1 = 21) : cd_cell cy ad M k = .inl (cy 1, (cd_sh k).2, .inr (.inl (M.2 k))) := by
  unfold cd_cell
  rw [if_neg (by omega), if_pos h]
theorem cd_cell22 {cy : Nat → ClassId} {ad : Nat → Nat} {M : cd_M} {k : Nat} (h : (cd_sh k).1 = 22) : cd_cell cy ad M k = .inl (cy 2, (cd_sh k).2, .inl (M.1 k)) := by
  unfold cd_cell
  rw [if_neg (by omega), if_neg (by omega), if_pos h]
theorem cd_cell23 {cy : Nat → ClassId} {ad : Nat → Nat} {M : cd_M} {k : Nat} (h : (cd_sh k).1 = 23) : cd_cell cy ad M k = .inl (cy 3, (cd_sh k).2, .inl (M.1 k)) := by
  unfold cd_cell
  rw [if_neg (by omega), if_neg (by omega), if_neg (by omega), if_pos h]
def cd_fs (ad : Nat → Nat) (M : cd_M) (k : Nat) : List Value := (List.range (cd_sh k).2).map (fun j => match cd_rf k j with
    | some q => .ref (ad q)
    | none => .int (M.1 k j))
theorem cd_cellO {cy : Nat → ClassId} {ad : Nat → Nat} {M : cd_M} {k : Nat} (h : (cd_sh k).1 < 12) : cd_cell cy ad M k = .inr ((cd_sh k).1, cd_fs ad M k) := by
  unfold cd_cell
  rw [if_neg (by omega), if_neg (by omega), if_neg (by omega), if_neg (by omega)]
  rfl
set_option maxRecDepth 100000 in
theorem cd_shN : ∀ k, k < 83 → (cd_sh k).1 < 12 → (cd_sh k).2 = (cd_F (cd_sh k).1).2.2 := by decide +kernel
set_option maxRecDepth 100000 in
theorem cd_rfB : ∀ r ∈ cd_rfT, ∀ x ∈ r, ∀ q, x = some q → q < 83 := by
  have h : ∀ r ∈ cd_rfT, ∀ x ∈ r, x.getD 0 < 83 := by decide +kernel
  intro r hr x hx q e
  have h1 := h r hr x hx
  rw [e] at h1
  exact h1
theorem cd_rf_lt {k j q : Nat} (h : cd_rf k j = some q) : q < 83 := by
  unfold cd_rf at h
  have h1 : some q ∈ cd_rfT.getD k [] := by
    rw [List.getD_eq_getElem?_getD] at h ⊢
    rw [List.getD_eq_getElem?_getD] at h
    cases hx : (cd_rfT[k]?.getD [])[j]? with
    | none => rw [hx] at h; cases h
    | some x =>
      rw [hx] at h
      have : x = some q := h
      rw [← this]
      exact List.mem_of_getElem? hx
  by_cases hk : k < cd_rfT.length
  · refine cd_rfB _ ?_ _ h1 q rfl
    rw [List.getD_eq_getElem?_getD, List.getElem?_eq_getElem hk]
    exact List.getElem_mem hk
  · rw [List.getD_eq_getElem?_getD, List.getElem?_eq_none (Nat.not_lt.mp hk)] at h1
    cases h1
theorem cd_clF : ∀ ci, ci < 12 → cd_cl[ci]? = some (cd_F ci)
  | 0, _ => rfl | 1, _ => rfl | 2, _ => rfl | 3, _ => rfl | 4, _ => rfl | 5, _ => rfl | 6, _ => rfl | 7, _ => rfl | 8, _ => rfl | 9, _ => rfl | 10, _ => rfl | 11, _ => rfl
  | k + 12, h => absurd h (by omega)
theorem cd_lay : ∀ ci, ci < 12 → ∀ w ∈ u_ws (cd_F ci).1 (cd_F ci).2.1 (cd_F ci).2.2, w ∈ cd_big
  | 0, _ => cd_lay0 | 1, _ => cd_lay1 | 2, _ => cd_lay2 | 3, _ => cd_lay3 | 4, _ => cd_lay4 | 5, _ => cd_lay5 | 6, _ => cd_lay6 | 7, _ => cd_lay7 | 8, _ => cd_lay8 | 9, _ => cd_lay9 | 10, _ => cd_lay10 | 11, _ => cd_lay11
  | k + 12, h => absurd h (by omega)
def cd_ty0 : Nat → Nat → FieldType
  | 0 => tyX0 | 1 => tyX1 | 2 => tyX2 | 3 => tyX3 | 4 => tyX4 | 5 => tyX5 | 6 => tyX6 | 7 => tyX7 | 8 => tyX8 | 9 => tyX9 | 10 => tyX10 | _ => tyX11
theorem cd_ty0_ok : ∀ ci, ci < 12 → ∀ k, k < (cd_F ci).2.2 → parseFieldDescriptor ((cd_F ci).2.1 k).2.2.1 = some (cd_ty0 ci k)
  | 0, _ => tyX0_ok | 1, _ => tyX1_ok | 2, _ => tyX2_ok | 3, _ => tyX3_ok | 4, _ => tyX4_ok | 5, _ => tyX5_ok | 6, _ => tyX6_ok | 7, _ => tyX7_ok | 8, _ => tyX8_ok | 9, _ => tyX9_ok | 10, _ => tyX10_ok | 11, _ => tyX11_ok
  | k + 12, h => absurd h (by omega)
theorem cd_nm_ok : ∀ ci, ci < 12 → ∀ a, a < (cd_F ci).2.2 → ∀ b, b < (cd_F ci).2.2 → a ≠ b → ((cd_F ci).2.1 a).2.1 ≠ ((cd_F ci).2.1 b).2.1
  | 0, _ => nmX0 | 1, _ => nmX1 | 2, _ => nmX2 | 3, _ => nmX3 | 4, _ => nmX4 | 5, _ => nmX5 | 6, _ => nmX6 | 7, _ => nmX7 | 8, _ => nmX8 | 9, _ => nmX9 | 10, _ => nmX10 | 11, _ => nmX11
  | k + 12, h => absurd h (by omega)
set_option maxRecDepth 100000 in
theorem cd_fin_ok : ∀ ci, ci < 12 → ∀ k, k < (cd_F ci).2.2 → (cd_ty0 ci k = .int ∨ cd_ty0 ci k = .boolean) → ((cd_F ci).2.1 k).2.2.2 = false := by decide +kernel
theorem cd_fs_get {ad : Nat → Nat} {M : cd_M} {k sl : Nat} (h : sl < (cd_sh k).2) (fm : Value) : (cd_fs ad M k)[sl]? = some (cd_em ad fm (cd_fv M k sl)) := by
  unfold cd_fs cd_fv
  rw [List.getElem?_map, List.getElem?_range h]
  cases hq : cd_rf k sl with
  | none => simp [hq, cd_em]
  | some q =>
    have h1 : ¬ q = 1200 := by have := cd_rf_lt hq; omega
    simp [hq, cd_em, h1]
theorem cd_fs_set {ad : Nat → Nat} {M : cd_M} {k sl : Nat} (x : Int32) (hq : cd_rf k sl = none) : cd_fs ad (cd_wI M k sl x) k = (cd_fs ad M k).set sl (.int x) := by
  apply List.ext_getElem?
  intro j
  unfold cd_fs
  by_cases hj : j < (cd_sh k).2
  · by_cases e : j = sl
    · subst e
      rw [List.getElem?_set_self (by simpa using hj), List.getElem?_map, List.getElem?_range hj]
      simp [hq, cd_wI_s, upd]
    · rw [List.getElem?_set_ne (fun z => e z.symm), List.getElem?_map, List.getElem?_map, List.getElem?_range hj]
      have e2 : (cd_wI M k sl x).1 k j = M.1 k j := by rw [cd_wI_s]; simp [upd, e]
      simp [e2]
  · rw [List.getElem?_eq_none (by simpa using hj), List.getElem?_eq_none (by simpa using hj)]
/-- what stands fast: nest words, text constants, two statics of the JDK -/
def cd_St (ad : Nat → Nat) (fm : Value) (A : Nat → Prop) (U : State) : Prop :=
  (fm = .null ∨ ∃ a, fm = .ref a) ∧ (∀ w ∈ cd_nest, va_Nw w U) ∧ vk_S 13 cd_sl cd_sb (fun i => ad (1000 + i)) (fun i => ad (1100 + i)) A U U.heap ∧
  (∀ q ∈ cd_strI, vk_R (cd_c q.1) q.2.1 (cd_str.getD q.2.2 (0, 0, "")).2.2 (ad (1000 + q.2.2)) U) ∧
  va_Z RJ0 "COMPACT_STRINGS" "Z" (.int 1) A U U.heap ∧ va_Z RJ3 "SIOOBE_FORMATTER" "Ljava/util/function/BiFunction;" fm A U U.heap
end
section
/-! the abstract machine's single instructions over the machine -/
theorem cd_i1_e {st : List Value} {f : Int32 → List Value → Option cd_A} {x : cd_A} (h : cd_i1 st f = some x) : ∃ a r, st = .int a :: r ∧ f a r = some x := by
  unfold cd_i1 at h
  split at h
  · exact ⟨_, _, rfl, h⟩
  · cases h
theorem cd_i2_e {st : List Value} {f : Int32 → Int32 → List Value → Option cd_A} {x : cd_A} (h : cd_i2 st f = some x) : ∃ a b r, st = .int b :: .int a :: r ∧ f a b r = some x := by
  unfold cd_i2 at h
  split at h
  · exact ⟨_, _, _, rfl, h⟩
  · cases h
theorem cd_l1_e {st : List Value} {f : Int64 → List Value → Option cd_A} {x : cd_A} (h : cd_l1 st f = some x) : ∃ a r, st = .long a :: r ∧ f a r = some x := by
  unfold cd_l1 at h
  split at h
  · exact ⟨_, _, rfl, h⟩
  · cases h
theorem cd_l2_e {st : List Value} {f : Int64 → Int64 → List Value → Option cd_A} {x : cd_A} (h : cd_l2 st f = some x) : ∃ a b r, st = .long b :: .long a :: r ∧ f a b r = some x := by
  unfold cd_l2 at h
  split at h
  · exact ⟨_, _, _, rfl, h⟩
  · cases h
theorem cd_li_e {st : List Value} {f : Int64 → Int32 → List Value → Option cd_A} {x : cd_A} (h : cd_li st f = some x) : ∃ a b r, st = .int b :: .long a :: r ∧ f a b r = some x := by
  unfold cd_li at h
  split at h
  · exact ⟨_, _, _, rfl, h⟩
  · cases h
theorem cd_r1_e {st : List Value} {f : Nat → List Value → Option cd_A} {x : cd_A} (h : cd_r1 st f = some x) : ∃ k r, st = .ref k :: r ∧ f k r = some x := by
  unfold cd_r1 at h
  split at h
  · exact ⟨_, _, rfl, h⟩
  · cases h
theorem cd_ri_e {st : List Value} {f : Nat → Int32 → List Value → Option cd_A} {x : cd_A} (h : cd_ri st f = some x) : ∃ k i r, st = .int i :: .ref k :: r ∧ f k i r = some x := by
  unfold cd_ri at h
  split at h
  · exact ⟨_, _, _, rfl, h⟩
  · cases h
theorem cd_fi_e {st : List Value} {f : Nat → Int32 → List Value → Option cd_A} {x : cd_A} (h : cd_fi st f = some x) : ∃ k i r, st = .int i :: .ref k :: r ∧ f k i r = some x := by
  unfold cd_fi at h
  split at h
  · exact ⟨_, _, _, rfl, h⟩
  · cases h
theorem cd_rii_e {st : List Value} {f : Nat → Int32 → Int32 → List Value → Option cd_A} {x : cd_A} (h : cd_rii st f = some x) : ∃ k i v r, st = .int v :: .int i :: .ref k :: r ∧ f k i v r = some x := by
  unfold cd_rii at h
  split at h
  · exact ⟨_, _, _, _, rfl, h⟩
  · cases h
theorem cd_ril_e {st : List Value} {f : Nat → Int32 → Int64 → List Value → Option cd_A} {x : cd_A} (h : cd_ril st f = some x) : ∃ k i v r, st = .long v :: .int i :: .ref k :: r ∧ f k i v r = some x := by
  unfold cd_ril at h
  split at h
  · exact ⟨_, _, _, _, rfl, h⟩
  · cases h
theorem cd_cpyA_e {st : List Value} {f : Nat → Int32 → Nat → Int32 → Int32 → List Value → Option cd_A} {x : cd_A} (h : cd_cpyA st f = some x) : ∃ k0 sp k1 dp n r, st = .int n :: .int dp :: .ref k1 :: .int sp :: .ref k0 :: r ∧ f k0 sp k1 dp n r = some x := by
  unfold cd_cpyA at h
  split at h
  · exact ⟨_, _, _, _, _, _, rfl, h⟩
  · cases h
theorem cd_to_e {pc : Nat} {off : Int} {f : Nat → Option cd_A} {x : cd_A} (h : cd_to pc off f = some x) : ∃ t : Nat, (pc : Int) + off = (t : Int) ∧ f t = some x := by
  unfold cd_to at h
  split at h
  · exact ⟨_, by assumption, h⟩
  · cases h
theorem cd_if_e {α : Type} {c : Prop} [Decidable c] {a : Option α} {x : α} (h : (if c then a else none) = some x) : c ∧ a = some x := by
  split at h
  · exact ⟨by assumption, h⟩
  · cases h
theorem cd_ifn_e {α : Type} {c : Prop} [Decidable c] {a : Option α} {x : α} (h : (if c then none else a) = some x) : ¬ c ∧ a = some x := by
  split at h
  · cases h
  · exact ⟨by assumption, h⟩
theorem cd_bif_e {α : Type} {c : Bool} {a : Option α} {x : α} (h : (bif c then a else none) = some x) : c = true ∧ a = some x := by
  cases c with
  | true => exact ⟨rfl, h⟩
  | false => cases h
theorem cd_in_e {i : Int32} {n : Nat} (h : cd_in i n = true) : vp_in i n := of_decide_eq_true (p := ¬ (i < 0 ∨ n ≤ i.toNatClampNeg)) h
theorem cd_go_e {pc : Nat} {st : List Value} {M : cd_M} {x : cd_A} (h : cd_go pc st M = some x) : x = .inl (pc, st, M) := (Option.some.inj h).symm
theorem cd_len1 {n k : Nat} (h : Nat.beq n k = true) : n = k := Nat.eq_of_beq_eq_true h
def cd_room (y : Nat) : Room := { frames := cd_mf.getD y 0, cells := 0, slots := 0, locals := cd_mw.getD y 0 }
def cd_wsO (y : Nat) : List Cond := .code (cd_y y) (cd_code y).1 (cd_ml.getD y 0) (cd_mr.getD y none) :: cd_big
def cd_Q (D : va_G) (cy : Nat → ClassId) (ad : Nat → Nat) (fm : Value) (A : Nat → Prop) (r : Option Value × cd_M) : Array Value → State → Outcome → State → Prop := fun _ st oc t => (oc = .returned (r.1.map (cd_em ad fm)) ∧ va_P D cd_cl (cd_ws cy ad r.2) t.heap ∧ va_K D cd_cl (cd_tys cy) t ∧ va_D A (cd_ws cy ad r.2)) ∧ va_F A st t
/-- the locals -/
def cd_lr (ad : Nat → Nat) (fm : Value) (la : Array Slot) (ls : List (Option Value)) : Prop := la.size = ls.length ∧ lv_wf la ∧ ∀ (i : Nat) (v : Value), ls[i]? = some (some v) → la[i]? = some (.val (cd_em ad fm v))
section cdW
variable {p : Program} {l : Launch} {e : Env} {s : State} {m : MethodId} {args : Array Value} {below : List Frame} {meth : Method} {c : Code} {y : Nat} {D : va_G} {cy : Nat → ClassId} {ad : Nat → Nat} {fm : Value} {A : Nat → Prop}
/-- what holds of the method through all its steps -/
def cd_Cx (p : Program) (s : State) (m : MethodId) (args : Array Value) (meth : Method) (c : Code) (y : Nat) (D : va_G) (cy : Nat → ClassId) (ad : Nat → Nat) (fm : Value) (A : Nat → Prop) : Prop :=
  p.tables.exec = Jvm.exec ∧ c.code = (cd_code y).1 ∧ meth.sig.returnType = cd_mr.getD y none ∧ c.maxLocals = cd_ml.getD y 0 ∧ s.vm.findClass (cd_c (cd_own y)) = some m.cls ∧ (∀ w ∈ cd_big, w.before args s = true) ∧ meth.locks = false ∧ va_K D cd_cl (cd_tys cy) s ∧ cd_St ad fm A s ∧ (∀ q, s.heap.size ≤ q → A q) ∧ y < 245
/-- from here the machine comes to r -/
def cd_OK (p : Program) (l : Launch) (e : Env) (s : State) (m : MethodId) (args : Array Value) (below : List Frame) (meth : Method) (c : Code) (y : Nat) (D : va_G) (cy : Nat → ClassId) (ad : Nat → Nat) (fm : Value) (A : Nat → Prop) (pc : Nat) (ls : List (Option Value)) (st : List Value) (M : cd_M) (r : Option Value × cd_M) : Prop :=
  ∀ (H : Heap) (locs : List Loc) (la : Array Slot), va_P D cd_cl (cd_ws cy ad M) H → va_D A (cd_ws cy ad M) → va_S A s.heap H locs → cd_lr ad fm la ls →
    W p l e (cd_room y) s m args below meth c H locs 0 0 (MQ below (cd_Q D cy ad fm A r) args s 0 0 A) (F0 m pc la (st.map (cd_em ad fm)))

theorem cd_s_iconst (hC : cd_Cx p s m args meth c y D cy ad fm A) {pc : Nat} {ls : List (Option Value)} {rs : List Value} {M : cd_M} {r : Option Value × cd_M} {n : Int} (hd : decode (cd_code y).1 pc = .ok (.iconst n, 1)) (k : cd_OK p l e s m args below meth c y D cy ad fm A (pc + 1) ls (.int (Int32.ofInt n) :: rs) M r) : cd_OK p l e s m args below meth c y D cy ad fm A pc ls rs M r := by
  obtain ⟨hx, hb, hr, hml, hown, hts, hlk, hK, hSt, hA, hy⟩ := hC
  intro H locs la hP hD hS hl
  exact lv_iconst hx hb hd rfl (k H locs la hP hD hS hl)
theorem cd_s_bipush (hC : cd_Cx p s m args meth c y D cy ad fm A) {pc : Nat} {ls : List (Option Value)} {rs : List Value} {M : cd_M} {r : Option Value × cd_M} {n : Int} (hd : decode (cd_code y).1 pc = .ok (.bipush n, 2)) (k : cd_OK p l e s m args below meth c y D cy ad fm A (pc + 2) ls (.int (Int8.ofInt n).toInt32 :: rs) M r) : cd_OK p l e s m args below meth c y D cy ad fm A pc ls rs M r := by
  obtain ⟨hx, hb, hr, hml, hown, hts, hlk, hK, hSt, hA, hy⟩ := hC
  intro H locs la hP hD hS hl
  exact lv_bipush hx hb hd rfl (k H locs la hP hD hS hl)
theorem cd_s_sipush (hC : cd_Cx p s m args meth c y D cy ad fm A) {pc : Nat} {ls : List (Option Value)} {rs : List Value} {M : cd_M} {r : Option Value × cd_M} {n : Int} (hd : decode (cd_code y).1 pc = .ok (.sipush n, 3)) (k : cd_OK p l e s m args below meth c y D cy ad fm A (pc + 3) ls (.int (Int16.ofInt n).toInt32 :: rs) M r) : cd_OK p l e s m args below meth c y D cy ad fm A pc ls rs M r := by
  obtain ⟨hx, hb, hr, hml, hown, hts, hlk, hK, hSt, hA, hy⟩ := hC
  intro H locs la hP hD hS hl
  exact lv_sipush hx hb hd rfl (k H locs la hP hD hS hl)
theorem cd_s_lconst (hC : cd_Cx p s m args meth c y D cy ad fm A) {pc : Nat} {ls : List (Option Value)} {rs : List Value} {M : cd_M} {r : Option Value × cd_M} {n : Fin 2} (hd : decode (cd_code y).1 pc = .ok (.lconst n, 1)) (k : cd_OK p l e s m args below meth c y D cy ad fm A (pc + 1) ls (.long (Int64.ofNat (n : Nat)) :: rs) M r) : cd_OK p l e s m args below meth c y D cy ad fm A pc ls rs M r := by
  obtain ⟨hx, hb, hr, hml, hown, hts, hlk, hK, hSt, hA, hy⟩ := hC
  intro H locs la hP hD hS hl
  exact lv_lconst hx hb hd rfl (k H locs la hP hD hS hl)
theorem cd_s_iadd (hC : cd_Cx p s m args meth c y D cy ad fm A) {pc : Nat} {ls : List (Option Value)} {rs : List Value} {M : cd_M} {r : Option Value × cd_M} {a b : Int32} (hd : decode (cd_code y).1 pc = .ok (.iadd, 1)) (k : cd_OK p l e s m args below meth c y D cy ad fm A (pc + 1) ls (.int (a + b) :: rs) M r) : cd_OK p l e s m args below meth c y D cy ad fm A pc ls (.int b :: .int a :: rs) M r := by
  obtain ⟨hx, hb, hr, hml, hown, hts, hlk, hK, hSt, hA, hy⟩ := hC
  intro H locs la hP hD hS hl
  exact lv_iadd hx hb hd (k H locs la hP hD hS hl)
theorem cd_s_isub (hC : cd_Cx p s m args meth c y D cy ad fm A) {pc : Nat} {ls : List (Option Value)} {rs : List Value} {M : cd_M} {r : Option Value × cd_M} {a b : Int32} (hd : decode (cd_code y).1 pc = .ok (.isub, 1)) (k : cd_OK p l e s m args below meth c y D cy ad fm A (pc + 1) ls (.int (a - b) :: rs) M r) : cd_OK p l e s m args below meth c y D cy ad fm A pc ls (.int b :: .int a :: rs) M r := by
  obtain ⟨hx, hb, hr, hml, hown, hts, hlk, hK, hSt, hA, hy⟩ := hC
  intro H locs la hP hD hS hl
  exact lv_isub hx hb hd (k H locs la hP hD hS hl)
theorem cd_s_imul (hC : cd_Cx p s m args meth c y D cy ad fm A) {pc : Nat} {ls : List (Option Value)} {rs : List Value} {M : cd_M} {r : Option Value × cd_M} {a b : Int32} (hd : decode (cd_code y).1 pc = .ok (.imul, 1)) (k : cd_OK p l e s m args below meth c y D cy ad fm A (pc + 1) ls (.int (a * b) :: rs) M r) : cd_OK p l e s m args below meth c y D cy ad fm A pc ls (.int b :: .int a :: rs) M r := by
  obtain ⟨hx, hb, hr, hml, hown, hts, hlk, hK, hSt, hA, hy⟩ := hC
  intro H locs la hP hD hS hl
  exact lv_imul hx hb hd (k H locs la hP hD hS hl)
theorem cd_s_iand (hC : cd_Cx p s m args meth c y D cy ad fm A) {pc : Nat} {ls : List (Option Value)} {rs : List Value} {M : cd_M} {r : Option Value × cd_M} {a b : Int32} (hd : decode (cd_code y).1 pc = .ok (.iand, 1)) (k : cd_OK p l e s m args below meth c y D cy ad fm A (pc + 1) ls (.int (a &&& b) :: rs) M r) : cd_OK p l e s m args below meth c y D cy ad fm A pc ls (.int b :: .int a :: rs) M r := by
  obtain ⟨hx, hb, hr, hml, hown, hts, hlk, hK, hSt, hA, hy⟩ := hC
  intro H locs la hP hD hS hl
  exact lv_iand hx hb hd (k H locs la hP hD hS hl)
theorem cd_s_ior (hC : cd_Cx p s m args meth c y D cy ad fm A) {pc : Nat} {ls : List (Option Value)} {rs : List Value} {M : cd_M} {r : Option Value × cd_M} {a b : Int32} (hd : decode (cd_code y).1 pc = .ok (.ior, 1)) (k : cd_OK p l e s m args below meth c y D cy ad fm A (pc + 1) ls (.int (a ||| b) :: rs) M r) : cd_OK p l e s m args below meth c y D cy ad fm A pc ls (.int b :: .int a :: rs) M r := by
  obtain ⟨hx, hb, hr, hml, hown, hts, hlk, hK, hSt, hA, hy⟩ := hC
  intro H locs la hP hD hS hl
  exact lv_ior hx hb hd (k H locs la hP hD hS hl)
theorem cd_s_ishl (hC : cd_Cx p s m args meth c y D cy ad fm A) {pc : Nat} {ls : List (Option Value)} {rs : List Value} {M : cd_M} {r : Option Value × cd_M} {a b : Int32} (hd : decode (cd_code y).1 pc = .ok (.ishl, 1)) (k : cd_OK p l e s m args below meth c y D cy ad fm A (pc + 1) ls (.int (a <<< (b &&& 31)) :: rs) M r) : cd_OK p l e s m args below meth c y D cy ad fm A pc ls (.int b :: .int a :: rs) M r := by
  obtain ⟨hx, hb, hr, hml, hown, hts, hlk, hK, hSt, hA, hy⟩ := hC
  intro H locs la hP hD hS hl
  exact lv_ishl hx hb hd (k H locs la hP hD hS hl)
theorem cd_s_ishr (hC : cd_Cx p s m args meth c y D cy ad fm A) {pc : Nat} {ls : List (Option Value)} {rs : List Value} {M : cd_M} {r : Option Value × cd_M} {a b : Int32} (hd : decode (cd_code y).1 pc = .ok (.ishr, 1)) (k : cd_OK p l e s m args below meth c y D cy ad fm A (pc + 1) ls (.int (a >>> (b &&& 31)) :: rs) M r) : cd_OK p l e s m args below meth c y D cy ad fm A pc ls (.int b :: .int a :: rs) M r := by
  obtain ⟨hx, hb, hr, hml, hown, hts, hlk, hK, hSt, hA, hy⟩ := hC
  intro H locs la hP hD hS hl
  exact lv_ishr hx hb hd (k H locs la hP hD hS hl)
theorem cd_s_iushr (hC : cd_Cx p s m args meth c y D cy ad fm A) {pc : Nat} {ls : List (Option Value)} {rs : List Value} {M : cd_M} {r : Option Value × cd_M} {a b : Int32} (hd : decode (cd_code y).1 pc = .ok (.iushr, 1)) (k : cd_OK p l e s m args below meth c y D cy ad fm A (pc + 1) ls (.int (a.toUInt32 >>> (b.toUInt32 &&& Int32.toUInt32 31)).toInt32 :: rs) M r) : cd_OK p l e s m args below meth c y D cy ad fm A pc ls (.int b :: .int a :: rs) M r := by
  obtain ⟨hx, hb, hr, hml, hown, hts, hlk, hK, hSt, hA, hy⟩ := hC
  intro H locs la hP hD hS hl
  exact lv_iushr hx hb hd rfl (k H locs la hP hD hS hl)
theorem cd_s_land (hC : cd_Cx p s m args meth c y D cy ad fm A) {pc : Nat} {ls : List (Option Value)} {rs : List Value} {M : cd_M} {r : Option Value × cd_M} {a b : Int64} (hd : decode (cd_code y).1 pc = .ok (.land, 1)) (k : cd_OK p l e s m args below meth c y D cy ad fm A (pc + 1) ls (.long (a &&& b) :: rs) M r) : cd_OK p l e s m args below meth c y D cy ad fm A pc ls (.long b :: .long a :: rs) M r := by
  obtain ⟨hx, hb, hr, hml, hown, hts, hlk, hK, hSt, hA, hy⟩ := hC
  intro H locs la hP hD hS hl
  exact lv_land hx hb hd (k H locs la hP hD hS hl)
theorem cd_s_lor (hC : cd_Cx p s m args meth c y D cy ad fm A) {pc : Nat} {ls : List (Option Value)} {rs : List Value} {M : cd_M} {r : Option Value × cd_M} {a b : Int64} (hd : decode (cd_code y).1 pc = .ok (.lor, 1)) (k : cd_OK p l e s m args below meth c y D cy ad fm A (pc + 1) ls (.long (a ||| b) :: rs) M r) : cd_OK p l e s m args below meth c y D cy ad fm A pc ls (.long b :: .long a :: rs) M r := by
  obtain ⟨hx, hb, hr, hml, hown, hts, hlk, hK, hSt, hA, hy⟩ := hC
  intro H locs la hP hD hS hl
  exact lv_lor hx hb hd (k H locs la hP hD hS hl)
theorem cd_s_lxor (hC : cd_Cx p s m args meth c y D cy ad fm A) {pc : Nat} {ls : List (Option Value)} {rs : List Value} {M : cd_M} {r : Option Value × cd_M} {a b : Int64} (hd : decode (cd_code y).1 pc = .ok (.lxor, 1)) (k : cd_OK p l e s m args below meth c y D cy ad fm A (pc + 1) ls (.long (a ^^^ b) :: rs) M r) : cd_OK p l e s m args below meth c y D cy ad fm A pc ls (.long b :: .long a :: rs) M r := by
  obtain ⟨hx, hb, hr, hml, hown, hts, hlk, hK, hSt, hA, hy⟩ := hC
  intro H locs la hP hD hS hl
  exact lv_lxor hx hb hd (k H locs la hP hD hS hl)
theorem cd_s_lcmp (hC : cd_Cx p s m args meth c y D cy ad fm A) {pc : Nat} {ls : List (Option Value)} {rs : List Value} {M : cd_M} {r : Option Value × cd_M} {a b : Int64} (hd : decode (cd_code y).1 pc = .ok (.lcmp, 1)) (k : cd_OK p l e s m args below meth c y D cy ad fm A (pc + 1) ls (.int (lg_cmp a b) :: rs) M r) : cd_OK p l e s m args below meth c y D cy ad fm A pc ls (.long b :: .long a :: rs) M r := by
  obtain ⟨hx, hb, hr, hml, hown, hts, hlk, hK, hSt, hA, hy⟩ := hC
  intro H locs la hP hD hS hl
  exact W.lcmp hx hb hd (k H locs la hP hD hS hl)
theorem cd_s_lshl (hC : cd_Cx p s m args meth c y D cy ad fm A) {pc : Nat} {ls : List (Option Value)} {rs : List Value} {M : cd_M} {r : Option Value × cd_M} {a : Int64} {b : Int32} (hd : decode (cd_code y).1 pc = .ok (.lshl, 1)) (k : cd_OK p l e s m args below meth c y D cy ad fm A (pc + 1) ls (.long (a <<< (b.toInt64 &&& 63)) :: rs) M r) : cd_OK p l e s m args below meth c y D cy ad fm A pc ls (.int b :: .long a :: rs) M r := by
  obtain ⟨hx, hb, hr, hml, hown, hts, hlk, hK, hSt, hA, hy⟩ := hC
  intro H locs la hP hD hS hl
  exact lv_lshl hx hb hd rfl (k H locs la hP hD hS hl)
theorem cd_s_lushr (hC : cd_Cx p s m args meth c y D cy ad fm A) {pc : Nat} {ls : List (Option Value)} {rs : List Value} {M : cd_M} {r : Option Value × cd_M} {a : Int64} {b : Int32} (hd : decode (cd_code y).1 pc = .ok (.lushr, 1)) (k : cd_OK p l e s m args below meth c y D cy ad fm A (pc + 1) ls (.long (a.toUInt64 >>> (b.toInt64.toUInt64 &&& Int64.toUInt64 63)).toInt64 :: rs) M r) : cd_OK p l e s m args below meth c y D cy ad fm A pc ls (.int b :: .long a :: rs) M r := by
  obtain ⟨hx, hb, hr, hml, hown, hts, hlk, hK, hSt, hA, hy⟩ := hC
  intro H locs la hP hD hS hl
  exact lv_lushr hx hb hd rfl (k H locs la hP hD hS hl)
theorem cd_s_ineg (hC : cd_Cx p s m args meth c y D cy ad fm A) {pc : Nat} {ls : List (Option Value)} {rs : List Value} {M : cd_M} {r : Option Value × cd_M} {a : Int32} (hd : decode (cd_code y).1 pc = .ok (.ineg, 1)) (k : cd_OK p l e s m args below meth c y D cy ad fm A (pc + 1) ls (.int (-a) :: rs) M r) : cd_OK p l e s m args below meth c y D cy ad fm A pc ls (.int a :: rs) M r := by
  obtain ⟨hx, hb, hr, hml, hown, hts, hlk, hK, hSt, hA, hy⟩ := hC
  intro H locs la hP hD hS hl
  exact lv_ineg hx hb hd (k H locs la hP hD hS hl)
theorem cd_s_i2l (hC : cd_Cx p s m args meth c y D cy ad fm A) {pc : Nat} {ls : List (Option Value)} {rs : List Value} {M : cd_M} {r : Option Value × cd_M} {a : Int32} (hd : decode (cd_code y).1 pc = .ok (.i2l, 1)) (k : cd_OK p l e s m args below meth c y D cy ad fm A (pc + 1) ls (.long a.toInt64 :: rs) M r) : cd_OK p l e s m args below meth c y D cy ad fm A pc ls (.int a :: rs) M r := by
  obtain ⟨hx, hb, hr, hml, hown, hts, hlk, hK, hSt, hA, hy⟩ := hC
  intro H locs la hP hD hS hl
  exact lv_i2l hx hb hd rfl (k H locs la hP hD hS hl)
theorem cd_s_l2i (hC : cd_Cx p s m args meth c y D cy ad fm A) {pc : Nat} {ls : List (Option Value)} {rs : List Value} {M : cd_M} {r : Option Value × cd_M} {a : Int64} (hd : decode (cd_code y).1 pc = .ok (.l2i, 1)) (k : cd_OK p l e s m args below meth c y D cy ad fm A (pc + 1) ls (.int a.toInt32 :: rs) M r) : cd_OK p l e s m args below meth c y D cy ad fm A pc ls (.long a :: rs) M r := by
  obtain ⟨hx, hb, hr, hml, hown, hts, hlk, hK, hSt, hA, hy⟩ := hC
  intro H locs la hP hD hS hl
  exact lv_l2i hx hb hd rfl (k H locs la hP hD hS hl)
theorem cd_s_i2b (hC : cd_Cx p s m args meth c y D cy ad fm A) {pc : Nat} {ls : List (Option Value)} {rs : List Value} {M : cd_M} {r : Option Value × cd_M} {a : Int32} (hd : decode (cd_code y).1 pc = .ok (.i2b, 1)) (k : cd_OK p l e s m args below meth c y D cy ad fm A (pc + 1) ls (.int a.toInt8.toInt32 :: rs) M r) : cd_OK p l e s m args below meth c y D cy ad fm A pc ls (.int a :: rs) M r := by
  obtain ⟨hx, hb, hr, hml, hown, hts, hlk, hK, hSt, hA, hy⟩ := hC
  intro H locs la hP hD hS hl
  exact lv_i2b hx hb hd rfl (k H locs la hP hD hS hl)
theorem cd_s_i2c (hC : cd_Cx p s m args meth c y D cy ad fm A) {pc : Nat} {ls : List (Option Value)} {rs : List Value} {M : cd_M} {r : Option Value × cd_M} {a : Int32} (hd : decode (cd_code y).1 pc = .ok (.i2c, 1)) (k : cd_OK p l e s m args below meth c y D cy ad fm A (pc + 1) ls (.int (a.toUInt32 % 65536).toInt32 :: rs) M r) : cd_OK p l e s m args below meth c y D cy ad fm A pc ls (.int a :: rs) M r := by
  obtain ⟨hx, hb, hr, hml, hown, hts, hlk, hK, hSt, hA, hy⟩ := hC
  intro H locs la hP hD hS hl
  exact lv_i2c hx hb hd rfl (k H locs la hP hD hS hl)
theorem cd_s_idiv (hC : cd_Cx p s m args meth c y D cy ad fm A) {pc : Nat} {ls : List (Option Value)} {rs : List Value} {M : cd_M} {r : Option Value × cd_M} {a b : Int32} (hne : ¬ b = 0) (hd : decode (cd_code y).1 pc = .ok (.idiv, 1)) (k : cd_OK p l e s m args below meth c y D cy ad fm A (pc + 1) ls (.int (a / b) :: rs) M r) : cd_OK p l e s m args below meth c y D cy ad fm A pc ls (.int b :: .int a :: rs) M r := by
  obtain ⟨hx, hb, hr, hml, hown, hts, hlk, hK, hSt, hA, hy⟩ := hC
  intro H locs la hP hD hS hl
  exact lv_idiv hx hb hd hne (k H locs la hP hD hS hl)
theorem cd_s_irem (hC : cd_Cx p s m args meth c y D cy ad fm A) {pc : Nat} {ls : List (Option Value)} {rs : List Value} {M : cd_M} {r : Option Value × cd_M} {a b : Int32} (hne : ¬ b = 0) (hd : decode (cd_code y).1 pc = .ok (.irem, 1)) (k : cd_OK p l e s m args below meth c y D cy ad fm A (pc + 1) ls (.int (a - a / b * b) :: rs) M r) : cd_OK p l e s m args below meth c y D cy ad fm A pc ls (.int b :: .int a :: rs) M r := by
  obtain ⟨hx, hb, hr, hml, hown, hts, hlk, hK, hSt, hA, hy⟩ := hC
  intro H locs la hP hD hS hl
  exact lv_irem hx hb hd hne (k H locs la hP hD hS hl)
theorem cd_s_dup (hC : cd_Cx p s m args meth c y D cy ad fm A) {pc : Nat} {ls : List (Option Value)} {rs : List Value} {M : cd_M} {r : Option Value × cd_M} {v : Value} (hv : v.category = 1) (hd : decode (cd_code y).1 pc = .ok (.dup, 1)) (k : cd_OK p l e s m args below meth c y D cy ad fm A (pc + 1) ls (v :: v :: rs) M r) : cd_OK p l e s m args below meth c y D cy ad fm A pc ls (v :: rs) M r := by
  obtain ⟨hx, hb, hr, hml, hown, hts, hlk, hK, hSt, hA, hy⟩ := hC
  intro H locs la hP hD hS hl
  exact lv_dup hx hb hd ((cd_em_cat ad fm hSt.1 v).trans hv) (k H locs la hP hD hS hl)
theorem cd_s_pop (hC : cd_Cx p s m args meth c y D cy ad fm A) {pc : Nat} {ls : List (Option Value)} {rs : List Value} {M : cd_M} {r : Option Value × cd_M} {v : Value} (hv : v.category = 1) (hd : decode (cd_code y).1 pc = .ok (.pop, 1)) (k : cd_OK p l e s m args below meth c y D cy ad fm A (pc + 1) ls rs M r) : cd_OK p l e s m args below meth c y D cy ad fm A pc ls (v :: rs) M r := by
  obtain ⟨hx, hb, hr, hml, hown, hts, hlk, hK, hSt, hA, hy⟩ := hC
  intro H locs la hP hD hS hl
  exact lv_pop hx hb hd ((cd_em_cat ad fm hSt.1 v).trans hv) (k H locs la hP hD hS hl)
theorem cd_s_dup2 (hC : cd_Cx p s m args meth c y D cy ad fm A) {pc : Nat} {ls : List (Option Value)} {rs : List Value} {M : cd_M} {r : Option Value × cd_M} {v w : Value} (hv : v.category = 1) (hw : w.category = 1) (hd : decode (cd_code y).1 pc = .ok (.dup2, 1)) (k : cd_OK p l e s m args below meth c y D cy ad fm A (pc + 1) ls (v :: w :: v :: w :: rs) M r) : cd_OK p l e s m args below meth c y D cy ad fm A pc ls (v :: w :: rs) M r := by
  obtain ⟨hx, hb, hr, hml, hown, hts, hlk, hK, hSt, hA, hy⟩ := hC
  intro H locs la hP hD hS hl
  exact lv_dup2_11 hx hb hd ((cd_em_cat ad fm hSt.1 v).trans hv) ((cd_em_cat ad fm hSt.1 w).trans hw) (k H locs la hP hD hS hl)
theorem cd_s_ldcI (hC : cd_Cx p s m args meth c y D cy ad fm A) {pc : Nat} {ls : List (Option Value)} {rs : List Value} {M : cd_M} {r : Option Value × cd_M} {n : Nat} {v : Int32} (hc : Cond.constant (cd_c (cd_own y)) n v ∈ cd_big) (hd : decode (cd_code y).1 pc = .ok (.ldc n, 2)) (k : cd_OK p l e s m args below meth c y D cy ad fm A (pc + 2) ls (.int v :: rs) M r) : cd_OK p l e s m args below meth c y D cy ad fm A pc ls rs M r := by
  obtain ⟨hx, hb, hr, hml, hown, hts, hlk, hK, hSt, hA, hy⟩ := hC
  intro H locs la hP hD hS hl
  exact lv_ldc hx hb hown (hts _ hc) hd (k H locs la hP hD hS hl)
theorem cd_s_ldcwI (hC : cd_Cx p s m args meth c y D cy ad fm A) {pc : Nat} {ls : List (Option Value)} {rs : List Value} {M : cd_M} {r : Option Value × cd_M} {n : Nat} {v : Int32} (hc : Cond.constant (cd_c (cd_own y)) n v ∈ cd_big) (hd : decode (cd_code y).1 pc = .ok (.ldc_w n, 3)) (k : cd_OK p l e s m args below meth c y D cy ad fm A (pc + 3) ls (.int v :: rs) M r) : cd_OK p l e s m args below meth c y D cy ad fm A pc ls rs M r := by
  obtain ⟨hx, hb, hr, hml, hown, hts, hlk, hK, hSt, hA, hy⟩ := hC
  intro H locs la hP hD hS hl
  exact lv_ldcw hx hb hown (hts _ hc) hd (k H locs la hP hD hS hl)
theorem cd_s_ldc2 (hC : cd_Cx p s m args meth c y D cy ad fm A) {pc : Nat} {ls : List (Option Value)} {rs : List Value} {M : cd_M} {r : Option Value × cd_M} {n : Nat} {v : Int64} (hc : Cond.constantLong (cd_c (cd_own y)) n v ∈ cd_big) (hd : decode (cd_code y).1 pc = .ok (.ldc2_w n, 3)) (k : cd_OK p l e s m args below meth c y D cy ad fm A (pc + 3) ls (.long v :: rs) M r) : cd_OK p l e s m args below meth c y D cy ad fm A pc ls rs M r := by
  obtain ⟨hx, hb, hr, hml, hown, hts, hlk, hK, hSt, hA, hy⟩ := hC
  intro H locs la hP hD hS hl
  exact lv_ldc2 hx hb hown (hts _ hc) hd (k H locs la hP hD hS hl)
theorem cd_s_ldcS (hC : cd_Cx p s m args meth c y D cy ad fm A) {pc : Nat} {ls : List (Option Value)} {rs : List Value} {M : cd_M} {r : Option Value × cd_M} {n j : Nat} (hj : j < 13) (hc : (cd_own y, n, j) ∈ cd_strI) (hd : decode (cd_code y).1 pc = .ok (.ldc n, 2)) (k : cd_OK p l e s m args below meth c y D cy ad fm A (pc + 2) ls (.ref (1000 + j) :: rs) M r) : cd_OK p l e s m args below meth c y D cy ad fm A pc ls rs M r := by
  obtain ⟨hx, hb, hr, hml, hown, hts, hlk, hK, hSt, hA, hy⟩ := hC
  intro H locs la hP hD hS hl
  have h5 := hSt.2.2.2.1 (cd_own y, n, j) hc
  dsimp only at h5
  have e9 := k H locs la hP hD hS hl
  rw [List.map_cons, cd_em_ref ad fm (show ¬ 1000 + j = 1200 by omega)] at e9
  generalize ad (1000 + j) = q at h5 e9
  exact va_ldcS hx hb hown h5 hd e9
theorem cd_s_goto (hC : cd_Cx p s m args meth c y D cy ad fm A) {pc : Nat} {ls : List (Option Value)} {rs : List Value} {M : cd_M} {r : Option Value × cd_M} {off : Int} {t : Nat} (ht : (pc : Int) + off = (t : Int)) (hd : decode (cd_code y).1 pc = .ok (.goto off, 3)) (k : cd_OK p l e s m args below meth c y D cy ad fm A t ls rs M r) : cd_OK p l e s m args below meth c y D cy ad fm A pc ls rs M r := by
  obtain ⟨hx, hb, hr, hml, hown, hts, hlk, hK, hSt, hA, hy⟩ := hC
  intro H locs la hP hD hS hl
  exact lv_goto hx hb hd ht (k H locs la hP hD hS hl)
theorem cd_s_if_eq (hC : cd_Cx p s m args meth c y D cy ad fm A) {pc : Nat} {ls : List (Option Value)} {rs : List Value} {M : cd_M} {r : Option Value × cd_M} {a : Int32} {off : Int} {t : Nat} (ht : (pc : Int) + off = (t : Int)) (hd : decode (cd_code y).1 pc = .ok (.ifCond .eq off, 3)) (kt : a = 0 → cd_OK p l e s m args below meth c y D cy ad fm A t ls rs M r) (kf : ¬ a = 0 → cd_OK p l e s m args below meth c y D cy ad fm A (pc + 3) ls rs M r) : cd_OK p l e s m args below meth c y D cy ad fm A pc ls (.int a :: rs) M r := by
  obtain ⟨hx, hb, hr, hml, hown, hts, hlk, hK, hSt, hA, hy⟩ := hC
  intro H locs la hP hD hS hl
  exact lv_if_eq hx hb hd ht (fun z => kt z H locs la hP hD hS hl) (fun z => kf z H locs la hP hD hS hl)
theorem cd_s_if_ne (hC : cd_Cx p s m args meth c y D cy ad fm A) {pc : Nat} {ls : List (Option Value)} {rs : List Value} {M : cd_M} {r : Option Value × cd_M} {a : Int32} {off : Int} {t : Nat} (ht : (pc : Int) + off = (t : Int)) (hd : decode (cd_code y).1 pc = .ok (.ifCond .ne off, 3)) (kt : ¬ a = 0 → cd_OK p l e s m args below meth c y D cy ad fm A t ls rs M r) (kf : a = 0 → cd_OK p l e s m args below meth c y D cy ad fm A (pc + 3) ls rs M r) : cd_OK p l e s m args below meth c y D cy ad fm A pc ls (.int a :: rs) M r := by
  obtain ⟨hx, hb, hr, hml, hown, hts, hlk, hK, hSt, hA, hy⟩ := hC
  intro H locs la hP hD hS hl
  exact lv_if_ne hx hb hd ht (fun z => kt z H locs la hP hD hS hl) (fun z => kf z H locs la hP hD hS hl)
theorem cd_s_if_lt (hC : cd_Cx p s m args meth c y D cy ad fm A) {pc : Nat} {ls : List (Option Value)} {rs : List Value} {M : cd_M} {r : Option Value × cd_M} {a : Int32} {off : Int} {t : Nat} (ht : (pc : Int) + off = (t : Int)) (hd : decode (cd_code y).1 pc = .ok (.ifCond .lt off, 3)) (kt : a < 0 → cd_OK p l e s m args below meth c y D cy ad fm A t ls rs M r) (kf : ¬ a < 0 → cd_OK p l e s m args below meth c y D cy ad fm A (pc + 3) ls rs M r) : cd_OK p l e s m args below meth c y D cy ad fm A pc ls (.int a :: rs) M r := by
  obtain ⟨hx, hb, hr, hml, hown, hts, hlk, hK, hSt, hA, hy⟩ := hC
  intro H locs la hP hD hS hl
  exact lv_if_lt hx hb hd ht (fun z => kt z H locs la hP hD hS hl) (fun z => kf z H locs la hP hD hS hl)
theorem cd_s_if_ge (hC : cd_Cx p s m args meth c y D cy ad fm A) {pc : Nat} {ls : List (Option Value)} {rs : List Value} {M : cd_M} {r : Option Value × cd_M} {a : Int32} {off : Int} {t : Nat} (ht : (pc : Int) + off = (t : Int)) (hd : decode (cd_code y).1 pc = .ok (.ifCond .ge off, 3)) (kt : 0 ≤ a → cd_OK p l e s m args below meth c y D cy ad fm A t ls rs M r) (kf : ¬ 0 ≤ a → cd_OK p l e s m args below meth c y D cy ad fm A (pc + 3) ls rs M r) : cd_OK p l e s m args below meth c y D cy ad fm A pc ls (.int a :: rs) M r := by
  obtain ⟨hx, hb, hr, hml, hown, hts, hlk, hK, hSt, hA, hy⟩ := hC
  intro H locs la hP hD hS hl
  exact lv_if_ge hx hb hd ht (fun z => kt z H locs la hP hD hS hl) (fun z => kf z H locs la hP hD hS hl)
theorem cd_s_if_gt (hC : cd_Cx p s m args meth c y D cy ad fm A) {pc : Nat} {ls : List (Option Value)} {rs : List Value} {M : cd_M} {r : Option Value × cd_M} {a : Int32} {off : Int} {t : Nat} (ht : (pc : Int) + off = (t : Int)) (hd : decode (cd_code y).1 pc = .ok (.ifCond .gt off, 3)) (kt : 0 < a → cd_OK p l e s m args below meth c y D cy ad fm A t ls rs M r) (kf : ¬ 0 < a → cd_OK p l e s m args below meth c y D cy ad fm A (pc + 3) ls rs M r) : cd_OK p l e s m args below meth c y D cy ad fm A pc ls (.int a :: rs) M r := by
  obtain ⟨hx, hb, hr, hml, hown, hts, hlk, hK, hSt, hA, hy⟩ := hC
  intro H locs la hP hD hS hl
  exact lv_if_gt hx hb hd ht (fun z => kt z H locs la hP hD hS hl) (fun z => kf z H locs la hP hD hS hl)
theorem cd_s_if_le (hC : cd_Cx p s m args meth c y D cy ad fm A) {pc : Nat} {ls : List (Option Value)} {rs : List Value} {M : cd_M} {r : Option Value × cd_M} {a : Int32} {off : Int} {t : Nat} (ht : (pc : Int) + off = (t : Int)) (hd : decode (cd_code y).1 pc = .ok (.ifCond .le off, 3)) (kt : a ≤ 0 → cd_OK p l e s m args below meth c y D cy ad fm A t ls rs M r) (kf : ¬ a ≤ 0 → cd_OK p l e s m args below meth c y D cy ad fm A (pc + 3) ls rs M r) : cd_OK p l e s m args below meth c y D cy ad fm A pc ls (.int a :: rs) M r := by
  obtain ⟨hx, hb, hr, hml, hown, hts, hlk, hK, hSt, hA, hy⟩ := hC
  intro H locs la hP hD hS hl
  exact lv_if_le hx hb hd ht (fun z => kt z H locs la hP hD hS hl) (fun z => kf z H locs la hP hD hS hl)
theorem cd_s_icmp_eq (hC : cd_Cx p s m args meth c y D cy ad fm A) {pc : Nat} {ls : List (Option Value)} {rs : List Value} {M : cd_M} {r : Option Value × cd_M} {a b : Int32} {off : Int} {t : Nat} (ht : (pc : Int) + off = (t : Int)) (hd : decode (cd_code y).1 pc = .ok (.if_icmp .eq off, 3)) (kt : a = b → cd_OK p l e s m args below meth c y D cy ad fm A t ls rs M r) (kf : ¬ a = b → cd_OK p l e s m args below meth c y D cy ad fm A (pc + 3) ls rs M r) : cd_OK p l e s m args below meth c y D cy ad fm A pc ls (.int b :: .int a :: rs) M r := by
  obtain ⟨hx, hb, hr, hml, hown, hts, hlk, hK, hSt, hA, hy⟩ := hC
  intro H locs la hP hD hS hl
  exact lv_icmp_eq hx hb hd ht (fun z => kt z H locs la hP hD hS hl) (fun z => kf z H locs la hP hD hS hl)
theorem cd_s_icmp_ne (hC : cd_Cx p s m args meth c y D cy ad fm A) {pc : Nat} {ls : List (Option Value)} {rs : List Value} {M : cd_M} {r : Option Value × cd_M} {a b : Int32} {off : Int} {t : Nat} (ht : (pc : Int) + off = (t : Int)) (hd : decode (cd_code y).1 pc = .ok (.if_icmp .ne off, 3)) (kt : ¬ a = b → cd_OK p l e s m args below meth c y D cy ad fm A t ls rs M r) (kf : a = b → cd_OK p l e s m args below meth c y D cy ad fm A (pc + 3) ls rs M r) : cd_OK p l e s m args below meth c y D cy ad fm A pc ls (.int b :: .int a :: rs) M r := by
  obtain ⟨hx, hb, hr, hml, hown, hts, hlk, hK, hSt, hA, hy⟩ := hC
  intro H locs la hP hD hS hl
  exact lv_icmp_ne hx hb hd ht (fun z => kt z H locs la hP hD hS hl) (fun z => kf z H locs la hP hD hS hl)
theorem cd_s_icmp_lt (hC : cd_Cx p s m args meth c y D cy ad fm A) {pc : Nat} {ls : List (Option Value)} {rs : List Value} {M : cd_M} {r : Option Value × cd_M} {a b : Int32} {off : Int} {t : Nat} (ht : (pc : Int) + off = (t : Int)) (hd : decode (cd_code y).1 pc = .ok (.if_icmp .lt off, 3)) (kt : a < b → cd_OK p l e s m args below meth c y D cy ad fm A t ls rs M r) (kf : ¬ a < b → cd_OK p l e s m args below meth c y D cy ad fm A (pc + 3) ls rs M r) : cd_OK p l e s m args below meth c y D cy ad fm A pc ls (.int b :: .int a :: rs) M r := by
  obtain ⟨hx, hb, hr, hml, hown, hts, hlk, hK, hSt, hA, hy⟩ := hC
  intro H locs la hP hD hS hl
  exact lv_icmp_lt hx hb hd ht (fun z => kt z H locs la hP hD hS hl) (fun z => kf z H locs la hP hD hS hl)
theorem cd_s_icmp_ge (hC : cd_Cx p s m args meth c y D cy ad fm A) {pc : Nat} {ls : List (Option Value)} {rs : List Value} {M : cd_M} {r : Option Value × cd_M} {a b : Int32} {off : Int} {t : Nat} (ht : (pc : Int) + off = (t : Int)) (hd : decode (cd_code y).1 pc = .ok (.if_icmp .ge off, 3)) (kt : b ≤ a → cd_OK p l e s m args below meth c y D cy ad fm A t ls rs M r) (kf : ¬ b ≤ a → cd_OK p l e s m args below meth c y D cy ad fm A (pc + 3) ls rs M r) : cd_OK p l e s m args below meth c y D cy ad fm A pc ls (.int b :: .int a :: rs) M r := by
  obtain ⟨hx, hb, hr, hml, hown, hts, hlk, hK, hSt, hA, hy⟩ := hC
  intro H locs la hP hD hS hl
  exact lv_icmp_ge hx hb hd ht (fun z => kt z H locs la hP hD hS hl) (fun z => kf z H locs la hP hD hS hl)
theorem cd_s_icmp_gt (hC : cd_Cx p s m args meth c y D cy ad fm A) {pc : Nat} {ls : List (Option Value)} {rs : List Value} {M : cd_M} {r : Option Value × cd_M} {a b : Int32} {off : Int} {t : Nat} (ht : (pc : Int) + off = (t : Int)) (hd : decode (cd_code y).1 pc = .ok (.if_icmp .gt off, 3)) (kt : b < a → cd_OK p l e s m args below meth c y D cy ad fm A t ls rs M r) (kf : ¬ b < a → cd_OK p l e s m args below meth c y D cy ad fm A (pc + 3) ls rs M r) : cd_OK p l e s m args below meth c y D cy ad fm A pc ls (.int b :: .int a :: rs) M r := by
  obtain ⟨hx, hb, hr, hml, hown, hts, hlk, hK, hSt, hA, hy⟩ := hC
  intro H locs la hP hD hS hl
  exact lv_icmp_gt hx hb hd ht (fun z => kt z H locs la hP hD hS hl) (fun z => kf z H locs la hP hD hS hl)
theorem cd_s_icmp_le (hC : cd_Cx p s m args meth c y D cy ad fm A) {pc : Nat} {ls : List (Option Value)} {rs : List Value} {M : cd_M} {r : Option Value × cd_M} {a b : Int32} {off : Int} {t : Nat} (ht : (pc : Int) + off = (t : Int)) (hd : decode (cd_code y).1 pc = .ok (.if_icmp .le off, 3)) (kt : a ≤ b → cd_OK p l e s m args below meth c y D cy ad fm A t ls rs M r) (kf : ¬ a ≤ b → cd_OK p l e s m args below meth c y D cy ad fm A (pc + 3) ls rs M r) : cd_OK p l e s m args below meth c y D cy ad fm A pc ls (.int b :: .int a :: rs) M r := by
  obtain ⟨hx, hb, hr, hml, hown, hts, hlk, hK, hSt, hA, hy⟩ := hC
  intro H locs la hP hD hS hl
  exact lv_icmp_le hx hb hd ht (fun z => kt z H locs la hP hD hS hl) (fun z => kf z H locs la hP hD hS hl)
theorem cd_s_swOut (hC : cd_Cx p s m args meth c y D cy ad fm A) {pc : Nat} {ls : List (Option Value)} {rs : List Value} {M : cd_M} {r : Option Value × cd_M} {dflt lo hi : Int} {offs : Array Int} {len : Nat} {x : Int32} {t : Nat} (h : x.toInt < lo ∨ hi < x.toInt) (ht : (pc : Int) + dflt = (t : Int)) (hd : decode (cd_code y).1 pc = .ok (.tableswitch dflt lo hi offs, len)) (k : cd_OK p l e s m args below meth c y D cy ad fm A t ls rs M r) : cd_OK p l e s m args below meth c y D cy ad fm A pc ls (.int x :: rs) M r := by
  obtain ⟨hx, hb, hr, hml, hown, hts, hlk, hK, hSt, hA, hy⟩ := hC
  intro H locs la hP hD hS hl
  exact lv_tableOut hx hb hd h ht (k H locs la hP hD hS hl)
theorem cd_s_swIn (hC : cd_Cx p s m args meth c y D cy ad fm A) {pc : Nat} {ls : List (Option Value)} {rs : List Value} {M : cd_M} {r : Option Value × cd_M} {dflt lo hi off : Int} {offs : Array Int} {len : Nat} {x : Int32} {t : Nat} (h : ¬ (x.toInt < lo ∨ hi < x.toInt)) (ho : offs[(x.toInt - lo).toNat]? = some off) (ht : (pc : Int) + off = (t : Int)) (hd : decode (cd_code y).1 pc = .ok (.tableswitch dflt lo hi offs, len)) (k : cd_OK p l e s m args below meth c y D cy ad fm A t ls rs M r) : cd_OK p l e s m args below meth c y D cy ad fm A pc ls (.int x :: rs) M r := by
  obtain ⟨hx, hb, hr, hml, hown, hts, hlk, hK, hSt, hA, hy⟩ := hC
  intro H locs la hP hD hS hl
  exact lv_tableIn hx hb hd (fun z => h (Or.inl z)) (fun z => h (Or.inr z)) ho ht (k H locs la hP hD hS hl)
theorem cd_s_iald (hC : cd_Cx p s m args meth c y D cy ad fm A) {pc : Nat} {ls : List (Option Value)} {rs : List Value} {M : cd_M} {r : Option Value × cd_M} {k : Nat} {j : Int32} (hk : (cd_sh k).1 = 20) (hj : vp_in j (cd_sh k).2) (hd : decode (cd_code y).1 pc = .ok (.iaload, 1)) (kk : cd_OK p l e s m args below meth c y D cy ad fm A (pc + 1) ls (.int (M.1 k j.toNatClampNeg) :: rs) M r) : cd_OK p l e s m args below meth c y D cy ad fm A pc ls (.int j :: .ref k :: rs) M r := by
  obtain ⟨hx, hb, hr, hml, hown, hts, hlk, hK, hSt, hA, hy⟩ := hC
  intro H locs la hP hD hS hl
  have hlt : k < cd_NC := cd_sh_lt (by omega)
  have ha := cd_ws_at (cy := cy) (ad := ad) (M := M) hlt
  rw [cd_cell20 hk] at ha
  show W p l e (cd_room y) s m args below meth c H locs 0 0 _ (F0 m pc la (.int j :: cd_em ad fm (.ref k) :: rs.map (cd_em ad fm)))
  rw [cd_em_ref ad fm (cd_ne1200 hlt)]
  exact va_iald hx hb hK hP k 0 ha rfl hj hd (kk H locs la hP hD hS hl)
theorem cd_s_lald (hC : cd_Cx p s m args meth c y D cy ad fm A) {pc : Nat} {ls : List (Option Value)} {rs : List Value} {M : cd_M} {r : Option Value × cd_M} {k : Nat} {j : Int32} (hk : (cd_sh k).1 = 21) (hj : vp_in j (cd_sh k).2) (hd : decode (cd_code y).1 pc = .ok (.laload, 1)) (kk : cd_OK p l e s m args below meth c y D cy ad fm A (pc + 1) ls (.long (M.2 k j.toNatClampNeg) :: rs) M r) : cd_OK p l e s m args below meth c y D cy ad fm A pc ls (.int j :: .ref k :: rs) M r := by
  obtain ⟨hx, hb, hr, hml, hown, hts, hlk, hK, hSt, hA, hy⟩ := hC
  intro H locs la hP hD hS hl
  have hlt : k < cd_NC := cd_sh_lt (by omega)
  have ha := cd_ws_at (cy := cy) (ad := ad) (M := M) hlt
  rw [cd_cell21 hk] at ha
  show W p l e (cd_room y) s m args below meth c H locs 0 0 _ (F0 m pc la (.int j :: cd_em ad fm (.ref k) :: rs.map (cd_em ad fm)))
  rw [cd_em_ref ad fm (cd_ne1200 hlt)]
  exact va_lald hx hb hK hP k 1 ha rfl hj hd (kk H locs la hP hD hS hl)
theorem cd_s_bald (hC : cd_Cx p s m args meth c y D cy ad fm A) {pc : Nat} {ls : List (Option Value)} {rs : List Value} {M : cd_M} {r : Option Value × cd_M} {k : Nat} {j : Int32} (hk : (cd_sh k).1 = 22) (hj : vp_in j (cd_sh k).2) (hd : decode (cd_code y).1 pc = .ok (.baload, 1)) (kk : cd_OK p l e s m args below meth c y D cy ad fm A (pc + 1) ls (.int (M.1 k j.toNatClampNeg) :: rs) M r) : cd_OK p l e s m args below meth c y D cy ad fm A pc ls (.int j :: .ref k :: rs) M r := by
  obtain ⟨hx, hb, hr, hml, hown, hts, hlk, hK, hSt, hA, hy⟩ := hC
  intro H locs la hP hD hS hl
  have hlt : k < cd_NC := cd_sh_lt (by omega)
  have ha := cd_ws_at (cy := cy) (ad := ad) (M := M) hlt
  rw [cd_cell22 hk] at ha
  show W p l e (cd_room y) s m args below meth c H locs 0 0 _ (F0 m pc la (.int j :: cd_em ad fm (.ref k) :: rs.map (cd_em ad fm)))
  rw [cd_em_ref ad fm (cd_ne1200 hlt)]
  exact va_bald hx hb hK hP k 2 ha rfl hj hd (kk H locs la hP hD hS hl)
theorem cd_s_zald (hC : cd_Cx p s m args meth c y D cy ad fm A) {pc : Nat} {ls : List (Option Value)} {rs : List Value} {M : cd_M} {r : Option Value × cd_M} {k : Nat} {j : Int32} (hk : (cd_sh k).1 = 23) (hj : vp_in j (cd_sh k).2) (hd : decode (cd_code y).1 pc = .ok (.baload, 1)) (kk : cd_OK p l e s m args below meth c y D cy ad fm A (pc + 1) ls (.int (M.1 k j.toNatClampNeg) :: rs) M r) : cd_OK p l e s m args below meth c y D cy ad fm A pc ls (.int j :: .ref k :: rs) M r := by
  obtain ⟨hx, hb, hr, hml, hown, hts, hlk, hK, hSt, hA, hy⟩ := hC
  intro H locs la hP hD hS hl
  have hlt : k < cd_NC := cd_sh_lt (by omega)
  have ha := cd_ws_at (cy := cy) (ad := ad) (M := M) hlt
  rw [cd_cell23 hk] at ha
  show W p l e (cd_room y) s m args below meth c H locs 0 0 _ (F0 m pc la (.int j :: cd_em ad fm (.ref k) :: rs.map (cd_em ad fm)))
  rw [cd_em_ref ad fm (cd_ne1200 hlt)]
  exact va_zald hx hb hK hP k 3 ha rfl hj hd (kk H locs la hP hD hS hl)
theorem cd_s_iast (hC : cd_Cx p s m args meth c y D cy ad fm A) {pc : Nat} {ls : List (Option Value)} {rs : List Value} {M : cd_M} {r : Option Value × cd_M} {k : Nat} {j : Int32} {x : Int32} (hk : (cd_sh k).1 = 20) (hj : vp_in j (cd_sh k).2) (hd : decode (cd_code y).1 pc = .ok (.iastore, 1)) (kk : cd_OK p l e s m args below meth c y D cy ad fm A (pc + 1) ls rs (cd_wI M k j.toNatClampNeg x) r) : cd_OK p l e s m args below meth c y D cy ad fm A pc ls (.int x :: .int j :: .ref k :: rs) M r := by
  obtain ⟨hx, hb, hr, hml, hown, hts, hlk, hK, hSt, hA, hy⟩ := hC
  intro H locs la hP hD hS hl
  have hlt : k < cd_NC := cd_sh_lt (by omega)
  have ha := cd_ws_at (cy := cy) (ad := ad) (M := M) hlt
  rw [cd_cell20 hk] at ha
  show W p l e (cd_room y) s m args below meth c H locs 0 0 _ (F0 m pc la (.int x :: .int j :: cd_em ad fm (.ref k) :: rs.map (cd_em ad fm)))
  rw [cd_em_ref ad fm (cd_ne1200 hlt)]
  refine va_iast hx hb hK hP hD hS k 0 ha rfl hj hd (fun H1 locs1 hP1 hD1 hS1 => ?_)
  have ew := cd_ws_set (cy := cy) (ad := ad) (M := M) (M' := cd_wI M k j.toNatClampNeg x) hlt (by rw [cd_cell20 hk, cd_wI_s]) (fun a h => cd_cell_wI_ne h)
  rw [ew] at hP1 hD1
  exact kk H1 locs1 la hP1 hD1 hS1 hl
theorem cd_s_last (hC : cd_Cx p s m args meth c y D cy ad fm A) {pc : Nat} {ls : List (Option Value)} {rs : List Value} {M : cd_M} {r : Option Value × cd_M} {k : Nat} {j : Int32} {x : Int64} (hk : (cd_sh k).1 = 21) (hj : vp_in j (cd_sh k).2) (hd : decode (cd_code y).1 pc = .ok (.lastore, 1)) (kk : cd_OK p l e s m args below meth c y D cy ad fm A (pc + 1) ls rs (cd_wL M k j.toNatClampNeg x) r) : cd_OK p l e s m args below meth c y D cy ad fm A pc ls (.long x :: .int j :: .ref k :: rs) M r := by
  obtain ⟨hx, hb, hr, hml, hown, hts, hlk, hK, hSt, hA, hy⟩ := hC
  intro H locs la hP hD hS hl
  have hlt : k < cd_NC := cd_sh_lt (by omega)
  have ha := cd_ws_at (cy := cy) (ad := ad) (M := M) hlt
  rw [cd_cell21 hk] at ha
  show W p l e (cd_room y) s m args below meth c H locs 0 0 _ (F0 m pc la (.long x :: .int j :: cd_em ad fm (.ref k) :: rs.map (cd_em ad fm)))
  rw [cd_em_ref ad fm (cd_ne1200 hlt)]
  refine va_last hx hb hK hP hD hS k 1 ha rfl hj hd (fun H1 locs1 hP1 hD1 hS1 => ?_)
  have ew := cd_ws_set (cy := cy) (ad := ad) (M := M) (M' := cd_wL M k j.toNatClampNeg x) hlt (by rw [cd_cell21 hk, cd_wL_s]) (fun a h => cd_cell_wL_ne h)
  rw [ew] at hP1 hD1
  exact kk H1 locs1 la hP1 hD1 hS1 hl
theorem cd_s_bast (hC : cd_Cx p s m args meth c y D cy ad fm A) {pc : Nat} {ls : List (Option Value)} {rs : List Value} {M : cd_M} {r : Option Value × cd_M} {k : Nat} {j : Int32} {x : Int32} (hk : (cd_sh k).1 = 22) (hj : vp_in j (cd_sh k).2) (hd : decode (cd_code y).1 pc = .ok (.bastore, 1)) (kk : cd_OK p l e s m args below meth c y D cy ad fm A (pc + 1) ls rs (cd_wI M k j.toNatClampNeg (vp_nar .byte x)) r) : cd_OK p l e s m args below meth c y D cy ad fm A pc ls (.int x :: .int j :: .ref k :: rs) M r := by
  obtain ⟨hx, hb, hr, hml, hown, hts, hlk, hK, hSt, hA, hy⟩ := hC
  intro H locs la hP hD hS hl
  have hlt : k < cd_NC := cd_sh_lt (by omega)
  have ha := cd_ws_at (cy := cy) (ad := ad) (M := M) hlt
  rw [cd_cell22 hk] at ha
  show W p l e (cd_room y) s m args below meth c H locs 0 0 _ (F0 m pc la (.int x :: .int j :: cd_em ad fm (.ref k) :: rs.map (cd_em ad fm)))
  rw [cd_em_ref ad fm (cd_ne1200 hlt)]
  refine va_bast hx hb hK hP hD hS k 2 ha rfl hj hd (fun H1 locs1 hP1 hD1 hS1 => ?_)
  have ew := cd_ws_set (cy := cy) (ad := ad) (M := M) (M' := cd_wI M k j.toNatClampNeg (vp_nar .byte x)) hlt (by rw [cd_cell22 hk, cd_wI_s]) (fun a h => cd_cell_wI_ne h)
  rw [ew] at hP1 hD1
  exact kk H1 locs1 la hP1 hD1 hS1 hl
theorem cd_s_zast (hC : cd_Cx p s m args meth c y D cy ad fm A) {pc : Nat} {ls : List (Option Value)} {rs : List Value} {M : cd_M} {r : Option Value × cd_M} {k : Nat} {j : Int32} {x : Int32} (hk : (cd_sh k).1 = 23) (hj : vp_in j (cd_sh k).2) (hd : decode (cd_code y).1 pc = .ok (.bastore, 1)) (kk : cd_OK p l e s m args below meth c y D cy ad fm A (pc + 1) ls rs (cd_wI M k j.toNatClampNeg (vp_nar .boolean x)) r) : cd_OK p l e s m args below meth c y D cy ad fm A pc ls (.int x :: .int j :: .ref k :: rs) M r := by
  obtain ⟨hx, hb, hr, hml, hown, hts, hlk, hK, hSt, hA, hy⟩ := hC
  intro H locs la hP hD hS hl
  have hlt : k < cd_NC := cd_sh_lt (by omega)
  have ha := cd_ws_at (cy := cy) (ad := ad) (M := M) hlt
  rw [cd_cell23 hk] at ha
  show W p l e (cd_room y) s m args below meth c H locs 0 0 _ (F0 m pc la (.int x :: .int j :: cd_em ad fm (.ref k) :: rs.map (cd_em ad fm)))
  rw [cd_em_ref ad fm (cd_ne1200 hlt)]
  refine va_zast hx hb hK hP hD hS k 3 ha rfl hj hd (fun H1 locs1 hP1 hD1 hS1 => ?_)
  have ew := cd_ws_set (cy := cy) (ad := ad) (M := M) (M' := cd_wI M k j.toNatClampNeg (vp_nar .boolean x)) hlt (by rw [cd_cell23 hk, cd_wI_s]) (fun a h => cd_cell_wI_ne h)
  rw [ew] at hP1 hD1
  exact kk H1 locs1 la hP1 hD1 hS1 hl
theorem cd_s_alen (hC : cd_Cx p s m args meth c y D cy ad fm A) {pc : Nat} {ls : List (Option Value)} {rs : List Value} {M : cd_M} {r : Option Value × cd_M} {k : Nat} (hk : 20 ≤ (cd_sh k).1 ∧ (cd_sh k).1 ≤ 23) (hd : decode (cd_code y).1 pc = .ok (.arraylength, 1)) (kk : cd_OK p l e s m args below meth c y D cy ad fm A (pc + 1) ls (.int (Int32.ofNat (cd_sh k).2) :: rs) M r) : cd_OK p l e s m args below meth c y D cy ad fm A pc ls (.ref k :: rs) M r := by
  obtain ⟨hx, hb, hr, hml, hown, hts, hlk, hK, hSt, hA, hy⟩ := hC
  intro H locs la hP hD hS hl
  have hlt : k < cd_NC := cd_sh_lt (by omega)
  have ha := cd_ws_at (cy := cy) (ad := ad) (M := M) hlt
  show W p l e (cd_room y) s m args below meth c H locs 0 0 _ (F0 m pc la (cd_em ad fm (.ref k) :: rs.map (cd_em ad fm)))
  rw [cd_em_ref ad fm (cd_ne1200 hlt)]
  rcases (show (cd_sh k).1 = 20 ∨ (cd_sh k).1 = 21 ∨ (cd_sh k).1 = 22 ∨ (cd_sh k).1 = 23 by omega) with h | h | h | h
  · rw [cd_cell20 h] at ha
    exact va_alen hx hb hK hP k 0 ha rfl rfl hd (kk H locs la hP hD hS hl)
  · rw [cd_cell21 h] at ha
    exact va_alen hx hb hK hP k 1 ha rfl rfl hd (kk H locs la hP hD hS hl)
  · rw [cd_cell22 h] at ha
    exact va_alen hx hb hK hP k 2 ha rfl rfl hd (kk H locs la hP hD hS hl)
  · rw [cd_cell23 h] at ha
    exact va_alen hx hb hK hP k 3 ha rfl rfl hd (kk H locs la hP hD hS hl)
theorem cd_s_salen (hC : cd_Cx p s m args meth c y D cy ad fm A) {pc : Nat} {ls : List (Option Value)} {rs : List Value} {M : cd_M} {r : Option Value × cd_M} {k : Nat} (hk : 1100 ≤ k ∧ k < 1113) (hd : decode (cd_code y).1 pc = .ok (.arraylength, 1)) (kk : cd_OK p l e s m args below meth c y D cy ad fm A (pc + 1) ls (.int (Int32.ofNat (cd_sl.getD (k - 1100) 0)) :: rs) M r) : cd_OK p l e s m args below meth c y D cy ad fm A pc ls (.ref k :: rs) M r := by
  obtain ⟨hx, hb, hr, hml, hown, hts, hlk, hK, hSt, hA, hy⟩ := hC
  intro H locs la hP hD hS hl
  obtain ⟨hfm, hnw, hks, hvr, hz1, hz2⟩ := hSt
  have h1 := (hks.1 (k - 1100) (by omega)).2.2.2
  dsimp only at h1
  rw [show 1100 + (k - 1100) = k by omega] at h1
  show W p l e (cd_room y) s m args below meth c H locs 0 0 _ (F0 m pc la (cd_em ad fm (.ref k) :: rs.map (cd_em ad fm)))
  rw [cd_em_ref ad fm (by omega)]
  exact va_tlen hx hb h1 hS rfl hd (kk H locs la hP hD hS hl)
theorem cd_s_sbald (hC : cd_Cx p s m args meth c y D cy ad fm A) {pc : Nat} {ls : List (Option Value)} {rs : List Value} {M : cd_M} {r : Option Value × cd_M} {k : Nat} {j : Int32} (hk : 1100 ≤ k ∧ k < 1113) (hj : vp_in j (cd_sl.getD (k - 1100) 0)) (hd : decode (cd_code y).1 pc = .ok (.baload, 1)) (kk : cd_OK p l e s m args below meth c y D cy ad fm A (pc + 1) ls (.int (cd_sbyte k j) :: rs) M r) : cd_OK p l e s m args below meth c y D cy ad fm A pc ls (.int j :: .ref k :: rs) M r := by
  obtain ⟨hx, hb, hr, hml, hown, hts, hlk, hK, hSt, hA, hy⟩ := hC
  intro H locs la hP hD hS hl
  obtain ⟨hfm, hnw, hks, hvr, hz1, hz2⟩ := hSt
  have h1 := (hks.1 (k - 1100) (by omega)).2.2.2
  dsimp only at h1
  rw [show 1100 + (k - 1100) = k by omega] at h1
  show W p l e (cd_room y) s m args below meth c H locs 0 0 _ (F0 m pc la (.int j :: cd_em ad fm (.ref k) :: rs.map (cd_em ad fm)))
  rw [cd_em_ref ad fm (by omega)]
  exact va_tb hx hb h1 hS hj rfl hd (kk H locs la hP hD hS hl)
end cdW
end
section
theorem cd_sv9 : Cond.fieldLink RJ0 9 "java/lang/String" "value" "[B" ∈ cd_big := cd_m 8 5 rfl rfl
theorem cd_sv15 : Cond.fieldLink RJ0 15 "java/lang/String" "coder" "B" ∈ cd_big := cd_m 8 6 rfl rfl
theorem cd_sv38 : Cond.fieldLink RJ0 38 "java/lang/String" "COMPACT_STRINGS" "Z" ∈ cd_big := cd_m 2 187 rfl rfl
theorem cd_sv1053 : Cond.fieldLink RJ0 1053 "jdk/internal/util/Preconditions" "SIOOBE_FORMATTER" "Ljava/util/function/BiFunction;" ∈ cd_big := cd_m 2 203 rfl rfl
/-! fields, loads, stores, ends -/
section cdV
variable {p : Program} {l : Launch} {e : Env} {s : State} {m : MethodId} {args : Array Value} {below : List Frame} {meth : Method} {c : Code} {y : Nat} {D : va_G} {cy : Nat → ClassId} {ad : Nat → Nat} {fm : Value} {A : Nat → Prop}
theorem cd_he {M : cd_M} {k ci : Nat} (hk : (cd_sh k).1 = ci) (hci : ci < 12) : k < cd_NC ∧ (cd_ws cy ad M)[k]? = some (ad k, .inr (ci, cd_fs ad M k)) ∧ (cd_sh k).2 = (cd_F ci).2.2 := by
  have hlt : k < cd_NC := cd_sh_lt (by omega)
  refine ⟨hlt, ?_, ?_⟩
  · rw [cd_ws_at hlt, cd_cellO (by omega), hk]
  · have h := cd_shN k hlt (by omega)
    rw [hk] at h
    exact h
theorem cd_s_getO (hC : cd_Cx p s m args meth c y D cy ad fm A) {pc : Nat} {ls : List (Option Value)} {rs : List Value} {M : cd_M} {r : Option Value × cd_M} {k idx ci sl q : Nat} (hd : decode (cd_code y).1 pc = .ok (.getfield idx, 3)) (he : (cd_own y, idx, ci, sl, q) ∈ cd_fl) (hk : (cd_sh k).1 = ci)
    (kk : cd_OK p l e s m args below meth c y D cy ad fm A (pc + 3) ls (cd_fv M k sl :: rs) M r) : cd_OK p l e s m args below meth c y D cy ad fm A pc ls (.ref k :: rs) M r := by
  obtain ⟨hx, hb, hr, hml, hown, hts, hlk, hK, hSt, hA, hy⟩ := hC
  intro H locs la hP hD hS hl
  obtain ⟨hw, hci, hsl⟩ := cd_flOK _ he
  dsimp only at hw hci hsl
  obtain ⟨hlt, ha, hn⟩ := cd_he (cy := cy) (ad := ad) (M := M) hk hci
  have h9 := kk H locs la hP hD hS hl
  show W p l e (cd_room y) s m args below meth c H locs 0 0 _ (F0 m pc la (cd_em ad fm (.ref k) :: rs.map (cd_em ad fm)))
  rw [cd_em_ref ad fm (cd_ne1200 hlt)]
  exact va_get (D := D) (ci := ci) (C := (cd_F ci).1) (T := (cd_F ci).2.1) (N := (cd_F ci).2.2) hx hb hts (cd_lay ci hci) hown hK hP k ha (cd_clF ci hci) sl hsl (hts _ hw) (fun _ z => z) (cd_fs_get (by omega) fm) hd h9
theorem cd_s_getN (hC : cd_Cx p s m args meth c y D cy ad fm A) {pc : Nat} {ls : List (Option Value)} {rs : List Value} {M : cd_M} {r : Option Value × cd_M} {k idx ci sl : Nat} (hd : decode (cd_code y).1 pc = .ok (.getfield idx, 3)) (he : (cd_own y, idx, ci, sl) ∈ cd_fn) (hk : (cd_sh k).1 = ci)
    (kk : cd_OK p l e s m args below meth c y D cy ad fm A (pc + 3) ls (cd_fv M k sl :: rs) M r) : cd_OK p l e s m args below meth c y D cy ad fm A pc ls (.ref k :: rs) M r := by
  obtain ⟨hx, hb, hr, hml, hown, hts, hlk, hK, hSt, hA, hy⟩ := hC
  intro H locs la hP hD hS hl
  obtain ⟨hw, hci, hsl⟩ := cd_fnOK _ he
  dsimp only at hw hci hsl
  obtain ⟨hlt, ha, hn⟩ := cd_he (cy := cy) (ad := ad) (M := M) hk hci
  have h9 := kk H locs la hP hD hS hl
  have h8 := va_Nw.use rfl (A := args) (hSt.2.1 _ hw)
  show W p l e (cd_room y) s m args below meth c H locs 0 0 _ (F0 m pc la (cd_em ad fm (.ref k) :: rs.map (cd_em ad fm)))
  rw [cd_em_ref ad fm (cd_ne1200 hlt)]
  exact va_getN (D := D) (ci := ci) (C := (cd_F ci).1) (T := (cd_F ci).2.1) (N := (cd_F ci).2.2) (host := RX10) hx hb hts (cd_lay ci hci) hown hK hP k ha (cd_clF ci hci) sl hsl h8 (fun _ z => z) (cd_fs_get (by omega) fm) hd h9
theorem cd_narI (x : Int32) : narrow .int (.int x) = .int x ∧ fits .int (.int x) = true := ⟨rfl, rfl⟩
theorem cd_narZ {x : Int32} (h : x = 0 ∨ x = 1) : narrow .boolean (.int x) = .int x ∧ fits .boolean (.int x) = true := by
  rcases h with rfl | rfl <;> exact ⟨by decide, by decide⟩
theorem cd_s_putO (hC : cd_Cx p s m args meth c y D cy ad fm A) {pc : Nat} {ls : List (Option Value)} {rs : List Value} {M : cd_M} {r : Option Value × cd_M} {k idx ci sl q : Nat} {x : Int32} (hd : decode (cd_code y).1 pc = .ok (.putfield idx, 3)) (he : (cd_own y, idx, ci, sl, q) ∈ cd_fl) (hk : (cd_sh k).1 = ci) (hrf : cd_rf k sl = none) {ty : FieldType} (hty : ty = .int ∨ ty = .boolean) (hf : cd_fty ci sl = some ty) (hn : narrow ty (.int x) = .int x ∧ fits ty (.int x) = true)
    (kk : cd_OK p l e s m args below meth c y D cy ad fm A (pc + 3) ls rs (cd_wI M k sl x) r) : cd_OK p l e s m args below meth c y D cy ad fm A pc ls (.int x :: .ref k :: rs) M r := by
  obtain ⟨hx, hb, hr, hml, hown, hts, hlk, hK, hSt, hA, hy⟩ := hC
  intro H locs la hP hD hS hl
  obtain ⟨hw, hci, hsl⟩ := cd_flOK _ he
  dsimp only at hw hci hsl
  obtain ⟨hlt, ha, hnn⟩ := cd_he (cy := cy) (ad := ad) (M := M) hk hci
  have hd9 : parseFieldDescriptor ((cd_F ci).2.1 sl).2.2.1 = some ty := by
    unfold cd_fty at hf
    rw [cd_clF ci hci] at hf
    exact hf
  have ht0 : cd_ty0 ci sl = ty := Option.some.inj ((cd_ty0_ok ci hci sl hsl).symm.trans hd9)
  show W p l e (cd_room y) s m args below meth c H locs 0 0 _ (F0 m pc la (.int x :: cd_em ad fm (.ref k) :: rs.map (cd_em ad fm)))
  rw [cd_em_ref ad fm (cd_ne1200 hlt)]
  refine va_put (D := D) (ci := ci) (C := (cd_F ci).1) (T := (cd_F ci).2.1) (N := (cd_F ci).2.2) hx hb hts (cd_lay ci hci) (cd_ty0 ci) (cd_ty0_ok ci hci) (cd_nm_ok ci hci) hown hK hP hD hS k ha (cd_clF ci hci) sl hsl (hts _ hw) (fun _ z => z) (cd_fin_ok ci hci sl hsl (by rw [ht0]; exact hty)) hd9 hn.1 hn.2 (by unfold cd_fs; simp; omega) hd (fun H1 locs1 hP1 hD1 hS1 => ?_)
  have ew := cd_ws_set (cy := cy) (ad := ad) (M := M) (M' := cd_wI M k sl x) hlt (by rw [cd_cellO (by omega), hk, cd_fs_set x hrf]) (fun a h => cd_cell_wI_ne h)
  rw [ew] at hP1 hD1
  exact kk H1 locs1 la hP1 hD1 hS1 hl
theorem cd_s_putN (hC : cd_Cx p s m args meth c y D cy ad fm A) {pc : Nat} {ls : List (Option Value)} {rs : List Value} {M : cd_M} {r : Option Value × cd_M} {k idx ci sl : Nat} {x : Int32} (hd : decode (cd_code y).1 pc = .ok (.putfield idx, 3)) (he : (cd_own y, idx, ci, sl) ∈ cd_fn) (hk : (cd_sh k).1 = ci) (hrf : cd_rf k sl = none) {ty : FieldType} (hty : ty = .int ∨ ty = .boolean) (hf : cd_fty ci sl = some ty) (hn : narrow ty (.int x) = .int x ∧ fits ty (.int x) = true)
    (kk : cd_OK p l e s m args below meth c y D cy ad fm A (pc + 3) ls rs (cd_wI M k sl x) r) : cd_OK p l e s m args below meth c y D cy ad fm A pc ls (.int x :: .ref k :: rs) M r := by
  obtain ⟨hx, hb, hr, hml, hown, hts, hlk, hK, hSt, hA, hy⟩ := hC
  intro H locs la hP hD hS hl
  obtain ⟨hw, hci, hsl⟩ := cd_fnOK _ he
  dsimp only at hw hci hsl
  obtain ⟨hlt, ha, hnn⟩ := cd_he (cy := cy) (ad := ad) (M := M) hk hci
  have hd9 : parseFieldDescriptor ((cd_F ci).2.1 sl).2.2.1 = some ty := by
    unfold cd_fty at hf
    rw [cd_clF ci hci] at hf
    exact hf
  have ht0 : cd_ty0 ci sl = ty := Option.some.inj ((cd_ty0_ok ci hci sl hsl).symm.trans hd9)
  have h8 := va_Nw.use rfl (A := args) (hSt.2.1 _ hw)
  show W p l e (cd_room y) s m args below meth c H locs 0 0 _ (F0 m pc la (.int x :: cd_em ad fm (.ref k) :: rs.map (cd_em ad fm)))
  rw [cd_em_ref ad fm (cd_ne1200 hlt)]
  refine va_putN (D := D) (ci := ci) (C := (cd_F ci).1) (T := (cd_F ci).2.1) (N := (cd_F ci).2.2) (host := RX10) hx hb hts (cd_lay ci hci) (cd_ty0 ci) (cd_ty0_ok ci hci) (cd_nm_ok ci hci) hown hK hP hD hS k ha (cd_clF ci hci) sl hsl h8 (fun _ z => z) (cd_fin_ok ci hci sl hsl (by rw [ht0]; exact hty)) hd9 hn.1 hn.2 (by unfold cd_fs; simp; omega) hd (fun H1 locs1 hP1 hD1 hS1 => ?_)
  have ew := cd_ws_set (cy := cy) (ad := ad) (M := M) (M' := cd_wI M k sl x) hlt (by rw [cd_cellO (by omega), hk, cd_fs_set x hrf]) (fun a h => cd_cell_wI_ne h)
  rw [ew] at hP1 hD1
  exact kk H1 locs1 la hP1 hD1 hS1 hl
theorem cd_s_sval (hC : cd_Cx p s m args meth c y D cy ad fm A) {pc : Nat} {ls : List (Option Value)} {rs : List Value} {M : cd_M} {r : Option Value × cd_M} {k : Nat} (hd : decode (cd_code y).1 pc = .ok (.getfield 9, 3)) (ho : cd_own y = 12) (hk : 1000 ≤ k ∧ k < 1013) (kk : cd_OK p l e s m args below meth c y D cy ad fm A (pc + 3) ls (.ref (k + 100) :: rs) M r) : cd_OK p l e s m args below meth c y D cy ad fm A pc ls (.ref k :: rs) M r := by
  obtain ⟨hx, hb, hr, hml, hown, hts, hlk, hK, hSt, hA, hy⟩ := hC
  intro H locs la hP hD hS hl
  obtain ⟨hfm, hnw, hks, hvr, hz1, hz2⟩ := hSt
  have h1 := (hks.1 (k - 1000) (by omega)).2.2.1
  dsimp only at h1
  rw [show 1000 + (k - 1000) = k by omega, show 1100 + (k - 1000) = k + 100 by omega] at h1
  have h9 := kk H locs la hP hD hS hl
  rw [List.map_cons, cd_em_ref ad fm (show ¬ k + 100 = 1200 by omega)] at h9
  show W p l e (cd_room y) s m args below meth c H locs 0 0 _ (F0 m pc la (cd_em ad fm (.ref k) :: rs.map (cd_em ad fm)))
  rw [cd_em_ref ad fm (by omega)]
  rw [ho] at hown
  exact vk_getf hx hb h1 hS hown (hts (.fieldLink RJ0 9 "java/lang/String" "value" "[B") cd_sv9) (fun _ z => z) hd h9
theorem cd_s_scod (hC : cd_Cx p s m args meth c y D cy ad fm A) {pc : Nat} {ls : List (Option Value)} {rs : List Value} {M : cd_M} {r : Option Value × cd_M} {k : Nat} (hd : decode (cd_code y).1 pc = .ok (.getfield 15, 3)) (ho : cd_own y = 12) (hk : 1000 ≤ k ∧ k < 1013) (kk : cd_OK p l e s m args below meth c y D cy ad fm A (pc + 3) ls (.int 0 :: rs) M r) : cd_OK p l e s m args below meth c y D cy ad fm A pc ls (.ref k :: rs) M r := by
  obtain ⟨hx, hb, hr, hml, hown, hts, hlk, hK, hSt, hA, hy⟩ := hC
  intro H locs la hP hD hS hl
  obtain ⟨hfm, hnw, hks, hvr, hz1, hz2⟩ := hSt
  have h1 := (hks.1 (k - 1000) (by omega)).2.1
  dsimp only at h1
  rw [show 1000 + (k - 1000) = k by omega] at h1
  have h9 := kk H locs la hP hD hS hl
  show W p l e (cd_room y) s m args below meth c H locs 0 0 _ (F0 m pc la (cd_em ad fm (.ref k) :: rs.map (cd_em ad fm)))
  rw [cd_em_ref ad fm (by omega)]
  rw [ho] at hown
  exact vk_getf hx hb h1 hS hown (hts (.fieldLink RJ0 15 "java/lang/String" "coder" "B") cd_sv15) (fun _ z => z) hd h9
theorem cd_s_cmp (hC : cd_Cx p s m args meth c y D cy ad fm A) {pc : Nat} {ls : List (Option Value)} {rs : List Value} {M : cd_M} {r : Option Value × cd_M} (hd : decode (cd_code y).1 pc = .ok (.getstatic 38, 3)) (ho : cd_own y = 12) (kk : cd_OK p l e s m args below meth c y D cy ad fm A (pc + 3) ls (.int 1 :: rs) M r) : cd_OK p l e s m args below meth c y D cy ad fm A pc ls rs M r := by
  obtain ⟨hx, hb, hr, hml, hown, hts, hlk, hK, hSt, hA, hy⟩ := hC
  intro H locs la hP hD hS hl
  obtain ⟨hfm, hnw, hks, hvr, hz1, hz2⟩ := hSt
  rw [ho] at hown
  exact va_gets hx hb hz1 hS hown (hts (.fieldLink RJ0 38 "java/lang/String" "COMPACT_STRINGS" "Z") cd_sv38) (fun _ z => z) hd (kk H locs la hP hD hS hl)
theorem cd_s_fmt (hC : cd_Cx p s m args meth c y D cy ad fm A) {pc : Nat} {ls : List (Option Value)} {rs : List Value} {M : cd_M} {r : Option Value × cd_M} (hd : decode (cd_code y).1 pc = .ok (.getstatic 1053, 3)) (ho : cd_own y = 12) (kk : cd_OK p l e s m args below meth c y D cy ad fm A (pc + 3) ls (.ref 1200 :: rs) M r) : cd_OK p l e s m args below meth c y D cy ad fm A pc ls rs M r := by
  obtain ⟨hx, hb, hr, hml, hown, hts, hlk, hK, hSt, hA, hy⟩ := hC
  intro H locs la hP hD hS hl
  obtain ⟨hfm, hnw, hks, hvr, hz1, hz2⟩ := hSt
  rw [ho] at hown
  exact va_gets hx hb hz2 hS hown (hts (.fieldLink RJ0 1053 "jdk/internal/util/Preconditions" "SIOOBE_FORMATTER" "Ljava/util/function/BiFunction;") cd_sv1053) (fun _ z => z) hd (kk H locs la hP hD hS hl)
end cdV
end
section
/-! loads, stores, ends, Math, arraycopy -/
theorem cd_sto_len (ls : List (Option Value)) (k : Nat) (v : Value) : (cd_sto ls k v).length = ls.length := by
  unfold cd_sto
  cases k <;> cases (Nat.beq (cd_ty v) 1) <;> simp [cd_pre]
theorem cd_l1_get {ls : List (Option Value)} {k i : Nat} {w : Value} (h : (cd_pre ls k)[i]? = some (some w)) : ls[i]? = some (some w) ∧ ¬ (i + 1 = k ∧ w.category = 2) := by
  cases k with
  | zero => exact ⟨h, fun z => by omega⟩
  | succ j =>
    have h : (ls.set j (cd_kill (ls.getD j none)))[i]? = some (some w) := h
    by_cases e : i = j
    · subst e
      have hl : i < ls.length := by
        have := (List.getElem?_eq_some_iff.mp h).1
        simpa using this
      rw [List.getElem?_set_self hl] at h
      have h := Option.some.inj h
      rw [List.getD_eq_getElem?_getD, List.getElem?_eq_getElem hl] at h
      rw [List.getElem?_eq_getElem hl]
      revert h
      generalize ls[i] = x
      intro h
      cases x with
      | none => cases h
      | some u =>
        cases u with
        | long z => cases h
        | double z => cases h
        | _ =>
          have h := Option.some.inj h
          exact ⟨by rw [← h], fun z => by rw [← h] at z; exact absurd z.2 (fun q => by cases q)⟩
    · rw [List.getElem?_set_ne (fun z => e z.symm)] at h
      exact ⟨h, fun z => e (by omega)⟩
theorem cd_sto_get {ls : List (Option Value)} {k i : Nat} {v w : Value} (hk : k < ls.length) (h : (cd_sto ls k v)[i]? = some (some w)) : (i = k ∧ w = v) ∨ (¬ i = k ∧ ls[i]? = some (some w) ∧ ¬ (i + 1 = k ∧ w.category = 2) ∧ (cd_ty v = 1 → ¬ i = k + 1)) := by
  unfold cd_sto at h
  have hl1 : (cd_pre ls k).length = ls.length := by cases k <;> simp [cd_pre]
  have key := @cd_l1_get ls k i w
  generalize cd_pre ls k = l1 at h hl1 key
  cases hb : Nat.beq (cd_ty v) 1 with
  | true =>
    rw [hb] at h
    have h : ((l1.set k (some v)).set (k + 1) none)[i]? = some (some w) := h
    by_cases e1 : i = k + 1
    · subst e1
      have hl : k + 1 < ((l1.set k (some v)).set (k + 1) none).length := (List.getElem?_eq_some_iff.mp h).1
      rw [List.getElem?_set_self (by simpa using hl)] at h
      cases h
    · rw [List.getElem?_set_ne (fun z => e1 z.symm)] at h
      by_cases e : i = k
      · subst e
        rw [List.getElem?_set_self (by omega)] at h
        exact Or.inl ⟨rfl, (Option.some.inj (Option.some.inj h)).symm⟩
      · rw [List.getElem?_set_ne (fun z => e z.symm)] at h
        exact Or.inr ⟨e, (key h).1, (key h).2, fun _ => e1⟩
  | false =>
    rw [hb] at h
    have h : (l1.set k (some v))[i]? = some (some w) := h
    by_cases e : i = k
    · subst e
      rw [List.getElem?_set_self (by omega)] at h
      exact Or.inl ⟨rfl, (Option.some.inj (Option.some.inj h)).symm⟩
    · rw [List.getElem?_set_ne (fun z => e z.symm)] at h
      refine Or.inr ⟨e, (key h).1, (key h).2, fun z => ?_⟩
      rw [z] at hb
      cases hb
def cd_prs (ad : Nat → Nat) (fm : Value) (ls : List (Option Value)) : List (Nat × Value) := (List.range ls.length).filterMap (fun i => (ls.getD i none).map (fun v => (i, cd_em ad fm v)))
theorem cd_prs_in {ad : Nat → Nat} {fm : Value} {ls : List (Option Value)} {i : Nat} {v : Value} : (ls[i]? = some (some v)) → (i, cd_em ad fm v) ∈ cd_prs ad fm ls := by
  intro h
  have hl := (List.getElem?_eq_some_iff.mp h).1
  refine List.mem_filterMap.mpr ⟨i, List.mem_range.mpr hl, ?_⟩
  rw [List.getD_eq_getElem?_getD, h]
  rfl
theorem cd_lr_has {ad : Nat → Nat} {fm : Value} {la : Array Slot} {ls : List (Option Value)} (h : cd_lr ad fm la ls) : lv_has la ls.length (cd_prs ad fm ls) := by
  refine ⟨h.1, h.2.1, fun q hq => ?_⟩
  obtain ⟨i, hi, e⟩ := List.mem_filterMap.mp hq
  have hi := List.mem_range.mp hi
  rw [List.getD_eq_getElem?_getD] at e
  cases hx : ls[i]? with
  | none => rw [hx] at e; cases e
  | some x =>
    rw [hx] at e
    cases x with
    | none => cases e
    | some v =>
      have e : (i, cd_em ad fm v) = q := Option.some.inj e
      rw [← e]
      exact h.2.2 i v hx
theorem cd_sto_lr1 {ad : Nat → Nat} {fm : Value} {la' : Array Slot} {ls : List (Option Value)} {k : Nat} {v : Value} (hf : fm = .null ∨ ∃ a, fm = .ref a) (hk : k < ls.length)
    (hl : lv_has la' ls.length ((k, cd_em ad fm v) :: (cd_prs ad fm ls).filter (fun q => !(q.1 == k) && !(q.1 + 1 == k && q.2.category == 2)))) : cd_lr ad fm la' (cd_sto ls k v) := by
  refine ⟨by rw [cd_sto_len]; exact hl.1, hl.2.1, fun i w hw => ?_⟩
  rcases cd_sto_get hk hw with ⟨rfl, rfl⟩ | ⟨e, h1, h2, -⟩
  · exact hl.2.2 _ List.mem_cons_self
  · refine hl.2.2 (i, cd_em ad fm w) (List.mem_cons_of_mem _ (List.mem_filter.mpr ⟨cd_prs_in h1, ?_⟩))
    by_cases e2 : i + 1 = k
    · have h3 : ¬ (cd_em ad fm w).category = 2 := by
        rw [cd_em_cat ad fm hf]
        exact fun z => h2 ⟨e2, z⟩
      simp [e, e2, h3]
    · simp [e, e2]
theorem cd_sto_lr2 {ad : Nat → Nat} {fm : Value} {la' : Array Slot} {ls : List (Option Value)} {k : Nat} {v : Value} (hf : fm = .null ∨ ∃ a, fm = .ref a) (hk : k < ls.length) (hv : cd_ty v = 1)
    (hl : lv_has la' ls.length ((k, cd_em ad fm v) :: (cd_prs ad fm ls).filter (fun q => !(q.1 == k) && (!(q.1 == k + 1) && !(q.1 + 1 == k && q.2.category == 2))))) : cd_lr ad fm la' (cd_sto ls k v) := by
  refine ⟨by rw [cd_sto_len]; exact hl.1, hl.2.1, fun i w hw => ?_⟩
  rcases cd_sto_get hk hw with ⟨rfl, rfl⟩ | ⟨e, h1, h2, h4⟩
  · exact hl.2.2 _ List.mem_cons_self
  · refine hl.2.2 (i, cd_em ad fm w) (List.mem_cons_of_mem _ (List.mem_filter.mpr ⟨cd_prs_in h1, ?_⟩))
    have h5 := h4 hv
    by_cases e2 : i + 1 = k
    · have h3 : ¬ (cd_em ad fm w).category = 2 := by
        rw [cd_em_cat ad fm hf]
        exact fun z => h2 ⟨e2, z⟩
      simp [e, e2, h3, h5]
    · simp [e, e2, h5]
theorem cd_cat_em (ad : Nat → Nat) (fm : Value) (hf : fm = .null ∨ ∃ a, fm = .ref a) : ∀ st : List Value, ((st.map (cd_em ad fm)).map fun v => v.category).sum = cd_cat st
  | [] => rfl
  | v :: st => by
    have h := cd_cat_em ad fm hf st
    unfold cd_cat at h ⊢
    simp only [List.map_cons, List.sum_cons]
    rw [h, cd_em_cat ad fm hf]
section cdU
variable {p : Program} {l : Launch} {e : Env} {s : State} {m : MethodId} {args : Array Value} {below : List Frame} {meth : Method} {c : Code} {y : Nat} {D : va_G} {cy : Nat → ClassId} {ad : Nat → Nat} {fm : Value} {A : Nat → Prop}
theorem cd_getD_e {ls : List (Option Value)} {k : Nat} {v : Value} (h : ls.getD k none = some v) : ls[k]? = some (some v) := by
  rw [List.getD_eq_getElem?_getD] at h
  cases hx : ls[k]? with
  | none => rw [hx] at h; cases h
  | some x => rw [hx] at h; rw [show x = some v from h]
theorem cd_s_load (hC : cd_Cx p s m args meth c y D cy ad fm A) {pc len t k : Nat} {i : Instr} {ls : List (Option Value)} {rs : List Value} {M : cd_M} {r : Option Value × cd_M} {v : Value} (hd : decode (cd_code y).1 pc = .ok (i, len)) (hn : cd_lenOK i len = true) (hi : cd_loc i = some (0, t, k)) (hv : ls.getD k none = some v) (ht : cd_ty v = t)
    (kk : cd_OK p l e s m args below meth c y D cy ad fm A (pc + len) ls (v :: rs) M r) : cd_OK p l e s m args below meth c y D cy ad fm A pc ls rs M r := by
  obtain ⟨hx, hb, hr, hml, hown, hts, hlk, hK, hSt, hA, hy⟩ := hC
  intro H locs la hP hD hS hl
  have h9 := kk H locs la hP hD hS hl
  have h8 := hl.2.2 k v (cd_getD_e hv)
  rw [List.map_cons] at h9
  have href : t = 2 → cd_em ad fm v = .null ∨ ∃ a, cd_em ad fm v = .ref a := by
    intro z
    subst z
    cases v with
    | ref q =>
      by_cases e : q = 1200
      · rw [show cd_em ad fm (.ref q) = fm from if_pos e]; exact hSt.1
      · exact Or.inr ⟨_, cd_em_ref ad fm e⟩
    | _ => cases ht
  have hint : t = 0 → ∃ x, cd_em ad fm v = .int x := by
    intro z
    subst z
    cases v with
    | int x => exact ⟨x, rfl⟩
    | _ => cases ht
  have hlong : t = 1 → ∃ x, cd_em ad fm v = .long x := by
    intro z
    subst z
    cases v with
    | long x => exact ⟨x, rfl⟩
    | _ => cases ht
  generalize cd_em ad fm v = u at h8 h9 href hint hlong
  cases i with
  | iload_n q =>
    cases hi
    obtain ⟨x, rfl⟩ := hint rfl
    cases cd_len1 hn
    exact lv_iload_n hx hb hd rfl h8 h9
  | iload q =>
    cases hi
    obtain ⟨x, rfl⟩ := hint rfl
    cases cd_len1 hn
    exact lv_iload hx hb hd h8 h9
  | lload_n q =>
    cases hi
    obtain ⟨x, rfl⟩ := hlong rfl
    cases cd_len1 hn
    exact lv_lload_n hx hb hd rfl h8 h9
  | lload q =>
    cases hi
    obtain ⟨x, rfl⟩ := hlong rfl
    cases cd_len1 hn
    exact lv_lload hx hb hd h8 h9
  | aload_n q =>
    cases hi
    cases cd_len1 hn
    rcases href rfl with rfl | ⟨x, rfl⟩
    · exact lv_aload_nN hx hb hd rfl h8 h9
    · exact lv_aload_n hx hb hd rfl h8 h9
  | aload q =>
    cases hi
    cases cd_len1 hn
    rcases href rfl with rfl | ⟨x, rfl⟩
    · exact lv_aloadN hx hb hd h8 h9
    · exact lv_aload hx hb hd h8 h9
  | _ => cases hi
theorem cd_s_store (hC : cd_Cx p s m args meth c y D cy ad fm A) {pc len t k o : Nat} {i : Instr} {ls : List (Option Value)} {rs : List Value} {M : cd_M} {r : Option Value × cd_M} {v : Value} (hd : decode (cd_code y).1 pc = .ok (i, len)) (hn : cd_lenOK i len = true) (hi : cd_loc i = some (o + 1, t, k)) (ht : cd_ty v = t) (hk : k + v.category ≤ ls.length)
    (kk : cd_OK p l e s m args below meth c y D cy ad fm A (pc + len) (cd_sto ls k v) rs M r) : cd_OK p l e s m args below meth c y D cy ad fm A pc ls (v :: rs) M r := by
  obtain ⟨hx, hb, hr, hml, hown, hts, hlk, hK, hSt, hA, hy⟩ := hC
  intro H locs la hP hD hS hl
  have hh := cd_lr_has hl
  have h9 := fun la' hl' => kk H locs la' hP hD hS hl'
  have hkl : k < ls.length := by
    have := lv_cat v
    omega
  show W p l e (cd_room y) s m args below meth c H locs 0 0 _ (F0 m pc la (cd_em ad fm v :: rs.map (cd_em ad fm)))
  cases i with
  | istore_n q =>
    cases hi
    cases cd_len1 hn
    cases v with
    | int x => exact lv_istore_n hx hb hd rfl hh hkl rfl (fun la' hl' => h9 la' (cd_sto_lr1 (v := .int x) hSt.1 hkl hl'))
    | _ => cases ht
  | istore q =>
    cases hi
    cases cd_len1 hn
    cases v with
    | int x => exact lv_istore hx hb hd hh hkl rfl (fun la' hl' => h9 la' (cd_sto_lr1 (v := .int x) hSt.1 hkl hl'))
    | _ => cases ht
  | lstore_n q =>
    cases hi
    cases cd_len1 hn
    cases v with
    | long x => exact lv_lstore_n hx hb hd rfl hh hk rfl (fun la' hl' => h9 la' (cd_sto_lr2 (v := .long x) hSt.1 hkl rfl hl'))
    | _ => cases ht
  | lstore q =>
    cases hi
    cases cd_len1 hn
    cases v with
    | long x => exact lv_lstore hx hb hd hh hk rfl (fun la' hl' => h9 la' (cd_sto_lr2 (v := .long x) hSt.1 hkl rfl hl'))
    | _ => cases ht
  | astore_n q =>
    cases hi
    cases cd_len1 hn
    cases v with
    | ref x =>
      have hc := fun la' hl' => h9 la' (cd_sto_lr1 (v := .ref x) hSt.1 hkl hl')
      have href : cd_em ad fm (.ref x) = .null ∨ ∃ a, cd_em ad fm (.ref x) = .ref a := by
        by_cases e : x = 1200
        · rw [show cd_em ad fm (.ref x) = fm from if_pos e]; exact hSt.1
        · exact Or.inr ⟨_, cd_em_ref ad fm e⟩
      generalize cd_em ad fm (.ref x) = u at hc href ⊢
      rcases href with rfl | ⟨a, rfl⟩
      · exact lv_astore_nN hx hb hd rfl hh hkl rfl hc
      · exact lv_astore_n hx hb hd rfl hh hkl rfl hc
    | _ => cases ht
  | astore q =>
    cases hi
    cases cd_len1 hn
    cases v with
    | ref x =>
      have hc := fun la' hl' => h9 la' (cd_sto_lr1 (v := .ref x) hSt.1 hkl hl')
      have href : cd_em ad fm (.ref x) = .null ∨ ∃ a, cd_em ad fm (.ref x) = .ref a := by
        by_cases e : x = 1200
        · rw [show cd_em ad fm (.ref x) = fm from if_pos e]; exact hSt.1
        · exact Or.inr ⟨_, cd_em_ref ad fm e⟩
      generalize cd_em ad fm (.ref x) = u at hc href ⊢
      rcases href with rfl | ⟨a, rfl⟩
      · exact lv_astoreN hx hb hd hh hkl rfl hc
      · exact lv_astore hx hb hd hh hkl rfl hc
    | _ => cases ht
  | _ => cases hi
theorem cd_s_iinc (hC : cd_Cx p s m args meth c y D cy ad fm A) {pc k : Nat} {d : Int} {ls : List (Option Value)} {rs : List Value} {M : cd_M} {r : Option Value × cd_M} {x : Int32} (hd : decode (cd_code y).1 pc = .ok (.iinc k d, 3)) (hv : ls.getD k none = some (.int x)) (hk : k + 1 ≤ ls.length)
    (kk : cd_OK p l e s m args below meth c y D cy ad fm A (pc + 3) (cd_sto ls k (.int (x + Int32.ofInt d))) rs M r) : cd_OK p l e s m args below meth c y D cy ad fm A pc ls rs M r := by
  obtain ⟨hx, hb, hr, hml, hown, hts, hlk, hK, hSt, hA, hy⟩ := hC
  intro H locs la hP hD hS hl
  have hh := cd_lr_has hl
  obtain ⟨j, hj⟩ := List.getElem?_of_mem (cd_prs_in (ad := ad) (fm := fm) (cd_getD_e hv))
  exact lv_iinc hx hb hd hh hj rfl (by omega) rfl (fun la' hl' => kk H locs la' hP hD hS (cd_sto_lr1 (v := .int (x + Int32.ofInt d)) hSt.1 (by omega) hl'))
theorem cd_s_iret (hC : cd_Cx p s m args meth c y D cy ad fm A) {pc : Nat} {ls : List (Option Value)} {M : cd_M} {v : Int32} (hd : decode (cd_code y).1 pc = .ok (.ireturn, 1)) {ty : FieldType} (hr' : cd_mr.getD y none = some ty) (hn : narrow ty (.int v) = .int v) : cd_OK p l e s m args below meth c y D cy ad fm A pc ls [.int v] M (some (.int v), M) := by
  obtain ⟨hx, hb, hr, hml, hown, hts, hlk, hK, hSt, hA, hy⟩ := hC
  intro H locs la hP hD hS hl
  exact W.zret hx hb (hr.trans hr') hn (fun t ht hW => ⟨⟨rfl, by rw [ht]; exact hP, va_K.moved hW.alike hK, hD⟩, hS.F ht⟩) hS.2.2 hd hlk
theorem cd_s_lret (hC : cd_Cx p s m args meth c y D cy ad fm A) {pc : Nat} {ls : List (Option Value)} {M : cd_M} {v : Int64} (hd : decode (cd_code y).1 pc = .ok (.lreturn, 1)) (hr' : cd_mr.getD y none = some .long) : cd_OK p l e s m args below meth c y D cy ad fm A pc ls [.long v] M (some (.long v), M) := by
  obtain ⟨hx, hb, hr, hml, hown, hts, hlk, hK, hSt, hA, hy⟩ := hC
  intro H locs la hP hD hS hl
  exact W.lret hx hb (hr.trans hr') (fun t ht hW => ⟨⟨rfl, by rw [ht]; exact hP, va_K.moved hW.alike hK, hD⟩, hS.F ht⟩) hS.2.2 hd hlk
theorem cd_s_aret (hC : cd_Cx p s m args meth c y D cy ad fm A) {pc k : Nat} {ls : List (Option Value)} {M : cd_M} {q : String} (hd : decode (cd_code y).1 pc = .ok (.areturn, 1)) (hr' : cd_mr.getD y none = some (.object q)) : cd_OK p l e s m args below meth c y D cy ad fm A pc ls [.ref k] M (some (.ref k), M) := by
  obtain ⟨hx, hb, hr, hml, hown, hts, hlk, hK, hSt, hA, hy⟩ := hC
  intro H locs la hP hD hS hl
  have href : cd_em ad fm (.ref k) = .null ∨ ∃ a, cd_em ad fm (.ref k) = .ref a := by
    by_cases e : k = 1200
    · rw [show cd_em ad fm (.ref k) = fm from if_pos e]; exact hSt.1
    · exact Or.inr ⟨_, cd_em_ref ad fm e⟩
  exact W.aret (v := cd_em ad fm (.ref k)) hx hb (hr.trans hr') (Or.inl ⟨q, rfl⟩) href (fun t ht hW => ⟨⟨rfl, by rw [ht]; exact hP, va_K.moved hW.alike hK, hD⟩, hS.F ht⟩) hS.2.2 hd hlk
theorem cd_s_vret (hC : cd_Cx p s m args meth c y D cy ad fm A) {pc : Nat} {ls : List (Option Value)} {M : cd_M} (hd : decode (cd_code y).1 pc = .ok (.return_, 1)) (hr' : cd_mr.getD y none = none) : cd_OK p l e s m args below meth c y D cy ad fm A pc ls [] M (none, M) := by
  obtain ⟨hx, hb, hr, hml, hown, hts, hlk, hK, hSt, hA, hy⟩ := hC
  intro H locs la hP hD hS hl
  exact W.vret hx hb (hr.trans hr') (fun t ht hW => ⟨⟨rfl, by rw [ht]; exact hP, va_K.moved hW.alike hK, hD⟩, hS.F ht⟩) hS.2.2 hd hlk
end cdU
end
section
/-! Math, arraycopy, calls; then all steps together -/
section cdT
variable {p : Program} {l : Launch} {e : Env} {s : State} {m : MethodId} {args : Array Value} {below : List Frame} {meth : Method} {c : Code} {y : Nat} {D : va_G} {cy : Nat → ClassId} {ad : Nat → Nat} {fm : Value} {A : Nat → Prop}
theorem cd_sz_la {la : Array Slot} {ls : List (Option Value)} (hl : cd_lr ad fm la ls) (h : ls.length = cd_ml.getD y 0) (hml : c.maxLocals = cd_ml.getD y 0) : c.maxLocals = la.size := by rw [hml, ← h, hl.1]
theorem cd_s_max (hC : cd_Cx p s m args meth c y D cy ad fm A) {pc idx q : Nat} {ls : List (Option Value)} {rs : List Value} {M : cd_M} {r : Option Value × cd_M} {a b : Int32} (hd : decode (cd_code y).1 pc = .ok (.invokestatic idx, 3)) (he : (cd_own y, idx, 0, q) ∈ cd_nat) (hn : ls.length = cd_ml.getD y 0) (hf : 1 ≤ cd_mf.getD y 0) (hw : cd_cat rs + 13 ≤ cd_mw.getD y 0)
    (kk : cd_OK p l e s m args below meth c y D cy ad fm A (pc + 3) ls (.int (if a < b then b else a) :: rs) M r) : cd_OK p l e s m args below meth c y D cy ad fm A pc ls (.int b :: .int a :: rs) M r := by
  obtain ⟨hx, hb, hr, hml, hown, hts, hlk, hK, hSt, hA, hy⟩ := hC
  intro H locs la hP hD hS hl
  exact va_mmax hx hb (cd_sz_la hl hn hml) hown (hts _ (cd_natOK _ he).1) (hts _ cd_max1) (hts _ cd_math1) (hts _ cd_max2) hf (by rw [cd_cat_em ad fm hSt.1]; exact hw) (Nat.le_refl 0) (Nat.le_refl 0) hd (kk H locs la hP hD hS hl)
theorem cd_s_min (hC : cd_Cx p s m args meth c y D cy ad fm A) {pc idx q : Nat} {ls : List (Option Value)} {rs : List Value} {M : cd_M} {r : Option Value × cd_M} {a b : Int32} (hd : decode (cd_code y).1 pc = .ok (.invokestatic idx, 3)) (he : (cd_own y, idx, 1, q) ∈ cd_nat) (hn : ls.length = cd_ml.getD y 0) (hf : 1 ≤ cd_mf.getD y 0) (hw : cd_cat rs + 13 ≤ cd_mw.getD y 0)
    (kk : cd_OK p l e s m args below meth c y D cy ad fm A (pc + 3) ls (.int (if b < a then b else a) :: rs) M r) : cd_OK p l e s m args below meth c y D cy ad fm A pc ls (.int b :: .int a :: rs) M r := by
  obtain ⟨hx, hb, hr, hml, hown, hts, hlk, hK, hSt, hA, hy⟩ := hC
  intro H locs la hP hD hS hl
  exact va_mmin hx hb (cd_sz_la hl hn hml) hown (hts _ (cd_natOK _ he).1) (hts _ cd_min1) (hts _ cd_math1) (hts _ cd_min2) hf (by rw [cd_cat_em ad fm hSt.1]; exact hw) (Nat.le_refl 0) (Nat.le_refl 0) hd (kk H locs la hP hD hS hl)
theorem cd_s_abs (hC : cd_Cx p s m args meth c y D cy ad fm A) {pc idx q : Nat} {ls : List (Option Value)} {rs : List Value} {M : cd_M} {r : Option Value × cd_M} {a : Int32} (hd : decode (cd_code y).1 pc = .ok (.invokestatic idx, 3)) (he : (cd_own y, idx, 2, q) ∈ cd_nat) (hn : ls.length = cd_ml.getD y 0) (hf : 1 ≤ cd_mf.getD y 0) (hw : cd_cat rs + 13 ≤ cd_mw.getD y 0)
    (kk : cd_OK p l e s m args below meth c y D cy ad fm A (pc + 3) ls (.int (if 0 ≤ a then a else 0 - a) :: rs) M r) : cd_OK p l e s m args below meth c y D cy ad fm A pc ls (.int a :: rs) M r := by
  obtain ⟨hx, hb, hr, hml, hown, hts, hlk, hK, hSt, hA, hy⟩ := hC
  intro H locs la hP hD hS hl
  exact va_mabs hx hb (cd_sz_la hl hn hml) hown (hts _ (cd_natOK _ he).1) (hts _ cd_abs1) (hts _ cd_math1) (hts _ cd_abs2) hf (by rw [cd_cat_em ad fm hSt.1]; exact hw) (Nat.le_refl 0) (Nat.le_refl 0) hd (kk H locs la hP hD hS hl)
theorem cd_s_cpyI (hC : cd_Cx p s m args meth c y D cy ad fm A) {pc idx q k0 k1 : Nat} {ls : List (Option Value)} {rs : List Value} {M : cd_M} {r : Option Value × cd_M} {sp dp n : Int32} (hd : decode (cd_code y).1 pc = .ok (.invokestatic idx, 3)) (he : (cd_own y, idx, 3, q) ∈ cd_nat) (hn : ls.length = cd_ml.getD y 0) (hf : 1 ≤ cd_mf.getD y 0) (hw : cd_cat rs + 18 ≤ cd_mw.getD y 0)
    (h0 : (cd_sh k0).1 = 20) (h1 : (cd_sh k1).1 = 20) (g1 : ¬ sp < 0) (g2 : ¬ dp < 0) (g3 : ¬ n < 0) (g4 : sp.toNatClampNeg + n.toNatClampNeg ≤ (cd_sh k0).2) (g5 : dp.toNatClampNeg + n.toNatClampNeg ≤ (cd_sh k1).2)
    (kk : cd_OK p l e s m args below meth c y D cy ad fm A (pc + 3) ls rs (cd_cI M k0 k1 sp.toNatClampNeg dp.toNatClampNeg n.toNatClampNeg) r) : cd_OK p l e s m args below meth c y D cy ad fm A pc ls (.int n :: .int dp :: .ref k1 :: .int sp :: .ref k0 :: rs) M r := by
  obtain ⟨hx, hb, hr, hml, hown, hts, hlk, hK, hSt, hA, hy⟩ := hC
  intro H locs la hP hD hS hl
  have hl0 : k0 < cd_NC := cd_sh_lt (by omega)
  have hl1 : k1 < cd_NC := cd_sh_lt (by omega)
  have ha0 := cd_ws_at (cy := cy) (ad := ad) (M := M) hl0
  have ha1 := cd_ws_at (cy := cy) (ad := ad) (M := M) hl1
  rw [cd_cell20 h0] at ha0
  rw [cd_cell20 h1] at ha1
  show W p l e (cd_room y) s m args below meth c H locs 0 0 _ (F0 m pc la (.int n :: .int dp :: cd_em ad fm (.ref k1) :: .int sp :: cd_em ad fm (.ref k0) :: rs.map (cd_em ad fm)))
  rw [cd_em_ref ad fm (cd_ne1200 hl0), cd_em_ref ad fm (cd_ne1200 hl1)]
  refine va_copyi hx hb (cd_sz_la hl hn hml) hown (hts _ (cd_natOK _ he).1) (hts _ cd_cpy1) (hts _ cd_cpy2) (hts _ cd_cpy3) hK hP hD hS k0 k1 0 0 ha0 ha1 rfl rfl rfl g1 g2 g3 g4 g5 (fun _ _ => rfl) hf (by rw [cd_cat_em ad fm hSt.1]; exact hw) hd (fun H1 locs1 hP1 hD1 hS1 => ?_)
  have ew := cd_ws_set (cy := cy) (ad := ad) (M := M) (M' := cd_cI M k0 k1 sp.toNatClampNeg dp.toNatClampNeg n.toNatClampNeg) hl1 (by rw [cd_cell20 h1, cd_cI_s]) (fun a h => cd_cell_cI_ne h)
  rw [ew] at hP1 hD1
  exact kk H1 locs1 la hP1 hD1 hS1 hl
theorem cd_s_cpyL (hC : cd_Cx p s m args meth c y D cy ad fm A) {pc idx q k0 k1 : Nat} {ls : List (Option Value)} {rs : List Value} {M : cd_M} {r : Option Value × cd_M} {sp dp n : Int32} (hd : decode (cd_code y).1 pc = .ok (.invokestatic idx, 3)) (he : (cd_own y, idx, 3, q) ∈ cd_nat) (hn : ls.length = cd_ml.getD y 0) (hf : 1 ≤ cd_mf.getD y 0) (hw : cd_cat rs + 18 ≤ cd_mw.getD y 0)
    (h0 : (cd_sh k0).1 = 21) (h1 : (cd_sh k1).1 = 21) (g1 : ¬ sp < 0) (g2 : ¬ dp < 0) (g3 : ¬ n < 0) (g4 : sp.toNatClampNeg + n.toNatClampNeg ≤ (cd_sh k0).2) (g5 : dp.toNatClampNeg + n.toNatClampNeg ≤ (cd_sh k1).2)
    (kk : cd_OK p l e s m args below meth c y D cy ad fm A (pc + 3) ls rs (cd_cL M k0 k1 sp.toNatClampNeg dp.toNatClampNeg n.toNatClampNeg) r) : cd_OK p l e s m args below meth c y D cy ad fm A pc ls (.int n :: .int dp :: .ref k1 :: .int sp :: .ref k0 :: rs) M r := by
  obtain ⟨hx, hb, hr, hml, hown, hts, hlk, hK, hSt, hA, hy⟩ := hC
  intro H locs la hP hD hS hl
  have hl0 : k0 < cd_NC := cd_sh_lt (by omega)
  have hl1 : k1 < cd_NC := cd_sh_lt (by omega)
  have ha0 := cd_ws_at (cy := cy) (ad := ad) (M := M) hl0
  have ha1 := cd_ws_at (cy := cy) (ad := ad) (M := M) hl1
  rw [cd_cell21 h0] at ha0
  rw [cd_cell21 h1] at ha1
  show W p l e (cd_room y) s m args below meth c H locs 0 0 _ (F0 m pc la (.int n :: .int dp :: cd_em ad fm (.ref k1) :: .int sp :: cd_em ad fm (.ref k0) :: rs.map (cd_em ad fm)))
  rw [cd_em_ref ad fm (cd_ne1200 hl0), cd_em_ref ad fm (cd_ne1200 hl1)]
  refine va_copyl hx hb (cd_sz_la hl hn hml) hown (hts _ (cd_natOK _ he).1) (hts _ cd_cpy1) (hts _ cd_cpy2) (hts _ cd_cpy3) hK hP hD hS k0 k1 1 1 ha0 ha1 rfl rfl rfl g1 g2 g3 g4 g5 (fun _ _ => rfl) hf (by rw [cd_cat_em ad fm hSt.1]; exact hw) hd (fun H1 locs1 hP1 hD1 hS1 => ?_)
  have ew := cd_ws_set (cy := cy) (ad := ad) (M := M) (M' := cd_cL M k0 k1 sp.toNatClampNeg dp.toNatClampNeg n.toNatClampNeg) hl1 (by rw [cd_cell21 h1, cd_cL_s]) (fun a h => cd_cell_cL_ne h)
  rw [ew] at hP1 hD1
  exact kk H1 locs1 la hP1 hD1 hS1 hl
/-- the contract of a method that comes to r -/
def cd_Pc (D : va_G) (cy : Nat → ClassId) (ad : Nat → Nat) (fm : Value) (as : List Value) (M : cd_M) (sz : Nat) : Array Value → State → Prop := va_Pc (as.map (cd_em ad fm)) (fun U => U.heap.size = sz ∧ va_P D cd_cl (cd_ws cy ad M) U.heap ∧ va_K D cd_cl (cd_tys cy) U ∧ va_D (fun _ => True) (cd_ws cy ad M) ∧ cd_St ad fm (va_A (cd_ws cy ad M) sz) U)
def cd_Mt (l : Launch) (D : va_G) (cy : Nat → ClassId) (ad : Nat → Nat) (fm : Value) (y : Nat) (as : List Value) (M : cd_M) (r : Option Value × cd_M) : Prop := ∀ sz : Nat, Met l (cd_y y) (cd_wsO y) (cd_room y) (cd_Pc D cy ad fm as M sz) (cd_Q D cy ad fm (va_A (cd_ws cy ad M) sz) r) 0 0 (va_A (cd_ws cy ad M) sz)
theorem cd_nest_on : ∀ w ∈ cd_nest, w.onTables = true := List.forall_mem_cons.mpr ⟨rfl, List.forall_mem_cons.mpr ⟨rfl, List.forall_mem_cons.mpr ⟨rfl, List.forall_mem_cons.mpr ⟨rfl, List.forall_mem_cons.mpr ⟨rfl, List.forall_mem_cons.mpr ⟨rfl, fun _ z => absurd z List.not_mem_nil⟩⟩⟩⟩⟩⟩
theorem cd_St_blind {U : State} {g : JFrame} {mk : MethodId} {a : Array Value} (h : cd_St ad fm A U) : cd_St ad fm A (U.calling g mk a) :=
  ⟨h.1, fun w hw => va_Nw.same (U := U.calling g mk a) (cd_nest_on w hw) (u := U) rfl (h.2.1 w hw), vk_S.moved (U := U.calling g mk a) (Vm.Alike.refl U.vm) h.2.2.1, fun q hq => vk_R.same rfl (h.2.2.2.1 q hq), va_Z.moved (U := U.calling g mk a) (Vm.Alike.refl U.vm) h.2.2.2.2.1, va_Z.moved (U := U.calling g mk a) (Vm.Alike.refl U.vm) h.2.2.2.2.2⟩
theorem cd_blind (as : List Value) (M : cd_M) (sz : Nat) : FrameBlind (cd_Pc D cy ad fm as M sz) := by
  intro a U g mk h
  obtain ⟨h1, h2, h3, h4, h5, h6⟩ := h
  exact ⟨h1, h2, h3, va_K.moved (u := U) (U := U.calling g mk a) (Vm.Alike.refl U.vm) h4, h5, cd_St_blind h6⟩
theorem cd_nest_warm {U : State} (hW : s.WarmedH U.vm) (h : ∀ w ∈ cd_nest, va_Nw w s) : ∀ w ∈ cd_nest, va_Nw w U := by
  have h0 := h (.fieldLinkNest RX3 26 RX4 "fields" "[J" RX10) (List.mem_of_getElem? (i := 0) rfl)
  have h1 := h (.fieldLinkNest RX3 31 RX4 "size" "I" RX10) (List.mem_of_getElem? (i := 1) rfl)
  have h2 := h (.methodLinkNest RX8 85 yX10_withSample RX10) (List.mem_of_getElem? (i := 2) rfl)
  have h3 := h (.methodLinkNest RX4 29 yX10_sampleOf RX10) (List.mem_of_getElem? (i := 3) rfl)
  have h4 := h (.methodLinkNest RX4 33 yX10_withSample RX10) (List.mem_of_getElem? (i := 4) rfl)
  have h5 := h (.methodLinkNest RX5 53 yX10_sampleOf RX10) (List.mem_of_getElem? (i := 5) rfl)
  exact List.forall_mem_cons.mpr ⟨va_Nw.warmF hW h0, List.forall_mem_cons.mpr ⟨va_Nw.warmF hW h1, List.forall_mem_cons.mpr ⟨va_Nw.warmM hW h2, List.forall_mem_cons.mpr ⟨va_Nw.warmM hW h3, List.forall_mem_cons.mpr ⟨va_Nw.warmM hW h4, List.forall_mem_cons.mpr ⟨va_Nw.warmM hW h5, fun _ z => absurd z List.not_mem_nil⟩⟩⟩⟩⟩⟩
theorem cd_St_go {H : Heap} {locs : List Loc} {B : Nat → Prop} {U : State} (h : cd_St ad fm A s) (hS : va_S A s.heap H locs) (hU : U.heap = H) (hW : s.WarmedH U.vm) (hB : ∀ q, B q → A q) : cd_St ad fm B U := by
  obtain ⟨h1, h2, h3, h4, h5, h6⟩ := h
  refine ⟨h1, cd_nest_warm hW h2, ?_, fun q hq => vk_R.warm hW (h4 q hq), ?_, ?_⟩
  · rw [hU]; exact ((h3.kept hS.2.1).moved hW.alike).narrow hB
  · rw [hU]; exact ((h5.kept hS.2.1).moved hW.alike).narrow hB
  · rw [hU]; exact ((h6.kept hS.2.1).moved hW.alike).narrow hB
theorem cd_callG {R : Room} {H H0 : Heap} {locs : List Loc} {cells slots mc ms pc : Nat} {Q : State → Prop} {ls : Array Slot} {rest st0 : List Value} {A0 A1 : Nat → Prop} {free : Addr → Prop} {v : Option Value} {B : State → Prop}
    (hr : va_Run p l e R s m args below meth c H locs cells slots mc ms (F0 m pc ls st0) rest (fun st oc t => (oc = .returned v ∧ B t) ∧ va_F A1 st t) free) (hS : va_S A0 H0 H locs) (hA : ∀ q, q < H.size → A1 q → A0 q) (hf : ∀ q, free q → A0 q)
    (kk : ∀ (t : State) (H1 : Heap) (locs1 : List Loc), t.heap = H1 → s.vm.Alike t.vm → B t → va_S A0 H0 H1 locs1 → W p l e R s m args below meth c H1 locs1 (cells + mc) (slots + ms) Q (F0 m (pc + 3) ls (v.toList ++ rest))) : W p l e R s m args below meth c H locs cells slots Q (F0 m pc ls st0) := by
  intro T hT X
  obtain ⟨v', st₀, t, T', L, h0, X', hL, e1, e2, ⟨⟨hv, hb⟩, hz, hk⟩, st⟩ := hr T hT X
  cases hv
  rw [h0] at hz hk
  obtain ⟨t2, a1, b1⟩ := kk t T'.heap (locs ++ L) e1.symm (by rw [← e2]; exact X'.warmed.alike) hb
    ⟨Nat.le_trans hS.1 (by rw [e1]; exact hz), fun q h1 h2 => by rw [e1, hk q (Nat.lt_of_lt_of_le h1 hS.1) (fun z => h2 (hA q (Nat.lt_of_lt_of_le h1 hS.1) z))]; exact hS.2.1 q h1 h2, fun q hq => by
      rcases List.mem_append.mp hq with h | h
      · exact hS.2.2 q h
      · exact hf _ (hL q h)⟩ T' rfl X'
  exact ⟨t2, st t2 a1, b1⟩
theorem cd_free {H : Heap} {locs : List Loc} {ws : va_W} (hD : va_D A ws) (hS : va_S A s.heap H locs) (hA : ∀ q, s.heap.size ≤ q → A q) : ∀ q, va_A ws H.size q → A q := by
  intro q h
  rcases h with ⟨k, e, h⟩ | h
  · exact hD.2 k (q, e) h
  · exact hA q (Nat.le_trans hS.1 h)
theorem cd_good (a b : Nat) (hb : b < 245) : GoodIn (cd_wsO a) (cd_wsO b) := by
  intro w hw
  have h : w ∈ cd_big := by
    rcases List.mem_cons.mp hw with h | h
    · rw [h]; exact cd_mOK b hb
    · exact h
  exact ⟨List.mem_cons_of_mem _ h, good_of_word (List.mem_filter.mp h).2⟩
theorem cd_goodB (b : Nat) (hb : b < 245) : GoodIn cd_big (cd_wsO b) := by
  intro w hw
  have h : w ∈ cd_big := by
    rcases List.mem_cons.mp hw with h | h
    · rw [h]; exact cd_mOK b hb
    · exact h
  exact ⟨h, good_of_word (List.mem_filter.mp h).2⟩
theorem cd_goodW {w : Cond} (h : w ∈ cd_big) : w ∈ cd_big ∧ ((w.onTables && w.keeps) = true ∨ ∃ ty, w = .arrayClass ty) := ⟨h, good_of_word (List.mem_filter.mp h).2⟩
/-- behind a call all goes on -/
theorem cd_after {pc : Nat} {ls : List (Option Value)} {rs : List Value} {M : cd_M} {r r1 : Option Value × cd_M} (kk : cd_OK p l e s m args below meth c y D cy ad fm A (pc + 3) ls (r1.1.toList ++ rs) r1.2 r) {H : Heap} {locs : List Loc} {la : Array Slot} (hD : va_D A (cd_ws cy ad M)) (hS : va_S A s.heap H locs) (hA : ∀ q, s.heap.size ≤ q → A q) (hl : cd_lr ad fm la ls) {st0 : List Value} {aa : Array Value}
    (hr : va_Run p l e (cd_room y) s m args below meth c H locs 0 0 0 0 (F0 m pc la st0) (rs.map (cd_em ad fm)) (cd_Q D cy ad fm (va_A (cd_ws cy ad M) H.size) r1 aa) (va_A (cd_ws cy ad M) H.size)) :
    W p l e (cd_room y) s m args below meth c H locs 0 0 (MQ below (cd_Q D cy ad fm A r) args s 0 0 A) (F0 m pc la st0) := by
  have hfr := cd_free (ws := cd_ws cy ad M) hD hS hA
  refine cd_callG (v := r1.1.map (cd_em ad fm)) (B := fun t => va_P D cd_cl (cd_ws cy ad r1.2) t.heap ∧ va_K D cd_cl (cd_tys cy) t ∧ va_D (va_A (cd_ws cy ad M) H.size) (cd_ws cy ad r1.2)) hr hS (fun q _ h => hfr q h) hfr (fun t H1 locs1 ht hvm hB hS1 => ?_)
  obtain ⟨hP1, hK1, hD1⟩ := hB
  rw [ht] at hP1
  have h9 := kk H1 locs1 la hP1 (hD1.weaken (fun _ q _ h => hfr q.1 h)) hS1 hl
  have em : (r1.1.toList ++ rs).map (cd_em ad fm) = (r1.1.map (cd_em ad fm)).toList ++ rs.map (cd_em ad fm) := by
    cases r1.1 <;> simp
  rw [em] at h9
  exact h9
end cdT
end
section
/-! the calls, then every step, then every method -/
theorem cd_cF : ∀ ci, ci < 12 → (cd_F ci).1 = cd_c ci
  | 0, _ => rfl | 1, _ => rfl | 2, _ => rfl | 3, _ => rfl | 4, _ => rfl | 5, _ => rfl | 6, _ => rfl | 7, _ => rfl | 8, _ => rfl | 9, _ => rfl | 10, _ => rfl | 11, _ => rfl
  | k + 12, h => absurd h (by omega)
section cdR
variable {p : Program} {l : Launch} {e : Env} {s : State} {m : MethodId} {args : Array Value} {below : List Frame} {meth : Method} {c : Code} {y : Nat} {D : va_G} {cy : Nat → ClassId} {ad : Nat → Nat} {fm : Value} {A : Nat → Prop}
theorem cd_ts (hC : cd_Cx p s m args meth c y D cy ad fm A) : ∀ w ∈ cd_big, w.before args s = true := hC.2.2.2.2.2.1
theorem cd_pre_go (hC : cd_Cx p s m args meth c y D cy ad fm A) {M : cd_M} {as : List Value} {H : Heap} {locs : List Loc} (hP : va_P D cd_cl (cd_ws cy ad M) H) (hD : va_D A (cd_ws cy ad M)) (hS : va_S A s.heap H locs) {aa : Array Value} (ha : aa = (as.map (cd_em ad fm)).toArray) : ∀ U : State, U.heap = H → s.WarmedH U.vm → cd_Pc D cy ad fm as M H.size aa U := by
  obtain ⟨hx, hb, hr, hml, hown, hts, hlk, hK, hSt, hA, hy⟩ := hC
  intro U hU hW
  exact ⟨ha, by rw [hU], by rw [hU]; exact hP, va_K.moved hW.alike hK, hD.weaken (fun _ _ _ _ => trivial), cd_St_go hSt hS hU hW (cd_free (ws := cd_ws cy ad M) hD hS hA)⟩
theorem cd_s_callV (hC : cd_Cx p s m args meth c y D cy ad fm A) {pc idx yc k : Nat} {q : Nat × Nat × Nat × Nat} {ls : List (Option Value)} {rs as : List Value} {M : cd_M} {r r1 : Option Value × cd_M} (hd : decode (cd_code y).1 pc = .ok (.invokevirtual idx, 3)) (he : (cd_own y, idx, yc, 0, q) ∈ cd_lkT) (hn : ls.length = cd_ml.getD y 0)
    (hna : as.length + 1 = cd_mn.getD yc 0) (hk : cd_isR k (cd_own yc) = true) (hcat : cd_cat rs ≤ 8) (hfr : cd_mf.getD yc 0 + 1 ≤ cd_mf.getD y 0) (hlw : 8 + (cd_ml.getD yc 0 + 11) + cd_mw.getD yc 0 ≤ cd_mw.getD y 0) (hM : cd_Mt l D cy ad fm yc (.ref k :: as) M r1)
    (kk : cd_OK p l e s m args below meth c y D cy ad fm A (pc + 3) ls (r1.1.toList ++ rs) r1.2 r) : cd_OK p l e s m args below meth c y D cy ad fm A pc ls (as.reverse ++ .ref k :: rs) M r := by
  have hC0 := hC
  obtain ⟨hx, hb, hr, hml, hown, hts, hlk, hK, hSt, hA, hy⟩ := hC
  intro H locs la hP hD hS hl
  obtain ⟨hyc, hini, hv, -⟩ := cd_lkOK _ he
  dsimp only at hyc hini hv
  obtain ⟨w1, w2, w3, w4⟩ := hv rfl
  obtain ⟨o1, o2, o3, o4⟩ := cd_mOK2 yc hyc
  have hlen : (parseMethodDescriptor (cd_y yc).desc).map (fun d => d.parameters.length) = some as.length := by
    cases hp : parseMethodDescriptor (cd_y yc).desc with
    | none => rw [hp] at w4; cases w4
    | some d =>
      rw [hp] at w4
      have h1 : d.parameters.length + 1 = cd_mn.getD yc 0 := Option.some.inj w4
      show some d.parameters.length = some as.length
      rw [show d.parameters.length = as.length by omega]
  have hrecv : ∃ cellB : Cell, H[ad k]? = some cellB ∧ cellB.vm.isStatics = false ∧ s.vm.findClass (cd_y yc).cls = some cellB.cls := by
    unfold cd_isR at hk
    cases hb9 : Nat.ble 1000 k with
    | true =>
      rw [hb9] at hk
      have hk : (Nat.beq (cd_own yc) 12 && Nat.ble (k + 1) 1013) = true := hk
      simp only [Bool.and_eq_true] at hk
      have e1 := Nat.eq_of_beq_eq_true hk.1
      have e2 := Nat.le_of_ble_eq_true hk.2
      have e3 := Nat.le_of_ble_eq_true hb9
      have h1 := vk_recv (i := k - 1000) hSt.2.2.1 (by omega) hS
      rw [show 1000 + (k - 1000) = k by omega] at h1
      rw [o1, show cd_mo.getD yc 99 = 12 from e1]
      exact h1
    | false =>
      rw [hb9] at hk
      have e1 : (cd_sh k).1 = cd_own yc := Nat.eq_of_beq_eq_true hk
      have hlt : cd_own yc < 12 := by
        by_cases hz : cd_own yc < 12
        · exact hz
        · exfalso
          have h2 : ∀ z, z < 245 → cd_mo.getD z 99 < 15 := by decide +kernel
          have h3 := h2 yc hyc
          have h4 : ∀ z, z < 83 → (cd_sh z).1 < 12 ∨ 15 ≤ (cd_sh z).1 := by decide +kernel
          have h5 : cd_own yc = cd_mo.getD yc 99 := rfl
          have hkl : k < 83 := cd_sh_lt (by omega)
          rcases h4 k hkl with h6 | h6 <;> omega
      obtain ⟨hl1, ha, -⟩ := cd_he (cy := cy) (ad := ad) (M := M) e1 hlt
      have h1 := va_recv hK hP (cd_clF _ hlt) ha
      rw [cd_cF _ hlt] at h1
      rw [o1]
      exact h1
  have hne : ¬ k = 1200 := by
    intro z
    rw [z] at hk
    exact absurd hk (by
      unfold cd_isR
      show ¬ (Nat.beq (cd_own yc) 12 && Nat.ble (1200 + 1) 1013) = true
      rw [show Nat.ble (1200 + 1) 1013 = false from rfl, Bool.and_false]
      decide)
  have est : (as.reverse ++ .ref k :: rs).map (cd_em ad fm) = (as.map (cd_em ad fm)).reverse ++ .ref (ad k) :: rs.map (cd_em ad fm) := by
    rw [List.map_append, List.map_reverse, List.map_cons, cd_em_ref ad fm hne]
  rw [est]
  have hcw : CallW (cd_room y) s args (cd_c (cd_own y)) (cd_y yc).cls idx (cd_y yc) (cd_code yc).1 (cd_ml.getD yc 0) (cd_mr.getD yc none) (cd_wsO yc) (cd_room yc) 0 0 as.length := by
    refine cwV as.length hts ?_ rfl rfl rfl ⟨rfl, o3, o4, hlen⟩ ⟨hfr, hlw⟩
    intro w hw
    have hw : w ∈ [Cond.methodLink (cd_c (cd_own y)) idx (cd_y yc), Cond.instanceMethod (cd_y yc), Cond.selects (cd_y yc).cls (cd_y yc) (cd_y yc), Cond.initialized (cd_y yc).cls] ++ cd_wsO yc := hw
    rcases List.mem_append.mp hw with h | h
    · simp only [List.mem_cons, List.not_mem_nil, or_false] at h
      rcases h with h | h | h | h
      · rw [h]; exact cd_goodW w1
      · rw [h]; exact cd_goodW w2
      · rw [h]; exact cd_goodW w3
      · rw [h]; exact cd_goodW hini
    · exact cd_goodB yc hyc w h
  have hrun := va_runV (l := l) (e := e) (below := below) (meth := meth) (locs := locs) (cells := 0) (slots := 0) (g := F0 m pc la ((as.map (cd_em ad fm)).reverse ++ .ref (ad k) :: rs.map (cd_em ad fm))) (rest := rs.map (cd_em ad fm)) (As := as.map (cd_em ad fm)) (b := ad k) (nL := cd_ml.getD y 0) (Ts := cd_big) ⟨hx, hb, hml, hown, hts⟩ (hM H.size) hcw
    ⟨cd_blind _ _ _, hrecv, cd_pre_go hC0 hP hD hS (by rw [List.map_cons, cd_em_ref ad fm hne])⟩ rfl (by rw [List.length_map]) (by show la.size = _; rw [hl.1, hn]) rfl (lv_room (by rw [cd_cat_em ad fm hSt.1]; exact hcat)) hd ⟨Nat.le_refl _, Nat.le_refl _⟩
  exact cd_after kk hD hS hA hl hrun
theorem cd_s_callS (hC : cd_Cx p s m args meth c y D cy ad fm A) {pc idx yc kd : Nat} {q : Nat × Nat × Nat × Nat} {ls : List (Option Value)} {rs as : List Value} {M : cd_M} {r r1 : Option Value × cd_M} (hd : decode (cd_code y).1 pc = .ok (.invokestatic idx, 3)) (he : (cd_own y, idx, yc, kd, q) ∈ cd_lkT) (hkd : ¬ kd = 0) (hn : ls.length = cd_ml.getD y 0)
    (hna : as.length = cd_mn.getD yc 0) (hcat : cd_cat rs ≤ 8) (hfr : cd_mf.getD yc 0 + 1 ≤ cd_mf.getD y 0) (hlw : 8 + (cd_ml.getD yc 0 + 11) + cd_mw.getD yc 0 ≤ cd_mw.getD y 0) (hM : cd_Mt l D cy ad fm yc as M r1)
    (kk : cd_OK p l e s m args below meth c y D cy ad fm A (pc + 3) ls (r1.1.toList ++ rs) r1.2 r) : cd_OK p l e s m args below meth c y D cy ad fm A pc ls (as.reverse ++ rs) M r := by
  have hC0 := hC
  obtain ⟨hx, hb, hr, hml, hown, hts, hlk, hK, hSt, hA, hy⟩ := hC
  intro H locs la hP hD hS hl
  obtain ⟨hyc, hini, -, hv⟩ := cd_lkOK _ he
  dsimp only at hyc hini hv
  obtain ⟨w1, w4, w2, w3⟩ := hv hkd
  obtain ⟨o1, o2, o3, o4⟩ := cd_mOK2 yc hyc
  have est : (as.reverse ++ rs).map (cd_em ad fm) = (as.map (cd_em ad fm)).reverse ++ rs.map (cd_em ad fm) := by
    rw [List.map_append, List.map_reverse]
  rw [est]
  have hp : PreS s H (cd_Pc D cy ad fm as M H.size) (as.map (cd_em ad fm)) := ⟨cd_blind _ _ _, cd_pre_go hC0 hP hD hS rfl⟩
  have hlen : (parseMethodDescriptor (cd_y yc).desc).map (fun d => d.parameters.length) = some as.length := by rw [hna]; exact w4
  by_cases h1 : kd = 1
  · obtain ⟨-, w5⟩ := w3 (by omega)
    have hcw : CallB (cd_room y) s args (cd_c (cd_own y)) idx (cd_y yc) (cd_code yc).1 (cd_ml.getD yc 0) (cd_mr.getD yc none) (cd_wsO yc) (cd_room yc) 0 0 as.length ∧ (Cond.static (cd_y yc)).before args s = true := by
      refine va_cwS as.length hts ?_ rfl rfl rfl ⟨o3, o4, hlen⟩ ⟨hfr, hlw⟩
      intro w hw
      have hw : w ∈ [Cond.methodLink (cd_c (cd_own y)) idx (cd_y yc), Cond.static (cd_y yc), Cond.initialized (cd_y yc).cls] ++ cd_wsO yc := hw
      rcases List.mem_append.mp hw with h | h
      · simp only [List.mem_cons, List.not_mem_nil, or_false] at h
        rcases h with h | h | h
        · rw [h]; exact cd_goodW w5
        · rw [h]; exact cd_goodW w1
        · rw [h]; exact cd_goodW hini
      · exact cd_goodB yc hyc w h
    have hrun := va_runS (l := l) (e := e) (below := below) (meth := meth) (locs := locs) (cells := 0) (slots := 0) (g := F0 m pc la ((as.map (cd_em ad fm)).reverse ++ rs.map (cd_em ad fm))) (rest := rs.map (cd_em ad fm)) (As := as.map (cd_em ad fm)) (nL := cd_ml.getD y 0) (Ts := cd_big) ⟨hx, hb, hml, hown, hts⟩ (hM H.size) hcw
      hp rfl (by rw [List.length_map]) (by show la.size = _; rw [hl.1, hn]) rfl (lv_room (by rw [cd_cat_em ad fm hSt.1]; exact hcat)) hd ⟨Nat.le_refl _, Nat.le_refl _⟩
    exact cd_after kk hD hS hA hl hrun
  · obtain ⟨-, w5⟩ := w2 h1
    have hcw : va_CN (cd_room y) s args (cd_c (cd_own y)) idx (cd_y yc) RX10 (cd_code yc).1 (cd_ml.getD yc 0) (cd_mr.getD yc none) (cd_wsO yc) (cd_room yc) 0 0 as.length :=
      va_cnB as.length hts (cd_goodB yc hyc) rfl rfl rfl (hSt.2.1 _ w5) (hts _ hini) ⟨o3, o4, hlen⟩ ⟨hfr, hlw⟩
    have hrun := va_runSN (l := l) (e := e) (below := below) (meth := meth) (locs := locs) (cells := 0) (slots := 0) (g := F0 m pc la ((as.map (cd_em ad fm)).reverse ++ rs.map (cd_em ad fm))) (rest := rs.map (cd_em ad fm)) (As := as.map (cd_em ad fm)) (nL := cd_ml.getD y 0) (Ts := cd_big) ⟨hx, hb, hml, hown, hts⟩ (hM H.size) ⟨hcw, hts _ w1, trivial⟩
      hp rfl (by rw [List.length_map]) (by show la.size = _; rw [hl.1, hn]) rfl (lv_room (by rw [cd_cat_em ad fm hSt.1]; exact hcat)) hd ⟨Nat.le_refl _, Nat.le_refl _⟩
    exact cd_after kk hD hS hA hl hrun
end cdR
end
section
/-! every instruction, then every run, then every method -/
section cdQ
variable {p : Program} {l : Launch} {e : Env} {s : State} {m : MethodId} {args : Array Value} {below : List Frame} {meth : Method} {c : Code} {y : Nat} {D : va_G} {cy : Nat → ClassId} {ad : Nat → Nat} {fm : Value} {A : Nat → Prop}
def cd_Th (p : Program) (l : Launch) (e : Env) (s : State) (m : MethodId) (args : Array Value) (below : List Frame) (meth : Method) (c : Code) (y : Nat) (D : va_G) (cy : Nat → ClassId) (ad : Nat → Nat) (fm : Value) (A : Nat → Prop) (pc : Nat) (ls : List (Option Value)) (st : List Value) (M : cd_M) : cd_A → Prop
  | .inl q => ∀ r, cd_OK p l e s m args below meth c y D cy ad fm A q.1 ls q.2.1 q.2.2 r → cd_OK p l e s m args below meth c y D cy ad fm A pc ls st M r
  | .inr (.inl r) => cd_OK p l e s m args below meth c y D cy ad fm A pc ls st M r
  | .inr (.inr q) => q.1 < 245 ∧ (lg_sl q.2.1).length ≤ cd_ml.getD q.1 0 ∧ ∀ r1 r, cd_Mt l D cy ad fm q.1 q.2.1 M r1 → cd_OK p l e s m args below meth c y D cy ad fm A (pc + 3) ls (r1.1.toList ++ q.2.2) r1.2 r → cd_OK p l e s m args below meth c y D cy ad fm A pc ls st M r
theorem cd_ite_e {α : Type} {c : Prop} [Decidable c] {a b : Option α} {x : α} (h : (if c then a else b) = some x) : (c ∧ a = some x) ∨ (¬ c ∧ b = some x) := by
  split at h
  · exact Or.inl ⟨by assumption, h⟩
  · exact Or.inr ⟨by assumption, h⟩
theorem cd_split {st : List Value} {na : Nat} (h : na ≤ st.length) : st = (st.take na).reverse.reverse ++ st.drop na := by rw [List.reverse_reverse, List.take_append_drop]
theorem cd_call_snd (hC : cd_Cx p s m args meth c y D cy ad fm A) {pc idx : Nat} {vir : Bool} {ls : List (Option Value)} {st : List Value} {M : cd_M} {a : cd_A} (hd : decode (cd_code y).1 pc = .ok (if vir then .invokevirtual idx else .invokestatic idx, 3)) (hn : ls.length = cd_ml.getD y 0) (h : cd_call y idx vir st = some a) : cd_Th p l e s m args below meth c y D cy ad fm A pc ls st M a := by
  unfold cd_call at h
  cases hq : cd_at2 cd_lkT (cd_own y) idx with
  | none => rw [hq] at h; cases h
  | some q =>
    obtain ⟨yc, kind, q2⟩ := q
    rw [hq] at h
    have he := cd_at2_mem _ _ _ _ hq
    dsimp only at h
    obtain ⟨hc, h⟩ := cd_bif_e h
    have h := (Option.some.inj h).symm
    subst h
    simp only [Bool.and_eq_true] at hc
    obtain ⟨⟨⟨⟨⟨c1, c2⟩, c3⟩, c4⟩, c5⟩, c6⟩ := hc
    have c1 := Nat.le_of_ble_eq_true c1
    have c2 := Nat.le_of_ble_eq_true c2
    have c3 := Nat.le_of_ble_eq_true c3
    have c4 := Nat.le_of_ble_eq_true c4
    have c5 := Nat.le_of_ble_eq_true c5
    have hyc : yc < 245 := (cd_lkOK _ he).1
    refine ⟨hyc, c3, fun r1 r hM kk => ?_⟩
    dsimp only at hM kk
    have hlen : ((st.take (cd_mn.getD yc 0)).reverse).length = cd_mn.getD yc 0 := by rw [List.length_reverse, List.length_take]; omega
    have hsp := cd_split c1
    generalize hg : (st.take (cd_mn.getD yc 0)).reverse = as at hM hlen hsp c6
    generalize st.drop (cd_mn.getD yc 0) = rs at kk hsp c2
    rw [hsp]
    cases vir with
    | true =>
      cases as with
      | nil =>
        have c6 : (Nat.beq kind 0 && false) = true := c6
        rw [Bool.and_false] at c6
        cases c6
      | cons v as =>
        cases v with
        | ref k =>
          have c6 : (Nat.beq kind 0 && cd_isR k (cd_own yc)) = true := c6
          simp only [Bool.and_eq_true] at c6
          obtain ⟨k0, c6⟩ := c6
          have k0 := Nat.eq_of_beq_eq_true k0
          subst k0
          rw [List.reverse_cons, List.append_assoc]
          exact cd_s_callV hC hd he hn hlen c6 c2 c4 c5 hM kk
        | _ =>
          have c6 : (Nat.beq kind 0 && false) = true := c6
          rw [Bool.and_false] at c6
          cases c6
    | false =>
      have c6 : (!(Nat.beq kind 0)) = true := c6
      have k0 : ¬ kind = 0 := by
        intro z
        rw [z] at c6
        cases c6
      exact cd_s_callS hC hd he k0 hn hlen c2 c4 c5 hM kk
set_option maxHeartbeats 4000000 in
theorem cd_math_snd (hC : cd_Cx p s m args meth c y D cy ad fm A) {pc idx n q : Nat} {ls : List (Option Value)} {st : List Value} {M : cd_M} {a : cd_A} (hd : decode (cd_code y).1 pc = .ok (.invokestatic idx, 3)) (hn : ls.length = cd_ml.getD y 0) (he : (cd_own y, idx, n, q) ∈ cd_nat) (h : cd_math n st y pc M = some a) : cd_Th p l e s m args below meth c y D cy ad fm A pc ls st M a := by
  have h4 := (cd_natOK _ he).2
  dsimp only at h4
  rcases (show n = 0 ∨ n = 1 ∨ n = 2 ∨ n = 3 by omega) with rfl | rfl | rfl | rfl
  · obtain ⟨x, z, r, rfl, h⟩ := cd_i2_e h
    obtain ⟨hc, h⟩ := cd_bif_e h
    cases cd_go_e h
    simp only [Bool.and_eq_true] at hc
    exact fun r kk => cd_s_max hC hd he hn (Nat.le_of_ble_eq_true hc.1) (Nat.le_of_ble_eq_true hc.2) kk
  · obtain ⟨x, z, r, rfl, h⟩ := cd_i2_e h
    obtain ⟨hc, h⟩ := cd_bif_e h
    cases cd_go_e h
    simp only [Bool.and_eq_true] at hc
    exact fun r kk => cd_s_min hC hd he hn (Nat.le_of_ble_eq_true hc.1) (Nat.le_of_ble_eq_true hc.2) kk
  · obtain ⟨x, r, rfl, h⟩ := cd_i1_e h
    obtain ⟨hc, h⟩ := cd_bif_e h
    cases cd_go_e h
    simp only [Bool.and_eq_true] at hc
    exact fun r kk => cd_s_abs hC hd he hn (Nat.le_of_ble_eq_true hc.1) (Nat.le_of_ble_eq_true hc.2) kk
  · obtain ⟨k0, sp, k1, dp, n, r, rfl, h⟩ := cd_cpyA_e h
    obtain ⟨hc, h⟩ := cd_bif_e h
    obtain ⟨⟨g0, g1, g2, g3, g4, g5⟩, h⟩ := cd_if_e h
    simp only [Bool.and_eq_true] at hc
    rcases cd_ite_e h with ⟨g6, h⟩ | ⟨-, h⟩
    · cases cd_go_e h
      exact fun r kk => cd_s_cpyI hC hd he hn (Nat.le_of_ble_eq_true hc.1) (Nat.le_of_ble_eq_true hc.2) g6 (g0 ▸ g6) g1 g2 g3 g4 g5 kk
    · obtain ⟨g6, h⟩ := cd_if_e h
      cases cd_go_e h
      exact fun r kk => cd_s_cpyL hC hd he hn (Nat.le_of_ble_eq_true hc.1) (Nat.le_of_ble_eq_true hc.2) g6 (g0 ▸ g6) g1 g2 g3 g4 g5 kk
theorem cd_get_snd (hC : cd_Cx p s m args meth c y D cy ad fm A) {pc idx k : Nat} {ls : List (Option Value)} {rs : List Value} {M : cd_M} {a : cd_A} (hd : decode (cd_code y).1 pc = .ok (.getfield idx, 3)) (h : cd_get y idx pc k rs M = some a) : cd_Th p l e s m args below meth c y D cy ad fm A pc ls (.ref k :: rs) M a := by
  unfold cd_get at h
  cases hb : Nat.ble 1000 k with
  | true =>
    rw [hb] at h
    have hk := Nat.le_of_ble_eq_true hb
    obtain ⟨hc, h⟩ := cd_bif_e (c := Nat.beq (cd_own y) 12 && Nat.ble (k + 1) 1013) h
    simp only [Bool.and_eq_true] at hc
    have ho := Nat.eq_of_beq_eq_true hc.1
    have hk2 := Nat.le_of_ble_eq_true hc.2
    cases h9 : Nat.beq idx 9 with
    | true =>
      rw [h9] at h
      have e9 := Nat.eq_of_beq_eq_true h9
      subst e9
      cases cd_go_e h
      exact fun r kk => cd_s_sval hC hd ho ⟨hk, by omega⟩ kk
    | false =>
      rw [h9] at h
      obtain ⟨h15, h⟩ := cd_bif_e (c := Nat.beq idx 15) h
      have e9 := Nat.eq_of_beq_eq_true h15
      subst e9
      cases cd_go_e h
      exact fun r kk => cd_s_scod hC hd ho ⟨hk, by omega⟩ kk
  | false =>
    rw [hb] at h
    cases hq : cd_at2 cd_fl (cd_own y) idx with
    | some q =>
      obtain ⟨ci, sl, q⟩ := q
      rw [hq] at h
      obtain ⟨hk, h⟩ := cd_if_e (c := (cd_sh k).1 = ci) h
      cases cd_go_e h
      exact fun r kk => cd_s_getO hC hd (cd_at2_mem _ _ _ _ hq) hk kk
    | none =>
      rw [hq] at h
      cases hq2 : cd_at2 cd_fn (cd_own y) idx with
      | none => rw [hq2] at h; cases h
      | some q =>
        obtain ⟨ci, sl⟩ := q
        rw [hq2] at h
        obtain ⟨hk, h⟩ := cd_if_e (c := (cd_sh k).1 = ci) h
        cases cd_go_e h
        exact fun r kk => cd_s_getN hC hd (cd_at2_mem _ _ _ _ hq2) hk kk
theorem cd_put2_e {ci sl pc k : Nat} {x : Int32} {rs : List Value} {M : cd_M} {a : cd_A} (h : cd_put2 ci sl pc k x rs M = some a) : (cd_sh k).1 = ci ∧ cd_rf k sl = none ∧ a = .inl (pc + 3, rs, cd_wI M k sl x) ∧ ∃ ty, (ty = .int ∨ ty = .boolean) ∧ cd_fty ci sl = some ty ∧ (narrow ty (.int x) = .int x ∧ fits ty (.int x) = true) := by
  unfold cd_put2 at h
  obtain ⟨⟨h1, h2⟩, h⟩ := cd_if_e h
  refine ⟨h1, h2, ?_⟩
  split at h
  · rename_i hf
    exact ⟨cd_go_e h, .int, Or.inl rfl, hf, cd_narI x⟩
  · rename_i hf
    obtain ⟨hx, h⟩ := cd_if_e h
    exact ⟨cd_go_e h, .boolean, Or.inr rfl, hf, cd_narZ hx⟩
  · cases h
theorem cd_put_snd (hC : cd_Cx p s m args meth c y D cy ad fm A) {pc idx k : Nat} {x : Int32} {ls : List (Option Value)} {rs : List Value} {M : cd_M} {a : cd_A} (hd : decode (cd_code y).1 pc = .ok (.putfield idx, 3)) (h : cd_put y idx pc k x rs M = some a) : cd_Th p l e s m args below meth c y D cy ad fm A pc ls (.int x :: .ref k :: rs) M a := by
  unfold cd_put at h
  cases hq : cd_at2 cd_fl (cd_own y) idx with
  | some q =>
    obtain ⟨ci, sl, q⟩ := q
    rw [hq] at h
    obtain ⟨h1, h2, rfl, ty, h3, h4, h5⟩ := cd_put2_e h
    exact fun r kk => cd_s_putO hC hd (cd_at2_mem _ _ _ _ hq) h1 h2 h3 h4 h5 kk
  | none =>
    rw [hq] at h
    cases hq2 : cd_at2 cd_fn (cd_own y) idx with
    | none => rw [hq2] at h; cases h
    | some q =>
      obtain ⟨ci, sl⟩ := q
      rw [hq2] at h
      obtain ⟨h1, h2, rfl, ty, h3, h4, h5⟩ := cd_put2_e h
      exact fun r kk => cd_s_putN hC hd (cd_at2_mem _ _ _ _ hq2) h1 h2 h3 h4 h5 kk
set_option maxHeartbeats 8000000 in
set_option maxRecDepth 20000 in
theorem cd_oth_snd (hC : cd_Cx p s m args meth c y D cy ad fm A) {pc len : Nat} {i : Instr} {ls : List (Option Value)} {st : List Value} {M : cd_M} {a : cd_A} (hd : decode (cd_code y).1 pc = .ok (i, len)) (hl : cd_lenOK i len = true) (hn : ls.length = cd_ml.getD y 0) (h : cd_oth y pc len i st M = some a) : cd_Th p l e s m args below meth c y D cy ad fm A pc ls st M a := by
  cases i with
  | iconst n =>
    cases cd_len1 hl
    cases cd_go_e h
    exact fun r kk => cd_s_iconst hC hd kk
  | bipush n =>
    cases cd_len1 hl
    cases cd_go_e h
    exact fun r kk => cd_s_bipush hC hd kk
  | sipush n =>
    cases cd_len1 hl
    cases cd_go_e h
    exact fun r kk => cd_s_sipush hC hd kk
  | lconst n =>
    cases cd_len1 hl
    cases cd_go_e h
    exact fun r kk => cd_s_lconst hC hd kk
  | ldc n =>
    cases cd_len1 hl
    have h : (match cd_at2 cd_kI (cd_own y) n with
      | some (v, _) => cd_go (pc + 2) (.int v :: st) M
      | none => match cd_at2 cd_strI (cd_own y) n with
        | some j => cd_go (pc + 2) (.ref (1000 + j) :: st) M
        | none => none) = some a := h
    cases hq : cd_at2 cd_kI (cd_own y) n with
    | some q =>
      obtain ⟨v, q⟩ := q
      rw [hq] at h
      cases cd_go_e h
      exact fun r kk => cd_s_ldcI hC (cd_kIOK _ (cd_at2_mem _ _ _ _ hq)) hd kk
    | none =>
      rw [hq] at h
      cases hq2 : cd_at2 cd_strI (cd_own y) n with
      | none => rw [hq2] at h; cases h
      | some j =>
        rw [hq2] at h
        cases cd_go_e h
        have hm := cd_at2_mem _ _ _ _ hq2
        have hj : ∀ q ∈ cd_strI, q.2.2 < 13 := by decide
        exact fun r kk => cd_s_ldcS hC (hj _ hm) hm hd kk
  | ldc_w n =>
    cases cd_len1 hl
    have h : (match cd_at2 cd_kI (cd_own y) n with
      | some (v, _) => cd_go (pc + 3) (.int v :: st) M
      | none => none) = some a := h
    cases hq : cd_at2 cd_kI (cd_own y) n with
    | some q =>
      obtain ⟨v, q⟩ := q
      rw [hq] at h
      cases cd_go_e h
      exact fun r kk => cd_s_ldcwI hC (cd_kIOK _ (cd_at2_mem _ _ _ _ hq)) hd kk
    | none => rw [hq] at h; cases h
  | ldc2_w n =>
    cases cd_len1 hl
    have h : (match cd_at2 cd_kL (cd_own y) n with
      | some (v, _) => cd_go (pc + 3) (.long v :: st) M
      | none => none) = some a := h
    cases hq : cd_at2 cd_kL (cd_own y) n with
    | some q =>
      obtain ⟨v, q⟩ := q
      rw [hq] at h
      cases cd_go_e h
      exact fun r kk => cd_s_ldc2 hC (cd_kLOK _ (cd_at2_mem _ _ _ _ hq)) hd kk
    | none => rw [hq] at h; cases h
  | iadd =>
    cases cd_len1 hl
    obtain ⟨x, z, r, hst, h9⟩ := cd_i2_e h
    clear h
    subst hst
    have h := h9
    clear h9
    cases cd_go_e h
    exact fun r kk => cd_s_iadd hC hd kk
  | isub =>
    cases cd_len1 hl
    obtain ⟨x, z, r, hst, h9⟩ := cd_i2_e h
    clear h
    subst hst
    have h := h9
    clear h9
    cases cd_go_e h
    exact fun r kk => cd_s_isub hC hd kk
  | imul =>
    cases cd_len1 hl
    obtain ⟨x, z, r, hst, h9⟩ := cd_i2_e h
    clear h
    subst hst
    have h := h9
    clear h9
    cases cd_go_e h
    exact fun r kk => cd_s_imul hC hd kk
  | iand =>
    cases cd_len1 hl
    obtain ⟨x, z, r, hst, h9⟩ := cd_i2_e h
    clear h
    subst hst
    have h := h9
    clear h9
    cases cd_go_e h
    exact fun r kk => cd_s_iand hC hd kk
  | ior =>
    cases cd_len1 hl
    obtain ⟨x, z, r, hst, h9⟩ := cd_i2_e h
    clear h
    subst hst
    have h := h9
    clear h9
    cases cd_go_e h
    exact fun r kk => cd_s_ior hC hd kk
  | ishl =>
    cases cd_len1 hl
    obtain ⟨x, z, r, hst, h9⟩ := cd_i2_e h
    clear h
    subst hst
    have h := h9
    clear h9
    cases cd_go_e h
    exact fun r kk => cd_s_ishl hC hd kk
  | ishr =>
    cases cd_len1 hl
    obtain ⟨x, z, r, hst, h9⟩ := cd_i2_e h
    clear h
    subst hst
    have h := h9
    clear h9
    cases cd_go_e h
    exact fun r kk => cd_s_ishr hC hd kk
  | iushr =>
    cases cd_len1 hl
    obtain ⟨x, z, r, hst, h9⟩ := cd_i2_e h
    clear h
    subst hst
    have h := h9
    clear h9
    cases cd_go_e h
    exact fun r kk => cd_s_iushr hC hd kk
  | idiv =>
    cases cd_len1 hl
    obtain ⟨x, z, r, hst, h9⟩ := cd_i2_e h
    clear h
    subst hst
    have h := h9
    clear h9
    obtain ⟨h0, h⟩ := cd_ifn_e h
    cases cd_go_e h
    exact fun r kk => cd_s_idiv hC h0 hd kk
  | irem =>
    cases cd_len1 hl
    obtain ⟨x, z, r, hst, h9⟩ := cd_i2_e h
    clear h
    subst hst
    have h := h9
    clear h9
    obtain ⟨h0, h⟩ := cd_ifn_e h
    cases cd_go_e h
    exact fun r kk => cd_s_irem hC h0 hd kk
  | ineg =>
    cases cd_len1 hl
    obtain ⟨x, r, hst, h9⟩ := cd_i1_e h
    clear h
    subst hst
    have h := h9
    clear h9
    cases cd_go_e h
    exact fun r kk => cd_s_ineg hC hd kk
  | i2l =>
    cases cd_len1 hl
    obtain ⟨x, r, hst, h9⟩ := cd_i1_e h
    clear h
    subst hst
    have h := h9
    clear h9
    cases cd_go_e h
    exact fun r kk => cd_s_i2l hC hd kk
  | i2b =>
    cases cd_len1 hl
    obtain ⟨x, r, hst, h9⟩ := cd_i1_e h
    clear h
    subst hst
    have h := h9
    clear h9
    cases cd_go_e h
    exact fun r kk => cd_s_i2b hC hd kk
  | i2c =>
    cases cd_len1 hl
    obtain ⟨x, r, hst, h9⟩ := cd_i1_e h
    clear h
    subst hst
    have h := h9
    clear h9
    cases cd_go_e h
    exact fun r kk => cd_s_i2c hC hd kk
  | l2i =>
    cases cd_len1 hl
    obtain ⟨x, r, hst, h9⟩ := cd_l1_e h
    clear h
    subst hst
    have h := h9
    clear h9
    cases cd_go_e h
    exact fun r kk => cd_s_l2i hC hd kk
  | land =>
    cases cd_len1 hl
    obtain ⟨x, z, r, hst, h9⟩ := cd_l2_e h
    clear h
    subst hst
    have h := h9
    clear h9
    cases cd_go_e h
    exact fun r kk => cd_s_land hC hd kk
  | lor =>
    cases cd_len1 hl
    obtain ⟨x, z, r, hst, h9⟩ := cd_l2_e h
    clear h
    subst hst
    have h := h9
    clear h9
    cases cd_go_e h
    exact fun r kk => cd_s_lor hC hd kk
  | lxor =>
    cases cd_len1 hl
    obtain ⟨x, z, r, hst, h9⟩ := cd_l2_e h
    clear h
    subst hst
    have h := h9
    clear h9
    cases cd_go_e h
    exact fun r kk => cd_s_lxor hC hd kk
  | lcmp =>
    cases cd_len1 hl
    obtain ⟨x, z, r, hst, h9⟩ := cd_l2_e h
    clear h
    subst hst
    have h := h9
    clear h9
    cases cd_go_e h
    exact fun r kk => cd_s_lcmp hC hd kk
  | lshl =>
    cases cd_len1 hl
    obtain ⟨x, z, r, hst, h9⟩ := cd_li_e h
    clear h
    subst hst
    have h := h9
    clear h9
    cases cd_go_e h
    exact fun r kk => cd_s_lshl hC hd kk
  | lushr =>
    cases cd_len1 hl
    obtain ⟨x, z, r, hst, h9⟩ := cd_li_e h
    clear h
    subst hst
    have h := h9
    clear h9
    cases cd_go_e h
    exact fun r kk => cd_s_lushr hC hd kk
  | goto off =>
    cases cd_len1 hl
    obtain ⟨t, ht, h⟩ := cd_to_e (f := fun t => cd_go t st M) h
    cases cd_go_e h
    exact fun r kk => cd_s_goto hC ht hd kk
  | ifCond cnd off =>
    cases cd_len1 hl
    cases cnd with
    | eq =>
      obtain ⟨x, r, hst, h9⟩ := cd_i1_e (f := fun a r => cd_to pc off fun t => if a = 0 then cd_go t r M else cd_go (pc + 3) r M) h
      clear h
      subst hst
      have h := h9
      clear h9
      obtain ⟨t, ht, h⟩ := cd_to_e h
      rcases cd_ite_e h with ⟨hz, h⟩ | ⟨hz, h⟩
      · cases cd_go_e h
        exact fun r kk => cd_s_if_eq hC ht hd (fun _ => kk) (fun q => absurd hz q)
      · cases cd_go_e h
        exact fun r kk => cd_s_if_eq hC ht hd (fun q => absurd q hz) (fun _ => kk)
    | ne =>
      obtain ⟨x, r, hst, h9⟩ := cd_i1_e (f := fun a r => cd_to pc off fun t => if a = 0 then cd_go (pc + 3) r M else cd_go t r M) h
      clear h
      subst hst
      have h := h9
      clear h9
      obtain ⟨t, ht, h⟩ := cd_to_e h
      rcases cd_ite_e h with ⟨hz, h⟩ | ⟨hz, h⟩
      · cases cd_go_e h
        exact fun r kk => cd_s_if_ne hC ht hd (fun q => absurd hz q) (fun _ => kk)
      · cases cd_go_e h
        exact fun r kk => cd_s_if_ne hC ht hd (fun _ => kk) (fun q => absurd q hz)
    | lt =>
      obtain ⟨x, r, hst, h9⟩ := cd_i1_e (f := fun a r => cd_to pc off fun t => if a < 0 then cd_go t r M else cd_go (pc + 3) r M) h
      clear h
      subst hst
      have h := h9
      clear h9
      obtain ⟨t, ht, h⟩ := cd_to_e h
      rcases cd_ite_e h with ⟨hz, h⟩ | ⟨hz, h⟩
      · cases cd_go_e h
        exact fun r kk => cd_s_if_lt hC ht hd (fun _ => kk) (fun q => absurd hz q)
      · cases cd_go_e h
        exact fun r kk => cd_s_if_lt hC ht hd (fun q => absurd q hz) (fun _ => kk)
    | ge =>
      obtain ⟨x, r, hst, h9⟩ := cd_i1_e (f := fun a r => cd_to pc off fun t => if 0 ≤ a then cd_go t r M else cd_go (pc + 3) r M) h
      clear h
      subst hst
      have h := h9
      clear h9
      obtain ⟨t, ht, h⟩ := cd_to_e h
      rcases cd_ite_e h with ⟨hz, h⟩ | ⟨hz, h⟩
      · cases cd_go_e h
        exact fun r kk => cd_s_if_ge hC ht hd (fun _ => kk) (fun q => absurd hz q)
      · cases cd_go_e h
        exact fun r kk => cd_s_if_ge hC ht hd (fun q => absurd q hz) (fun _ => kk)
    | gt =>
      obtain ⟨x, r, hst, h9⟩ := cd_i1_e (f := fun a r => cd_to pc off fun t => if 0 < a then cd_go t r M else cd_go (pc + 3) r M) h
      clear h
      subst hst
      have h := h9
      clear h9
      obtain ⟨t, ht, h⟩ := cd_to_e h
      rcases cd_ite_e h with ⟨hz, h⟩ | ⟨hz, h⟩
      · cases cd_go_e h
        exact fun r kk => cd_s_if_gt hC ht hd (fun _ => kk) (fun q => absurd hz q)
      · cases cd_go_e h
        exact fun r kk => cd_s_if_gt hC ht hd (fun q => absurd q hz) (fun _ => kk)
    | le =>
      obtain ⟨x, r, hst, h9⟩ := cd_i1_e (f := fun a r => cd_to pc off fun t => if a ≤ 0 then cd_go t r M else cd_go (pc + 3) r M) h
      clear h
      subst hst
      have h := h9
      clear h9
      obtain ⟨t, ht, h⟩ := cd_to_e h
      rcases cd_ite_e h with ⟨hz, h⟩ | ⟨hz, h⟩
      · cases cd_go_e h
        exact fun r kk => cd_s_if_le hC ht hd (fun _ => kk) (fun q => absurd hz q)
      · cases cd_go_e h
        exact fun r kk => cd_s_if_le hC ht hd (fun q => absurd q hz) (fun _ => kk)
  | if_icmp cnd off =>
    cases cd_len1 hl
    cases cnd with
    | eq =>
      obtain ⟨x, z, r, hst, h9⟩ := cd_i2_e (f := fun a b r => cd_to pc off fun t => if a = b then cd_go t r M else cd_go (pc + 3) r M) h
      clear h
      subst hst
      have h := h9
      clear h9
      obtain ⟨t, ht, h⟩ := cd_to_e h
      rcases cd_ite_e h with ⟨hz, h⟩ | ⟨hz, h⟩
      · cases cd_go_e h
        exact fun r kk => cd_s_icmp_eq hC ht hd (fun _ => kk) (fun q => absurd hz q)
      · cases cd_go_e h
        exact fun r kk => cd_s_icmp_eq hC ht hd (fun q => absurd q hz) (fun _ => kk)
    | ne =>
      obtain ⟨x, z, r, hst, h9⟩ := cd_i2_e (f := fun a b r => cd_to pc off fun t => if a = b then cd_go (pc + 3) r M else cd_go t r M) h
      clear h
      subst hst
      have h := h9
      clear h9
      obtain ⟨t, ht, h⟩ := cd_to_e h
      rcases cd_ite_e h with ⟨hz, h⟩ | ⟨hz, h⟩
      · cases cd_go_e h
        exact fun r kk => cd_s_icmp_ne hC ht hd (fun q => absurd hz q) (fun _ => kk)
      · cases cd_go_e h
        exact fun r kk => cd_s_icmp_ne hC ht hd (fun _ => kk) (fun q => absurd q hz)
    | lt =>
      obtain ⟨x, z, r, hst, h9⟩ := cd_i2_e (f := fun a b r => cd_to pc off fun t => if a < b then cd_go t r M else cd_go (pc + 3) r M) h
      clear h
      subst hst
      have h := h9
      clear h9
      obtain ⟨t, ht, h⟩ := cd_to_e h
      rcases cd_ite_e h with ⟨hz, h⟩ | ⟨hz, h⟩
      · cases cd_go_e h
        exact fun r kk => cd_s_icmp_lt hC ht hd (fun _ => kk) (fun q => absurd hz q)
      · cases cd_go_e h
        exact fun r kk => cd_s_icmp_lt hC ht hd (fun q => absurd q hz) (fun _ => kk)
    | ge =>
      obtain ⟨x, z, r, hst, h9⟩ := cd_i2_e (f := fun a b r => cd_to pc off fun t => if b ≤ a then cd_go t r M else cd_go (pc + 3) r M) h
      clear h
      subst hst
      have h := h9
      clear h9
      obtain ⟨t, ht, h⟩ := cd_to_e h
      rcases cd_ite_e h with ⟨hz, h⟩ | ⟨hz, h⟩
      · cases cd_go_e h
        exact fun r kk => cd_s_icmp_ge hC ht hd (fun _ => kk) (fun q => absurd hz q)
      · cases cd_go_e h
        exact fun r kk => cd_s_icmp_ge hC ht hd (fun q => absurd q hz) (fun _ => kk)
    | gt =>
      obtain ⟨x, z, r, hst, h9⟩ := cd_i2_e (f := fun a b r => cd_to pc off fun t => if b < a then cd_go t r M else cd_go (pc + 3) r M) h
      clear h
      subst hst
      have h := h9
      clear h9
      obtain ⟨t, ht, h⟩ := cd_to_e h
      rcases cd_ite_e h with ⟨hz, h⟩ | ⟨hz, h⟩
      · cases cd_go_e h
        exact fun r kk => cd_s_icmp_gt hC ht hd (fun _ => kk) (fun q => absurd hz q)
      · cases cd_go_e h
        exact fun r kk => cd_s_icmp_gt hC ht hd (fun q => absurd q hz) (fun _ => kk)
    | le =>
      obtain ⟨x, z, r, hst, h9⟩ := cd_i2_e (f := fun a b r => cd_to pc off fun t => if a ≤ b then cd_go t r M else cd_go (pc + 3) r M) h
      clear h
      subst hst
      have h := h9
      clear h9
      obtain ⟨t, ht, h⟩ := cd_to_e h
      rcases cd_ite_e h with ⟨hz, h⟩ | ⟨hz, h⟩
      · cases cd_go_e h
        exact fun r kk => cd_s_icmp_le hC ht hd (fun _ => kk) (fun q => absurd hz q)
      · cases cd_go_e h
        exact fun r kk => cd_s_icmp_le hC ht hd (fun q => absurd q hz) (fun _ => kk)
  | tableswitch dflt lo hi offs =>
    obtain ⟨x, r, hst, h9⟩ := cd_i1_e h
    clear h
    subst hst
    have h := h9
    clear h9
    rcases cd_ite_e h with ⟨hz, h⟩ | ⟨hz, h⟩
    · obtain ⟨t, ht, h⟩ := cd_to_e h
      cases cd_go_e h
      exact fun r kk => cd_s_swOut hC hz ht hd kk
    · cases ho : offs[(x.toInt - lo).toNat]? with
      | none => rw [ho] at h; cases h
      | some off =>
        rw [ho] at h
        obtain ⟨t, ht, h⟩ := cd_to_e h
        cases cd_go_e h
        exact fun r kk => cd_s_swIn hC hz ho ht hd kk
  | dup =>
    cases cd_len1 hl
    cases st with
    | nil => cases h
    | cons v r =>
      obtain ⟨hv, h⟩ := cd_if_e (c := v.category = 1) h
      cases cd_go_e h
      exact fun r kk => cd_s_dup hC hv hd kk
  | pop =>
    cases cd_len1 hl
    cases st with
    | nil => cases h
    | cons v r =>
      obtain ⟨hv, h⟩ := cd_if_e (c := v.category = 1) h
      cases cd_go_e h
      exact fun r kk => cd_s_pop hC hv hd kk
  | dup2 =>
    cases cd_len1 hl
    cases st with
    | nil => cases h
    | cons v r =>
      cases r with
      | nil => cases h
      | cons w r =>
        obtain ⟨hv, h⟩ := cd_if_e (c := v.category = 1 ∧ w.category = 1) h
        cases cd_go_e h
        exact fun r kk => cd_s_dup2 hC hv.1 hv.2 hd kk
  | iaload =>
    cases cd_len1 hl
    obtain ⟨k, j, r, hst, h9⟩ := cd_ri_e h
    clear h
    subst hst
    have h := h9
    clear h9
    obtain ⟨hk, h⟩ := cd_if_e h
    cases cd_go_e h
    exact fun r kk => cd_s_iald hC hk.1 (cd_in_e hk.2) hd kk
  | laload =>
    cases cd_len1 hl
    obtain ⟨k, j, r, hst, h9⟩ := cd_ri_e h
    clear h
    subst hst
    have h := h9
    clear h9
    obtain ⟨hk, h⟩ := cd_if_e h
    cases cd_go_e h
    exact fun r kk => cd_s_lald hC hk.1 (cd_in_e hk.2) hd kk
  | baload =>
    cases cd_len1 hl
    obtain ⟨k, j, r, hst, h9⟩ := cd_ri_e (f := fun k j r => bif Nat.ble 1100 k then (if k < 1113 ∧ cd_in j (cd_sl.getD (k - 1100) 0) = true then cd_go (pc + 1) (.int (cd_sbyte k j) :: r) M else none) else if ((cd_sh k).1 = 22 ∨ (cd_sh k).1 = 23) ∧ cd_in j (cd_sh k).2 = true then cd_go (pc + 1) (.int (M.1 k j.toNatClampNeg) :: r) M else none) h
    clear h
    subst hst
    have h := h9
    clear h9
    cases hb : Nat.ble 1100 k with
    | true =>
      rw [hb] at h
      obtain ⟨hk, h⟩ := cd_if_e (c := k < 1113 ∧ cd_in j (cd_sl.getD (k - 1100) 0) = true) h
      cases cd_go_e h
      exact fun r kk => cd_s_sbald hC ⟨Nat.le_of_ble_eq_true hb, hk.1⟩ (cd_in_e hk.2) hd kk
    | false =>
      rw [hb] at h
      obtain ⟨hk, h⟩ := cd_if_e (c := ((cd_sh k).1 = 22 ∨ (cd_sh k).1 = 23) ∧ cd_in j (cd_sh k).2 = true) h
      cases cd_go_e h
      rcases hk with ⟨hk | hk, hj⟩
      · exact fun r kk => cd_s_bald hC hk (cd_in_e hj) hd kk
      · exact fun r kk => cd_s_zald hC hk (cd_in_e hj) hd kk
  | iastore =>
    cases cd_len1 hl
    obtain ⟨k, j, x, r, hst, h9⟩ := cd_rii_e h
    clear h
    subst hst
    have h := h9
    clear h9
    obtain ⟨hk, h⟩ := cd_if_e h
    cases cd_go_e h
    exact fun r kk => cd_s_iast hC hk.1 (cd_in_e hk.2) hd kk
  | lastore =>
    cases cd_len1 hl
    obtain ⟨k, j, x, r, hst, h9⟩ := cd_ril_e h
    clear h
    subst hst
    have h := h9
    clear h9
    obtain ⟨hk, h⟩ := cd_if_e h
    cases cd_go_e h
    exact fun r kk => cd_s_last hC hk.1 (cd_in_e hk.2) hd kk
  | bastore =>
    cases cd_len1 hl
    obtain ⟨k, j, x, r, hst, h9⟩ := cd_rii_e h
    clear h
    subst hst
    have h := h9
    clear h9
    rcases cd_ite_e h with ⟨hk, h⟩ | ⟨-, h⟩
    · cases cd_go_e h
      exact fun r kk => cd_s_bast hC hk.1 (cd_in_e hk.2) hd kk
    · obtain ⟨hk, h⟩ := cd_if_e h
      cases cd_go_e h
      exact fun r kk => cd_s_zast hC hk.1 (cd_in_e hk.2) hd kk
  | arraylength =>
    cases cd_len1 hl
    obtain ⟨k, r, hst, h9⟩ := cd_r1_e (f := fun k r => bif Nat.ble 1100 k then (if k < 1113 then cd_go (pc + 1) (.int (Int32.ofNat (cd_sl.getD (k - 1100) 0)) :: r) M else none) else if 20 ≤ (cd_sh k).1 ∧ (cd_sh k).1 ≤ 23 then cd_go (pc + 1) (.int (Int32.ofNat (cd_sh k).2) :: r) M else none) h
    clear h
    subst hst
    have h := h9
    clear h9
    cases hb : Nat.ble 1100 k with
    | true =>
      rw [hb] at h
      obtain ⟨hk, h⟩ := cd_if_e (c := k < 1113) h
      cases cd_go_e h
      exact fun r kk => cd_s_salen hC ⟨Nat.le_of_ble_eq_true hb, hk⟩ hd kk
    | false =>
      rw [hb] at h
      obtain ⟨hk, h⟩ := cd_if_e (c := 20 ≤ (cd_sh k).1 ∧ (cd_sh k).1 ≤ 23) h
      cases cd_go_e h
      exact fun r kk => cd_s_alen hC hk hd kk
  | getfield idx =>
    cases cd_len1 hl
    obtain ⟨k, r, hst, h9⟩ := cd_r1_e (f := fun k r => cd_get y idx pc k r M) h
    clear h
    subst hst
    have h := h9
    clear h9
    exact cd_get_snd hC hd h
  | putfield idx =>
    cases cd_len1 hl
    obtain ⟨k, x, r, hst, h9⟩ := cd_fi_e (f := fun k x r => cd_put y idx pc k x r M) h
    clear h
    subst hst
    have h := h9
    clear h9
    exact cd_put_snd hC hd h
  | getstatic idx =>
    cases cd_len1 hl
    have h : (bif Nat.beq (cd_own y) 12 && Nat.beq idx 38 then cd_go (pc + 3) (.int 1 :: st) M else bif Nat.beq (cd_own y) 12 && Nat.beq idx 1053 then cd_go (pc + 3) (.ref 1200 :: st) M else none) = some a := h
    cases hb : Nat.beq (cd_own y) 12 && Nat.beq idx 38 with
    | true =>
      rw [hb] at h
      simp only [Bool.and_eq_true] at hb
      have e1 := Nat.eq_of_beq_eq_true hb.1
      have e2 := Nat.eq_of_beq_eq_true hb.2
      subst e2
      cases cd_go_e h
      exact fun r kk => cd_s_cmp hC hd e1 kk
    | false =>
      rw [hb] at h
      obtain ⟨hb2, h9⟩ := cd_bif_e (c := Nat.beq (cd_own y) 12 && Nat.beq idx 1053) h
      clear h
      simp only [Bool.and_eq_true] at hb2
      have e1 := Nat.eq_of_beq_eq_true hb2.1
      have e2 := Nat.eq_of_beq_eq_true hb2.2
      subst e2
      cases cd_go_e h9
      exact fun r kk => cd_s_fmt hC hd e1 kk
  | invokevirtual idx =>
    cases cd_len1 hl
    exact cd_call_snd (vir := true) hC hd hn h
  | invokestatic idx =>
    cases cd_len1 hl
    have h : (match cd_at2 cd_nat (cd_own y) idx with
      | some (n, _) => cd_math n st y pc M
      | none => cd_call y idx false st) = some a := h
    cases hq : cd_at2 cd_nat (cd_own y) idx with
    | some q =>
      obtain ⟨n, q⟩ := q
      rw [hq] at h
      exact cd_math_snd hC hd hn (cd_at2_mem _ _ _ _ hq) h
    | none =>
      rw [hq] at h
      exact cd_call_snd (vir := false) hC hd hn h
  | ireturn =>
    cases cd_len1 hl
    cases st with
    | nil => cases h
    | cons v r =>
      cases v with
      | int v =>
        cases r with
        | cons w r => cases h
        | nil =>
          have h : (match cd_mr.getD y none with
            | some .int => some (.inr (.inl (some (.int v), M)))
            | some .boolean => if v = 0 ∨ v = 1 then some (.inr (.inl (some (.int v), M))) else none
            | some .char => if narrow .char (.int v) = .int v then some (.inr (.inl (some (.int v), M))) else none
            | some .byte => if narrow .byte (.int v) = .int v then some (.inr (.inl (some (.int v), M))) else none
            | _ => none) = some a := h
          split at h
          · rename_i hr
            cases Option.some.inj h
            exact cd_s_iret hC hd hr rfl
          · rename_i hr
            obtain ⟨hv, h⟩ := cd_if_e h
            cases Option.some.inj h
            exact cd_s_iret hC hd hr (cd_narZ hv).1
          · rename_i hr
            obtain ⟨hv, h⟩ := cd_if_e h
            cases Option.some.inj h
            exact cd_s_iret hC hd hr hv
          · rename_i hr
            obtain ⟨hv, h⟩ := cd_if_e h
            cases Option.some.inj h
            exact cd_s_iret hC hd hr hv
          · cases h
      | _ => cases r <;> cases h
  | lreturn =>
    cases cd_len1 hl
    cases st with
    | nil => cases h
    | cons v r =>
      cases v with
      | long v =>
        cases r with
        | cons w r => cases h
        | nil =>
          have h : (match cd_mr.getD y none with
            | some .long => some (.inr (.inl (some (.long v), M)))
            | _ => none) = some a := h
          split at h
          · rename_i hr
            cases Option.some.inj h
            exact cd_s_lret hC hd hr
          · cases h
      | _ => cases r <;> cases h
  | areturn =>
    cases cd_len1 hl
    cases st with
    | nil => cases h
    | cons v r =>
      cases v with
      | ref v =>
        cases r with
        | cons w r => cases h
        | nil =>
          have h : (match cd_mr.getD y none with
            | some (.object _) => some (.inr (.inl (some (.ref v), M)))
            | _ => none) = some a := h
          split at h
          · rename_i hr
            cases Option.some.inj h
            exact cd_s_aret hC hd hr
          · cases h
      | _ => cases r <;> cases h
  | return_ =>
    cases cd_len1 hl
    cases st with
    | cons v r => cases h
    | nil =>
      have h : (match cd_mr.getD y none with
        | none => bif Nat.ble y 244 then some (.inr (.inl (none, M))) else none
        | _ => none) = some a := h
      split at h
      · rename_i hr
        obtain ⟨-, h⟩ := cd_bif_e h
        cases Option.some.inj h
        exact cd_s_vret hC hd hr
      · cases h
  | _ => cases h
end cdQ
end
section
/-! every run, every method -/
theorem cd_sl_em (ad : Nat → Nat) (fm : Value) (hf : fm = .null ∨ ∃ a, fm = .ref a) : ∀ as : List Value, lg_sl (as.map (cd_em ad fm)) = (lg_sl as).map (fun x => match x with | .val v => .val (cd_em ad fm v) | z => z)
  | [] => rfl
  | v :: as => by
    have h := cd_sl_em ad fm hf as
    unfold lg_sl at h ⊢
    simp only [List.map_cons, List.flatMap_cons, List.map_append]
    rw [h, cd_em_cat ad fm hf]
    by_cases hc : v.category = 2
    · simp [hc]
    · simp [hc]
theorem cd_ent_len {y : Nat} {as : List Value} (h : (lg_sl as).length ≤ cd_ml.getD y 0) : (cd_ent y as).length = cd_ml.getD y 0 := by
  unfold cd_ent
  rw [List.length_append, List.length_map, List.length_replicate]
  omega
theorem cd_ent_lr {ad : Nat → Nat} {fm : Value} (hf : fm = .null ∨ ∃ a, fm = .ref a) {y : Nat} {as : List Value} (h : (lg_sl as).length ≤ cd_ml.getD y 0) {la : Array Slot} (hw : lv_wf la) (hla : la = (lg_sl (as.map (cd_em ad fm)) ++ List.replicate (cd_ml.getD y 0 - (lg_sl (as.map (cd_em ad fm))).length) Slot.unset).toArray) : cd_lr ad fm la (cd_ent y as) := by
  have hs := cd_sl_em ad fm hf as
  have hlen : (lg_sl (as.map (cd_em ad fm))).length = (lg_sl as).length := by rw [hs, List.length_map]
  refine ⟨?_, hw, fun i v hi => ?_⟩
  · rw [cd_ent_len h, hla]
    simp only [List.size_toArray, List.length_append, List.length_replicate]
    omega
  · rw [hla, List.getElem?_toArray]
    unfold cd_ent at hi
    by_cases hl : i < (lg_sl as).length
    · rw [List.getElem?_append_left (by rw [List.length_map]; exact hl), List.getElem?_map] at hi
      rw [List.getElem?_append_left (by omega), hs, List.getElem?_map]
      rw [List.getElem?_eq_getElem hl] at hi ⊢
      revert hi
      generalize (lg_sl as)[i] = x
      intro hi
      cases x with
      | val w =>
        have hi : w = v := Option.some.inj (Option.some.inj hi)
        rw [hi]
        rfl
      | _ => cases hi
    · rw [List.getElem?_append_right (by rw [List.length_map]; omega)] at hi
      have h1 := List.mem_of_getElem? hi
      have h2 := (List.mem_replicate.mp h1).2
      cases h2
theorem cd_own_name {y : Nat} (hy : y < 245) : (cd_y y).cls = cd_c (cd_own y) := (cd_mOK2 y hy).1
def cd_Snd (n : Nat) : Prop := ∀ (y pc : Nat) (ls : List (Option Value)) (st : List Value) (M : cd_M) (r : Option Value × cd_M), cd_ex n y pc ls st M = some r → ls.length = cd_ml.getD y 0 →
  ∀ (p : Program) (l : Launch) (e : Env) (s : State) (m : MethodId) (args : Array Value) (below : List Frame) (meth : Method) (c : Code) (D : va_G) (cy : Nat → ClassId) (ad : Nat → Nat) (fm : Value) (A : Nat → Prop), cd_Cx p s m args meth c y D cy ad fm A → cd_OK p l e s m args below meth c y D cy ad fm A pc ls st M r
/-- a run of a method's body gives its contract -/
theorem cd_met {n : Nat} (hS : cd_Snd n) {y : Nat} (hy : y < 245) {as : List Value} {M : cd_M} {r : Option Value × cd_M} (hsz : (lg_sl as).length ≤ cd_ml.getD y 0) (h : cd_ex n y 0 (cd_ent y as) [] M = some r) (l : Launch) (D : va_G) (cy : Nat → ClassId) (ad : Nat → Nat) (fm : Value) : cd_Mt l D cy ad fm y as M r := by
  intro sz
  refine Met.ofW (cc := (cd_code y).1) (maxL := cd_ml.getD y 0) (ret := cd_mr.getD y none) (cd_mOK2 y hy).2.1 rfl ?_
  intro p e s m args below meth c s₁ B hml hv
  obtain ⟨rfl, hsize, hP, hK, hD0, hSt⟩ := hv
  have hts := atoms_spec (ws := cd_wsO y) B.pre
  have hown : s.vm.findClass (cd_y y).cls = some m.cls := findClass_of_methodNamed B.named
  rw [cd_own_name hy] at hown
  subst hsize
  have hD := hD0.self (sz := s.heap.size)
  have hf := hSt.1
  have hC : cd_Cx p s m (as.map (cd_em ad fm)).toArray meth c y D cy ad fm (va_A (cd_ws cy ad M) s.heap.size) := ⟨B.exec, B.bytes, B.returns, hml, hown, fun w hw => hts w (List.mem_cons_of_mem _ hw), B.notSynchronized, hK, hSt, fun q hq => Or.inr hq, hy⟩
  have hsl : (lg_sl (as.map (cd_em ad fm))).length ≤ cd_ml.getD y 0 := by rw [cd_sl_em ad fm hf, List.length_map]; exact hsz
  have hl := lv_entry (as.map (cd_em ad fm)) (n := cd_ml.getD y 0) hsl
  rw [lg_entry_eq]
  exact hS y 0 (cd_ent y as) [] M r h (cd_ent_len hsz) p l e s m _ below meth c D cy ad fm _ hC s.heap [] _ hP hD va_S.rf (cd_ent_lr hf hsz hl.2.1 rfl)
theorem cd_snd : ∀ n, cd_Snd n
  | 0 => fun y pc ls st M r h => by cases h
  | n + 1 => by
    have ih := cd_snd n
    intro y pc ls st M r h hn p l e s m args below meth c D cy ad fm A hC
    rw [cd_ex] at h
    cases ht : cd_tab y pc with
    | none => rw [ht] at h; cases h
    | some q =>
      obtain ⟨i, len⟩ := q
      rw [ht] at h
      obtain ⟨hd, hlen⟩ := cd_code_ok ht
      dsimp only at h
      cases hloc : cd_loc i with
      | some q =>
        obtain ⟨o, t, k⟩ := q
        rw [hloc] at h
        cases o with
        | zero =>
          dsimp only at h
          cases hv : ls.getD k none with
          | none => rw [hv] at h; cases h
          | some v =>
            rw [hv] at h
            obtain ⟨hty, h2⟩ := cd_bif_e h
            exact cd_s_load hC hd hlen hloc hv (Nat.eq_of_beq_eq_true hty) (ih _ _ _ _ _ _ h2 hn p l e s m args below meth c D cy ad fm A hC)
        | succ o =>
          dsimp only at h
          cases st with
          | nil => cases h
          | cons v st =>
            obtain ⟨hty, h2⟩ := cd_bif_e h
            simp only [Bool.and_eq_true] at hty
            exact cd_s_store hC hd hlen hloc (Nat.eq_of_beq_eq_true hty.1) (Nat.le_of_ble_eq_true hty.2) (ih _ _ _ _ _ _ h2 (by rw [cd_sto_len]; exact hn) p l e s m args below meth c D cy ad fm A hC)
      | none =>
        rw [hloc] at h
        dsimp only at h
        cases hinc : cd_inc i with
        | some q =>
          obtain ⟨k, d⟩ := q
          rw [hinc] at h
          dsimp only at h
          have hi : i = .iinc k d := by
            cases i with
            | iinc k' d' =>
              have h3 : (k', d') = (k, d) := Option.some.inj hinc
              cases h3
              rfl
            | _ => cases hinc
          subst hi
          have h3 : len = 3 := cd_len1 hlen
          subst h3
          cases hv : ls.getD k none with
          | none => rw [hv] at h; cases h
          | some v =>
            rw [hv] at h
            cases v with
            | int x =>
              obtain ⟨hb, h2⟩ := cd_bif_e h
              exact cd_s_iinc hC hd hv (Nat.le_of_ble_eq_true hb) (ih _ _ _ _ _ _ h2 (by rw [cd_sto_len]; exact hn) p l e s m args below meth c D cy ad fm A hC)
            | _ => cases h
        | none =>
          rw [hinc] at h
          dsimp only at h
          cases ho : cd_oth y pc len i st M with
          | none => rw [ho] at h; cases h
          | some a =>
            rw [ho] at h
            have hth := cd_oth_snd (l := l) (e := e) (below := below) hC hd hlen hn ho
            cases a with
            | inl q =>
              obtain ⟨pc', st', M'⟩ := q
              exact hth r (ih _ _ _ _ _ _ h hn p l e s m args below meth c D cy ad fm A hC)
            | inr a =>
              cases a with
              | inl q =>
                have h2 : q = r := Option.some.inj h
                rw [← h2]
                exact hth
              | inr q =>
                obtain ⟨yc, as, rs⟩ := q
                obtain ⟨hy2, hs2, hth⟩ := hth
                dsimp only at h hy2 hs2 hth
                cases hc : cd_ex n yc 0 (cd_ent yc as) [] M with
                | none => rw [hc] at h; cases h
                | some r1 =>
                  obtain ⟨v, M'⟩ := r1
                  rw [hc] at h
                  exact hth (v, M') r (cd_met ih hy2 hs2 hc l D cy ad fm) (ih _ _ _ _ _ _ h hn p l e s m args below meth c D cy ad fm A hC)
/-- THE ABSTRACT MACHINE IS THE MACHINE -/
theorem cd_sound {n y : Nat} (hy : y < 245) {as : List Value} {M : cd_M} {r : Option Value × cd_M} (hsz : (lg_sl as).length ≤ cd_ml.getD y 0) (h : cd_ex n y 0 (cd_ent y as) [] M = some r) (l : Launch) (D : va_G) (cy : Nat → ClassId) (ad : Nat → Nat) (fm : Value) : cd_Mt l D cy ad fm y as M r := cd_met (cd_snd n) hy hsz h l D cy ad fm
end
section
/-! runs of the abstract machine, goal first: cd_R y pc ls st M o: if o is some r, the run from here comes to r -/
theorem cd_ex_up : ∀ (n y pc : Nat) (ls : List (Option Value)) (st : List Value) (M : cd_M) (r : Option Value × cd_M), cd_ex n y pc ls st M = some r → cd_ex (n + 1) y pc ls st M = some r
  | 0, _, _, _, _, _, _, h => by cases h
  | n + 1, y, pc, ls, st, M, r, h => by
    have ih := cd_ex_up n
    rw [cd_ex] at h
    rw [cd_ex]
    cases ht : cd_tab y pc with
    | none => rw [ht] at h; cases h
    | some q =>
      obtain ⟨i, len⟩ := q
      rw [ht] at h
      dsimp only at h ⊢
      cases hloc : cd_loc i with
      | some q =>
        obtain ⟨o, t, k⟩ := q
        rw [hloc] at h
        cases o with
        | zero =>
          dsimp only at h ⊢
          cases hv : ls.getD k none with
          | none => rw [hv] at h; cases h
          | some v =>
            rw [hv] at h
            dsimp only at h ⊢
            obtain ⟨hty, h2⟩ := cd_bif_e h
            rw [hty]
            exact ih _ _ _ _ _ _ h2
        | succ o =>
          dsimp only at h ⊢
          cases st with
          | nil => cases h
          | cons v st =>
            dsimp only at h ⊢
            obtain ⟨hty, h2⟩ := cd_bif_e h
            rw [hty]
            exact ih _ _ _ _ _ _ h2
      | none =>
        rw [hloc] at h
        dsimp only at h ⊢
        cases hinc : cd_inc i with
        | some q =>
          obtain ⟨k, d⟩ := q
          rw [hinc] at h
          dsimp only at h ⊢
          cases hv : ls.getD k none with
          | none => rw [hv] at h; cases h
          | some v =>
            rw [hv] at h
            cases v with
            | int x =>
              dsimp only at h ⊢
              obtain ⟨hb, h2⟩ := cd_bif_e h
              rw [hb]
              exact ih _ _ _ _ _ _ h2
            | _ => cases h
        | none =>
          rw [hinc] at h
          dsimp only at h ⊢
          cases ho : cd_oth y pc len i st M with
          | none => rw [ho] at h; cases h
          | some a =>
            rw [ho] at h
            cases a with
            | inl q =>
              obtain ⟨pc', st', M'⟩ := q
              exact ih _ _ _ _ _ _ h
            | inr a =>
              cases a with
              | inl q => exact h
              | inr q =>
                obtain ⟨yc, as, rs⟩ := q
                dsimp only at h ⊢
                cases hc : cd_ex n yc 0 (cd_ent yc as) [] M with
                | none => rw [hc] at h; cases h
                | some r1 =>
                  obtain ⟨v, M'⟩ := r1
                  rw [hc] at h
                  rw [ih _ _ _ _ _ _ hc]
                  exact ih _ _ _ _ _ _ h
theorem cd_ex_le {n k : Nat} (hk : n ≤ k) {y pc : Nat} {ls : List (Option Value)} {st : List Value} {M : cd_M} {r : Option Value × cd_M} (h : cd_ex n y pc ls st M = some r) : cd_ex k y pc ls st M = some r := by
  induction hk with
  | refl => exact h
  | step _ ih => exact cd_ex_up _ _ _ _ _ _ _ ih
def cd_le (a b : List (Option Value)) : Prop := a.length = b.length ∧ ∀ (i : Nat) (v : Value), a[i]? = some (some v) → b[i]? = some (some v)
theorem cd_le_0 : cd_le [] [] := ⟨rfl, fun _ _ h => h⟩
theorem cd_le_n {a b : List (Option Value)} {x : Option Value} (h : cd_le a b) : cd_le (none :: a) (x :: b) := ⟨by simp [h.1], fun i v hi => by
  cases i with
  | zero => cases hi
  | succ i => exact h.2 i v hi⟩
theorem cd_le_s {a b : List (Option Value)} {x : Option Value} (h : cd_le a b) : cd_le (x :: a) (x :: b) := ⟨by simp [h.1], fun i v hi => by
  cases i with
  | zero => exact hi
  | succ i => exact h.2 i v hi⟩
theorem cd_pre_put {ls : List (Option Value)} {k i : Nat} {w : Value} (h : ls[i]? = some (some w)) (hc : ¬ (i + 1 = k ∧ w.category = 2)) : (cd_pre ls k)[i]? = some (some w) := by
  cases k with
  | zero => exact h
  | succ j =>
    show (ls.set j (cd_kill (ls.getD j none)))[i]? = some (some w)
    by_cases e : i = j
    · subst e
      have hl := (List.getElem?_eq_some_iff.mp h).1
      rw [List.getElem?_set_self hl, List.getD_eq_getElem?_getD, h]
      have h2 : ¬ w.category = 2 := fun z => hc ⟨rfl, z⟩
      cases w with
      | long z => exact absurd rfl h2
      | double z => exact absurd rfl h2
      | _ => rfl
    · rw [List.getElem?_set_ne (fun z => e z.symm)]
      exact h
theorem cd_sto_put {ls : List (Option Value)} {k i : Nat} {v w : Value} (hk : k < ls.length) (h : (i = k ∧ w = v) ∨ (¬ i = k ∧ ls[i]? = some (some w) ∧ ¬ (i + 1 = k ∧ w.category = 2) ∧ (cd_ty v = 1 → ¬ i = k + 1))) : (cd_sto ls k v)[i]? = some (some w) := by
  have hl1 : (cd_pre ls k).length = ls.length := by cases k <;> simp [cd_pre]
  unfold cd_sto
  rcases h with ⟨rfl, rfl⟩ | ⟨e, h1, h2, h3⟩
  · cases hb : Nat.beq (cd_ty w) 1 with
    | true =>
      show (((cd_pre ls i).set i (some w)).set (i + 1) none)[i]? = some (some w)
      rw [List.getElem?_set_ne (by omega), List.getElem?_set_self (by omega)]
    | false =>
      show ((cd_pre ls i).set i (some w))[i]? = some (some w)
      rw [List.getElem?_set_self (by omega)]
  · have h5 := cd_pre_put h1 h2
    cases hb : Nat.beq (cd_ty v) 1 with
    | true =>
      have h6 := h3 (Nat.eq_of_beq_eq_true hb)
      show (((cd_pre ls k).set k (some v)).set (k + 1) none)[i]? = some (some w)
      rw [List.getElem?_set_ne (by omega), List.getElem?_set_ne (by omega)]
      exact h5
    | false =>
      show ((cd_pre ls k).set k (some v))[i]? = some (some w)
      rw [List.getElem?_set_ne (by omega)]
      exact h5
theorem cd_sto_le {a b : List (Option Value)} {k : Nat} {v : Value} (h : cd_le a b) (hk : k < a.length) : cd_le (cd_sto a k v) (cd_sto b k v) := by
  refine ⟨by rw [cd_sto_len, cd_sto_len, h.1], fun i w hi => ?_⟩
  refine cd_sto_put (by rw [← h.1]; exact hk) ?_
  rcases cd_sto_get hk hi with ⟨e1, e2⟩ | ⟨e, h1, h2, h3⟩
  · exact Or.inl ⟨e1, e2⟩
  · exact Or.inr ⟨e, h.2 i w h1, h2, h3⟩
theorem cd_getD_i {ls : List (Option Value)} {k : Nat} {v : Value} (h : ls[k]? = some (some v)) : ls.getD k none = some v := by
  rw [List.getD_eq_getElem?_getD, h]
  rfl
theorem cd_ex_w : ∀ (n y pc : Nat) (a b : List (Option Value)) (st : List Value) (M : cd_M) (r : Option Value × cd_M), cd_le a b → cd_ex n y pc a st M = some r → cd_ex n y pc b st M = some r
  | 0, _, _, _, _, _, _, _, _, h => by cases h
  | n + 1, y, pc, a, b, st, M, r, hab, h => by
    have ih := cd_ex_w n
    rw [cd_ex] at h
    rw [cd_ex]
    cases ht : cd_tab y pc with
    | none => rw [ht] at h; cases h
    | some q =>
      obtain ⟨i, len⟩ := q
      rw [ht] at h
      dsimp only at h ⊢
      cases hloc : cd_loc i with
      | some q =>
        obtain ⟨o, t, k⟩ := q
        rw [hloc] at h
        cases o with
        | zero =>
          dsimp only at h ⊢
          cases hv : a.getD k none with
          | none => rw [hv] at h; cases h
          | some v =>
            rw [hv] at h
            rw [cd_getD_i (hab.2 k v (cd_getD_e hv))]
            dsimp only at h ⊢
            obtain ⟨hty, h2⟩ := cd_bif_e h
            rw [hty]
            exact ih _ _ _ _ _ _ _ hab h2
        | succ o =>
          dsimp only at h ⊢
          cases st with
          | nil => cases h
          | cons v st =>
            dsimp only at h ⊢
            obtain ⟨hty, h2⟩ := cd_bif_e h
            rw [← hab.1, hty]
            simp only [Bool.and_eq_true] at hty
            have h3 := Nat.le_of_ble_eq_true hty.2
            have h4 := lv_cat v
            exact ih _ _ _ _ _ _ _ (cd_sto_le hab (by omega)) h2
      | none =>
        rw [hloc] at h
        dsimp only at h ⊢
        cases hinc : cd_inc i with
        | some q =>
          obtain ⟨k, d⟩ := q
          rw [hinc] at h
          dsimp only at h ⊢
          cases hv : a.getD k none with
          | none => rw [hv] at h; cases h
          | some v =>
            rw [hv] at h
            rw [cd_getD_i (hab.2 k v (cd_getD_e hv))]
            cases v with
            | int x =>
              dsimp only at h ⊢
              obtain ⟨hb, h2⟩ := cd_bif_e h
              rw [← hab.1, hb]
              have h3 := Nat.le_of_ble_eq_true hb
              exact ih _ _ _ _ _ _ _ (cd_sto_le hab (by omega)) h2
            | _ => cases h
        | none =>
          rw [hinc] at h
          dsimp only at h ⊢
          cases ho : cd_oth y pc len i st M with
          | none => rw [ho] at h; cases h
          | some q =>
            rw [ho] at h
            cases q with
            | inl q =>
              obtain ⟨pc', st', M'⟩ := q
              exact ih _ _ _ _ _ _ _ hab h
            | inr q =>
              cases q with
              | inl q => exact h
              | inr q =>
                obtain ⟨yc, as, rs⟩ := q
                dsimp only at h ⊢
                cases hc : cd_ex n yc 0 (cd_ent yc as) [] M with
                | none => rw [hc] at h; cases h
                | some r1 =>
                  obtain ⟨v, M'⟩ := r1
                  rw [hc] at h
                  exact ih _ _ _ _ _ _ _ hab h
def cd_R (y pc : Nat) (ls : List (Option Value)) (st : List Value) (M : cd_M) (o : Option (Option Value × cd_M)) : Prop := ∀ r, o = some r → ∃ n, cd_ex n y pc ls st M = some r
def cd_lt {α β : Type} (v : α) (k : α → β) : β := k v
section cdP
variable {y pc : Nat} {ls : List (Option Value)} {st : List Value} {M : cd_M} {o : Option (Option Value × cd_M)}
theorem r_none : cd_R y pc ls st M none := fun r h => by cases h
theorem r_w {a : List (Option Value)} (h : cd_R y pc a st M o) (hab : cd_le a ls) : cd_R y pc ls st M o := fun r hr => by
  obtain ⟨n, hn⟩ := h r hr
  exact ⟨n, cd_ex_w n _ _ _ _ _ _ _ hab hn⟩
theorem r_go (i : Instr) (len : Nat) (ht : cd_tab y pc = some (i, len)) (hl : cd_loc i = none) (hi : cd_inc i = none) (pc' : Nat) (st' : List Value) (ho : cd_oth y pc len i st M = some (.inl (pc', st', M))) (k : cd_R y pc' ls st' M o) : cd_R y pc ls st M o := fun r hr => by
  obtain ⟨n, hn⟩ := k r hr
  refine ⟨n + 1, ?_⟩
  rw [cd_ex, ht]
  dsimp only
  rw [hl, hi, ho]
  exact hn
/-- a write: the new memory gets a name -/
theorem r_wr (i : Instr) (len : Nat) (ht : cd_tab y pc = some (i, len)) (hl : cd_loc i = none) (hi : cd_inc i = none) (pc' : Nat) (st' : List Value) (M' : cd_M) (ho : cd_oth y pc len i st M = some (.inl (pc', st', M'))) {K : cd_M → Option (Option Value × cd_M)} (k : ∀ M1, cd_R y pc' ls st' M1 (K M1)) : cd_R y pc ls st M (cd_lt M' K) := fun r hr => by
  obtain ⟨n, hn⟩ := k M' r hr
  refine ⟨n + 1, ?_⟩
  rw [cd_ex, ht]
  dsimp only
  rw [hl, hi, ho]
  exact hn
/-- a step that may fail -/
theorem r_if (i : Instr) (len : Nat) (ht : cd_tab y pc = some (i, len)) (hl : cd_loc i = none) (hi : cd_inc i = none) {c : Prop} [Decidable c] (pc' : Nat) (st' : List Value) (ho : c → cd_oth y pc len i st M = some (.inl (pc', st', M))) (k : cd_R y pc' ls st' M o) : cd_R y pc ls st M (if c then o else none) := fun r hr => by
  obtain ⟨hc, hr⟩ := cd_if_e hr
  obtain ⟨n, hn⟩ := k r hr
  refine ⟨n + 1, ?_⟩
  rw [cd_ex, ht]
  dsimp only
  rw [hl, hi, ho hc]
  exact hn
theorem r_wif (i : Instr) (len : Nat) (ht : cd_tab y pc = some (i, len)) (hl : cd_loc i = none) (hi : cd_inc i = none) {c : Prop} [Decidable c] (pc' : Nat) (st' : List Value) (M' : cd_M) (ho : c → cd_oth y pc len i st M = some (.inl (pc', st', M'))) {K : cd_M → Option (Option Value × cd_M)} (k : ∀ M1, cd_R y pc' ls st' M1 (K M1)) : cd_R y pc ls st M (if c then cd_lt M' K else none) := fun r hr => by
  obtain ⟨hc, hr⟩ := cd_if_e hr
  exact r_wr i len ht hl hi pc' st' M' (ho hc) k r hr
/-- a branch -/
theorem r_br (i : Instr) (len : Nat) (ht : cd_tab y pc = some (i, len)) (hl : cd_loc i = none) (hi : cd_inc i = none) (c : Prop) [Decidable c] (t f : Nat) (st' : List Value) (ho : cd_oth y pc len i st M = if c then cd_go t st' M else cd_go f st' M) {a b : Option (Option Value × cd_M)} (kt : cd_R y t ls st' M a) (kf : cd_R y f ls st' M b) : cd_R y pc ls st M (if c then a else b) := fun r hr => by
  by_cases hc : c
  · rw [if_pos hc] at hr ho
    exact r_go i len ht hl hi t st' ho kt r hr
  · rw [if_neg hc] at hr ho
    exact r_go i len ht hl hi f st' ho kf r hr
theorem r_or (c : Prop) [Decidable c] {a b : Option (Option Value × cd_M)} (kt : c → cd_R y pc ls st M a) (kf : ¬ c → cd_R y pc ls st M b) : cd_R y pc ls st M (if c then a else b) := fun r hr => by
  by_cases hc : c
  · rw [if_pos hc] at hr
    exact kt hc r hr
  · rw [if_neg hc] at hr
    exact kf hc r hr
theorem r_ld (i : Instr) (len t k : Nat) (v : Value) (ht : cd_tab y pc = some (i, len)) (hl : cd_loc i = some (0, t, k)) (hv : ls.getD k none = some v) (hty : Nat.beq (cd_ty v) t = true) (pc' : Nat) (hp : pc + len = pc') (kk : cd_R y pc' ls (v :: st) M o) : cd_R y pc ls st M o := fun r hr => by
  subst hp
  obtain ⟨n, hn⟩ := kk r hr
  refine ⟨n + 1, ?_⟩
  rw [cd_ex, ht]
  dsimp only
  rw [hl]
  dsimp only
  rw [hv]
  dsimp only
  rw [hty]
  exact hn
theorem r_st (i : Instr) (len t k : Nat) {v : Value} (ht : cd_tab y pc = some (i, len)) (hl : cd_loc i = some (1, t, k)) (hty : (Nat.beq (cd_ty v) t && Nat.ble (k + v.category) ls.length) = true) (pc' : Nat) (hp : pc + len = pc') (ls' : List (Option Value)) (hs : cd_sto ls k v = ls') (kk : cd_R y pc' ls' st M o) : cd_R y pc ls (v :: st) M o := fun r hr => by
  subst hp
  obtain ⟨n, hn⟩ := kk r hr
  refine ⟨n + 1, ?_⟩
  rw [cd_ex, ht]
  dsimp only
  rw [hl]
  dsimp only
  rw [hty, hs]
  exact hn
/-- a store of a computed int: it gets a name -/
theorem r_stB (i : Instr) (len t k : Nat) {x : Int32} (ht : cd_tab y pc = some (i, len)) (hl : cd_loc i = some (1, t, k)) (hty : ∀ x : Int32, (Nat.beq (cd_ty (.int x)) t && Nat.ble (k + (Value.int x).category) ls.length) = true) (pc' : Nat) (hp : pc + len = pc') (ls' : Int32 → List (Option Value)) (hs : ∀ x, cd_sto ls k (.int x) = ls' x) {K : Int32 → Option (Option Value × cd_M)} (kk : ∀ x, cd_R y pc' (ls' x) st M (K x)) : cd_R y pc ls (.int x :: st) M (cd_lt x K) := r_st i len t k ht hl (hty x) pc' hp (ls' x) (hs x) (kk x)
theorem r_stBL (i : Instr) (len t k : Nat) {x : Int64} (ht : cd_tab y pc = some (i, len)) (hl : cd_loc i = some (1, t, k)) (hty : ∀ x : Int64, (Nat.beq (cd_ty (.long x)) t && Nat.ble (k + (Value.long x).category) ls.length) = true) (pc' : Nat) (hp : pc + len = pc') (ls' : Int64 → List (Option Value)) (hs : ∀ x, cd_sto ls k (.long x) = ls' x) {K : Int64 → Option (Option Value × cd_M)} (kk : ∀ x, cd_R y pc' (ls' x) st M (K x)) : cd_R y pc ls (.long x :: st) M (cd_lt x K) := r_st i len t k ht hl (hty x) pc' hp (ls' x) (hs x) (kk x)
theorem r_inc (k : Nat) (d : Int) (x : Int32) (ht : cd_tab y pc = some (.iinc k d, 3)) (hv : ls.getD k none = some (.int x)) (hk : Nat.ble (k + 1) ls.length = true) (pc' : Nat) (hp : pc + 3 = pc') (d' : Int32) (hd : Int32.ofInt d = d') (ls' : Int32 → List (Option Value)) (hs : ∀ x, cd_sto ls k (.int x) = ls' x) {K : Int32 → Option (Option Value × cd_M)} (kk : ∀ x, cd_R y pc' (ls' x) st M (K x)) : cd_R y pc ls st M (cd_lt (x + d') K) := fun r hr => by
  subst hp
  subst hd
  obtain ⟨n, hn⟩ := kk (x + Int32.ofInt d) r hr
  refine ⟨n + 1, ?_⟩
  rw [cd_ex, ht]
  dsimp only [cd_loc, cd_inc]
  rw [hv]
  dsimp only
  rw [hk, hs]
  exact hn
theorem r_ret (i : Instr) (len : Nat) (ht : cd_tab y pc = some (i, len)) (hl : cd_loc i = none) (hi : cd_inc i = none) (q : Option Value × cd_M) (ho : cd_oth y pc len i st M = some (.inr (.inl q))) : cd_R y pc ls st M (some q) := fun r hr => by
  refine ⟨1, ?_⟩
  rw [cd_ex, ht]
  dsimp only
  rw [hl, hi, ho]
  exact hr
/-- an end that wants a 0 or 1 -/
theorem r_retZ {v : Int32} (ht : cd_tab y pc = some (.ireturn, 1)) (hr : cd_mr.getD y none = some .boolean) (hv : v = 0 ∨ v = 1) : cd_R y pc ls [.int v] M (some (some (.int v), M)) := by
  refine r_ret .ireturn 1 ht rfl rfl _ ?_
  show ((match cd_mr.getD y none with
      | some .int => some (.inr (.inl (some (.int v), M)))
      | some .boolean => if v = 0 ∨ v = 1 then some (.inr (.inl (some (.int v), M))) else none
      | some .char => if narrow .char (.int v) = .int v then some (.inr (.inl (some (.int v), M))) else none
      | some .byte => if narrow .byte (.int v) = .int v then some (.inr (.inl (some (.int v), M))) else none
      | _ => none) : Option cd_A) = some (.inr (.inl (some (.int v), M)))
  rw [hr]
  exact if_pos hv
theorem r_retC {v : Int32} (ht : cd_tab y pc = some (.ireturn, 1)) (hr : cd_mr.getD y none = some .char) (hv : narrow .char (.int v) = .int v) : cd_R y pc ls [.int v] M (some (some (.int v), M)) := by
  refine r_ret .ireturn 1 ht rfl rfl _ ?_
  show ((match cd_mr.getD y none with
      | some .int => some (.inr (.inl (some (.int v), M)))
      | some .boolean => if v = 0 ∨ v = 1 then some (.inr (.inl (some (.int v), M))) else none
      | some .char => if narrow .char (.int v) = .int v then some (.inr (.inl (some (.int v), M))) else none
      | some .byte => if narrow .byte (.int v) = .int v then some (.inr (.inl (some (.int v), M))) else none
      | _ => none) : Option cd_A) = some (.inr (.inl (some (.int v), M)))
  rw [hr]
  exact if_pos hv
theorem r_retB {v : Int32} (ht : cd_tab y pc = some (.ireturn, 1)) (hr : cd_mr.getD y none = some .byte) (hv : narrow .byte (.int v) = .int v) : cd_R y pc ls [.int v] M (some (some (.int v), M)) := by
  refine r_ret .ireturn 1 ht rfl rfl _ ?_
  show ((match cd_mr.getD y none with
      | some .int => some (.inr (.inl (some (.int v), M)))
      | some .boolean => if v = 0 ∨ v = 1 then some (.inr (.inl (some (.int v), M))) else none
      | some .char => if narrow .char (.int v) = .int v then some (.inr (.inl (some (.int v), M))) else none
      | some .byte => if narrow .byte (.int v) = .int v then some (.inr (.inl (some (.int v), M))) else none
      | _ => none) : Option cd_A) = some (.inr (.inl (some (.int v), M)))
  rw [hr]
  exact if_pos hv
/-- a call: what the callee comes to, then the rest -/
theorem r_call (i : Instr) (ht : cd_tab y pc = some (i, 3)) (hl : cd_loc i = none) (hi : cd_inc i = none) (yc : Nat) (as rs : List Value) (ho : cd_oth y pc 3 i st M = some (.inr (.inr (yc, as, rs)))) {F : Option (Option Value × cd_M)} (hc : cd_R yc 0 (cd_ent yc as) [] M F) {K : Option Value → cd_M → Option (Option Value × cd_M)} (k : ∀ v M', F = some (v, M') → cd_R y (pc + 3) ls (v.toList ++ rs) M' (K v M')) : cd_R y pc ls st M (F.bind fun q => K q.1 q.2) := fun r hr => by
  cases hF : F with
  | none => rw [hF] at hr; cases hr
  | some q =>
    obtain ⟨v, M'⟩ := q
    rw [hF] at hr
    obtain ⟨n, hn⟩ := hc (v, M') hF
    obtain ⟨n2, hn2⟩ := k v M' hF r hr
    refine ⟨max n n2 + 1, ?_⟩
    rw [cd_ex, ht]
    dsimp only
    rw [hl, hi, ho]
    dsimp only
    rw [cd_ex_le (Nat.le_max_left n n2) hn]
    exact cd_ex_le (Nat.le_max_right n n2) hn2
end cdP
/-- ends -/
def cd_oI (M : cd_M) (v : Int32) : Option Value × cd_M := (some (.int v), M)
def cd_oL (M : cd_M) (v : Int64) : Option Value × cd_M := (some (.long v), M)
def cd_oIM (q : Int32 × cd_M) : Option Value × cd_M := (some (.int q.1), q.2)
def cd_oV (M : cd_M) : Option Value × cd_M := (none, M)
section cdO
variable {y pc : Nat} {ls : List (Option Value)} {st : List Value} {M : cd_M} {o : Option (Option Value × cd_M)}
/-- calls by the callee's kind: total and pure, pure, with a new memory, without an answer -/
theorem r_cTI (i : Instr) (ht : cd_tab y pc = some (i, 3)) (hl : cd_loc i = none) (hi : cd_inc i = none) (yc : Nat) (as rs : List Value) (ho : cd_oth y pc 3 i st M = some (.inr (.inr (yc, as, rs)))) {v : Int32} (hc : cd_R yc 0 (cd_ent yc as) [] M (some (cd_oI M v))) (k : cd_R y (pc + 3) ls (.int v :: rs) M o) : cd_R y pc ls st M o := r_call i ht hl hi yc as rs ho (F := some (cd_oI M v)) (K := fun _ _ => o) hc (fun v' M' e => by
  cases e
  exact k)
theorem r_cTL (i : Instr) (ht : cd_tab y pc = some (i, 3)) (hl : cd_loc i = none) (hi : cd_inc i = none) (yc : Nat) (as rs : List Value) (ho : cd_oth y pc 3 i st M = some (.inr (.inr (yc, as, rs)))) {v : Int64} (hc : cd_R yc 0 (cd_ent yc as) [] M (some (cd_oL M v))) (k : cd_R y (pc + 3) ls (.long v :: rs) M o) : cd_R y pc ls st M o := r_call i ht hl hi yc as rs ho (F := some (cd_oL M v)) (K := fun _ _ => o) hc (fun v' M' e => by
  cases e
  exact k)
theorem r_cTR (i : Instr) (ht : cd_tab y pc = some (i, 3)) (hl : cd_loc i = none) (hi : cd_inc i = none) (yc : Nat) (as rs : List Value) (ho : cd_oth y pc 3 i st M = some (.inr (.inr (yc, as, rs)))) {q : Nat} (hc : cd_R yc 0 (cd_ent yc as) [] M (some (some (.ref q), M))) (k : cd_R y (pc + 3) ls (.ref q :: rs) M o) : cd_R y pc ls st M o := r_call i ht hl hi yc as rs ho (F := some (some (.ref q), M)) (K := fun _ _ => o) hc (fun v' M' e => by
  cases e
  exact k)
theorem r_cTM (i : Instr) (ht : cd_tab y pc = some (i, 3)) (hl : cd_loc i = none) (hi : cd_inc i = none) (yc : Nat) (as rs : List Value) (ho : cd_oth y pc 3 i st M = some (.inr (.inr (yc, as, rs)))) {F : Int32 × cd_M} (hc : cd_R yc 0 (cd_ent yc as) [] M (some (cd_oIM F))) {K : Int32 × cd_M → Option (Option Value × cd_M)} (k : ∀ v M', cd_R y (pc + 3) ls (.int v :: rs) M' (K (v, M'))) : cd_R y pc ls st M (cd_lt F K) := r_call i ht hl hi yc as rs ho (F := some (cd_oIM F)) (K := fun _ _ => K F) hc (fun v' M' e => by
  obtain ⟨v, M2⟩ := F
  cases e
  exact k v M2)
theorem r_cTV (i : Instr) (ht : cd_tab y pc = some (i, 3)) (hl : cd_loc i = none) (hi : cd_inc i = none) (yc : Nat) (as rs : List Value) (ho : cd_oth y pc 3 i st M = some (.inr (.inr (yc, as, rs)))) {F : cd_M} (hc : cd_R yc 0 (cd_ent yc as) [] M (some (cd_oV F))) {K : cd_M → Option (Option Value × cd_M)} (k : ∀ M', cd_R y (pc + 3) ls rs M' (K M')) : cd_R y pc ls st M (cd_lt F K) := r_call i ht hl hi yc as rs ho (F := some (cd_oV F)) (K := fun _ _ => K F) hc (fun v' M' e => by
  cases e
  exact k F)
theorem r_cI (i : Instr) (ht : cd_tab y pc = some (i, 3)) (hl : cd_loc i = none) (hi : cd_inc i = none) (yc : Nat) (as rs : List Value) (ho : cd_oth y pc 3 i st M = some (.inr (.inr (yc, as, rs)))) {F : Option Int32} (hc : cd_R yc 0 (cd_ent yc as) [] M (F.map (cd_oI M))) {K : Int32 → Option (Option Value × cd_M)} (k : ∀ v, cd_R y (pc + 3) ls (.int v :: rs) M (K v)) : cd_R y pc ls st M (F.bind K) := by
  cases F with
  | none => exact r_none
  | some v => exact r_cTI i ht hl hi yc as rs ho hc (k v)
theorem r_cL (i : Instr) (ht : cd_tab y pc = some (i, 3)) (hl : cd_loc i = none) (hi : cd_inc i = none) (yc : Nat) (as rs : List Value) (ho : cd_oth y pc 3 i st M = some (.inr (.inr (yc, as, rs)))) {F : Option Int64} (hc : cd_R yc 0 (cd_ent yc as) [] M (F.map (cd_oL M))) {K : Int64 → Option (Option Value × cd_M)} (k : ∀ v, cd_R y (pc + 3) ls (.long v :: rs) M (K v)) : cd_R y pc ls st M (F.bind K) := by
  cases F with
  | none => exact r_none
  | some v => exact r_cTL i ht hl hi yc as rs ho hc (k v)
theorem r_cM (i : Instr) (ht : cd_tab y pc = some (i, 3)) (hl : cd_loc i = none) (hi : cd_inc i = none) (yc : Nat) (as rs : List Value) (ho : cd_oth y pc 3 i st M = some (.inr (.inr (yc, as, rs)))) {F : Option (Int32 × cd_M)} (hc : cd_R yc 0 (cd_ent yc as) [] M (F.map cd_oIM)) {K : Int32 × cd_M → Option (Option Value × cd_M)} (k : ∀ v M', cd_R y (pc + 3) ls (.int v :: rs) M' (K (v, M'))) : cd_R y pc ls st M (F.bind K) := by
  cases F with
  | none => exact r_none
  | some F => exact r_cTM i ht hl hi yc as rs ho hc k
theorem r_cV (i : Instr) (ht : cd_tab y pc = some (i, 3)) (hl : cd_loc i = none) (hi : cd_inc i = none) (yc : Nat) (as rs : List Value) (ho : cd_oth y pc 3 i st M = some (.inr (.inr (yc, as, rs)))) {F : Option cd_M} (hc : cd_R yc 0 (cd_ent yc as) [] M (F.map cd_oV)) {K : cd_M → Option (Option Value × cd_M)} (k : ∀ M', cd_R y (pc + 3) ls rs M' (K M')) : cd_R y pc ls st M (F.bind K) := by
  cases F with
  | none => exact r_none
  | some F => exact r_cTV i ht hl hi yc as rs ho hc k
end cdO
end
section
/-! rows with typed answers: W makes the end out of the answer -/
abbrev cd_RT : Type := Option (Option Value × cd_M)
def w_TI (M : cd_M) (v : Int32) : cd_RT := some (some (.int v), M)
def w_PI (M : cd_M) (v : Option Int32) : cd_RT := v.bind (w_TI M)
def w_TL (M : cd_M) (v : Int64) : cd_RT := some (some (.long v), M)
def w_PL (M : cd_M) (v : Option Int64) : cd_RT := v.bind (w_TL M)
def w_TM (q : Int32 × cd_M) : cd_RT := some (some (.int q.1), q.2)
def w_PM (v : Option (Int32 × cd_M)) : cd_RT := v.bind w_TM
def w_TV (M : cd_M) : cd_RT := some (none, M)
def w_PV (v : Option cd_M) : cd_RT := v.bind w_TV
def w_PU (M : cd_M) (v : Option Unit) : cd_RT := v.bind fun _ => some (none, M)
def w_TR (M : cd_M) (k : Nat) : cd_RT := some (some (.ref k), M)
/-- an end of a method that answers a boolean is 0 or 1 -/
theorem cd_oth_z {y pc len : Nat} {i : Instr} {st : List Value} {M : cd_M} {q : Option Value × cd_M} (hy : cd_mr.getD y none = some .boolean) (h : cd_oth y pc len i st M = some (.inr (.inl q))) : ∃ v : Int32, q.1 = some (.int v) ∧ (v = 0 ∨ v = 1) := by
  have hgo : ∀ {pc' : Nat} {st' : List Value} {M' : cd_M}, ¬ cd_go pc' st' M' = some (.inr (.inl q)) := fun {_ _ _} z => by cases z
  have hcall : ∀ {idx : Nat} {vir : Bool}, ¬ cd_call y idx vir st = some (.inr (.inl q)) := by
    intro idx vir z
    unfold cd_call at z
    split at z
    · dsimp only at z
      obtain ⟨-, z⟩ := cd_bif_e z
      cases z
    · cases z
  cases i with
  | ireturn =>
    cases st with
    | nil => cases h
    | cons v r =>
      cases v with
      | int v =>
        cases r with
        | cons w r => cases h
        | nil =>
          have h : ((match cd_mr.getD y none with
            | some .int => some (.inr (.inl (some (.int v), M)))
            | some .boolean => if v = 0 ∨ v = 1 then some (.inr (.inl (some (.int v), M))) else none
            | some .char => if narrow .char (.int v) = .int v then some (.inr (.inl (some (.int v), M))) else none
            | some .byte => if narrow .byte (.int v) = .int v then some (.inr (.inl (some (.int v), M))) else none
            | _ => none) : Option cd_A) = some (.inr (.inl q)) := h
          rw [hy] at h
          obtain ⟨hv, h⟩ := cd_if_e (c := v = 0 ∨ v = 1) h
          cases h
          exact ⟨v, rfl, hv⟩
      | _ => cases r <;> cases h
  | lreturn =>
    cases st with
    | nil => cases h
    | cons v r =>
      cases v with
      | long v =>
        cases r with
        | cons w r => cases h
        | nil =>
          have h : ((match cd_mr.getD y none with
            | some .long => some (.inr (.inl (some (.long v), M)))
            | _ => none) : Option cd_A) = some (.inr (.inl q)) := h
          rw [hy] at h
          cases h
      | _ => cases r <;> cases h
  | areturn =>
    cases st with
    | nil => cases h
    | cons v r =>
      cases v with
      | ref v =>
        cases r with
        | cons w r => cases h
        | nil =>
          have h : ((match cd_mr.getD y none with
            | some (.object _) => some (.inr (.inl (some (.ref v), M)))
            | _ => none) : Option cd_A) = some (.inr (.inl q)) := h
          rw [hy] at h
          cases h
      | _ => cases r <;> cases h
  | return_ =>
    cases st with
    | cons v r => cases h
    | nil =>
      have h : ((match cd_mr.getD y none with
        | none => bif Nat.ble y 244 then some (.inr (.inl (none, M))) else none
        | _ => none) : Option cd_A) = some (.inr (.inl q)) := h
      rw [hy] at h
      cases h
  | ineg =>
    obtain ⟨x, r, -, h9⟩ := cd_i1_e h
    cases h9
  | i2l =>
    obtain ⟨x, r, -, h9⟩ := cd_i1_e h
    cases h9
  | i2b =>
    obtain ⟨x, r, -, h9⟩ := cd_i1_e h
    cases h9
  | i2c =>
    obtain ⟨x, r, -, h9⟩ := cd_i1_e h
    cases h9
  | iadd =>
    obtain ⟨x, z, r, -, h9⟩ := cd_i2_e h
    cases h9
  | isub =>
    obtain ⟨x, z, r, -, h9⟩ := cd_i2_e h
    cases h9
  | imul =>
    obtain ⟨x, z, r, -, h9⟩ := cd_i2_e h
    cases h9
  | iand =>
    obtain ⟨x, z, r, -, h9⟩ := cd_i2_e h
    cases h9
  | ior =>
    obtain ⟨x, z, r, -, h9⟩ := cd_i2_e h
    cases h9
  | ishl =>
    obtain ⟨x, z, r, -, h9⟩ := cd_i2_e h
    cases h9
  | ishr =>
    obtain ⟨x, z, r, -, h9⟩ := cd_i2_e h
    cases h9
  | iushr =>
    obtain ⟨x, z, r, -, h9⟩ := cd_i2_e h
    cases h9
  | l2i =>
    obtain ⟨x, r, -, h9⟩ := cd_l1_e h
    cases h9
  | land =>
    obtain ⟨x, z, r, -, h9⟩ := cd_l2_e h
    cases h9
  | lor =>
    obtain ⟨x, z, r, -, h9⟩ := cd_l2_e h
    cases h9
  | lxor =>
    obtain ⟨x, z, r, -, h9⟩ := cd_l2_e h
    cases h9
  | lcmp =>
    obtain ⟨x, z, r, -, h9⟩ := cd_l2_e h
    cases h9
  | lshl =>
    obtain ⟨x, z, r, -, h9⟩ := cd_li_e h
    cases h9
  | lushr =>
    obtain ⟨x, z, r, -, h9⟩ := cd_li_e h
    cases h9
  | idiv =>
    obtain ⟨x, z, r, -, h9⟩ := cd_i2_e h
    obtain ⟨-, h9⟩ := cd_ifn_e h9
    cases h9
  | irem =>
    obtain ⟨x, z, r, -, h9⟩ := cd_i2_e h
    obtain ⟨-, h9⟩ := cd_ifn_e h9
    cases h9
  | iconst n => cases h
  | bipush n => cases h
  | sipush n => cases h
  | lconst n => cases h
  | ldc n =>
    have h : (match cd_at2 cd_kI (cd_own y) n with
      | some (v, _) => cd_go (pc + len) (.int v :: st) M
      | none => match cd_at2 cd_strI (cd_own y) n with
        | some j => cd_go (pc + len) (.ref (1000 + j) :: st) M
        | none => none) = some (.inr (.inl q)) := h
    split at h
    · exact absurd h hgo
    · split at h
      · exact absurd h hgo
      · cases h
  | ldc_w n =>
    have h : (match cd_at2 cd_kI (cd_own y) n with
      | some (v, _) => cd_go (pc + len) (.int v :: st) M
      | none => none) = some (.inr (.inl q)) := h
    split at h
    · exact absurd h hgo
    · cases h
  | ldc2_w n =>
    have h : (match cd_at2 cd_kL (cd_own y) n with
      | some (v, _) => cd_go (pc + len) (.long v :: st) M
      | none => none) = some (.inr (.inl q)) := h
    split at h
    · exact absurd h hgo
    · cases h
  | goto off =>
    obtain ⟨t, -, h9⟩ := cd_to_e (f := fun t => cd_go t st M) h
    cases h9
  | ifCond cnd off =>
    cases cnd with
    | eq =>
      obtain ⟨x, r, -, h9⟩ := cd_i1_e (f := fun a r => cd_to pc off fun t => if a = 0 then cd_go t r M else cd_go (pc + len) r M) h
      obtain ⟨t, -, h9⟩ := cd_to_e h9
      rcases cd_ite_e h9 with ⟨-, h9⟩ | ⟨-, h9⟩ <;> cases h9
    | ne =>
      obtain ⟨x, r, -, h9⟩ := cd_i1_e (f := fun a r => cd_to pc off fun t => if a = 0 then cd_go (pc + len) r M else cd_go t r M) h
      obtain ⟨t, -, h9⟩ := cd_to_e h9
      rcases cd_ite_e h9 with ⟨-, h9⟩ | ⟨-, h9⟩ <;> cases h9
    | lt =>
      obtain ⟨x, r, -, h9⟩ := cd_i1_e (f := fun a r => cd_to pc off fun t => if a < 0 then cd_go t r M else cd_go (pc + len) r M) h
      obtain ⟨t, -, h9⟩ := cd_to_e h9
      rcases cd_ite_e h9 with ⟨-, h9⟩ | ⟨-, h9⟩ <;> cases h9
    | ge =>
      obtain ⟨x, r, -, h9⟩ := cd_i1_e (f := fun a r => cd_to pc off fun t => if 0 ≤ a then cd_go t r M else cd_go (pc + len) r M) h
      obtain ⟨t, -, h9⟩ := cd_to_e h9
      rcases cd_ite_e h9 with ⟨-, h9⟩ | ⟨-, h9⟩ <;> cases h9
    | gt =>
      obtain ⟨x, r, -, h9⟩ := cd_i1_e (f := fun a r => cd_to pc off fun t => if 0 < a then cd_go t r M else cd_go (pc + len) r M) h
      obtain ⟨t, -, h9⟩ := cd_to_e h9
      rcases cd_ite_e h9 with ⟨-, h9⟩ | ⟨-, h9⟩ <;> cases h9
    | le =>
      obtain ⟨x, r, -, h9⟩ := cd_i1_e (f := fun a r => cd_to pc off fun t => if a ≤ 0 then cd_go t r M else cd_go (pc + len) r M) h
      obtain ⟨t, -, h9⟩ := cd_to_e h9
      rcases cd_ite_e h9 with ⟨-, h9⟩ | ⟨-, h9⟩ <;> cases h9
  | if_icmp cnd off =>
    cases cnd with
    | eq =>
      obtain ⟨x, z, r, -, h9⟩ := cd_i2_e (f := fun a b r => cd_to pc off fun t => if a = b then cd_go t r M else cd_go (pc + len) r M) h
      obtain ⟨t, -, h9⟩ := cd_to_e h9
      rcases cd_ite_e h9 with ⟨-, h9⟩ | ⟨-, h9⟩ <;> cases h9
    | ne =>
      obtain ⟨x, z, r, -, h9⟩ := cd_i2_e (f := fun a b r => cd_to pc off fun t => if a = b then cd_go (pc + len) r M else cd_go t r M) h
      obtain ⟨t, -, h9⟩ := cd_to_e h9
      rcases cd_ite_e h9 with ⟨-, h9⟩ | ⟨-, h9⟩ <;> cases h9
    | lt =>
      obtain ⟨x, z, r, -, h9⟩ := cd_i2_e (f := fun a b r => cd_to pc off fun t => if a < b then cd_go t r M else cd_go (pc + len) r M) h
      obtain ⟨t, -, h9⟩ := cd_to_e h9
      rcases cd_ite_e h9 with ⟨-, h9⟩ | ⟨-, h9⟩ <;> cases h9
    | ge =>
      obtain ⟨x, z, r, -, h9⟩ := cd_i2_e (f := fun a b r => cd_to pc off fun t => if b ≤ a then cd_go t r M else cd_go (pc + len) r M) h
      obtain ⟨t, -, h9⟩ := cd_to_e h9
      rcases cd_ite_e h9 with ⟨-, h9⟩ | ⟨-, h9⟩ <;> cases h9
    | gt =>
      obtain ⟨x, z, r, -, h9⟩ := cd_i2_e (f := fun a b r => cd_to pc off fun t => if b < a then cd_go t r M else cd_go (pc + len) r M) h
      obtain ⟨t, -, h9⟩ := cd_to_e h9
      rcases cd_ite_e h9 with ⟨-, h9⟩ | ⟨-, h9⟩ <;> cases h9
    | le =>
      obtain ⟨x, z, r, -, h9⟩ := cd_i2_e (f := fun a b r => cd_to pc off fun t => if a ≤ b then cd_go t r M else cd_go (pc + len) r M) h
      obtain ⟨t, -, h9⟩ := cd_to_e h9
      rcases cd_ite_e h9 with ⟨-, h9⟩ | ⟨-, h9⟩ <;> cases h9
  | tableswitch dflt lo hi offs =>
    obtain ⟨x, r, -, h9⟩ := cd_i1_e h
    rcases cd_ite_e h9 with ⟨hz, h9⟩ | ⟨hz, h9⟩
    · obtain ⟨t, ht, h9⟩ := cd_to_e h9
      cases h9
    · cases ho : offs[(x.toInt - lo).toNat]? with
      | none => rw [ho] at h9; cases h9
      | some off =>
        rw [ho] at h9
        obtain ⟨t, ht, h9⟩ := cd_to_e h9
        cases h9
  | dup =>
    cases st with
    | nil => cases h
    | cons v r =>
      obtain ⟨-, h9⟩ := cd_if_e (c := v.category = 1) h
      cases h9
  | pop =>
    cases st with
    | nil => cases h
    | cons v r =>
      obtain ⟨-, h9⟩ := cd_if_e (c := v.category = 1) h
      cases h9
  | dup2 =>
    cases st with
    | nil => cases h
    | cons v r =>
      cases r with
      | nil => cases h
      | cons w r =>
        obtain ⟨-, h9⟩ := cd_if_e (c := v.category = 1 ∧ w.category = 1) h
        cases h9
  | iaload =>
    obtain ⟨k, j, r, -, h9⟩ := cd_ri_e h
    obtain ⟨-, h9⟩ := cd_if_e h9
    cases h9
  | laload =>
    obtain ⟨k, j, r, -, h9⟩ := cd_ri_e h
    obtain ⟨-, h9⟩ := cd_if_e h9
    cases h9
  | baload =>
    obtain ⟨k, j, r, -, h9⟩ := cd_ri_e (f := fun k j r => bif Nat.ble 1100 k then (if k < 1113 ∧ cd_in j (cd_sl.getD (k - 1100) 0) = true then cd_go (pc + len) (.int (cd_sbyte k j) :: r) M else none) else if ((cd_sh k).1 = 22 ∨ (cd_sh k).1 = 23) ∧ cd_in j (cd_sh k).2 = true then cd_go (pc + len) (.int (M.1 k j.toNatClampNeg) :: r) M else none) h
    cases hb : Nat.ble 1100 k with
    | true =>
      rw [hb] at h9
      obtain ⟨-, h9⟩ := cd_if_e (c := k < 1113 ∧ cd_in j (cd_sl.getD (k - 1100) 0) = true) h9
      cases h9
    | false =>
      rw [hb] at h9
      obtain ⟨-, h9⟩ := cd_if_e (c := ((cd_sh k).1 = 22 ∨ (cd_sh k).1 = 23) ∧ cd_in j (cd_sh k).2 = true) h9
      cases h9
  | iastore =>
    obtain ⟨k, j, x, r, -, h9⟩ := cd_rii_e h
    obtain ⟨-, h9⟩ := cd_if_e h9
    cases h9
  | lastore =>
    obtain ⟨k, j, x, r, -, h9⟩ := cd_ril_e h
    obtain ⟨-, h9⟩ := cd_if_e h9
    cases h9
  | bastore =>
    obtain ⟨k, j, x, r, -, h9⟩ := cd_rii_e h
    rcases cd_ite_e h9 with ⟨-, h9⟩ | ⟨-, h9⟩
    · cases h9
    · obtain ⟨-, h9⟩ := cd_if_e h9
      cases h9
  | arraylength =>
    obtain ⟨k, r, -, h9⟩ := cd_r1_e (f := fun k r => bif Nat.ble 1100 k then (if k < 1113 then cd_go (pc + len) (.int (Int32.ofNat (cd_sl.getD (k - 1100) 0)) :: r) M else none) else if 20 ≤ (cd_sh k).1 ∧ (cd_sh k).1 ≤ 23 then cd_go (pc + len) (.int (Int32.ofNat (cd_sh k).2) :: r) M else none) h
    cases hb : Nat.ble 1100 k with
    | true =>
      rw [hb] at h9
      obtain ⟨-, h9⟩ := cd_if_e (c := k < 1113) h9
      cases h9
    | false =>
      rw [hb] at h9
      obtain ⟨-, h9⟩ := cd_if_e (c := 20 ≤ (cd_sh k).1 ∧ (cd_sh k).1 ≤ 23) h9
      cases h9
  | getfield idx =>
    obtain ⟨k, r, -, h9⟩ := cd_r1_e (f := fun k r => cd_get y idx pc k r M) h
    unfold cd_get at h9
    cases hb : Nat.ble 1000 k with
    | true =>
      rw [hb] at h9
      obtain ⟨-, h9⟩ := cd_bif_e (c := Nat.beq (cd_own y) 12 && Nat.ble (k + 1) 1013) h9
      cases h8 : Nat.beq idx 9 with
      | true => rw [h8] at h9; cases h9
      | false =>
        rw [h8] at h9
        obtain ⟨-, h9⟩ := cd_bif_e (c := Nat.beq idx 15) h9
        cases h9
    | false =>
      rw [hb] at h9
      cases hq : cd_at2 cd_fl (cd_own y) idx with
      | some q9 =>
        obtain ⟨ci, sl, q9⟩ := q9
        rw [hq] at h9
        obtain ⟨-, h9⟩ := cd_if_e (c := (cd_sh k).1 = ci) h9
        cases h9
      | none =>
        rw [hq] at h9
        cases hq2 : cd_at2 cd_fn (cd_own y) idx with
        | none => rw [hq2] at h9; cases h9
        | some q9 =>
          obtain ⟨ci, sl⟩ := q9
          rw [hq2] at h9
          obtain ⟨-, h9⟩ := cd_if_e (c := (cd_sh k).1 = ci) h9
          cases h9
  | putfield idx =>
    obtain ⟨k, x, r, -, h9⟩ := cd_fi_e (f := fun k x r => cd_put y idx pc k x r M) h
    unfold cd_put at h9
    cases hq : cd_at2 cd_fl (cd_own y) idx with
    | some q9 =>
      obtain ⟨ci, sl, q9⟩ := q9
      rw [hq] at h9
      obtain ⟨-, -, e, -⟩ := cd_put2_e h9
      cases e
    | none =>
      rw [hq] at h9
      cases hq2 : cd_at2 cd_fn (cd_own y) idx with
      | none => rw [hq2] at h9; cases h9
      | some q9 =>
        obtain ⟨ci, sl⟩ := q9
        rw [hq2] at h9
        obtain ⟨-, -, e, -⟩ := cd_put2_e h9
        cases e
  | getstatic idx =>
    have h : (bif Nat.beq (cd_own y) 12 && Nat.beq idx 38 then cd_go (pc + len) (.int 1 :: st) M else bif Nat.beq (cd_own y) 12 && Nat.beq idx 1053 then cd_go (pc + len) (.ref 1200 :: st) M else none) = some (.inr (.inl q)) := h
    cases hb : Nat.beq (cd_own y) 12 && Nat.beq idx 38 with
    | true => rw [hb] at h; cases h
    | false =>
      rw [hb] at h
      obtain ⟨-, h9⟩ := cd_bif_e (c := Nat.beq (cd_own y) 12 && Nat.beq idx 1053) h
      cases h9
  | invokevirtual idx => exact absurd h hcall
  | invokestatic idx =>
    have h : (match cd_at2 cd_nat (cd_own y) idx with
      | some (n, _) => cd_math n st y pc M
      | none => cd_call y idx false st) = some (.inr (.inl q)) := h
    split at h
    · rename_i n q9 hq9
      unfold cd_math at h
      split at h
      · obtain ⟨x, z, r, -, h9⟩ := cd_i2_e h
        obtain ⟨-, h9⟩ := cd_bif_e h9
        cases h9
      · obtain ⟨x, z, r, -, h9⟩ := cd_i2_e h
        obtain ⟨-, h9⟩ := cd_bif_e h9
        cases h9
      · obtain ⟨x, r, -, h9⟩ := cd_i1_e h
        obtain ⟨-, h9⟩ := cd_bif_e h9
        cases h9
      · obtain ⟨k0, sp, k1, dp, n, r, -, h9⟩ := cd_cpyA_e h
        obtain ⟨-, h9⟩ := cd_bif_e h9
        obtain ⟨-, h9⟩ := cd_if_e h9
        rcases cd_ite_e h9 with ⟨-, h9⟩ | ⟨-, h9⟩
        · cases h9
        · obtain ⟨-, h9⟩ := cd_if_e h9
          cases h9
    · exact absurd h hcall
  | _ => cases h
theorem cd_ex_z : ∀ (n y pc : Nat) (ls : List (Option Value)) (st : List Value) (M : cd_M) (r : Option Value × cd_M), cd_mr.getD y none = some .boolean → cd_ex n y pc ls st M = some r → ∃ v : Int32, r.1 = some (.int v) ∧ (v = 0 ∨ v = 1)
  | 0, _, _, _, _, _, _, _, h => by cases h
  | n + 1, y, pc, ls, st, M, r, hy, h => by
    have ih := cd_ex_z n
    rw [cd_ex] at h
    cases ht : cd_tab y pc with
    | none => rw [ht] at h; cases h
    | some q =>
      obtain ⟨i, len⟩ := q
      rw [ht] at h
      dsimp only at h
      cases hloc : cd_loc i with
      | some q =>
        obtain ⟨o, t, k⟩ := q
        rw [hloc] at h
        cases o with
        | zero =>
          dsimp only at h
          cases hv : ls.getD k none with
          | none => rw [hv] at h; cases h
          | some v =>
            rw [hv] at h
            obtain ⟨hty, h2⟩ := cd_bif_e h
            exact ih _ _ _ _ _ _ hy h2
        | succ o =>
          dsimp only at h
          cases st with
          | nil => cases h
          | cons v st =>
            obtain ⟨hty, h2⟩ := cd_bif_e h
            exact ih _ _ _ _ _ _ hy h2
      | none =>
        rw [hloc] at h
        dsimp only at h
        cases hinc : cd_inc i with
        | some q =>
          obtain ⟨k, d⟩ := q
          rw [hinc] at h
          dsimp only at h
          cases hv : ls.getD k none with
          | none => rw [hv] at h; cases h
          | some v =>
            rw [hv] at h
            cases v with
            | int x =>
              obtain ⟨hb, h2⟩ := cd_bif_e h
              exact ih _ _ _ _ _ _ hy h2
            | _ => cases h
        | none =>
          rw [hinc] at h
          dsimp only at h
          cases ho : cd_oth y pc len i st M with
          | none => rw [ho] at h; cases h
          | some a =>
            rw [ho] at h
            cases a with
            | inl q =>
              obtain ⟨pc', st', M'⟩ := q
              exact ih _ _ _ _ _ _ hy h
            | inr a =>
              cases a with
              | inr q =>
                obtain ⟨yc, as, rs⟩ := q
                dsimp only at h
                cases hc : cd_ex n yc 0 (cd_ent yc as) [] M with
                | none => rw [hc] at h; cases h
                | some r1 =>
                  obtain ⟨v, M'⟩ := r1
                  rw [hc] at h
                  exact ih _ _ _ _ _ _ hy h
              | inl q =>
                have h : q = r := Option.some.inj h
                subst h
                exact cd_oth_z hy ho
/-- an end of a method that answers a boolean is 0 or 1 -/
theorem cd_oth_c {y pc len : Nat} {i : Instr} {st : List Value} {M : cd_M} {q : Option Value × cd_M} (hy : cd_mr.getD y none = some .char) (h : cd_oth y pc len i st M = some (.inr (.inl q))) : ∃ v : Int32, q.1 = some (.int v) ∧ narrow .char (.int v) = .int v := by
  have hgo : ∀ {pc' : Nat} {st' : List Value} {M' : cd_M}, ¬ cd_go pc' st' M' = some (.inr (.inl q)) := fun {_ _ _} z => by cases z
  have hcall : ∀ {idx : Nat} {vir : Bool}, ¬ cd_call y idx vir st = some (.inr (.inl q)) := by
    intro idx vir z
    unfold cd_call at z
    split at z
    · dsimp only at z
      obtain ⟨-, z⟩ := cd_bif_e z
      cases z
    · cases z
  cases i with
  | ireturn =>
    cases st with
    | nil => cases h
    | cons v r =>
      cases v with
      | int v =>
        cases r with
        | cons w r => cases h
        | nil =>
          have h : ((match cd_mr.getD y none with
            | some .int => some (.inr (.inl (some (.int v), M)))
            | some .boolean => if v = 0 ∨ v = 1 then some (.inr (.inl (some (.int v), M))) else none
            | some .char => if narrow .char (.int v) = .int v then some (.inr (.inl (some (.int v), M))) else none
            | some .byte => if narrow .byte (.int v) = .int v then some (.inr (.inl (some (.int v), M))) else none
            | _ => none) : Option cd_A) = some (.inr (.inl q)) := h
          rw [hy] at h
          obtain ⟨hv, h⟩ := cd_if_e (c := narrow .char (.int v) = .int v) h
          cases h
          exact ⟨v, rfl, hv⟩
      | _ => cases r <;> cases h
  | lreturn =>
    cases st with
    | nil => cases h
    | cons v r =>
      cases v with
      | long v =>
        cases r with
        | cons w r => cases h
        | nil =>
          have h : ((match cd_mr.getD y none with
            | some .long => some (.inr (.inl (some (.long v), M)))
            | _ => none) : Option cd_A) = some (.inr (.inl q)) := h
          rw [hy] at h
          cases h
      | _ => cases r <;> cases h
  | areturn =>
    cases st with
    | nil => cases h
    | cons v r =>
      cases v with
      | ref v =>
        cases r with
        | cons w r => cases h
        | nil =>
          have h : ((match cd_mr.getD y none with
            | some (.object _) => some (.inr (.inl (some (.ref v), M)))
            | _ => none) : Option cd_A) = some (.inr (.inl q)) := h
          rw [hy] at h
          cases h
      | _ => cases r <;> cases h
  | return_ =>
    cases st with
    | cons v r => cases h
    | nil =>
      have h : ((match cd_mr.getD y none with
        | none => bif Nat.ble y 244 then some (.inr (.inl (none, M))) else none
        | _ => none) : Option cd_A) = some (.inr (.inl q)) := h
      rw [hy] at h
      cases h
  | ineg =>
    obtain ⟨x, r, -, h9⟩ := cd_i1_e h
    cases h9
  | i2l =>
    obtain ⟨x, r, -, h9⟩ := cd_i1_e h
    cases h9
  | i2b =>
    obtain ⟨x, r, -, h9⟩ := cd_i1_e h
    cases h9
  | i2c =>
    obtain ⟨x, r, -, h9⟩ := cd_i1_e h
    cases h9
  | iadd =>
    obtain ⟨x, z, r, -, h9⟩ := cd_i2_e h
    cases h9
  | isub =>
    obtain ⟨x, z, r, -, h9⟩ := cd_i2_e h
    cases h9
  | imul =>
    obtain ⟨x, z, r, -, h9⟩ := cd_i2_e h
    cases h9
  | iand =>
    obtain ⟨x, z, r, -, h9⟩ := cd_i2_e h
    cases h9
  | ior =>
    obtain ⟨x, z, r, -, h9⟩ := cd_i2_e h
    cases h9
  | ishl =>
    obtain ⟨x, z, r, -, h9⟩ := cd_i2_e h
    cases h9
  | ishr =>
    obtain ⟨x, z, r, -, h9⟩ := cd_i2_e h
    cases h9
  | iushr =>
    obtain ⟨x, z, r, -, h9⟩ := cd_i2_e h
    cases h9
  | l2i =>
    obtain ⟨x, r, -, h9⟩ := cd_l1_e h
    cases h9
  | land =>
    obtain ⟨x, z, r, -, h9⟩ := cd_l2_e h
    cases h9
  | lor =>
    obtain ⟨x, z, r, -, h9⟩ := cd_l2_e h
    cases h9
  | lxor =>
    obtain ⟨x, z, r, -, h9⟩ := cd_l2_e h
    cases h9
  | lcmp =>
    obtain ⟨x, z, r, -, h9⟩ := cd_l2_e h
    cases h9
  | lshl =>
    obtain ⟨x, z, r, -, h9⟩ := cd_li_e h
    cases h9
  | lushr =>
    obtain ⟨x, z, r, -, h9⟩ := cd_li_e h
    cases h9
  | idiv =>
    obtain ⟨x, z, r, -, h9⟩ := cd_i2_e h
    obtain ⟨-, h9⟩ := cd_ifn_e h9
    cases h9
  | irem =>
    obtain ⟨x, z, r, -, h9⟩ := cd_i2_e h
    obtain ⟨-, h9⟩ := cd_ifn_e h9
    cases h9
  | iconst n => cases h
  | bipush n => cases h
  | sipush n => cases h
  | lconst n => cases h
  | ldc n =>
    have h : (match cd_at2 cd_kI (cd_own y) n with
      | some (v, _) => cd_go (pc + len) (.int v :: st) M
      | none => match cd_at2 cd_strI (cd_own y) n with
        | some j => cd_go (pc + len) (.ref (1000 + j) :: st) M
        | none => none) = some (.inr (.inl q)) := h
    split at h
    · exact absurd h hgo
    · split at h
      · exact absurd h hgo
      · cases h
  | ldc_w n =>
    have h : (match cd_at2 cd_kI (cd_own y) n with
      | some (v, _) => cd_go (pc + len) (.int v :: st) M
      | none => none) = some (.inr (.inl q)) := h
    split at h
    · exact absurd h hgo
    · cases h
  | ldc2_w n =>
    have h : (match cd_at2 cd_kL (cd_own y) n with
      | some (v, _) => cd_go (pc + len) (.long v :: st) M
      | none => none) = some (.inr (.inl q)) := h
    split at h
    · exact absurd h hgo
    · cases h
  | goto off =>
    obtain ⟨t, -, h9⟩ := cd_to_e (f := fun t => cd_go t st M) h
    cases h9
  | ifCond cnd off =>
    cases cnd with
    | eq =>
      obtain ⟨x, r, -, h9⟩ := cd_i1_e (f := fun a r => cd_to pc off fun t => if a = 0 then cd_go t r M else cd_go (pc + len) r M) h
      obtain ⟨t, -, h9⟩ := cd_to_e h9
      rcases cd_ite_e h9 with ⟨-, h9⟩ | ⟨-, h9⟩ <;> cases h9
    | ne =>
      obtain ⟨x, r, -, h9⟩ := cd_i1_e (f := fun a r => cd_to pc off fun t => if a = 0 then cd_go (pc + len) r M else cd_go t r M) h
      obtain ⟨t, -, h9⟩ := cd_to_e h9
      rcases cd_ite_e h9 with ⟨-, h9⟩ | ⟨-, h9⟩ <;> cases h9
    | lt =>
      obtain ⟨x, r, -, h9⟩ := cd_i1_e (f := fun a r => cd_to pc off fun t => if a < 0 then cd_go t r M else cd_go (pc + len) r M) h
      obtain ⟨t, -, h9⟩ := cd_to_e h9
      rcases cd_ite_e h9 with ⟨-, h9⟩ | ⟨-, h9⟩ <;> cases h9
    | ge =>
      obtain ⟨x, r, -, h9⟩ := cd_i1_e (f := fun a r => cd_to pc off fun t => if 0 ≤ a then cd_go t r M else cd_go (pc + len) r M) h
      obtain ⟨t, -, h9⟩ := cd_to_e h9
      rcases cd_ite_e h9 with ⟨-, h9⟩ | ⟨-, h9⟩ <;> cases h9
    | gt =>
      obtain ⟨x, r, -, h9⟩ := cd_i1_e (f := fun a r => cd_to pc off fun t => if 0 < a then cd_go t r M else cd_go (pc + len) r M) h
      obtain ⟨t, -, h9⟩ := cd_to_e h9
      rcases cd_ite_e h9 with ⟨-, h9⟩ | ⟨-, h9⟩ <;> cases h9
    | le =>
      obtain ⟨x, r, -, h9⟩ := cd_i1_e (f := fun a r => cd_to pc off fun t => if a ≤ 0 then cd_go t r M else cd_go (pc + len) r M) h
      obtain ⟨t, -, h9⟩ := cd_to_e h9
      rcases cd_ite_e h9 with ⟨-, h9⟩ | ⟨-, h9⟩ <;> cases h9
  | if_icmp cnd off =>
    cases cnd with
    | eq =>
      obtain ⟨x, z, r, -, h9⟩ := cd_i2_e (f := fun a b r => cd_to pc off fun t => if a = b then cd_go t r M else cd_go (pc + len) r M) h
      obtain ⟨t, -, h9⟩ := cd_to_e h9
      rcases cd_ite_e h9 with ⟨-, h9⟩ | ⟨-, h9⟩ <;> cases h9
    | ne =>
      obtain ⟨x, z, r, -, h9⟩ := cd_i2_e (f := fun a b r => cd_to pc off fun t => if a = b then cd_go (pc + len) r M else cd_go t r M) h
      obtain ⟨t, -, h9⟩ := cd_to_e h9
      rcases cd_ite_e h9 with ⟨-, h9⟩ | ⟨-, h9⟩ <;> cases h9
    | lt =>
      obtain ⟨x, z, r, -, h9⟩ := cd_i2_e (f := fun a b r => cd_to pc off fun t => if a < b then cd_go t r M else cd_go (pc + len) r M) h
      obtain ⟨t, -, h9⟩ := cd_to_e h9
      rcases cd_ite_e h9 with ⟨-, h9⟩ | ⟨-, h9⟩ <;> cases h9
    | ge =>
      obtain ⟨x, z, r, -, h9⟩ := cd_i2_e (f := fun a b r => cd_to pc off fun t => if b ≤ a then cd_go t r M else cd_go (pc + len) r M) h
      obtain ⟨t, -, h9⟩ := cd_to_e h9
      rcases cd_ite_e h9 with ⟨-, h9⟩ | ⟨-, h9⟩ <;> cases h9
    | gt =>
      obtain ⟨x, z, r, -, h9⟩ := cd_i2_e (f := fun a b r => cd_to pc off fun t => if b < a then cd_go t r M else cd_go (pc + len) r M) h
      obtain ⟨t, -, h9⟩ := cd_to_e h9
      rcases cd_ite_e h9 with ⟨-, h9⟩ | ⟨-, h9⟩ <;> cases h9
    | le =>
      obtain ⟨x, z, r, -, h9⟩ := cd_i2_e (f := fun a b r => cd_to pc off fun t => if a ≤ b then cd_go t r M else cd_go (pc + len) r M) h
      obtain ⟨t, -, h9⟩ := cd_to_e h9
      rcases cd_ite_e h9 with ⟨-, h9⟩ | ⟨-, h9⟩ <;> cases h9
  | tableswitch dflt lo hi offs =>
    obtain ⟨x, r, -, h9⟩ := cd_i1_e h
    rcases cd_ite_e h9 with ⟨hz, h9⟩ | ⟨hz, h9⟩
    · obtain ⟨t, ht, h9⟩ := cd_to_e h9
      cases h9
    · cases ho : offs[(x.toInt - lo).toNat]? with
      | none => rw [ho] at h9; cases h9
      | some off =>
        rw [ho] at h9
        obtain ⟨t, ht, h9⟩ := cd_to_e h9
        cases h9
  | dup =>
    cases st with
    | nil => cases h
    | cons v r =>
      obtain ⟨-, h9⟩ := cd_if_e (c := v.category = 1) h
      cases h9
  | pop =>
    cases st with
    | nil => cases h
    | cons v r =>
      obtain ⟨-, h9⟩ := cd_if_e (c := v.category = 1) h
      cases h9
  | dup2 =>
    cases st with
    | nil => cases h
    | cons v r =>
      cases r with
      | nil => cases h
      | cons w r =>
        obtain ⟨-, h9⟩ := cd_if_e (c := v.category = 1 ∧ w.category = 1) h
        cases h9
  | iaload =>
    obtain ⟨k, j, r, -, h9⟩ := cd_ri_e h
    obtain ⟨-, h9⟩ := cd_if_e h9
    cases h9
  | laload =>
    obtain ⟨k, j, r, -, h9⟩ := cd_ri_e h
    obtain ⟨-, h9⟩ := cd_if_e h9
    cases h9
  | baload =>
    obtain ⟨k, j, r, -, h9⟩ := cd_ri_e (f := fun k j r => bif Nat.ble 1100 k then (if k < 1113 ∧ cd_in j (cd_sl.getD (k - 1100) 0) = true then cd_go (pc + len) (.int (cd_sbyte k j) :: r) M else none) else if ((cd_sh k).1 = 22 ∨ (cd_sh k).1 = 23) ∧ cd_in j (cd_sh k).2 = true then cd_go (pc + len) (.int (M.1 k j.toNatClampNeg) :: r) M else none) h
    cases hb : Nat.ble 1100 k with
    | true =>
      rw [hb] at h9
      obtain ⟨-, h9⟩ := cd_if_e (c := k < 1113 ∧ cd_in j (cd_sl.getD (k - 1100) 0) = true) h9
      cases h9
    | false =>
      rw [hb] at h9
      obtain ⟨-, h9⟩ := cd_if_e (c := ((cd_sh k).1 = 22 ∨ (cd_sh k).1 = 23) ∧ cd_in j (cd_sh k).2 = true) h9
      cases h9
  | iastore =>
    obtain ⟨k, j, x, r, -, h9⟩ := cd_rii_e h
    obtain ⟨-, h9⟩ := cd_if_e h9
    cases h9
  | lastore =>
    obtain ⟨k, j, x, r, -, h9⟩ := cd_ril_e h
    obtain ⟨-, h9⟩ := cd_if_e h9
    cases h9
  | bastore =>
    obtain ⟨k, j, x, r, -, h9⟩ := cd_rii_e h
    rcases cd_ite_e h9 with ⟨-, h9⟩ | ⟨-, h9⟩
    · cases h9
    · obtain ⟨-, h9⟩ := cd_if_e h9
      cases h9
  | arraylength =>
    obtain ⟨k, r, -, h9⟩ := cd_r1_e (f := fun k r => bif Nat.ble 1100 k then (if k < 1113 then cd_go (pc + len) (.int (Int32.ofNat (cd_sl.getD (k - 1100) 0)) :: r) M else none) else if 20 ≤ (cd_sh k).1 ∧ (cd_sh k).1 ≤ 23 then cd_go (pc + len) (.int (Int32.ofNat (cd_sh k).2) :: r) M else none) h
    cases hb : Nat.ble 1100 k with
    | true =>
      rw [hb] at h9
      obtain ⟨-, h9⟩ := cd_if_e (c := k < 1113) h9
      cases h9
    | false =>
      rw [hb] at h9
      obtain ⟨-, h9⟩ := cd_if_e (c := 20 ≤ (cd_sh k).1 ∧ (cd_sh k).1 ≤ 23) h9
      cases h9
  | getfield idx =>
    obtain ⟨k, r, -, h9⟩ := cd_r1_e (f := fun k r => cd_get y idx pc k r M) h
    unfold cd_get at h9
    cases hb : Nat.ble 1000 k with
    | true =>
      rw [hb] at h9
      obtain ⟨-, h9⟩ := cd_bif_e (c := Nat.beq (cd_own y) 12 && Nat.ble (k + 1) 1013) h9
      cases h8 : Nat.beq idx 9 with
      | true => rw [h8] at h9; cases h9
      | false =>
        rw [h8] at h9
        obtain ⟨-, h9⟩ := cd_bif_e (c := Nat.beq idx 15) h9
        cases h9
    | false =>
      rw [hb] at h9
      cases hq : cd_at2 cd_fl (cd_own y) idx with
      | some q9 =>
        obtain ⟨ci, sl, q9⟩ := q9
        rw [hq] at h9
        obtain ⟨-, h9⟩ := cd_if_e (c := (cd_sh k).1 = ci) h9
        cases h9
      | none =>
        rw [hq] at h9
        cases hq2 : cd_at2 cd_fn (cd_own y) idx with
        | none => rw [hq2] at h9; cases h9
        | some q9 =>
          obtain ⟨ci, sl⟩ := q9
          rw [hq2] at h9
          obtain ⟨-, h9⟩ := cd_if_e (c := (cd_sh k).1 = ci) h9
          cases h9
  | putfield idx =>
    obtain ⟨k, x, r, -, h9⟩ := cd_fi_e (f := fun k x r => cd_put y idx pc k x r M) h
    unfold cd_put at h9
    cases hq : cd_at2 cd_fl (cd_own y) idx with
    | some q9 =>
      obtain ⟨ci, sl, q9⟩ := q9
      rw [hq] at h9
      obtain ⟨-, -, e, -⟩ := cd_put2_e h9
      cases e
    | none =>
      rw [hq] at h9
      cases hq2 : cd_at2 cd_fn (cd_own y) idx with
      | none => rw [hq2] at h9; cases h9
      | some q9 =>
        obtain ⟨ci, sl⟩ := q9
        rw [hq2] at h9
        obtain ⟨-, -, e, -⟩ := cd_put2_e h9
        cases e
  | getstatic idx =>
    have h : (bif Nat.beq (cd_own y) 12 && Nat.beq idx 38 then cd_go (pc + len) (.int 1 :: st) M else bif Nat.beq (cd_own y) 12 && Nat.beq idx 1053 then cd_go (pc + len) (.ref 1200 :: st) M else none) = some (.inr (.inl q)) := h
    cases hb : Nat.beq (cd_own y) 12 && Nat.beq idx 38 with
    | true => rw [hb] at h; cases h
    | false =>
      rw [hb] at h
      obtain ⟨-, h9⟩ := cd_bif_e (c := Nat.beq (cd_own y) 12 && Nat.beq idx 1053) h
      cases h9
  | invokevirtual idx => exact absurd h hcall
  | invokestatic idx =>
    have h : (match cd_at2 cd_nat (cd_own y) idx with
      | some (n, _) => cd_math n st y pc M
      | none => cd_call y idx false st) = some (.inr (.inl q)) := h
    split at h
    · rename_i n q9 hq9
      unfold cd_math at h
      split at h
      · obtain ⟨x, z, r, -, h9⟩ := cd_i2_e h
        obtain ⟨-, h9⟩ := cd_bif_e h9
        cases h9
      · obtain ⟨x, z, r, -, h9⟩ := cd_i2_e h
        obtain ⟨-, h9⟩ := cd_bif_e h9
        cases h9
      · obtain ⟨x, r, -, h9⟩ := cd_i1_e h
        obtain ⟨-, h9⟩ := cd_bif_e h9
        cases h9
      · obtain ⟨k0, sp, k1, dp, n, r, -, h9⟩ := cd_cpyA_e h
        obtain ⟨-, h9⟩ := cd_bif_e h9
        obtain ⟨-, h9⟩ := cd_if_e h9
        rcases cd_ite_e h9 with ⟨-, h9⟩ | ⟨-, h9⟩
        · cases h9
        · obtain ⟨-, h9⟩ := cd_if_e h9
          cases h9
    · exact absurd h hcall
  | _ => cases h
theorem cd_ex_c : ∀ (n y pc : Nat) (ls : List (Option Value)) (st : List Value) (M : cd_M) (r : Option Value × cd_M), cd_mr.getD y none = some .char → cd_ex n y pc ls st M = some r → ∃ v : Int32, r.1 = some (.int v) ∧ narrow .char (.int v) = .int v
  | 0, _, _, _, _, _, _, _, h => by cases h
  | n + 1, y, pc, ls, st, M, r, hy, h => by
    have ih := cd_ex_c n
    rw [cd_ex] at h
    cases ht : cd_tab y pc with
    | none => rw [ht] at h; cases h
    | some q =>
      obtain ⟨i, len⟩ := q
      rw [ht] at h
      dsimp only at h
      cases hloc : cd_loc i with
      | some q =>
        obtain ⟨o, t, k⟩ := q
        rw [hloc] at h
        cases o with
        | zero =>
          dsimp only at h
          cases hv : ls.getD k none with
          | none => rw [hv] at h; cases h
          | some v =>
            rw [hv] at h
            obtain ⟨hty, h2⟩ := cd_bif_e h
            exact ih _ _ _ _ _ _ hy h2
        | succ o =>
          dsimp only at h
          cases st with
          | nil => cases h
          | cons v st =>
            obtain ⟨hty, h2⟩ := cd_bif_e h
            exact ih _ _ _ _ _ _ hy h2
      | none =>
        rw [hloc] at h
        dsimp only at h
        cases hinc : cd_inc i with
        | some q =>
          obtain ⟨k, d⟩ := q
          rw [hinc] at h
          dsimp only at h
          cases hv : ls.getD k none with
          | none => rw [hv] at h; cases h
          | some v =>
            rw [hv] at h
            cases v with
            | int x =>
              obtain ⟨hb, h2⟩ := cd_bif_e h
              exact ih _ _ _ _ _ _ hy h2
            | _ => cases h
        | none =>
          rw [hinc] at h
          dsimp only at h
          cases ho : cd_oth y pc len i st M with
          | none => rw [ho] at h; cases h
          | some a =>
            rw [ho] at h
            cases a with
            | inl q =>
              obtain ⟨pc', st', M'⟩ := q
              exact ih _ _ _ _ _ _ hy h
            | inr a =>
              cases a with
              | inr q =>
                obtain ⟨yc, as, rs⟩ := q
                dsimp only at h
                cases hc : cd_ex n yc 0 (cd_ent yc as) [] M with
                | none => rw [hc] at h; cases h
                | some r1 =>
                  obtain ⟨v, M'⟩ := r1
                  rw [hc] at h
                  exact ih _ _ _ _ _ _ hy h
              | inl q =>
                have h : q = r := Option.some.inj h
                subst h
                exact cd_oth_c hy ho
section cdN
variable {y pc : Nat} {ls : List (Option Value)} {st : List Value} {M : cd_M} {o : cd_RT}
theorem q_none {α : Type} (W : Option α → cd_RT) (hW : W none = none) : cd_R y pc ls st M (W none) := by rw [hW]; exact r_none
theorem q_wr {α : Type} (W : α → cd_RT) (i : Instr) (len : Nat) (ht : cd_tab y pc = some (i, len)) (hl : cd_loc i = none) (hi : cd_inc i = none) (pc' : Nat) (st' : List Value) (M' : cd_M) (ho : cd_oth y pc len i st M = some (.inl (pc', st', M'))) {K : cd_M → α} (k : ∀ M1, cd_R y pc' ls st' M1 (W (K M1))) : cd_R y pc ls st M (W (cd_lt M' K)) := r_wr i len ht hl hi pc' st' M' ho (K := fun M1 => W (K M1)) k
theorem q_br {α : Type} (W : α → cd_RT) (i : Instr) (len : Nat) (ht : cd_tab y pc = some (i, len)) (hl : cd_loc i = none) (hi : cd_inc i = none) (c : Prop) [Decidable c] (t f : Nat) (st' : List Value) (ho : cd_oth y pc len i st M = if c then cd_go t st' M else cd_go f st' M) {a b : α} (kt : c → cd_R y t ls st' M (W a)) (kf : ¬ c → cd_R y f ls st' M (W b)) : cd_R y pc ls st M (W (if c then a else b)) := by
  by_cases hc : c
  · rw [if_pos hc] at ho ⊢
    exact r_go i len ht hl hi t st' ho (kt hc)
  · rw [if_neg hc] at ho ⊢
    exact r_go i len ht hl hi f st' ho (kf hc)
theorem q_or {α : Type} (W : α → cd_RT) (c : Prop) [Decidable c] {a b : α} (kt : c → cd_R y pc ls st M (W a)) (kf : ¬ c → cd_R y pc ls st M (W b)) : cd_R y pc ls st M (W (if c then a else b)) := by
  by_cases hc : c
  · rw [if_pos hc]
    exact kt hc
  · rw [if_neg hc]
    exact kf hc
theorem q_stB {α : Type} (W : α → cd_RT) (i : Instr) (len t k : Nat) {x : Int32} (ht : cd_tab y pc = some (i, len)) (hl : cd_loc i = some (1, t, k)) (hty : ∀ x : Int32, (Nat.beq (cd_ty (.int x)) t && Nat.ble (k + (Value.int x).category) ls.length) = true) (pc' : Nat) (hp : pc + len = pc') (ls' : Int32 → List (Option Value)) (hs : ∀ x, cd_sto ls k (.int x) = ls' x) {K : Int32 → α} (kk : ∀ x, cd_R y pc' (ls' x) st M (W (K x))) : cd_R y pc ls (.int x :: st) M (W (cd_lt x K)) := r_st i len t k ht hl (hty x) pc' hp (ls' x) (hs x) (kk x)
theorem q_stBL {α : Type} (W : α → cd_RT) (i : Instr) (len t k : Nat) {x : Int64} (ht : cd_tab y pc = some (i, len)) (hl : cd_loc i = some (1, t, k)) (hty : ∀ x : Int64, (Nat.beq (cd_ty (.long x)) t && Nat.ble (k + (Value.long x).category) ls.length) = true) (pc' : Nat) (hp : pc + len = pc') (ls' : Int64 → List (Option Value)) (hs : ∀ x, cd_sto ls k (.long x) = ls' x) {K : Int64 → α} (kk : ∀ x, cd_R y pc' (ls' x) st M (W (K x))) : cd_R y pc ls (.long x :: st) M (W (cd_lt x K)) := r_st i len t k ht hl (hty x) pc' hp (ls' x) (hs x) (kk x)
theorem q_inc {α : Type} (W : α → cd_RT) (k : Nat) (d : Int) (x : Int32) (ht : cd_tab y pc = some (.iinc k d, 3)) (hv : ls.getD k none = some (.int x)) (hk : Nat.ble (k + 1) ls.length = true) (pc' : Nat) (hp : pc + 3 = pc') (d' : Int32) (hd : Int32.ofInt d = d') (ls' : Int32 → List (Option Value)) (hs : ∀ x, cd_sto ls k (.int x) = ls' x) {K : Int32 → α} (kk : ∀ x, cd_R y pc' (ls' x) st M (W (K x))) : cd_R y pc ls st M (W (cd_lt (x + d') K)) := r_inc k d x ht hv hk pc' hp d' hd ls' hs (K := fun x => W (K x)) kk
theorem q_const (i : Instr) (len : Nat) (ht : cd_tab y pc = some (i, len)) (hl : cd_loc i = none) (hi : cd_inc i = none) (pc' : Nat) (v v' : Int32) (ho : cd_oth y pc len i st M = some (.inl (pc', .int v' :: st, M))) (hv : v' = v) (k : cd_R y pc' ls (.int v :: st) M o) : cd_R y pc ls st M o := r_go i len ht hl hi pc' _ ho (hv ▸ k)
/-- rows -/
theorem q_iald {β : Type} (W : Option β → cd_RT) (hW : W none = none) (ht : cd_tab y pc = some (.iaload, 1)) (k n : Nat) (hk : cd_sh k = (20, n)) {j : Int32} {x : Option β} (kk : cd_R y (pc + 1) ls (.int (M.1 k j.toNatClampNeg) :: st) M (W x)) : cd_R y pc ls (.int j :: .ref k :: st) M (W (if cd_in j n = true then x else none)) := by
  by_cases hc : cd_in j n = true
  · rw [if_pos hc]
    exact r_go .iaload 1 ht rfl rfl (pc + 1) _ (if_pos ⟨by rw [hk], by rw [hk]; exact hc⟩) kk
  · rw [if_neg hc]; exact q_none W hW
theorem q_lald {β : Type} (W : Option β → cd_RT) (hW : W none = none) (ht : cd_tab y pc = some (.laload, 1)) (k n : Nat) (hk : cd_sh k = (21, n)) {j : Int32} {x : Option β} (kk : cd_R y (pc + 1) ls (.long (M.2 k j.toNatClampNeg) :: st) M (W x)) : cd_R y pc ls (.int j :: .ref k :: st) M (W (if cd_in j n = true then x else none)) := by
  by_cases hc : cd_in j n = true
  · rw [if_pos hc]
    exact r_go .laload 1 ht rfl rfl (pc + 1) _ (if_pos ⟨by rw [hk], by rw [hk]; exact hc⟩) kk
  · rw [if_neg hc]; exact q_none W hW
theorem q_bald {β : Type} (W : Option β → cd_RT) (hW : W none = none) (ht : cd_tab y pc = some (.baload, 1)) (k n t : Nat) (hk : cd_sh k = (t, n)) (hb : Nat.ble 1100 k = false) (hk2 : t = 22 ∨ t = 23) {j : Int32} {x : Option β} (kk : cd_R y (pc + 1) ls (.int (M.1 k j.toNatClampNeg) :: st) M (W x)) : cd_R y pc ls (.int j :: .ref k :: st) M (W (if cd_in j n = true then x else none)) := by
  by_cases hc : cd_in j n = true
  · rw [if_pos hc]
    refine r_go .baload 1 ht rfl rfl (pc + 1) _ ?_ kk
    show (bif Nat.ble 1100 k then (if k < 1113 ∧ cd_in j (cd_sl.getD (k - 1100) 0) = true then cd_go (pc + 1) (.int (cd_sbyte k j) :: st) M else none)
      else if ((cd_sh k).1 = 22 ∨ (cd_sh k).1 = 23) ∧ cd_in j (cd_sh k).2 = true then cd_go (pc + 1) (.int (M.1 k j.toNatClampNeg) :: st) M else none) = _
    rw [hb]
    exact if_pos ⟨by rw [hk]; exact hk2, by rw [hk]; exact hc⟩
  · rw [if_neg hc]; exact q_none W hW
theorem q_sbald {β : Type} (W : Option β → cd_RT) (hW : W none = none) (ht : cd_tab y pc = some (.baload, 1)) (k n : Nat) (hn : cd_sl.getD (k - 1100) 0 = n) (hb : Nat.ble 1100 k = true) (hk : k < 1113) {j : Int32} {x : Option β} (kk : cd_R y (pc + 1) ls (.int (cd_sbyte k j) :: st) M (W x)) : cd_R y pc ls (.int j :: .ref k :: st) M (W (if cd_in j n = true then x else none)) := by
  by_cases hc : cd_in j n = true
  · rw [if_pos hc]
    refine r_go .baload 1 ht rfl rfl (pc + 1) _ ?_ kk
    show (bif Nat.ble 1100 k then (if k < 1113 ∧ cd_in j (cd_sl.getD (k - 1100) 0) = true then cd_go (pc + 1) (.int (cd_sbyte k j) :: st) M else none)
      else if ((cd_sh k).1 = 22 ∨ (cd_sh k).1 = 23) ∧ cd_in j (cd_sh k).2 = true then cd_go (pc + 1) (.int (M.1 k j.toNatClampNeg) :: st) M else none) = _
    rw [hb]
    exact if_pos ⟨hk, by rw [hn]; exact hc⟩
  · rw [if_neg hc]; exact q_none W hW
theorem q_iast {β : Type} (W : Option β → cd_RT) (hW : W none = none) (ht : cd_tab y pc = some (.iastore, 1)) (k n : Nat) (hk : cd_sh k = (20, n)) {j x : Int32} {K : cd_M → Option β} (kk : ∀ M1, cd_R y (pc + 1) ls st M1 (W (K M1))) : cd_R y pc ls (.int x :: .int j :: .ref k :: st) M (W (if cd_in j n = true then cd_lt (cd_wI M k j.toNatClampNeg x) K else none)) := by
  by_cases hc : cd_in j n = true
  · rw [if_pos hc]
    refine q_wr W .iastore 1 ht rfl rfl (pc + 1) st _ ?_ kk
    exact if_pos ⟨by rw [hk], by rw [hk]; exact hc⟩
  · rw [if_neg hc]; exact q_none W hW
theorem q_last {β : Type} (W : Option β → cd_RT) (hW : W none = none) (ht : cd_tab y pc = some (.lastore, 1)) (k n : Nat) (hk : cd_sh k = (21, n)) {j : Int32} {x : Int64} {K : cd_M → Option β} (kk : ∀ M1, cd_R y (pc + 1) ls st M1 (W (K M1))) : cd_R y pc ls (.long x :: .int j :: .ref k :: st) M (W (if cd_in j n = true then cd_lt (cd_wL M k j.toNatClampNeg x) K else none)) := by
  by_cases hc : cd_in j n = true
  · rw [if_pos hc]
    refine q_wr W .lastore 1 ht rfl rfl (pc + 1) st _ ?_ kk
    exact if_pos ⟨by rw [hk], by rw [hk]; exact hc⟩
  · rw [if_neg hc]; exact q_none W hW
theorem q_bast {β : Type} (W : Option β → cd_RT) (hW : W none = none) (ht : cd_tab y pc = some (.bastore, 1)) (k n : Nat) (hk : cd_sh k = (22, n)) {j x : Int32} {K : cd_M → Option β} (kk : ∀ M1, cd_R y (pc + 1) ls st M1 (W (K M1))) : cd_R y pc ls (.int x :: .int j :: .ref k :: st) M (W (if cd_in j n = true then cd_lt (cd_wI M k j.toNatClampNeg (vp_nar .byte x)) K else none)) := by
  by_cases hc : cd_in j n = true
  · rw [if_pos hc]
    refine q_wr W .bastore 1 ht rfl rfl (pc + 1) st _ ?_ kk
    exact if_pos ⟨by rw [hk], by rw [hk]; exact hc⟩
  · rw [if_neg hc]; exact q_none W hW
theorem q_zast {β : Type} (W : Option β → cd_RT) (hW : W none = none) (ht : cd_tab y pc = some (.bastore, 1)) (k n : Nat) (hk : cd_sh k = (23, n)) {j x : Int32} {K : cd_M → Option β} (kk : ∀ M1, cd_R y (pc + 1) ls st M1 (W (K M1))) : cd_R y pc ls (.int x :: .int j :: .ref k :: st) M (W (if cd_in j n = true then cd_lt (cd_wI M k j.toNatClampNeg (vp_nar .boolean x)) K else none)) := by
  by_cases hc : cd_in j n = true
  · rw [if_pos hc]
    refine q_wr W .bastore 1 ht rfl rfl (pc + 1) st _ ?_ kk
    show (if (cd_sh k).1 = 22 ∧ cd_in j (cd_sh k).2 = true then cd_go (pc + 1) st (cd_wI M k j.toNatClampNeg (vp_nar .byte x))
      else if (cd_sh k).1 = 23 ∧ cd_in j (cd_sh k).2 = true then cd_go (pc + 1) st (cd_wI M k j.toNatClampNeg (vp_nar .boolean x)) else none) = _
    rw [if_neg (by rw [hk]; exact fun z => absurd (show 23 = 22 from z.1) (by decide)), if_pos ⟨by rw [hk], by rw [hk]; exact hc⟩]
    rfl
  · rw [if_neg hc]; exact q_none W hW
theorem q_div {β : Type} (W : Option β → cd_RT) (hW : W none = none) (ht : cd_tab y pc = some (.idiv, 1)) {a b : Int32} {x : Option β} (kk : cd_R y (pc + 1) ls (.int (a / b) :: st) M (W x)) : cd_R y pc ls (.int b :: .int a :: st) M (W (if b = 0 then none else x)) := by
  by_cases hc : b = 0
  · rw [if_pos hc]; exact q_none W hW
  · rw [if_neg hc]
    exact r_go .idiv 1 ht rfl rfl (pc + 1) _ (if_neg hc) kk
theorem q_rem {β : Type} (W : Option β → cd_RT) (hW : W none = none) (ht : cd_tab y pc = some (.irem, 1)) {a b : Int32} {x : Option β} (kk : cd_R y (pc + 1) ls (.int (a - a / b * b) :: st) M (W x)) : cd_R y pc ls (.int b :: .int a :: st) M (W (if b = 0 then none else x)) := by
  by_cases hc : b = 0
  · rw [if_pos hc]; exact q_none W hW
  · rw [if_neg hc]
    exact r_go .irem 1 ht rfl rfl (pc + 1) _ (if_neg hc) kk
theorem q_divK (ht : cd_tab y pc = some (.idiv, 1)) {a b : Int32} (hb : ¬ b = 0) (kk : cd_R y (pc + 1) ls (.int (a / b) :: st) M o) : cd_R y pc ls (.int b :: .int a :: st) M o := r_go .idiv 1 ht rfl rfl (pc + 1) _ (if_neg hb) kk
theorem q_remK (ht : cd_tab y pc = some (.irem, 1)) {a b : Int32} (hb : ¬ b = 0) (kk : cd_R y (pc + 1) ls (.int (a - a / b * b) :: st) M o) : cd_R y pc ls (.int b :: .int a :: st) M o := r_go .irem 1 ht rfl rfl (pc + 1) _ (if_neg hb) kk
abbrev cd_cpOK (sp dp n : Int32) (n0 n1 : Nat) : Prop := ¬ sp < 0 ∧ ¬ dp < 0 ∧ ¬ n < 0 ∧ sp.toNatClampNeg + n.toNatClampNeg ≤ n0 ∧ dp.toNatClampNeg + n.toNatClampNeg ≤ n1
theorem q_cpy {β : Type} (W : Option β → cd_RT) (hW : W none = none) (i : Instr) (ht : cd_tab y pc = some (i, 3)) (hl : cd_loc i = none) (hi : cd_inc i = none) (k0 n0 k1 n1 t : Nat) (hk0 : cd_sh k0 = (t, n0)) (hk1 : cd_sh k1 = (t, n1)) {sp dp n : Int32} (M' : cd_M) (ho : cd_cpOK sp dp n n0 n1 → cd_oth y pc 3 i (.int n :: .int dp :: .ref k1 :: .int sp :: .ref k0 :: st) M = some (.inl (pc + 3, st, M'))) [Decidable (cd_cpOK sp dp n n0 n1)] {K : cd_M → Option β} (kk : ∀ M1, cd_R y (pc + 3) ls st M1 (W (K M1))) : cd_R y pc ls (.int n :: .int dp :: .ref k1 :: .int sp :: .ref k0 :: st) M (W (if cd_cpOK sp dp n n0 n1 then cd_lt M' K else none)) := by
  by_cases hc : cd_cpOK sp dp n n0 n1
  · rw [if_pos hc]
    exact q_wr W i 3 ht hl hi (pc + 3) st M' (ho hc) kk
  · rw [if_neg hc]; exact q_none W hW
/-- calls -/
theorem q_call (i : Instr) (ht : cd_tab y pc = some (i, 3)) (hl : cd_loc i = none) (hi : cd_inc i = none) (yc : Nat) (as rs : List Value) (ho : cd_oth y pc 3 i st M = some (.inr (.inr (yc, as, rs)))) (v : Option Value) (M' : cd_M) (hc : cd_R yc 0 (cd_ent yc as) [] M (some (v, M'))) (k : (cd_mr.getD yc none = some .boolean → ∃ x : Int32, v = some (.int x) ∧ (x = 0 ∨ x = 1)) → cd_R y (pc + 3) ls (v.toList ++ rs) M' o) : cd_R y pc ls st M o := fun r hr => by
  obtain ⟨n, hn⟩ := hc (v, M') rfl
  obtain ⟨n2, hn2⟩ := k (fun hz => cd_ex_z n yc 0 _ _ _ _ hz hn) r hr
  refine ⟨max n n2 + 1, ?_⟩
  rw [cd_ex, ht]
  dsimp only
  rw [hl, hi, ho]
  dsimp only
  rw [cd_ex_le (Nat.le_max_left n n2) hn]
  exact cd_ex_le (Nat.le_max_right n n2) hn2
theorem q_cTI (i : Instr) (ht : cd_tab y pc = some (i, 3)) (hl : cd_loc i = none) (hi : cd_inc i = none) (yc : Nat) (as rs : List Value) (ho : cd_oth y pc 3 i st M = some (.inr (.inr (yc, as, rs)))) {v : Int32} (hc : cd_R yc 0 (cd_ent yc as) [] M (w_TI M v)) (k : cd_R y (pc + 3) ls (.int v :: rs) M o) : cd_R y pc ls st M o := q_call i ht hl hi yc as rs ho _ _ hc (fun _ => k)
theorem q_cTIz (i : Instr) (ht : cd_tab y pc = some (i, 3)) (hl : cd_loc i = none) (hi : cd_inc i = none) (yc : Nat) (hz : cd_mr.getD yc none = some .boolean) (as rs : List Value) (ho : cd_oth y pc 3 i st M = some (.inr (.inr (yc, as, rs)))) {v : Int32} (hc : cd_R yc 0 (cd_ent yc as) [] M (w_TI M v)) (k : (v = 0 ∨ v = 1) → cd_R y (pc + 3) ls (.int v :: rs) M o) : cd_R y pc ls st M o := q_call i ht hl hi yc as rs ho _ _ hc (fun h => k (by
  obtain ⟨x, e, h⟩ := h hz
  cases e
  exact h))
theorem q_cTL (i : Instr) (ht : cd_tab y pc = some (i, 3)) (hl : cd_loc i = none) (hi : cd_inc i = none) (yc : Nat) (as rs : List Value) (ho : cd_oth y pc 3 i st M = some (.inr (.inr (yc, as, rs)))) {v : Int64} (hc : cd_R yc 0 (cd_ent yc as) [] M (w_TL M v)) (k : cd_R y (pc + 3) ls (.long v :: rs) M o) : cd_R y pc ls st M o := q_call i ht hl hi yc as rs ho _ _ hc (fun _ => k)
theorem q_cTR (i : Instr) (ht : cd_tab y pc = some (i, 3)) (hl : cd_loc i = none) (hi : cd_inc i = none) (yc : Nat) (as rs : List Value) (ho : cd_oth y pc 3 i st M = some (.inr (.inr (yc, as, rs)))) {q : Nat} (hc : cd_R yc 0 (cd_ent yc as) [] M (w_TR M q)) (k : cd_R y (pc + 3) ls (.ref q :: rs) M o) : cd_R y pc ls st M o := q_call i ht hl hi yc as rs ho _ _ hc (fun _ => k)
theorem q_cTM {α : Type} (W : α → cd_RT) (i : Instr) (ht : cd_tab y pc = some (i, 3)) (hl : cd_loc i = none) (hi : cd_inc i = none) (yc : Nat) (as rs : List Value) (ho : cd_oth y pc 3 i st M = some (.inr (.inr (yc, as, rs)))) {F : Int32 × cd_M} (hc : cd_R yc 0 (cd_ent yc as) [] M (w_TM F)) {K : Int32 × cd_M → α} (k : ∀ v M', cd_R y (pc + 3) ls (.int v :: rs) M' (W (K (v, M')))) : cd_R y pc ls st M (W (cd_lt F K)) := q_call i ht hl hi yc as rs ho _ _ hc (fun _ => k F.1 F.2)
theorem q_cTMz {α : Type} (W : α → cd_RT) (i : Instr) (ht : cd_tab y pc = some (i, 3)) (hl : cd_loc i = none) (hi : cd_inc i = none) (yc : Nat) (hz : cd_mr.getD yc none = some .boolean) (as rs : List Value) (ho : cd_oth y pc 3 i st M = some (.inr (.inr (yc, as, rs)))) {F : Int32 × cd_M} (hc : cd_R yc 0 (cd_ent yc as) [] M (w_TM F)) {K : Int32 × cd_M → α} (k : ∀ v M', (v = 0 ∨ v = 1) → cd_R y (pc + 3) ls (.int v :: rs) M' (W (K (v, M')))) : cd_R y pc ls st M (W (cd_lt F K)) := q_call i ht hl hi yc as rs ho _ _ hc (fun h => k F.1 F.2 (by
  obtain ⟨x, e, h⟩ := h hz
  cases e
  exact h))
theorem q_cTV {α : Type} (W : α → cd_RT) (i : Instr) (ht : cd_tab y pc = some (i, 3)) (hl : cd_loc i = none) (hi : cd_inc i = none) (yc : Nat) (as rs : List Value) (ho : cd_oth y pc 3 i st M = some (.inr (.inr (yc, as, rs)))) {F : cd_M} (hc : cd_R yc 0 (cd_ent yc as) [] M (w_TV F)) {K : cd_M → α} (k : ∀ M', cd_R y (pc + 3) ls rs M' (W (K M'))) : cd_R y pc ls st M (W (cd_lt F K)) := q_call i ht hl hi yc as rs ho _ _ hc (fun _ => k F)
theorem q_cI {β : Type} (W : Option β → cd_RT) (hW : W none = none) (i : Instr) (ht : cd_tab y pc = some (i, 3)) (hl : cd_loc i = none) (hi : cd_inc i = none) (yc : Nat) (as rs : List Value) (ho : cd_oth y pc 3 i st M = some (.inr (.inr (yc, as, rs)))) {F : Option Int32} (hc : cd_R yc 0 (cd_ent yc as) [] M (w_PI M F)) {K : Int32 → Option β} (k : ∀ v, cd_R y (pc + 3) ls (.int v :: rs) M (W (K v))) : cd_R y pc ls st M (W (F.bind K)) := by
  cases F with
  | none => exact q_none W hW
  | some v => exact q_cTI i ht hl hi yc as rs ho hc (k v)
theorem q_cIz {β : Type} (W : Option β → cd_RT) (hW : W none = none) (i : Instr) (ht : cd_tab y pc = some (i, 3)) (hl : cd_loc i = none) (hi : cd_inc i = none) (yc : Nat) (hz : cd_mr.getD yc none = some .boolean) (as rs : List Value) (ho : cd_oth y pc 3 i st M = some (.inr (.inr (yc, as, rs)))) {F : Option Int32} (hc : cd_R yc 0 (cd_ent yc as) [] M (w_PI M F)) {K : Int32 → Option β} (k : ∀ v, (v = 0 ∨ v = 1) → cd_R y (pc + 3) ls (.int v :: rs) M (W (K v))) : cd_R y pc ls st M (W (F.bind K)) := by
  cases F with
  | none => exact q_none W hW
  | some v => exact q_cTIz i ht hl hi yc hz as rs ho hc (k v)
theorem q_cL {β : Type} (W : Option β → cd_RT) (hW : W none = none) (i : Instr) (ht : cd_tab y pc = some (i, 3)) (hl : cd_loc i = none) (hi : cd_inc i = none) (yc : Nat) (as rs : List Value) (ho : cd_oth y pc 3 i st M = some (.inr (.inr (yc, as, rs)))) {F : Option Int64} (hc : cd_R yc 0 (cd_ent yc as) [] M (w_PL M F)) {K : Int64 → Option β} (k : ∀ v, cd_R y (pc + 3) ls (.long v :: rs) M (W (K v))) : cd_R y pc ls st M (W (F.bind K)) := by
  cases F with
  | none => exact q_none W hW
  | some v => exact q_cTL i ht hl hi yc as rs ho hc (k v)
theorem q_cM {β : Type} (W : Option β → cd_RT) (hW : W none = none) (i : Instr) (ht : cd_tab y pc = some (i, 3)) (hl : cd_loc i = none) (hi : cd_inc i = none) (yc : Nat) (as rs : List Value) (ho : cd_oth y pc 3 i st M = some (.inr (.inr (yc, as, rs)))) {F : Option (Int32 × cd_M)} (hc : cd_R yc 0 (cd_ent yc as) [] M (w_PM F)) {K : Int32 × cd_M → Option β} (k : ∀ v M', cd_R y (pc + 3) ls (.int v :: rs) M' (W (K (v, M')))) : cd_R y pc ls st M (W (F.bind K)) := by
  cases F with
  | none => exact q_none W hW
  | some F => exact q_cTM W i ht hl hi yc as rs ho hc k
theorem q_cMz {β : Type} (W : Option β → cd_RT) (hW : W none = none) (i : Instr) (ht : cd_tab y pc = some (i, 3)) (hl : cd_loc i = none) (hi : cd_inc i = none) (yc : Nat) (hz : cd_mr.getD yc none = some .boolean) (as rs : List Value) (ho : cd_oth y pc 3 i st M = some (.inr (.inr (yc, as, rs)))) {F : Option (Int32 × cd_M)} (hc : cd_R yc 0 (cd_ent yc as) [] M (w_PM F)) {K : Int32 × cd_M → Option β} (k : ∀ v M', (v = 0 ∨ v = 1) → cd_R y (pc + 3) ls (.int v :: rs) M' (W (K (v, M')))) : cd_R y pc ls st M (W (F.bind K)) := by
  cases F with
  | none => exact q_none W hW
  | some F => exact q_cTMz W i ht hl hi yc hz as rs ho hc k
theorem q_cV {β : Type} (W : Option β → cd_RT) (hW : W none = none) (i : Instr) (ht : cd_tab y pc = some (i, 3)) (hl : cd_loc i = none) (hi : cd_inc i = none) (yc : Nat) (as rs : List Value) (ho : cd_oth y pc 3 i st M = some (.inr (.inr (yc, as, rs)))) {F : Option cd_M} (hc : cd_R yc 0 (cd_ent yc as) [] M (w_PV F)) {K : cd_M → Option β} (k : ∀ M', cd_R y (pc + 3) ls rs M' (W (K M'))) : cd_R y pc ls st M (W (F.bind K)) := by
  cases F with
  | none => exact q_none W hW
  | some F => exact q_cTV W i ht hl hi yc as rs ho hc k
theorem q_cU {β : Type} (W : Option β → cd_RT) (hW : W none = none) (i : Instr) (ht : cd_tab y pc = some (i, 3)) (hl : cd_loc i = none) (hi : cd_inc i = none) (yc : Nat) (as rs : List Value) (ho : cd_oth y pc 3 i st M = some (.inr (.inr (yc, as, rs)))) {F : Option Unit} (hc : cd_R yc 0 (cd_ent yc as) [] M (w_PU M F)) {K : Unit → Option β} (k : cd_R y (pc + 3) ls rs M (W (K ()))) : cd_R y pc ls st M (W (F.bind K)) := by
  cases F with
  | none => exact q_none W hW
  | some v => exact q_call i ht hl hi yc as rs ho _ _ hc (fun _ => k)
theorem q_cIc {β : Type} (W : Option β → cd_RT) (hW : W none = none) (i : Instr) (ht : cd_tab y pc = some (i, 3)) (hl : cd_loc i = none) (hi : cd_inc i = none) (yc : Nat) (hz : cd_mr.getD yc none = some .char) (as rs : List Value) (ho : cd_oth y pc 3 i st M = some (.inr (.inr (yc, as, rs)))) {F : Option Int32} (hc : cd_R yc 0 (cd_ent yc as) [] M (w_PI M F)) {K : Int32 → Option β} (k : ∀ v : Int32, narrow .char (.int v) = .int v → cd_R y (pc + 3) ls (.int v :: rs) M (W (K v))) : cd_R y pc ls st M (W (F.bind K)) := by
  cases F with
  | none => exact q_none W hW
  | some v =>
    intro r hr
    obtain ⟨n, hn⟩ := hc (some (.int v), M) rfl
    obtain ⟨x, e, h⟩ := cd_ex_c n yc 0 _ _ _ _ hz hn
    cases e
    obtain ⟨n2, hn2⟩ := k v h r hr
    refine ⟨max n n2 + 1, ?_⟩
    rw [cd_ex, ht]
    dsimp only
    rw [hl, hi, ho]
    dsimp only
    rw [cd_ex_le (Nat.le_max_left n n2) hn]
    exact cd_ex_le (Nat.le_max_right n n2) hn2
/-- a table of jumps, outside its range -/
theorem cd_neI {x : Int32} (j : Nat) (hj : j < 1000) (h : ¬ x = nI j) : ¬ x.toInt = (j : Int) := by
  intro z
  apply h
  apply Int32.toInt_inj.mp
  rw [z, nI_toInt (by omega)]
theorem q_swD (d hi : Int) (offs : Array Int) (len : Nat) {x : Int32} (ht : cd_tab y pc = some (.tableswitch d 0 hi offs, len)) (hx : x.toInt < 0 ∨ hi < x.toInt) (pc' : Nat) (hp : (pc : Int) + d = (pc' : Int)) (k : cd_R y pc' ls st M o) : cd_R y pc ls (.int x :: st) M o := by
  refine r_go (.tableswitch d 0 hi offs) len ht rfl rfl pc' st ?_ k
  show (if x.toInt < 0 ∨ hi < x.toInt then cd_to pc d fun t => cd_go t st M else _) = _
  rw [if_pos hx]
  unfold cd_to
  rw [hp]
  exact if_pos rfl
end cdN
end
section
/-! constants -/
def cd_fu : Nat := 20000
def cd_u2 {α : Type} (f : Int32 → cd_M → α) (q : Int32 × cd_M) : α := f q.1 q.2
theorem cd_cpI {y pc idx k0 n0 k1 n1 : Nat} {st : List Value} {M : cd_M} {sp dp n : Int32} (q : Nat) (hq : cd_at2 cd_nat (cd_own y) idx = some (3, q)) (hb : (Nat.ble 1 (cd_mf.getD y 0) && Nat.ble (cd_cat st + 18) (cd_mw.getD y 0)) = true) (hk0 : cd_sh k0 = (20, n0)) (hk1 : cd_sh k1 = (20, n1)) (h : cd_cpOK sp dp n n0 n1) : cd_oth y pc 3 (.invokestatic idx) (.int n :: .int dp :: .ref k1 :: .int sp :: .ref k0 :: st) M = some (.inl (pc + 3, st, cd_cI M k0 k1 sp.toNatClampNeg dp.toNatClampNeg n.toNatClampNeg)) := by
  show (match cd_at2 cd_nat (cd_own y) idx with
    | some (n9, _) => cd_math n9 (.int n :: .int dp :: .ref k1 :: .int sp :: .ref k0 :: st) y pc M
    | none => cd_call y idx false (.int n :: .int dp :: .ref k1 :: .int sp :: .ref k0 :: st)) = _
  rw [hq]
  show (bif Nat.ble 1 (cd_mf.getD y 0) && Nat.ble (cd_cat st + 18) (cd_mw.getD y 0) then _ else none) = _
  rw [hb]
  show (if (cd_sh k0).1 = (cd_sh k1).1 ∧ ¬ sp < 0 ∧ ¬ dp < 0 ∧ ¬ n < 0 ∧ sp.toNatClampNeg + n.toNatClampNeg ≤ (cd_sh k0).2 ∧ dp.toNatClampNeg + n.toNatClampNeg ≤ (cd_sh k1).2 then
        (if (cd_sh k0).1 = 20 then cd_go (pc + 3) st (cd_cI M k0 k1 sp.toNatClampNeg dp.toNatClampNeg n.toNatClampNeg)
        else if (cd_sh k0).1 = 21 then cd_go (pc + 3) st (cd_cL M k0 k1 sp.toNatClampNeg dp.toNatClampNeg n.toNatClampNeg) else none)
      else none) = _
  rw [hk0, hk1, if_pos ⟨rfl, h⟩]
  rfl
theorem cd_cpL {y pc idx k0 n0 k1 n1 : Nat} {st : List Value} {M : cd_M} {sp dp n : Int32} (q : Nat) (hq : cd_at2 cd_nat (cd_own y) idx = some (3, q)) (hb : (Nat.ble 1 (cd_mf.getD y 0) && Nat.ble (cd_cat st + 18) (cd_mw.getD y 0)) = true) (hk0 : cd_sh k0 = (21, n0)) (hk1 : cd_sh k1 = (21, n1)) (h : cd_cpOK sp dp n n0 n1) : cd_oth y pc 3 (.invokestatic idx) (.int n :: .int dp :: .ref k1 :: .int sp :: .ref k0 :: st) M = some (.inl (pc + 3, st, cd_cL M k0 k1 sp.toNatClampNeg dp.toNatClampNeg n.toNatClampNeg)) := by
  show (match cd_at2 cd_nat (cd_own y) idx with
    | some (n9, _) => cd_math n9 (.int n :: .int dp :: .ref k1 :: .int sp :: .ref k0 :: st) y pc M
    | none => cd_call y idx false (.int n :: .int dp :: .ref k1 :: .int sp :: .ref k0 :: st)) = _
  rw [hq]
  show (bif Nat.ble 1 (cd_mf.getD y 0) && Nat.ble (cd_cat st + 18) (cd_mw.getD y 0) then _ else none) = _
  rw [hb]
  show (if (cd_sh k0).1 = (cd_sh k1).1 ∧ ¬ sp < 0 ∧ ¬ dp < 0 ∧ ¬ n < 0 ∧ sp.toNatClampNeg + n.toNatClampNeg ≤ (cd_sh k0).2 ∧ dp.toNatClampNeg + n.toNatClampNeg ≤ (cd_sh k1).2 then
        (if (cd_sh k0).1 = 20 then cd_go (pc + 3) st (cd_cI M k0 k1 sp.toNatClampNeg dp.toNatClampNeg n.toNatClampNeg)
        else if (cd_sh k0).1 = 21 then cd_go (pc + 3) st (cd_cL M k0 k1 sp.toNatClampNeg dp.toNatClampNeg n.toNatClampNeg) else none)
      else none) = _
  rw [hk0, hk1, if_pos ⟨rfl, h⟩]
  rfl
theorem cd_kjm8 : Int32.ofInt (-8) = (-8) := by decide
theorem cd_kcm8 : (Int8.ofInt (-8)).toInt32 = (-8) := by decide
theorem cd_ktm8 : (Int16.ofInt (-8)).toInt32 = (-8) := by decide
theorem cd_kjm2 : Int32.ofInt (-2) = (-2) := by decide
theorem cd_kcm2 : (Int8.ofInt (-2)).toInt32 = (-2) := by decide
theorem cd_ktm2 : (Int16.ofInt (-2)).toInt32 = (-2) := by decide
theorem cd_kjm1 : Int32.ofInt (-1) = (-1) := by decide
theorem cd_kcm1 : (Int8.ofInt (-1)).toInt32 = (-1) := by decide
theorem cd_ktm1 : (Int16.ofInt (-1)).toInt32 = (-1) := by decide
theorem cd_kj0 : Int32.ofInt (0) = (0) := by decide
theorem cd_kc0 : (Int8.ofInt (0)).toInt32 = (0) := by decide
theorem cd_kt0 : (Int16.ofInt (0)).toInt32 = (0) := by decide
theorem cd_kj1 : Int32.ofInt (1) = (1) := by decide
theorem cd_kc1 : (Int8.ofInt (1)).toInt32 = (1) := by decide
theorem cd_kt1 : (Int16.ofInt (1)).toInt32 = (1) := by decide
theorem cd_kj2 : Int32.ofInt (2) = (2) := by decide
theorem cd_kc2 : (Int8.ofInt (2)).toInt32 = (2) := by decide
theorem cd_kt2 : (Int16.ofInt (2)).toInt32 = (2) := by decide
theorem cd_kj3 : Int32.ofInt (3) = (3) := by decide
theorem cd_kc3 : (Int8.ofInt (3)).toInt32 = (3) := by decide
theorem cd_kt3 : (Int16.ofInt (3)).toInt32 = (3) := by decide
theorem cd_kj4 : Int32.ofInt (4) = (4) := by decide
theorem cd_kc4 : (Int8.ofInt (4)).toInt32 = (4) := by decide
theorem cd_kt4 : (Int16.ofInt (4)).toInt32 = (4) := by decide
theorem cd_kj5 : Int32.ofInt (5) = (5) := by decide
theorem cd_kc5 : (Int8.ofInt (5)).toInt32 = (5) := by decide
theorem cd_kt5 : (Int16.ofInt (5)).toInt32 = (5) := by decide
theorem cd_kj6 : Int32.ofInt (6) = (6) := by decide
theorem cd_kc6 : (Int8.ofInt (6)).toInt32 = (6) := by decide
theorem cd_kt6 : (Int16.ofInt (6)).toInt32 = (6) := by decide
theorem cd_kj7 : Int32.ofInt (7) = (7) := by decide
theorem cd_kc7 : (Int8.ofInt (7)).toInt32 = (7) := by decide
theorem cd_kt7 : (Int16.ofInt (7)).toInt32 = (7) := by decide
theorem cd_kj8 : Int32.ofInt (8) = (8) := by decide
theorem cd_kc8 : (Int8.ofInt (8)).toInt32 = (8) := by decide
theorem cd_kt8 : (Int16.ofInt (8)).toInt32 = (8) := by decide
theorem cd_kj9 : Int32.ofInt (9) = (9) := by decide
theorem cd_kc9 : (Int8.ofInt (9)).toInt32 = (9) := by decide
theorem cd_kt9 : (Int16.ofInt (9)).toInt32 = (9) := by decide
theorem cd_kj10 : Int32.ofInt (10) = (10) := by decide
theorem cd_kc10 : (Int8.ofInt (10)).toInt32 = (10) := by decide
theorem cd_kt10 : (Int16.ofInt (10)).toInt32 = (10) := by decide
theorem cd_kj11 : Int32.ofInt (11) = (11) := by decide
theorem cd_kc11 : (Int8.ofInt (11)).toInt32 = (11) := by decide
theorem cd_kt11 : (Int16.ofInt (11)).toInt32 = (11) := by decide
theorem cd_kj12 : Int32.ofInt (12) = (12) := by decide
theorem cd_kc12 : (Int8.ofInt (12)).toInt32 = (12) := by decide
theorem cd_kt12 : (Int16.ofInt (12)).toInt32 = (12) := by decide
theorem cd_kj20 : Int32.ofInt (20) = (20) := by decide
theorem cd_kc20 : (Int8.ofInt (20)).toInt32 = (20) := by decide
theorem cd_kt20 : (Int16.ofInt (20)).toInt32 = (20) := by decide
theorem cd_kj24 : Int32.ofInt (24) = (24) := by decide
theorem cd_kc24 : (Int8.ofInt (24)).toInt32 = (24) := by decide
theorem cd_kt24 : (Int16.ofInt (24)).toInt32 = (24) := by decide
theorem cd_kj25 : Int32.ofInt (25) = (25) := by decide
theorem cd_kc25 : (Int8.ofInt (25)).toInt32 = (25) := by decide
theorem cd_kt25 : (Int16.ofInt (25)).toInt32 = (25) := by decide
theorem cd_kj32 : Int32.ofInt (32) = (32) := by decide
theorem cd_kc32 : (Int8.ofInt (32)).toInt32 = (32) := by decide
theorem cd_kt32 : (Int16.ofInt (32)).toInt32 = (32) := by decide
theorem cd_kj40 : Int32.ofInt (40) = (40) := by decide
theorem cd_kc40 : (Int8.ofInt (40)).toInt32 = (40) := by decide
theorem cd_kt40 : (Int16.ofInt (40)).toInt32 = (40) := by decide
theorem cd_kj42 : Int32.ofInt (42) = (42) := by decide
theorem cd_kc42 : (Int8.ofInt (42)).toInt32 = (42) := by decide
theorem cd_kt42 : (Int16.ofInt (42)).toInt32 = (42) := by decide
theorem cd_kj48 : Int32.ofInt (48) = (48) := by decide
theorem cd_kc48 : (Int8.ofInt (48)).toInt32 = (48) := by decide
theorem cd_kt48 : (Int16.ofInt (48)).toInt32 = (48) := by decide
theorem cd_kj57 : Int32.ofInt (57) = (57) := by decide
theorem cd_kc57 : (Int8.ofInt (57)).toInt32 = (57) := by decide
theorem cd_kt57 : (Int16.ofInt (57)).toInt32 = (57) := by decide
theorem cd_kj59 : Int32.ofInt (59) = (59) := by decide
theorem cd_kc59 : (Int8.ofInt (59)).toInt32 = (59) := by decide
theorem cd_kt59 : (Int16.ofInt (59)).toInt32 = (59) := by decide
theorem cd_kj63 : Int32.ofInt (63) = (63) := by decide
theorem cd_kc63 : (Int8.ofInt (63)).toInt32 = (63) := by decide
theorem cd_kt63 : (Int16.ofInt (63)).toInt32 = (63) := by decide
theorem cd_kj90 : Int32.ofInt (90) = (90) := by decide
theorem cd_kc90 : (Int8.ofInt (90)).toInt32 = (90) := by decide
theorem cd_kt90 : (Int16.ofInt (90)).toInt32 = (90) := by decide
theorem cd_kj97 : Int32.ofInt (97) = (97) := by decide
theorem cd_kc97 : (Int8.ofInt (97)).toInt32 = (97) := by decide
theorem cd_kt97 : (Int16.ofInt (97)).toInt32 = (97) := by decide
theorem cd_kj99 : Int32.ofInt (99) = (99) := by decide
theorem cd_kc99 : (Int8.ofInt (99)).toInt32 = (99) := by decide
theorem cd_kt99 : (Int16.ofInt (99)).toInt32 = (99) := by decide
theorem cd_kj100 : Int32.ofInt (100) = (100) := by decide
theorem cd_kc100 : (Int8.ofInt (100)).toInt32 = (100) := by decide
theorem cd_kt100 : (Int16.ofInt (100)).toInt32 = (100) := by decide
theorem cd_kj101 : Int32.ofInt (101) = (101) := by decide
theorem cd_kc101 : (Int8.ofInt (101)).toInt32 = (101) := by decide
theorem cd_kt101 : (Int16.ofInt (101)).toInt32 = (101) := by decide
theorem cd_kj102 : Int32.ofInt (102) = (102) := by decide
theorem cd_kc102 : (Int8.ofInt (102)).toInt32 = (102) := by decide
theorem cd_kt102 : (Int16.ofInt (102)).toInt32 = (102) := by decide
theorem cd_kj104 : Int32.ofInt (104) = (104) := by decide
theorem cd_kc104 : (Int8.ofInt (104)).toInt32 = (104) := by decide
theorem cd_kt104 : (Int16.ofInt (104)).toInt32 = (104) := by decide
theorem cd_kj105 : Int32.ofInt (105) = (105) := by decide
theorem cd_kc105 : (Int8.ofInt (105)).toInt32 = (105) := by decide
theorem cd_kt105 : (Int16.ofInt (105)).toInt32 = (105) := by decide
theorem cd_kj107 : Int32.ofInt (107) = (107) := by decide
theorem cd_kc107 : (Int8.ofInt (107)).toInt32 = (107) := by decide
theorem cd_kt107 : (Int16.ofInt (107)).toInt32 = (107) := by decide
theorem cd_kj108 : Int32.ofInt (108) = (108) := by decide
theorem cd_kc108 : (Int8.ofInt (108)).toInt32 = (108) := by decide
theorem cd_kt108 : (Int16.ofInt (108)).toInt32 = (108) := by decide
theorem cd_kj109 : Int32.ofInt (109) = (109) := by decide
theorem cd_kc109 : (Int8.ofInt (109)).toInt32 = (109) := by decide
theorem cd_kt109 : (Int16.ofInt (109)).toInt32 = (109) := by decide
theorem cd_kj110 : Int32.ofInt (110) = (110) := by decide
theorem cd_kc110 : (Int8.ofInt (110)).toInt32 = (110) := by decide
theorem cd_kt110 : (Int16.ofInt (110)).toInt32 = (110) := by decide
theorem cd_kj111 : Int32.ofInt (111) = (111) := by decide
theorem cd_kc111 : (Int8.ofInt (111)).toInt32 = (111) := by decide
theorem cd_kt111 : (Int16.ofInt (111)).toInt32 = (111) := by decide
theorem cd_kj114 : Int32.ofInt (114) = (114) := by decide
theorem cd_kc114 : (Int8.ofInt (114)).toInt32 = (114) := by decide
theorem cd_kt114 : (Int16.ofInt (114)).toInt32 = (114) := by decide
theorem cd_kj115 : Int32.ofInt (115) = (115) := by decide
theorem cd_kc115 : (Int8.ofInt (115)).toInt32 = (115) := by decide
theorem cd_kt115 : (Int16.ofInt (115)).toInt32 = (115) := by decide
theorem cd_kj116 : Int32.ofInt (116) = (116) := by decide
theorem cd_kc116 : (Int8.ofInt (116)).toInt32 = (116) := by decide
theorem cd_kt116 : (Int16.ofInt (116)).toInt32 = (116) := by decide
theorem cd_kj117 : Int32.ofInt (117) = (117) := by decide
theorem cd_kc117 : (Int8.ofInt (117)).toInt32 = (117) := by decide
theorem cd_kt117 : (Int16.ofInt (117)).toInt32 = (117) := by decide
theorem cd_kj119 : Int32.ofInt (119) = (119) := by decide
theorem cd_kc119 : (Int8.ofInt (119)).toInt32 = (119) := by decide
theorem cd_kt119 : (Int16.ofInt (119)).toInt32 = (119) := by decide
theorem cd_kj121 : Int32.ofInt (121) = (121) := by decide
theorem cd_kc121 : (Int8.ofInt (121)).toInt32 = (121) := by decide
theorem cd_kt121 : (Int16.ofInt (121)).toInt32 = (121) := by decide
theorem cd_kj122 : Int32.ofInt (122) = (122) := by decide
theorem cd_kc122 : (Int8.ofInt (122)).toInt32 = (122) := by decide
theorem cd_kt122 : (Int16.ofInt (122)).toInt32 = (122) := by decide
theorem cd_kj128 : Int32.ofInt (128) = (128) := by decide
theorem cd_kt128 : (Int16.ofInt (128)).toInt32 = (128) := by decide
theorem cd_kj150 : Int32.ofInt (150) = (150) := by decide
theorem cd_kt150 : (Int16.ofInt (150)).toInt32 = (150) := by decide
theorem cd_kj225 : Int32.ofInt (225) = (225) := by decide
theorem cd_kt225 : (Int16.ofInt (225)).toInt32 = (225) := by decide
theorem cd_kj240 : Int32.ofInt (240) = (240) := by decide
theorem cd_kt240 : (Int16.ofInt (240)).toInt32 = (240) := by decide
theorem cd_kj255 : Int32.ofInt (255) = (255) := by decide
theorem cd_kt255 : (Int16.ofInt (255)).toInt32 = (255) := by decide
theorem cd_kj630 : Int32.ofInt (630) = (630) := by decide
theorem cd_kt630 : (Int16.ofInt (630)).toInt32 = (630) := by decide
theorem cd_kj900 : Int32.ofInt (900) = (900) := by decide
theorem cd_kt900 : (Int16.ofInt (900)).toInt32 = (900) := by decide
theorem cd_kj999 : Int32.ofInt (999) = (999) := by decide
theorem cd_kt999 : (Int16.ofInt (999)).toInt32 = (999) := by decide
theorem cd_kj6930 : Int32.ofInt (6930) = (6930) := by decide
theorem cd_kt6930 : (Int16.ofInt (6930)).toInt32 = (6930) := by decide
end
section
def f8_tape_1 (M : cd_M) : Nat := 2
set_option maxRecDepth 8000 in
theorem k8_tape_1 (M : cd_M) : cd_R 96 0 [some (.ref 1)] [] M ((w_TR M) (f8_tape_1 M)) := by
  unfold f8_tape_1
  refine r_ld (.aload_n 0) 1 2 0 (.ref 1) rfl rfl rfl rfl 1 rfl ?_
  refine r_go (.getfield 12) 3 rfl rfl rfl 4 [.ref 2] rfl ?_
  exact r_ret .areturn 1 rfl rfl rfl _ rfl
def f7_hasRoom_2 (M : cd_M) : Int32 := if 225 < (M.1 2 1) + 5 then (0) else (1)
set_option maxRecDepth 8000 in
theorem k7_hasRoom_2 (M : cd_M) : cd_R 79 0 [some (.ref 2)] [] M ((w_TI M) (f7_hasRoom_2 M)) := by
  unfold f7_hasRoom_2
  refine r_ld (.aload_n 0) 1 2 0 (.ref 2) rfl rfl rfl rfl 1 rfl ?_
  refine r_go (.getfield 15) 3 rfl rfl rfl 4 [.int (M.1 2 1)] rfl ?_
  refine q_const (.iconst 5) 1 rfl rfl rfl 5 (5) _ rfl cd_kj5 ?_
  refine r_go (.iadd) 1 rfl rfl rfl 6 [.int ((M.1 2 1) + 5)] rfl ?_
  refine q_const (.sipush 225) 3 rfl rfl rfl 9 (225) _ rfl cd_kt225 ?_
  refine q_br (w_TI M) (.if_icmp .gt 7) 3 rfl rfl rfl (225 < (M.1 2 1) + 5) 16 12 [] rfl (fun _ => ?_) (fun _ => ?_)
  · refine q_const (.iconst 0) 1 rfl rfl rfl 17 (0) _ rfl cd_kj0 ?_
    exact r_retZ rfl rfl (by decide)
  · refine q_const (.iconst 1) 1 rfl rfl rfl 13 (1) _ rfl cd_kj1 ?_
    refine r_go (.goto 4) 3 rfl rfl rfl 17 [.int (1)] rfl ?_
    exact r_retZ rfl rfl (by decide)
def f7_put_2 (a1 : Int32) (M : cd_M) : Option cd_M := if 225 ≤ M.1 2 1 then (some M) else (if cd_in (M.1 2 1) 225 = true then (cd_lt (cd_wI M 17 (M.1 2 1 : Int32).toNatClampNeg a1) fun M1 => cd_lt (cd_wI M1 2 1 ((M1.1 2 1) + 1)) fun M2 => some M2) else none)
set_option maxRecDepth 8000 in
theorem k7_put_2 (a1 : Int32) (M : cd_M) : cd_R 80 0 [some (.ref 2), some (.int (a1))] [] M (w_PV (f7_put_2 a1 M)) := by
  unfold f7_put_2
  refine r_ld (.aload_n 0) 1 2 0 (.ref 2) rfl rfl rfl rfl 1 rfl ?_
  refine r_go (.getfield 15) 3 rfl rfl rfl 4 [.int (M.1 2 1)] rfl ?_
  refine q_const (.sipush 225) 3 rfl rfl rfl 7 (225) _ rfl cd_kt225 ?_
  refine q_br w_PV (.if_icmp .ge 23) 3 rfl rfl rfl (225 ≤ M.1 2 1) 30 10 [] rfl (fun _ => ?_) (fun _ => ?_)
  · exact r_ret .return_ 1 rfl rfl rfl _ rfl
  · refine r_ld (.aload_n 0) 1 2 0 (.ref 2) rfl rfl rfl rfl 11 rfl ?_
    refine r_go (.getfield 9) 3 rfl rfl rfl 14 [.ref 17] rfl ?_
    refine r_ld (.aload_n 0) 1 2 0 (.ref 2) rfl rfl rfl rfl 15 rfl ?_
    refine r_go (.getfield 15) 3 rfl rfl rfl 18 [.int (M.1 2 1), .ref 17] rfl ?_
    refine r_ld (.iload_n 1) 1 0 1 (.int (a1)) rfl rfl rfl rfl 19 rfl ?_
    refine q_iast w_PV rfl rfl 17 225 rfl (fun M1 => ?_)
    refine r_ld (.aload_n 0) 1 2 0 (.ref 2) rfl rfl rfl rfl 21 rfl ?_
    refine r_go (.dup) 1 rfl rfl rfl 22 [.ref 2, .ref 2] rfl ?_
    refine r_go (.getfield 15) 3 rfl rfl rfl 25 [.int (M1.1 2 1), .ref 2] rfl ?_
    refine q_const (.iconst 1) 1 rfl rfl rfl 26 (1) _ rfl cd_kj1 ?_
    refine r_go (.iadd) 1 rfl rfl rfl 27 [.int ((M1.1 2 1) + 1), .ref 2] rfl ?_
    refine q_wr w_PV (.putfield 15) 3 rfl rfl rfl 30 [] (cd_wI M1 2 1 ((M1.1 2 1) + 1)) rfl (fun M2 => ?_)
    exact r_ret .return_ 1 rfl rfl rfl _ rfl
def f7_size_2 (M : cd_M) : Int32 := (4 * (M.1 2 1))
set_option maxRecDepth 8000 in
theorem k7_size_2 (M : cd_M) : cd_R 81 0 [some (.ref 2)] [] M ((w_TI M) (f7_size_2 M)) := by
  unfold f7_size_2
  refine q_const (.iconst 4) 1 rfl rfl rfl 1 (4) _ rfl cd_kj4 ?_
  refine r_ld (.aload_n 0) 1 2 0 (.ref 2) rfl rfl rfl rfl 2 rfl ?_
  refine r_go (.getfield 15) 3 rfl rfl rfl 5 [.int (M.1 2 1), .int (4)] rfl ?_
  refine r_go (.imul) 1 rfl rfl rfl 6 [.int (4 * (M.1 2 1))] rfl ?_
  exact r_ret .ireturn 1 rfl rfl rfl _ rfl
def f10_feed_0 (a1 : Int32) (a2 : Int32) (a3 : Int32) (a4 : Int32) (a5 : Int32) (M : cd_M) : Option (Int32 × cd_M) := if f7_hasRoom_2 M = 0 then (some ((-1), M)) else ((f7_put_2 a1 M).bind fun M2 => (f7_put_2 a2 M2).bind fun M3 => (f7_put_2 a3 M3).bind fun M4 => (f7_put_2 a4 M4).bind fun M5 => (f7_put_2 a5 M5).bind fun M6 => some (f7_size_2 M6, M6))
set_option maxRecDepth 8000 in
theorem k10_feed_0 (a1 : Int32) (a2 : Int32) (a3 : Int32) (a4 : Int32) (a5 : Int32) (M : cd_M) : cd_R 126 0 [some (.ref 0), some (.int (a1)), some (.int (a2)), some (.int (a3)), some (.int (a4)), some (.int (a5)), none] [] M (w_PM (f10_feed_0 a1 a2 a3 a4 a5 M)) := by
  unfold f10_feed_0
  refine r_ld (.aload_n 0) 1 2 0 (.ref 0) rfl rfl rfl rfl 1 rfl ?_
  refine r_go (.getfield 10) 3 rfl rfl rfl 4 [.ref 1] rfl ?_
  refine q_cTR (.invokevirtual 82) rfl rfl rfl 96 [.ref 1] [] rfl (k8_tape_1 M) ?_
  refine r_st (.astore 6) 2 2 6 rfl rfl rfl 9 rfl [some (.ref 0), some (.int (a1)), some (.int (a2)), some (.int (a3)), some (.int (a4)), some (.int (a5)), some (.ref 2)] rfl ?_
  refine r_ld (.aload 6) 2 2 6 (.ref 2) rfl rfl rfl rfl 11 rfl ?_
  refine q_cTIz (.invokevirtual 86) rfl rfl rfl 79 rfl [.ref 2] [] rfl (k7_hasRoom_2 M) (fun z1 => ?_)
  refine q_br w_PM (.ifCond .ne 5) 3 rfl rfl rfl (f7_hasRoom_2 M = 0) 17 19 [] rfl (fun _ => ?_) (fun _ => ?_)
  · refine q_const (.iconst (-1)) 1 rfl rfl rfl 18 (-1) _ rfl cd_kjm1 ?_
    exact r_ret .ireturn 1 rfl rfl rfl _ rfl
  · refine r_ld (.aload 6) 2 2 6 (.ref 2) rfl rfl rfl rfl 21 rfl ?_
    refine r_ld (.iload_n 1) 1 0 1 (.int (a1)) rfl rfl rfl rfl 22 rfl ?_
    refine q_cV w_PM rfl (.invokevirtual 92) rfl rfl rfl 80 [.ref 2, .int (a1)] [] rfl (k7_put_2 a1 M) (fun M2 => ?_)
    refine r_ld (.aload 6) 2 2 6 (.ref 2) rfl rfl rfl rfl 27 rfl ?_
    refine r_ld (.iload_n 2) 1 0 2 (.int (a2)) rfl rfl rfl rfl 28 rfl ?_
    refine q_cV w_PM rfl (.invokevirtual 92) rfl rfl rfl 80 [.ref 2, .int (a2)] [] rfl (k7_put_2 a2 M2) (fun M3 => ?_)
    refine r_ld (.aload 6) 2 2 6 (.ref 2) rfl rfl rfl rfl 33 rfl ?_
    refine r_ld (.iload_n 3) 1 0 3 (.int (a3)) rfl rfl rfl rfl 34 rfl ?_
    refine q_cV w_PM rfl (.invokevirtual 92) rfl rfl rfl 80 [.ref 2, .int (a3)] [] rfl (k7_put_2 a3 M3) (fun M4 => ?_)
    refine r_ld (.aload 6) 2 2 6 (.ref 2) rfl rfl rfl rfl 39 rfl ?_
    refine r_ld (.iload 4) 2 0 4 (.int (a4)) rfl rfl rfl rfl 41 rfl ?_
    refine q_cV w_PM rfl (.invokevirtual 92) rfl rfl rfl 80 [.ref 2, .int (a4)] [] rfl (k7_put_2 a4 M4) (fun M5 => ?_)
    refine r_ld (.aload 6) 2 2 6 (.ref 2) rfl rfl rfl rfl 46 rfl ?_
    refine r_ld (.iload 5) 2 0 5 (.int (a5)) rfl rfl rfl rfl 48 rfl ?_
    refine q_cV w_PM rfl (.invokevirtual 92) rfl rfl rfl 80 [.ref 2, .int (a5)] [] rfl (k7_put_2 a5 M5) (fun M6 => ?_)
    refine r_ld (.aload 6) 2 2 6 (.ref 2) rfl rfl rfl rfl 53 rfl ?_
    refine q_cTI (.invokevirtual 95) rfl rfl rfl 81 [.ref 2] [] rfl (k7_size_2 M6) ?_
    exact r_ret .ireturn 1 rfl rfl rfl _ rfl
def f7_holds_2 (a1 : Int32) (M : cd_M) : Int32 := if a1 < 0 then (0) else (if f7_size_2 M < a1 then (0) else (1))
set_option maxRecDepth 8000 in
theorem k7_holds_2 (a1 : Int32) (M : cd_M) : cd_R 82 0 [some (.ref 2), some (.int (a1))] [] M ((w_TI M) (f7_holds_2 a1 M)) := by
  unfold f7_holds_2
  refine r_ld (.iload_n 1) 1 0 1 (.int (a1)) rfl rfl rfl rfl 1 rfl ?_
  refine q_br (w_TI M) (.ifCond .lt 15) 3 rfl rfl rfl (a1 < 0) 16 4 [] rfl (fun _ => ?_) (fun _ => ?_)
  · refine q_const (.iconst 0) 1 rfl rfl rfl 17 (0) _ rfl cd_kj0 ?_
    exact r_retZ rfl rfl (by decide)
  · refine r_ld (.iload_n 1) 1 0 1 (.int (a1)) rfl rfl rfl rfl 5 rfl ?_
    refine r_ld (.aload_n 0) 1 2 0 (.ref 2) rfl rfl rfl rfl 6 rfl ?_
    refine q_cTI (.invokevirtual 34) rfl rfl rfl 81 [.ref 2] [.int (a1)] rfl (k7_size_2 M) ?_
    refine q_br (w_TI M) (.if_icmp .gt 7) 3 rfl rfl rfl (f7_size_2 M < a1) 16 12 [] rfl (fun _ => ?_) (fun _ => ?_)
    · refine q_const (.iconst 0) 1 rfl rfl rfl 17 (0) _ rfl cd_kj0 ?_
      exact r_retZ rfl rfl (by decide)
    · refine q_const (.iconst 1) 1 rfl rfl rfl 13 (1) _ rfl cd_kj1 ?_
      refine r_go (.goto 4) 3 rfl rfl rfl 17 [.int (1)] rfl ?_
      exact r_retZ rfl rfl (by decide)
def f7_byteAt_2 (a1 : Int32) (M : cd_M) : Option (Int32) := if a1 < 0 then (some 0) else (if a1 < 4 * (M.1 2 1) then (if cd_in (a1 >>> (2 &&& 31)) 225 = true then (some ((((M.1 17 (a1 >>> (2 &&& 31) : Int32).toNatClampNeg : Int32).toUInt32 >>> ((24 - (8 * (a1 &&& 3)) : Int32).toUInt32 &&& Int32.toUInt32 31)).toInt32) &&& 255)) else none) else (some 0))
set_option maxRecDepth 8000 in
theorem k7_byteAt_2 (a1 : Int32) (M : cd_M) : cd_R 92 0 [some (.ref 2), some (.int (a1))] [] M ((w_PI M) (f7_byteAt_2 a1 M)) := by
  unfold f7_byteAt_2
  refine r_ld (.iload_n 1) 1 0 1 (.int (a1)) rfl rfl rfl rfl 1 rfl ?_
  refine q_br (w_PI M) (.ifCond .lt 13) 3 rfl rfl rfl (a1 < 0) 14 4 [] rfl (fun _ => ?_) (fun _ => ?_)
  · refine q_const (.iconst 0) 1 rfl rfl rfl 15 (0) _ rfl cd_kj0 ?_
    exact r_ret .ireturn 1 rfl rfl rfl _ rfl
  · refine r_ld (.iload_n 1) 1 0 1 (.int (a1)) rfl rfl rfl rfl 5 rfl ?_
    refine q_const (.iconst 4) 1 rfl rfl rfl 6 (4) _ rfl cd_kj4 ?_
    refine r_ld (.aload_n 0) 1 2 0 (.ref 2) rfl rfl rfl rfl 7 rfl ?_
    refine r_go (.getfield 15) 3 rfl rfl rfl 10 [.int (M.1 2 1), .int (4), .int (a1)] rfl ?_
    refine r_go (.imul) 1 rfl rfl rfl 11 [.int (4 * (M.1 2 1)), .int (a1)] rfl ?_
    refine q_br (w_PI M) (.if_icmp .lt 5) 3 rfl rfl rfl (a1 < 4 * (M.1 2 1)) 16 14 [] rfl (fun _ => ?_) (fun _ => ?_)
    · refine r_ld (.aload_n 0) 1 2 0 (.ref 2) rfl rfl rfl rfl 17 rfl ?_
      refine r_go (.getfield 9) 3 rfl rfl rfl 20 [.ref 17] rfl ?_
      refine r_ld (.iload_n 1) 1 0 1 (.int (a1)) rfl rfl rfl rfl 21 rfl ?_
      refine q_const (.iconst 2) 1 rfl rfl rfl 22 (2) _ rfl cd_kj2 ?_
      refine r_go (.ishr) 1 rfl rfl rfl 23 [.int (a1 >>> (2 &&& 31)), .ref 17] rfl ?_
      refine q_iald (w_PI M) rfl rfl 17 225 rfl ?_
      refine q_const (.bipush 24) 2 rfl rfl rfl 26 (24) _ rfl cd_kc24 ?_
      refine q_const (.bipush 8) 2 rfl rfl rfl 28 (8) _ rfl cd_kc8 ?_
      refine r_ld (.iload_n 1) 1 0 1 (.int (a1)) rfl rfl rfl rfl 29 rfl ?_
      refine q_const (.iconst 3) 1 rfl rfl rfl 30 (3) _ rfl cd_kj3 ?_
      refine r_go (.iand) 1 rfl rfl rfl 31 [.int (a1 &&& 3), .int (8), .int (24), .int (M.1 17 (a1 >>> (2 &&& 31) : Int32).toNatClampNeg)] rfl ?_
      refine r_go (.imul) 1 rfl rfl rfl 32 [.int (8 * (a1 &&& 3)), .int (24), .int (M.1 17 (a1 >>> (2 &&& 31) : Int32).toNatClampNeg)] rfl ?_
      refine r_go (.isub) 1 rfl rfl rfl 33 [.int (24 - (8 * (a1 &&& 3))), .int (M.1 17 (a1 >>> (2 &&& 31) : Int32).toNatClampNeg)] rfl ?_
      refine r_go (.iushr) 1 rfl rfl rfl 34 [.int (((M.1 17 (a1 >>> (2 &&& 31) : Int32).toNatClampNeg : Int32).toUInt32 >>> ((24 - (8 * (a1 &&& 3)) : Int32).toUInt32 &&& Int32.toUInt32 31)).toInt32)] rfl ?_
      refine q_const (.sipush 255) 3 rfl rfl rfl 37 (255) _ rfl cd_kt255 ?_
      refine r_go (.iand) 1 rfl rfl rfl 38 [.int ((((M.1 17 (a1 >>> (2 &&& 31) : Int32).toNatClampNeg : Int32).toUInt32 >>> ((24 - (8 * (a1 &&& 3)) : Int32).toUInt32 &&& Int32.toUInt32 31)).toInt32) &&& 255)] rfl ?_
      exact r_ret .ireturn 1 rfl rfl rfl _ rfl
    · refine q_const (.iconst 0) 1 rfl rfl rfl 15 (0) _ rfl cd_kj0 ?_
      exact r_ret .ireturn 1 rfl rfl rfl _ rfl
def f7_isLetter (a0 : Int32) (M : cd_M) : Int32 := if a0 < 97 then (0) else (if 122 < a0 then (0) else (1))
set_option maxRecDepth 8000 in
theorem k7_isLetter (a0 : Int32) (M : cd_M) : cd_R 94 0 [some (.int (a0))] [] M ((w_TI M) (f7_isLetter a0 M)) := by
  unfold f7_isLetter
  refine r_ld (.iload_n 0) 1 0 0 (.int (a0)) rfl rfl rfl rfl 1 rfl ?_
  refine q_const (.bipush 97) 2 rfl rfl rfl 3 (97) _ rfl cd_kc97 ?_
  refine q_br (w_TI M) (.if_icmp .lt 13) 3 rfl rfl rfl (a0 < 97) 16 6 [] rfl (fun _ => ?_) (fun _ => ?_)
  · refine q_const (.iconst 0) 1 rfl rfl rfl 17 (0) _ rfl cd_kj0 ?_
    exact r_retZ rfl rfl (by decide)
  · refine r_ld (.iload_n 0) 1 0 0 (.int (a0)) rfl rfl rfl rfl 7 rfl ?_
    refine q_const (.bipush 122) 2 rfl rfl rfl 9 (122) _ rfl cd_kc122 ?_
    refine q_br (w_TI M) (.if_icmp .gt 7) 3 rfl rfl rfl (122 < a0) 16 12 [] rfl (fun _ => ?_) (fun _ => ?_)
    · refine q_const (.iconst 0) 1 rfl rfl rfl 17 (0) _ rfl cd_kj0 ?_
      exact r_retZ rfl rfl (by decide)
    · refine q_const (.iconst 1) 1 rfl rfl rfl 13 (1) _ rfl cd_kj1 ?_
      refine r_go (.goto 4) 3 rfl rfl rfl 17 [.int (1)] rfl ?_
      exact r_retZ rfl rfl (by decide)
def f7_isDigit (a0 : Int32) (M : cd_M) : Int32 := if a0 < 48 then (0) else (if 57 < a0 then (0) else (1))
set_option maxRecDepth 8000 in
theorem k7_isDigit (a0 : Int32) (M : cd_M) : cd_R 95 0 [some (.int (a0))] [] M ((w_TI M) (f7_isDigit a0 M)) := by
  unfold f7_isDigit
  refine r_ld (.iload_n 0) 1 0 0 (.int (a0)) rfl rfl rfl rfl 1 rfl ?_
  refine q_const (.bipush 48) 2 rfl rfl rfl 3 (48) _ rfl cd_kc48 ?_
  refine q_br (w_TI M) (.if_icmp .lt 13) 3 rfl rfl rfl (a0 < 48) 16 6 [] rfl (fun _ => ?_) (fun _ => ?_)
  · refine q_const (.iconst 0) 1 rfl rfl rfl 17 (0) _ rfl cd_kj0 ?_
    exact r_retZ rfl rfl (by decide)
  · refine r_ld (.iload_n 0) 1 0 0 (.int (a0)) rfl rfl rfl rfl 7 rfl ?_
    refine q_const (.bipush 57) 2 rfl rfl rfl 9 (57) _ rfl cd_kc57 ?_
    refine q_br (w_TI M) (.if_icmp .gt 7) 3 rfl rfl rfl (57 < a0) 16 12 [] rfl (fun _ => ?_) (fun _ => ?_)
    · refine q_const (.iconst 0) 1 rfl rfl rfl 17 (0) _ rfl cd_kj0 ?_
      exact r_retZ rfl rfl (by decide)
    · refine q_const (.iconst 1) 1 rfl rfl rfl 13 (1) _ rfl cd_kj1 ?_
      refine r_go (.goto 4) 3 rfl rfl rfl 17 [.int (1)] rfl ?_
      exact r_retZ rfl rfl (by decide)
def f7_passNumber_2_L98 (s0 : Int32) (M : cd_M) : Option cd_M := cd_lt (cd_wI M 2 5 s0) fun M2 => some M2
set_option maxRecDepth 8000 in
theorem k7_passNumber_2_L98 (s0 : Int32) (M : cd_M) : cd_R 91 98 [none] [.int (s0), .ref 2] M (w_PV (f7_passNumber_2_L98 s0 M)) := by
  unfold f7_passNumber_2_L98
  refine q_wr w_PV (.putfield 28) 3 rfl rfl rfl 101 [] (cd_wI M 2 5 s0) rfl (fun M2 => ?_)
  exact r_ret .return_ 1 rfl rfl rfl _ rfl
def f7_passNumber_2_L79 (M : cd_M) : Option cd_M := if 4 < (M.1 2 3) - (M.1 2 4) then (f7_passNumber_2_L98 4 M) else (f7_passNumber_2_L98 2 M)
set_option maxRecDepth 8000 in
theorem k7_passNumber_2_L79 (M : cd_M) : cd_R 91 79 [some (.ref 2)] [] M (w_PV (f7_passNumber_2_L79 M)) := by
  unfold f7_passNumber_2_L79
  refine r_ld (.aload_n 0) 1 2 0 (.ref 2) rfl rfl rfl rfl 80 rfl ?_
  refine r_ld (.aload_n 0) 1 2 0 (.ref 2) rfl rfl rfl rfl 81 rfl ?_
  refine r_go (.getfield 22) 3 rfl rfl rfl 84 [.int (M.1 2 3), .ref 2] rfl ?_
  refine r_ld (.aload_n 0) 1 2 0 (.ref 2) rfl rfl rfl rfl 85 rfl ?_
  refine r_go (.getfield 25) 3 rfl rfl rfl 88 [.int (M.1 2 4), .int (M.1 2 3), .ref 2] rfl ?_
  refine r_go (.isub) 1 rfl rfl rfl 89 [.int ((M.1 2 3) - (M.1 2 4)), .ref 2] rfl ?_
  refine q_const (.iconst 4) 1 rfl rfl rfl 90 (4) _ rfl cd_kj4 ?_
  refine q_br w_PV (.if_icmp .gt 7) 3 rfl rfl rfl (4 < (M.1 2 3) - (M.1 2 4)) 97 93 [.ref 2] rfl (fun _ => ?_) (fun _ => ?_)
  · refine q_const (.iconst 4) 1 rfl rfl rfl 98 (4) _ rfl cd_kj4 ?_
    exact r_w (k7_passNumber_2_L98 4 M) (cd_le_n cd_le_0)
  · refine q_const (.iconst 2) 1 rfl rfl rfl 94 (2) _ rfl cd_kj2 ?_
    refine r_go (.goto 4) 3 rfl rfl rfl 98 [.int (2), .ref 2] rfl ?_
    exact r_w (k7_passNumber_2_L98 2 M) (cd_le_n cd_le_0)
def f7_passNumber_2_L66 (r5 : cd_M → Option cd_M) (M : cd_M) : Option cd_M := cd_lt (cd_wI M 2 3 ((M.1 2 3) + 1)) fun M5 => r5 M5
set_option maxRecDepth 8000 in
theorem k7_passNumber_2_L66 (r5 : cd_M → Option cd_M) (h5 : ∀ (M : cd_M), cd_R 91 5 [some (.ref 2)] [] M (w_PV (r5 M))) (M : cd_M) : cd_R 91 66 [some (.ref 2)] [] M (w_PV (f7_passNumber_2_L66 r5 M)) := by
  unfold f7_passNumber_2_L66
  refine r_ld (.aload_n 0) 1 2 0 (.ref 2) rfl rfl rfl rfl 67 rfl ?_
  refine r_go (.dup) 1 rfl rfl rfl 68 [.ref 2, .ref 2] rfl ?_
  refine r_go (.getfield 22) 3 rfl rfl rfl 71 [.int (M.1 2 3), .ref 2] rfl ?_
  refine q_const (.iconst 1) 1 rfl rfl rfl 72 (1) _ rfl cd_kj1 ?_
  refine r_go (.iadd) 1 rfl rfl rfl 73 [.int ((M.1 2 3) + 1), .ref 2] rfl ?_
  refine q_wr w_PV (.putfield 22) 3 rfl rfl rfl 76 [] (cd_wI M 2 3 ((M.1 2 3) + 1)) rfl (fun M5 => ?_)
  refine r_go (.goto (-71)) 3 rfl rfl rfl 5 [] rfl ?_
  exact r_w (h5 M5) (cd_le_s cd_le_0)
def f7_passNumber_2_L5 : Nat → cd_M → Option cd_M
  | 0, _ => none
  | n + 1, M => if M.1 2 2 ≤ M.1 2 3 then (f7_passNumber_2_L79 M) else ((f7_byteAt_2 (M.1 2 3) M).bind fun v3 => if f7_isDigit v3 M = 0 then (f7_passNumber_2_L79 M) else (if 4 ≤ (M.1 2 3) - (M.1 2 4) then (f7_passNumber_2_L66 (f7_passNumber_2_L5 n) M) else ((f7_byteAt_2 (M.1 2 3) M).bind fun v6 => cd_lt (cd_wI M 2 6 (((10 * (M.1 2 6)) + v6) - 48)) fun M7 => f7_passNumber_2_L66 (f7_passNumber_2_L5 n) M7)))
set_option maxRecDepth 8000 in
theorem k7_passNumber_2_L5 : ∀ (n : Nat) (M : cd_M), cd_R 91 5 [some (.ref 2)] [] M (w_PV (f7_passNumber_2_L5 n M)) := by
  intro n
  induction n with
  | zero =>
    intro M
    exact q_none w_PV rfl
  | succ n ih =>
    intro M
    rw [f7_passNumber_2_L5]
    refine r_ld (.aload_n 0) 1 2 0 (.ref 2) rfl rfl rfl rfl 6 rfl ?_
    refine r_go (.getfield 22) 3 rfl rfl rfl 9 [.int (M.1 2 3)] rfl ?_
    refine r_ld (.aload_n 0) 1 2 0 (.ref 2) rfl rfl rfl rfl 10 rfl ?_
    refine r_go (.getfield 19) 3 rfl rfl rfl 13 [.int (M.1 2 2), .int (M.1 2 3)] rfl ?_
    refine q_br w_PV (.if_icmp .ge 66) 3 rfl rfl rfl (M.1 2 2 ≤ M.1 2 3) 79 16 [] rfl (fun _ => ?_) (fun _ => ?_)
    · exact r_w (k7_passNumber_2_L79 M) (cd_le_s cd_le_0)
    · refine r_ld (.aload_n 0) 1 2 0 (.ref 2) rfl rfl rfl rfl 17 rfl ?_
      refine r_ld (.aload_n 0) 1 2 0 (.ref 2) rfl rfl rfl rfl 18 rfl ?_
      refine r_go (.getfield 22) 3 rfl rfl rfl 21 [.int (M.1 2 3), .ref 2] rfl ?_
      refine q_cI w_PV rfl (.invokevirtual 45) rfl rfl rfl 92 [.ref 2, .int (M.1 2 3)] [] rfl (k7_byteAt_2 (M.1 2 3) M) (fun v3 => ?_)
      refine q_cTIz (.invokestatic 58) rfl rfl rfl 95 rfl [.int (v3)] [] rfl (k7_isDigit v3 M) (fun z4 => ?_)
      refine q_br w_PV (.ifCond .eq 52) 3 rfl rfl rfl (f7_isDigit v3 M = 0) 79 30 [] rfl (fun _ => ?_) (fun _ => ?_)
      · exact r_w (k7_passNumber_2_L79 M) (cd_le_s cd_le_0)
      · refine r_ld (.aload_n 0) 1 2 0 (.ref 2) rfl rfl rfl rfl 31 rfl ?_
        refine r_go (.getfield 22) 3 rfl rfl rfl 34 [.int (M.1 2 3)] rfl ?_
        refine r_ld (.aload_n 0) 1 2 0 (.ref 2) rfl rfl rfl rfl 35 rfl ?_
        refine r_go (.getfield 25) 3 rfl rfl rfl 38 [.int (M.1 2 4), .int (M.1 2 3)] rfl ?_
        refine r_go (.isub) 1 rfl rfl rfl 39 [.int ((M.1 2 3) - (M.1 2 4))] rfl ?_
        refine q_const (.iconst 4) 1 rfl rfl rfl 40 (4) _ rfl cd_kj4 ?_
        refine q_br w_PV (.if_icmp .ge 26) 3 rfl rfl rfl (4 ≤ (M.1 2 3) - (M.1 2 4)) 66 43 [] rfl (fun _ => ?_) (fun _ => ?_)
        · exact r_w (k7_passNumber_2_L66 (f7_passNumber_2_L5 n) ih M) (cd_le_s cd_le_0)
        · refine r_ld (.aload_n 0) 1 2 0 (.ref 2) rfl rfl rfl rfl 44 rfl ?_
          refine q_const (.bipush 10) 2 rfl rfl rfl 46 (10) _ rfl cd_kc10 ?_
          refine r_ld (.aload_n 0) 1 2 0 (.ref 2) rfl rfl rfl rfl 47 rfl ?_
          refine r_go (.getfield 31) 3 rfl rfl rfl 50 [.int (M.1 2 6), .int (10), .ref 2] rfl ?_
          refine r_go (.imul) 1 rfl rfl rfl 51 [.int (10 * (M.1 2 6)), .ref 2] rfl ?_
          refine r_ld (.aload_n 0) 1 2 0 (.ref 2) rfl rfl rfl rfl 52 rfl ?_
          refine r_ld (.aload_n 0) 1 2 0 (.ref 2) rfl rfl rfl rfl 53 rfl ?_
          refine r_go (.getfield 22) 3 rfl rfl rfl 56 [.int (M.1 2 3), .ref 2, .int (10 * (M.1 2 6)), .ref 2] rfl ?_
          refine q_cI w_PV rfl (.invokevirtual 45) rfl rfl rfl 92 [.ref 2, .int (M.1 2 3)] [.int (10 * (M.1 2 6)), .ref 2] rfl (k7_byteAt_2 (M.1 2 3) M) (fun v6 => ?_)
          refine r_go (.iadd) 1 rfl rfl rfl 60 [.int ((10 * (M.1 2 6)) + v6), .ref 2] rfl ?_
          refine q_const (.bipush 48) 2 rfl rfl rfl 62 (48) _ rfl cd_kc48 ?_
          refine r_go (.isub) 1 rfl rfl rfl 63 [.int (((10 * (M.1 2 6)) + v6) - 48), .ref 2] rfl ?_
          refine q_wr w_PV (.putfield 31) 3 rfl rfl rfl 66 [] (cd_wI M 2 6 (((10 * (M.1 2 6)) + v6) - 48)) rfl (fun M7 => ?_)
          exact r_w (k7_passNumber_2_L66 (f7_passNumber_2_L5 n) ih M7) (cd_le_s cd_le_0)
def f7_passNumber_2 (M : cd_M) : Option cd_M := cd_lt (cd_wI M 2 6 0) fun M1 => f7_passNumber_2_L5 cd_fu M1
set_option maxRecDepth 8000 in
theorem k7_passNumber_2 (M : cd_M) : cd_R 91 0 [some (.ref 2)] [] M (w_PV (f7_passNumber_2 M)) := by
  unfold f7_passNumber_2
  refine r_ld (.aload_n 0) 1 2 0 (.ref 2) rfl rfl rfl rfl 1 rfl ?_
  refine q_const (.iconst 0) 1 rfl rfl rfl 2 (0) _ rfl cd_kj0 ?_
  refine q_wr w_PV (.putfield 31) 3 rfl rfl rfl 5 [] (cd_wI M 2 6 0) rfl (fun M1 => ?_)
  exact r_w (k7_passNumber_2_L5 cd_fu M1) (cd_le_s cd_le_0)
def f7_passWord_2_L38 (M : cd_M) : Option cd_M := cd_lt (cd_wI M 2 5 1) fun M1 => some M1
set_option maxRecDepth 8000 in
theorem k7_passWord_2_L38 (M : cd_M) : cd_R 90 38 [some (.ref 2)] [] M (w_PV (f7_passWord_2_L38 M)) := by
  unfold f7_passWord_2_L38
  refine r_ld (.aload_n 0) 1 2 0 (.ref 2) rfl rfl rfl rfl 39 rfl ?_
  refine q_const (.iconst 1) 1 rfl rfl rfl 40 (1) _ rfl cd_kj1 ?_
  refine q_wr w_PV (.putfield 28) 3 rfl rfl rfl 43 [] (cd_wI M 2 5 1) rfl (fun M1 => ?_)
  exact r_ret .return_ 1 rfl rfl rfl _ rfl
def f7_passWord_2_L0 : Nat → cd_M → Option cd_M
  | 0, _ => none
  | n + 1, M => if M.1 2 2 ≤ M.1 2 3 then (f7_passWord_2_L38 M) else ((f7_byteAt_2 (M.1 2 3) M).bind fun v2 => if f7_isLetter v2 M = 0 then (f7_passWord_2_L38 M) else (cd_lt (cd_wI M 2 3 ((M.1 2 3) + 1)) fun M4 => f7_passWord_2_L0 n M4))
set_option maxRecDepth 8000 in
theorem k7_passWord_2_L0 : ∀ (n : Nat) (M : cd_M), cd_R 90 0 [some (.ref 2)] [] M (w_PV (f7_passWord_2_L0 n M)) := by
  intro n
  induction n with
  | zero =>
    intro M
    exact q_none w_PV rfl
  | succ n ih =>
    intro M
    rw [f7_passWord_2_L0]
    refine r_ld (.aload_n 0) 1 2 0 (.ref 2) rfl rfl rfl rfl 1 rfl ?_
    refine r_go (.getfield 22) 3 rfl rfl rfl 4 [.int (M.1 2 3)] rfl ?_
    refine r_ld (.aload_n 0) 1 2 0 (.ref 2) rfl rfl rfl rfl 5 rfl ?_
    refine r_go (.getfield 19) 3 rfl rfl rfl 8 [.int (M.1 2 2), .int (M.1 2 3)] rfl ?_
    refine q_br w_PV (.if_icmp .ge 30) 3 rfl rfl rfl (M.1 2 2 ≤ M.1 2 3) 38 11 [] rfl (fun _ => ?_) (fun _ => ?_)
    · exact r_w (k7_passWord_2_L38 M) (cd_le_s cd_le_0)
    · refine r_ld (.aload_n 0) 1 2 0 (.ref 2) rfl rfl rfl rfl 12 rfl ?_
      refine r_ld (.aload_n 0) 1 2 0 (.ref 2) rfl rfl rfl rfl 13 rfl ?_
      refine r_go (.getfield 22) 3 rfl rfl rfl 16 [.int (M.1 2 3), .ref 2] rfl ?_
      refine q_cI w_PV rfl (.invokevirtual 45) rfl rfl rfl 92 [.ref 2, .int (M.1 2 3)] [] rfl (k7_byteAt_2 (M.1 2 3) M) (fun v2 => ?_)
      refine q_cTIz (.invokestatic 52) rfl rfl rfl 94 rfl [.int (v2)] [] rfl (k7_isLetter v2 M) (fun z3 => ?_)
      refine q_br w_PV (.ifCond .eq 16) 3 rfl rfl rfl (f7_isLetter v2 M = 0) 38 25 [] rfl (fun _ => ?_) (fun _ => ?_)
      · exact r_w (k7_passWord_2_L38 M) (cd_le_s cd_le_0)
      · refine r_ld (.aload_n 0) 1 2 0 (.ref 2) rfl rfl rfl rfl 26 rfl ?_
        refine r_go (.dup) 1 rfl rfl rfl 27 [.ref 2, .ref 2] rfl ?_
        refine r_go (.getfield 22) 3 rfl rfl rfl 30 [.int (M.1 2 3), .ref 2] rfl ?_
        refine q_const (.iconst 1) 1 rfl rfl rfl 31 (1) _ rfl cd_kj1 ?_
        refine r_go (.iadd) 1 rfl rfl rfl 32 [.int ((M.1 2 3) + 1), .ref 2] rfl ?_
        refine q_wr w_PV (.putfield 22) 3 rfl rfl rfl 35 [] (cd_wI M 2 3 ((M.1 2 3) + 1)) rfl (fun M4 => ?_)
        refine r_go (.goto (-35)) 3 rfl rfl rfl 0 [] rfl ?_
        exact r_w (ih M4) (cd_le_s cd_le_0)
def f7_passWord_2 (M : cd_M) : Option cd_M := f7_passWord_2_L0 cd_fu M
set_option maxRecDepth 8000 in
theorem k7_passWord_2 (M : cd_M) : cd_R 90 0 [some (.ref 2)] [] M (w_PV (f7_passWord_2 M)) := by
  unfold f7_passWord_2
  exact r_w (k7_passWord_2_L0 cd_fu M) (cd_le_s cd_le_0)
def f7_isBlank (a0 : Int32) (M : cd_M) : Int32 := if a0 = 32 then (1) else (if a0 = 10 then (1) else (0))
set_option maxRecDepth 8000 in
theorem k7_isBlank (a0 : Int32) (M : cd_M) : cd_R 93 0 [some (.int (a0))] [] M ((w_TI M) (f7_isBlank a0 M)) := by
  unfold f7_isBlank
  refine r_ld (.iload_n 0) 1 0 0 (.int (a0)) rfl rfl rfl rfl 1 rfl ?_
  refine q_const (.bipush 32) 2 rfl rfl rfl 3 (32) _ rfl cd_kc32 ?_
  refine q_br (w_TI M) (.if_icmp .eq 9) 3 rfl rfl rfl (a0 = 32) 12 6 [] rfl (fun _ => ?_) (fun _ => ?_)
  · refine q_const (.iconst 1) 1 rfl rfl rfl 13 (1) _ rfl cd_kj1 ?_
    refine r_go (.goto 4) 3 rfl rfl rfl 17 [.int (1)] rfl ?_
    exact r_retZ rfl rfl (by decide)
  · refine r_ld (.iload_n 0) 1 0 0 (.int (a0)) rfl rfl rfl rfl 7 rfl ?_
    refine q_const (.bipush 10) 2 rfl rfl rfl 9 (10) _ rfl cd_kc10 ?_
    refine q_br (w_TI M) (.if_icmp .ne 7) 3 rfl rfl rfl (a0 = 10) 12 16 [] rfl (fun _ => ?_) (fun _ => ?_)
    · refine q_const (.iconst 1) 1 rfl rfl rfl 13 (1) _ rfl cd_kj1 ?_
      refine r_go (.goto 4) 3 rfl rfl rfl 17 [.int (1)] rfl ?_
      exact r_retZ rfl rfl (by decide)
    · refine q_const (.iconst 0) 1 rfl rfl rfl 17 (0) _ rfl cd_kj0 ?_
      exact r_retZ rfl rfl (by decide)
def f7_advance_2_L112 (s0 : Int32) (M : cd_M) : Option cd_M := cd_lt (cd_wI M 2 5 s0) fun M5 => cd_lt (cd_wI M5 2 3 ((M5.1 2 3) + 1)) fun M6 => some M6
set_option maxRecDepth 8000 in
theorem k7_advance_2_L112 (s0 : Int32) (M : cd_M) : cd_R 88 112 [some (.ref 2), none] [.int (s0), .ref 2] M (w_PV (f7_advance_2_L112 s0 M)) := by
  unfold f7_advance_2_L112
  refine q_wr w_PV (.putfield 28) 3 rfl rfl rfl 115 [] (cd_wI M 2 5 s0) rfl (fun M5 => ?_)
  refine r_ld (.aload_n 0) 1 2 0 (.ref 2) rfl rfl rfl rfl 116 rfl ?_
  refine r_go (.dup) 1 rfl rfl rfl 117 [.ref 2, .ref 2] rfl ?_
  refine r_go (.getfield 22) 3 rfl rfl rfl 120 [.int (M5.1 2 3), .ref 2] rfl ?_
  refine q_const (.iconst 1) 1 rfl rfl rfl 121 (1) _ rfl cd_kj1 ?_
  refine r_go (.iadd) 1 rfl rfl rfl 122 [.int ((M5.1 2 3) + 1), .ref 2] rfl ?_
  refine q_wr w_PV (.putfield 22) 3 rfl rfl rfl 125 [] (cd_wI M5 2 3 ((M5.1 2 3) + 1)) rfl (fun M6 => ?_)
  exact r_ret .return_ 1 rfl rfl rfl _ rfl
def f7_advance_2_L38 (M : cd_M) : Option cd_M := cd_lt (cd_wI M 2 4 (M.1 2 3)) fun M1 => if M1.1 2 3 < M1.1 2 2 then ((f7_byteAt_2 (M1.1 2 3) M1).bind fun v2 => if f7_isLetter v2 M1 = 0 then (if f7_isDigit v2 M1 = 0 then (if v2 = 59 then (f7_advance_2_L112 3 M1) else (f7_advance_2_L112 4 M1)) else ((f7_passNumber_2 M1).bind fun M7 => some M7)) else ((f7_passWord_2 M1).bind fun M8 => some M8)) else (cd_lt (cd_wI M1 2 5 0) fun M9 => some M9)
set_option maxRecDepth 8000 in
theorem k7_advance_2_L38 (M : cd_M) : cd_R 88 38 [some (.ref 2), none] [] M (w_PV (f7_advance_2_L38 M)) := by
  unfold f7_advance_2_L38
  refine r_ld (.aload_n 0) 1 2 0 (.ref 2) rfl rfl rfl rfl 39 rfl ?_
  refine r_ld (.aload_n 0) 1 2 0 (.ref 2) rfl rfl rfl rfl 40 rfl ?_
  refine r_go (.getfield 22) 3 rfl rfl rfl 43 [.int (M.1 2 3), .ref 2] rfl ?_
  refine q_wr w_PV (.putfield 25) 3 rfl rfl rfl 46 [] (cd_wI M 2 4 (M.1 2 3)) rfl (fun M1 => ?_)
  refine r_ld (.aload_n 0) 1 2 0 (.ref 2) rfl rfl rfl rfl 47 rfl ?_
  refine r_go (.getfield 22) 3 rfl rfl rfl 50 [.int (M1.1 2 3)] rfl ?_
  refine r_ld (.aload_n 0) 1 2 0 (.ref 2) rfl rfl rfl rfl 51 rfl ?_
  refine r_go (.getfield 19) 3 rfl rfl rfl 54 [.int (M1.1 2 2), .int (M1.1 2 3)] rfl ?_
  refine q_br w_PV (.if_icmp .lt 9) 3 rfl rfl rfl (M1.1 2 3 < M1.1 2 2) 63 57 [] rfl (fun _ => ?_) (fun _ => ?_)
  · refine r_ld (.aload_n 0) 1 2 0 (.ref 2) rfl rfl rfl rfl 64 rfl ?_
    refine r_ld (.aload_n 0) 1 2 0 (.ref 2) rfl rfl rfl rfl 65 rfl ?_
    refine r_go (.getfield 22) 3 rfl rfl rfl 68 [.int (M1.1 2 3), .ref 2] rfl ?_
    refine q_cI w_PV rfl (.invokevirtual 45) rfl rfl rfl 92 [.ref 2, .int (M1.1 2 3)] [] rfl (k7_byteAt_2 (M1.1 2 3) M1) (fun v2 => ?_)
    refine r_st (.istore_n 1) 1 0 1 rfl rfl rfl 72 rfl [some (.ref 2), some (.int (v2))] rfl ?_
    refine r_ld (.iload_n 1) 1 0 1 (.int (v2)) rfl rfl rfl rfl 73 rfl ?_
    refine q_cTIz (.invokestatic 52) rfl rfl rfl 94 rfl [.int (v2)] [] rfl (k7_isLetter v2 M1) (fun z3 => ?_)
    refine q_br w_PV (.ifCond .eq 10) 3 rfl rfl rfl (f7_isLetter v2 M1 = 0) 86 79 [] rfl (fun _ => ?_) (fun _ => ?_)
    · refine r_ld (.iload_n 1) 1 0 1 (.int (v2)) rfl rfl rfl rfl 87 rfl ?_
      refine q_cTIz (.invokestatic 58) rfl rfl rfl 95 rfl [.int (v2)] [] rfl (k7_isDigit v2 M1) (fun z4 => ?_)
      refine q_br w_PV (.ifCond .eq 10) 3 rfl rfl rfl (f7_isDigit v2 M1 = 0) 100 93 [] rfl (fun _ => ?_) (fun _ => ?_)
      · refine r_ld (.aload_n 0) 1 2 0 (.ref 2) rfl rfl rfl rfl 101 rfl ?_
        refine r_ld (.iload_n 1) 1 0 1 (.int (v2)) rfl rfl rfl rfl 102 rfl ?_
        refine q_const (.bipush 59) 2 rfl rfl rfl 104 (59) _ rfl cd_kc59 ?_
        refine q_br w_PV (.if_icmp .ne 7) 3 rfl rfl rfl (v2 = 59) 107 111 [.ref 2] rfl (fun _ => ?_) (fun _ => ?_)
        · refine q_const (.iconst 3) 1 rfl rfl rfl 108 (3) _ rfl cd_kj3 ?_
          refine r_go (.goto 4) 3 rfl rfl rfl 112 [.int (3), .ref 2] rfl ?_
          exact r_w (k7_advance_2_L112 3 M1) (cd_le_s (cd_le_n cd_le_0))
        · refine q_const (.iconst 4) 1 rfl rfl rfl 112 (4) _ rfl cd_kj4 ?_
          exact r_w (k7_advance_2_L112 4 M1) (cd_le_s (cd_le_n cd_le_0))
      · refine r_ld (.aload_n 0) 1 2 0 (.ref 2) rfl rfl rfl rfl 94 rfl ?_
        refine q_cV w_PV rfl (.invokevirtual 61) rfl rfl rfl 91 [.ref 2] [] rfl (k7_passNumber_2 M1) (fun M7 => ?_)
        refine r_go (.goto 28) 3 rfl rfl rfl 125 [] rfl ?_
        exact r_ret .return_ 1 rfl rfl rfl _ rfl
    · refine r_ld (.aload_n 0) 1 2 0 (.ref 2) rfl rfl rfl rfl 80 rfl ?_
      refine q_cV w_PV rfl (.invokevirtual 55) rfl rfl rfl 90 [.ref 2] [] rfl (k7_passWord_2 M1) (fun M8 => ?_)
      refine r_go (.goto 42) 3 rfl rfl rfl 125 [] rfl ?_
      exact r_ret .return_ 1 rfl rfl rfl _ rfl
  · refine r_ld (.aload_n 0) 1 2 0 (.ref 2) rfl rfl rfl rfl 58 rfl ?_
    refine q_const (.iconst 0) 1 rfl rfl rfl 59 (0) _ rfl cd_kj0 ?_
    refine q_wr w_PV (.putfield 28) 3 rfl rfl rfl 62 [] (cd_wI M1 2 5 0) rfl (fun M9 => ?_)
    exact r_ret .return_ 1 rfl rfl rfl _ rfl
def f7_advance_2_L0 : Nat → cd_M → Option cd_M
  | 0, _ => none
  | n + 1, M => if M.1 2 2 ≤ M.1 2 3 then (f7_advance_2_L38 M) else ((f7_byteAt_2 (M.1 2 3) M).bind fun v10 => if f7_isBlank v10 M = 0 then (f7_advance_2_L38 M) else (cd_lt (cd_wI M 2 3 ((M.1 2 3) + 1)) fun M12 => f7_advance_2_L0 n M12))
set_option maxRecDepth 8000 in
theorem k7_advance_2_L0 : ∀ (n : Nat) (M : cd_M), cd_R 88 0 [some (.ref 2), none] [] M (w_PV (f7_advance_2_L0 n M)) := by
  intro n
  induction n with
  | zero =>
    intro M
    exact q_none w_PV rfl
  | succ n ih =>
    intro M
    rw [f7_advance_2_L0]
    refine r_ld (.aload_n 0) 1 2 0 (.ref 2) rfl rfl rfl rfl 1 rfl ?_
    refine r_go (.getfield 22) 3 rfl rfl rfl 4 [.int (M.1 2 3)] rfl ?_
    refine r_ld (.aload_n 0) 1 2 0 (.ref 2) rfl rfl rfl rfl 5 rfl ?_
    refine r_go (.getfield 19) 3 rfl rfl rfl 8 [.int (M.1 2 2), .int (M.1 2 3)] rfl ?_
    refine q_br w_PV (.if_icmp .ge 30) 3 rfl rfl rfl (M.1 2 2 ≤ M.1 2 3) 38 11 [] rfl (fun _ => ?_) (fun _ => ?_)
    · exact r_w (k7_advance_2_L38 M) (cd_le_s (cd_le_n cd_le_0))
    · refine r_ld (.aload_n 0) 1 2 0 (.ref 2) rfl rfl rfl rfl 12 rfl ?_
      refine r_ld (.aload_n 0) 1 2 0 (.ref 2) rfl rfl rfl rfl 13 rfl ?_
      refine r_go (.getfield 22) 3 rfl rfl rfl 16 [.int (M.1 2 3), .ref 2] rfl ?_
      refine q_cI w_PV rfl (.invokevirtual 45) rfl rfl rfl 92 [.ref 2, .int (M.1 2 3)] [] rfl (k7_byteAt_2 (M.1 2 3) M) (fun v10 => ?_)
      refine q_cTIz (.invokestatic 49) rfl rfl rfl 93 rfl [.int (v10)] [] rfl (k7_isBlank v10 M) (fun z11 => ?_)
      refine q_br w_PV (.ifCond .eq 16) 3 rfl rfl rfl (f7_isBlank v10 M = 0) 38 25 [] rfl (fun _ => ?_) (fun _ => ?_)
      · exact r_w (k7_advance_2_L38 M) (cd_le_s (cd_le_n cd_le_0))
      · refine r_ld (.aload_n 0) 1 2 0 (.ref 2) rfl rfl rfl rfl 26 rfl ?_
        refine r_go (.dup) 1 rfl rfl rfl 27 [.ref 2, .ref 2] rfl ?_
        refine r_go (.getfield 22) 3 rfl rfl rfl 30 [.int (M.1 2 3), .ref 2] rfl ?_
        refine q_const (.iconst 1) 1 rfl rfl rfl 31 (1) _ rfl cd_kj1 ?_
        refine r_go (.iadd) 1 rfl rfl rfl 32 [.int ((M.1 2 3) + 1), .ref 2] rfl ?_
        refine q_wr w_PV (.putfield 22) 3 rfl rfl rfl 35 [] (cd_wI M 2 3 ((M.1 2 3) + 1)) rfl (fun M12 => ?_)
        refine r_go (.goto (-35)) 3 rfl rfl rfl 0 [] rfl ?_
        exact r_w (ih M12) (cd_le_s (cd_le_n cd_le_0))
def f7_advance_2 (M : cd_M) : Option cd_M := f7_advance_2_L0 cd_fu M
set_option maxRecDepth 8000 in
theorem k7_advance_2 (M : cd_M) : cd_R 88 0 [some (.ref 2), none] [] M (w_PV (f7_advance_2 M)) := by
  unfold f7_advance_2
  exact r_w (k7_advance_2_L0 cd_fu M) (cd_le_s (cd_le_n cd_le_0))
def f7_open_2_L14 (s0 : Int32) (M : cd_M) : Option cd_M := cd_lt (cd_wI M 2 2 s0) fun M2 => cd_lt (cd_wI M2 2 3 0) fun M3 => (f7_advance_2 M3).bind fun M4 => some M4
set_option maxRecDepth 8000 in
theorem k7_open_2_L14 (s0 : Int32) (M : cd_M) : cd_R 84 14 [some (.ref 2), none] [.int (s0), .ref 2] M (w_PV (f7_open_2_L14 s0 M)) := by
  unfold f7_open_2_L14
  refine q_wr w_PV (.putfield 19) 3 rfl rfl rfl 17 [] (cd_wI M 2 2 s0) rfl (fun M2 => ?_)
  refine r_ld (.aload_n 0) 1 2 0 (.ref 2) rfl rfl rfl rfl 18 rfl ?_
  refine q_const (.iconst 0) 1 rfl rfl rfl 19 (0) _ rfl cd_kj0 ?_
  refine q_wr w_PV (.putfield 22) 3 rfl rfl rfl 22 [] (cd_wI M2 2 3 0) rfl (fun M3 => ?_)
  refine r_ld (.aload_n 0) 1 2 0 (.ref 2) rfl rfl rfl rfl 23 rfl ?_
  refine q_cV w_PV rfl (.invokevirtual 42) rfl rfl rfl 88 [.ref 2] [] rfl (k7_advance_2 M3) (fun M4 => ?_)
  exact r_ret .return_ 1 rfl rfl rfl _ rfl
def f7_open_2 (a1 : Int32) (M : cd_M) : Option cd_M := if f7_holds_2 a1 M = 0 then (f7_open_2_L14 0 M) else (f7_open_2_L14 a1 M)
set_option maxRecDepth 8000 in
theorem k7_open_2 (a1 : Int32) (M : cd_M) : cd_R 84 0 [some (.ref 2), some (.int (a1))] [] M (w_PV (f7_open_2 a1 M)) := by
  unfold f7_open_2
  refine r_ld (.aload_n 0) 1 2 0 (.ref 2) rfl rfl rfl rfl 1 rfl ?_
  refine r_ld (.aload_n 0) 1 2 0 (.ref 2) rfl rfl rfl rfl 2 rfl ?_
  refine r_ld (.iload_n 1) 1 0 1 (.int (a1)) rfl rfl rfl rfl 3 rfl ?_
  refine q_cTIz (.invokevirtual 38) rfl rfl rfl 82 rfl [.ref 2, .int (a1)] [.ref 2] rfl (k7_holds_2 a1 M) (fun z1 => ?_)
  refine q_br w_PV (.ifCond .eq 7) 3 rfl rfl rfl (f7_holds_2 a1 M = 0) 13 9 [.ref 2] rfl (fun _ => ?_) (fun _ => ?_)
  · refine q_const (.iconst 0) 1 rfl rfl rfl 14 (0) _ rfl cd_kj0 ?_
    exact r_w (k7_open_2_L14 0 M) (cd_le_s (cd_le_n cd_le_0))
  · refine r_ld (.iload_n 1) 1 0 1 (.int (a1)) rfl rfl rfl rfl 10 rfl ?_
    refine r_go (.goto 4) 3 rfl rfl rfl 14 [.int (a1), .ref 2] rfl ?_
    exact r_w (k7_open_2_L14 a1 M) (cd_le_s (cd_le_n cd_le_0))
def fJ0_coder_1000 (M : cd_M) : Int32 := if (1 : Int32) = 0 then (1) else (0)
set_option maxRecDepth 8000 in
theorem kJ0_coder_1000 (M : cd_M) : cd_R 240 0 [some (.ref 1000)] [] M ((w_TI M) (fJ0_coder_1000 M)) := by
  unfold fJ0_coder_1000
  refine r_go (.getstatic 38) 3 rfl rfl rfl 3 [.int (1)] rfl ?_
  refine q_br (w_TI M) (.ifCond .eq 10) 3 rfl rfl rfl ((1 : Int32) = 0) 13 6 [] rfl (fun _ => ?_) (fun _ => ?_)
  · refine q_const (.iconst 1) 1 rfl rfl rfl 14 (1) _ rfl cd_kj1 ?_
    exact r_retB rfl rfl (by decide)
  · refine r_ld (.aload_n 0) 1 2 0 (.ref 1000) rfl rfl rfl rfl 7 rfl ?_
    refine r_go (.getfield 15) 3 rfl rfl rfl 10 [.int (0)] rfl ?_
    refine r_go (.goto 4) 3 rfl rfl rfl 14 [.int (0)] rfl ?_
    exact r_retB rfl rfl (by decide)
def fJ0_length_1000 (M : cd_M) : Int32 := (5 >>> ((fJ0_coder_1000 M) &&& 31))
set_option maxRecDepth 8000 in
theorem kJ0_length_1000 (M : cd_M) : cd_R 238 0 [some (.ref 1000)] [] M ((w_TI M) (fJ0_length_1000 M)) := by
  unfold fJ0_length_1000
  refine r_ld (.aload_n 0) 1 2 0 (.ref 1000) rfl rfl rfl rfl 1 rfl ?_
  refine r_go (.getfield 9) 3 rfl rfl rfl 4 [.ref 1100] rfl ?_
  refine r_go (.arraylength) 1 rfl rfl rfl 5 [.int (5)] rfl ?_
  refine r_ld (.aload_n 0) 1 2 0 (.ref 1000) rfl rfl rfl rfl 6 rfl ?_
  refine q_cTI (.invokevirtual 335) rfl rfl rfl 240 [.ref 1000] [.int (5)] rfl (kJ0_coder_1000 M) ?_
  refine r_go (.ishr) 1 rfl rfl rfl 10 [.int (5 >>> ((fJ0_coder_1000 M) &&& 31))] rfl ?_
  exact r_ret .ireturn 1 rfl rfl rfl _ rfl
def fJ0_isLatin1_1000 (M : cd_M) : Int32 := if (1 : Int32) = 0 then (0) else (if (0 : Int32) = 0 then (1) else (0))
set_option maxRecDepth 8000 in
theorem kJ0_isLatin1_1000 (M : cd_M) : cd_R 241 0 [some (.ref 1000)] [] M ((w_TI M) (fJ0_isLatin1_1000 M)) := by
  unfold fJ0_isLatin1_1000
  refine r_go (.getstatic 38) 3 rfl rfl rfl 3 [.int (1)] rfl ?_
  refine q_br (w_TI M) (.ifCond .eq 14) 3 rfl rfl rfl ((1 : Int32) = 0) 17 6 [] rfl (fun _ => ?_) (fun _ => ?_)
  · refine q_const (.iconst 0) 1 rfl rfl rfl 18 (0) _ rfl cd_kj0 ?_
    exact r_retZ rfl rfl (by decide)
  · refine r_ld (.aload_n 0) 1 2 0 (.ref 1000) rfl rfl rfl rfl 7 rfl ?_
    refine r_go (.getfield 15) 3 rfl rfl rfl 10 [.int (0)] rfl ?_
    refine q_br (w_TI M) (.ifCond .ne 7) 3 rfl rfl rfl ((0 : Int32) = 0) 13 17 [] rfl (fun _ => ?_) (fun _ => ?_)
    · refine q_const (.iconst 1) 1 rfl rfl rfl 14 (1) _ rfl cd_kj1 ?_
      refine r_go (.goto 4) 3 rfl rfl rfl 18 [.int (1)] rfl ?_
      exact r_retZ rfl rfl (by decide)
    · refine q_const (.iconst 0) 1 rfl rfl rfl 18 (0) _ rfl cd_kj0 ?_
      exact r_retZ rfl rfl (by decide)
def fJ3_checkIndex_1200_L9 (a0 : Int32) (a1 : Int32) (M : cd_M) : Option (Int32) := none
set_option maxRecDepth 8000 in
theorem kJ3_checkIndex_1200_L9 (a0 : Int32) (a1 : Int32) (M : cd_M) : cd_R 244 9 [some (.int (a0)), some (.int (a1)), some (.ref 1200)] [] M ((w_PI M) (fJ3_checkIndex_1200_L9 a0 a1 M)) := by
  unfold fJ3_checkIndex_1200_L9
  refine r_ld (.aload_n 2) 1 2 2 (.ref 1200) rfl rfl rfl rfl 10 rfl ?_
  refine r_ld (.iload_n 0) 1 0 0 (.int (a0)) rfl rfl rfl rfl 11 rfl ?_
  refine r_ld (.iload_n 1) 1 0 1 (.int (a1)) rfl rfl rfl rfl 12 rfl ?_
  exact q_none (w_PI M) rfl
def fJ3_checkIndex_1200 (a0 : Int32) (a1 : Int32) (M : cd_M) : Option (Int32) := if a0 < 0 then (fJ3_checkIndex_1200_L9 a0 a1 M) else (if a0 < a1 then (some a0) else (fJ3_checkIndex_1200_L9 a0 a1 M))
set_option maxRecDepth 8000 in
theorem kJ3_checkIndex_1200 (a0 : Int32) (a1 : Int32) (M : cd_M) : cd_R 244 0 [some (.int (a0)), some (.int (a1)), some (.ref 1200)] [] M ((w_PI M) (fJ3_checkIndex_1200 a0 a1 M)) := by
  unfold fJ3_checkIndex_1200
  refine r_ld (.iload_n 0) 1 0 0 (.int (a0)) rfl rfl rfl rfl 1 rfl ?_
  refine q_br (w_PI M) (.ifCond .lt 8) 3 rfl rfl rfl (a0 < 0) 9 4 [] rfl (fun _ => ?_) (fun _ => ?_)
  · exact r_w (kJ3_checkIndex_1200_L9 a0 a1 M) (cd_le_s (cd_le_s (cd_le_s cd_le_0)))
  · refine r_ld (.iload_n 0) 1 0 0 (.int (a0)) rfl rfl rfl rfl 5 rfl ?_
    refine r_ld (.iload_n 1) 1 0 1 (.int (a1)) rfl rfl rfl rfl 6 rfl ?_
    refine q_br (w_PI M) (.if_icmp .lt 10) 3 rfl rfl rfl (a0 < a1) 16 9 [] rfl (fun _ => ?_) (fun _ => ?_)
    · refine r_ld (.iload_n 0) 1 0 0 (.int (a0)) rfl rfl rfl rfl 17 rfl ?_
      exact r_ret .ireturn 1 rfl rfl rfl _ rfl
    · exact r_w (kJ3_checkIndex_1200_L9 a0 a1 M) (cd_le_s (cd_le_s (cd_le_s cd_le_0)))
def fJ0_checkIndex (a0 : Int32) (a1 : Int32) (M : cd_M) : Option Unit := (fJ3_checkIndex_1200 a0 a1 M).bind fun v1 => some ()
set_option maxRecDepth 8000 in
theorem kJ0_checkIndex (a0 : Int32) (a1 : Int32) (M : cd_M) : cd_R 242 0 [some (.int (a0)), some (.int (a1))] [] M ((w_PU M) (fJ0_checkIndex a0 a1 M)) := by
  unfold fJ0_checkIndex
  refine r_ld (.iload_n 0) 1 0 0 (.int (a0)) rfl rfl rfl rfl 1 rfl ?_
  refine r_ld (.iload_n 1) 1 0 1 (.int (a1)) rfl rfl rfl rfl 2 rfl ?_
  refine r_go (.getstatic 1053) 3 rfl rfl rfl 5 [.ref 1200, .int (a1), .int (a0)] rfl ?_
  refine q_cI (w_PU M) rfl (.invokestatic 1059) rfl rfl rfl 244 [.int (a0), .int (a1), .ref 1200] [] rfl (kJ3_checkIndex_1200 a0 a1 M) (fun v1 => ?_)
  refine r_go (.pop) 1 rfl rfl rfl 9 [] rfl ?_
  exact r_ret .return_ 1 rfl rfl rfl _ rfl
def fJ1_charAt_1100 (a1 : Int32) (M : cd_M) : Option (Int32) := (fJ0_checkIndex a1 5 M).bind fun _ => if cd_in a1 5 = true then (some ((((cd_sbyte 1100 a1) &&& 255 : Int32).toUInt32 % 65536).toInt32)) else none
set_option maxRecDepth 8000 in
theorem kJ1_charAt_1100 (a1 : Int32) (M : cd_M) : cd_R 243 0 [some (.ref 1100), some (.int (a1))] [] M ((w_PI M) (fJ1_charAt_1100 a1 M)) := by
  unfold fJ1_charAt_1100
  refine r_ld (.iload_n 1) 1 0 1 (.int (a1)) rfl rfl rfl rfl 1 rfl ?_
  refine r_ld (.aload_n 0) 1 2 0 (.ref 1100) rfl rfl rfl rfl 2 rfl ?_
  refine r_go (.arraylength) 1 rfl rfl rfl 3 [.int (5), .int (a1)] rfl ?_
  refine q_cU (w_PI M) rfl (.invokestatic 9) rfl rfl rfl 242 [.int (a1), .int (5)] [] rfl (kJ0_checkIndex a1 5 M) ?_
  refine r_ld (.aload_n 0) 1 2 0 (.ref 1100) rfl rfl rfl rfl 7 rfl ?_
  refine r_ld (.iload_n 1) 1 0 1 (.int (a1)) rfl rfl rfl rfl 8 rfl ?_
  refine q_sbald (w_PI M) rfl rfl 1100 5 rfl rfl (by decide) ?_
  refine q_const (.sipush 255) 3 rfl rfl rfl 12 (255) _ rfl cd_kt255 ?_
  refine r_go (.iand) 1 rfl rfl rfl 13 [.int ((cd_sbyte 1100 a1) &&& 255)] rfl ?_
  refine r_go (.i2c) 1 rfl rfl rfl 14 [.int ((((cd_sbyte 1100 a1) &&& 255 : Int32).toUInt32 % 65536).toInt32)] rfl ?_
  exact r_retC rfl rfl (pk_nc _)
def fJ0_charAt_1000 (a1 : Int32) (M : cd_M) : Option (Int32) := if fJ0_isLatin1_1000 M = 0 then (none) else ((fJ1_charAt_1100 a1 M).bind fun v2 => some v2)
set_option maxRecDepth 8000 in
theorem kJ0_charAt_1000 (a1 : Int32) (M : cd_M) : cd_R 239 0 [some (.ref 1000), some (.int (a1))] [] M ((w_PI M) (fJ0_charAt_1000 a1 M)) := by
  unfold fJ0_charAt_1000
  refine r_ld (.aload_n 0) 1 2 0 (.ref 1000) rfl rfl rfl rfl 1 rfl ?_
  refine q_cTIz (.invokevirtual 492) rfl rfl rfl 241 rfl [.ref 1000] [] rfl (kJ0_isLatin1_1000 M) (fun z1 => ?_)
  refine q_br (w_PI M) (.ifCond .eq 12) 3 rfl rfl rfl (fJ0_isLatin1_1000 M = 0) 16 7 [] rfl (fun _ => ?_) (fun _ => ?_)
  · refine r_ld (.aload_n 0) 1 2 0 (.ref 1000) rfl rfl rfl rfl 17 rfl ?_
    refine r_go (.getfield 9) 3 rfl rfl rfl 20 [.ref 1100] rfl ?_
    refine r_ld (.iload_n 1) 1 0 1 (.int (a1)) rfl rfl rfl rfl 21 rfl ?_
    exact q_none (w_PI M) rfl
  · refine r_ld (.aload_n 0) 1 2 0 (.ref 1000) rfl rfl rfl rfl 8 rfl ?_
    refine r_go (.getfield 9) 3 rfl rfl rfl 11 [.ref 1100] rfl ?_
    refine r_ld (.iload_n 1) 1 0 1 (.int (a1)) rfl rfl rfl rfl 12 rfl ?_
    refine q_cIc (w_PI M) rfl (.invokestatic 495) rfl rfl rfl 243 rfl [.ref 1100, .int (a1)] [] rfl (kJ1_charAt_1100 a1 M) (fun v2 z3 => ?_)
    exact r_retC rfl rfl z3
def f7_isWord_2_1000_L28 : Nat → Int32 → cd_M → Option (Int32)
  | 0, _, _ => none
  | n + 1, a2, M => if fJ0_length_1000 M ≤ a2 then (some 1) else ((f7_byteAt_2 ((M.1 2 4) + a2) M).bind fun v1 => (fJ0_charAt_1000 a2 M).bind fun v2 => if v1 = v2 then (cd_lt (a2 + (1)) fun x4 => f7_isWord_2_1000_L28 n x4 M) else (some 0))
set_option maxRecDepth 8000 in
theorem k7_isWord_2_1000_L28 : ∀ (n : Nat) (a2 : Int32) (M : cd_M), cd_R 89 28 [some (.ref 2), some (.ref 1000), some (.int (a2))] [] M ((w_PI M) (f7_isWord_2_1000_L28 n a2 M)) := by
  intro n
  induction n with
  | zero =>
    intro a2 M
    exact q_none (w_PI M) rfl
  | succ n ih =>
    intro a2 M
    rw [f7_isWord_2_1000_L28]
    refine r_ld (.iload_n 2) 1 0 2 (.int (a2)) rfl rfl rfl rfl 29 rfl ?_
    refine r_ld (.aload_n 1) 1 2 1 (.ref 1000) rfl rfl rfl rfl 30 rfl ?_
    refine q_cTI (.invokevirtual 64) rfl rfl rfl 238 [.ref 1000] [.int (a2)] rfl (kJ0_length_1000 M) ?_
    refine q_br (w_PI M) (.if_icmp .ge 29) 3 rfl rfl rfl (fJ0_length_1000 M ≤ a2) 62 36 [] rfl (fun _ => ?_) (fun _ => ?_)
    · refine q_const (.iconst 1) 1 rfl rfl rfl 63 (1) _ rfl cd_kj1 ?_
      exact r_retZ rfl rfl (by decide)
    · refine r_ld (.aload_n 0) 1 2 0 (.ref 2) rfl rfl rfl rfl 37 rfl ?_
      refine r_ld (.aload_n 0) 1 2 0 (.ref 2) rfl rfl rfl rfl 38 rfl ?_
      refine r_go (.getfield 25) 3 rfl rfl rfl 41 [.int (M.1 2 4), .ref 2] rfl ?_
      refine r_ld (.iload_n 2) 1 0 2 (.int (a2)) rfl rfl rfl rfl 42 rfl ?_
      refine r_go (.iadd) 1 rfl rfl rfl 43 [.int ((M.1 2 4) + a2), .ref 2] rfl ?_
      refine q_cI (w_PI M) rfl (.invokevirtual 45) rfl rfl rfl 92 [.ref 2, .int ((M.1 2 4) + a2)] [] rfl (k7_byteAt_2 ((M.1 2 4) + a2) M) (fun v1 => ?_)
      refine r_ld (.aload_n 1) 1 2 1 (.ref 1000) rfl rfl rfl rfl 47 rfl ?_
      refine r_ld (.iload_n 2) 1 0 2 (.int (a2)) rfl rfl rfl rfl 48 rfl ?_
      refine q_cIc (w_PI M) rfl (.invokevirtual 69) rfl rfl rfl 239 rfl [.ref 1000, .int (a2)] [.int (v1)] rfl (kJ0_charAt_1000 a2 M) (fun v2 z3 => ?_)
      refine q_br (w_PI M) (.if_icmp .eq 5) 3 rfl rfl rfl (v1 = v2) 56 54 [] rfl (fun _ => ?_) (fun _ => ?_)
      · refine q_inc (w_PI M) 2 (1) (a2) rfl rfl rfl 59 rfl (1) cd_kj1 (fun x4 => [some (.ref 2), some (.ref 1000), some (.int (x4))]) (fun _ => rfl) (fun x4 => ?_)
        refine r_go (.goto (-31)) 3 rfl rfl rfl 28 [] rfl ?_
        exact r_w (ih x4 M) (cd_le_s (cd_le_s (cd_le_s cd_le_0)))
      · refine q_const (.iconst 0) 1 rfl rfl rfl 55 (0) _ rfl cd_kj0 ?_
        exact r_retZ rfl rfl (by decide)
def f7_isWord_2_1000 (M : cd_M) : Option (Int32) := if M.1 2 5 = 1 then (if (M.1 2 3) - (M.1 2 4) = fJ0_length_1000 M then (f7_isWord_2_1000_L28 cd_fu 0 M) else (some 0)) else (some 0)
set_option maxRecDepth 8000 in
theorem k7_isWord_2_1000 (M : cd_M) : cd_R 89 0 [some (.ref 2), some (.ref 1000), none] [] M ((w_PI M) (f7_isWord_2_1000 M)) := by
  unfold f7_isWord_2_1000
  refine r_ld (.aload_n 0) 1 2 0 (.ref 2) rfl rfl rfl rfl 1 rfl ?_
  refine r_go (.getfield 28) 3 rfl rfl rfl 4 [.int (M.1 2 5)] rfl ?_
  refine q_const (.iconst 1) 1 rfl rfl rfl 5 (1) _ rfl cd_kj1 ?_
  refine q_br (w_PI M) (.if_icmp .ne 19) 3 rfl rfl rfl (M.1 2 5 = 1) 8 24 [] rfl (fun _ => ?_) (fun _ => ?_)
  · refine r_ld (.aload_n 0) 1 2 0 (.ref 2) rfl rfl rfl rfl 9 rfl ?_
    refine r_go (.getfield 22) 3 rfl rfl rfl 12 [.int (M.1 2 3)] rfl ?_
    refine r_ld (.aload_n 0) 1 2 0 (.ref 2) rfl rfl rfl rfl 13 rfl ?_
    refine r_go (.getfield 25) 3 rfl rfl rfl 16 [.int (M.1 2 4), .int (M.1 2 3)] rfl ?_
    refine r_go (.isub) 1 rfl rfl rfl 17 [.int ((M.1 2 3) - (M.1 2 4))] rfl ?_
    refine r_ld (.aload_n 1) 1 2 1 (.ref 1000) rfl rfl rfl rfl 18 rfl ?_
    refine q_cTI (.invokevirtual 64) rfl rfl rfl 238 [.ref 1000] [.int ((M.1 2 3) - (M.1 2 4))] rfl (kJ0_length_1000 M) ?_
    refine q_br (w_PI M) (.if_icmp .eq 5) 3 rfl rfl rfl ((M.1 2 3) - (M.1 2 4) = fJ0_length_1000 M) 26 24 [] rfl (fun _ => ?_) (fun _ => ?_)
    · refine q_const (.iconst 0) 1 rfl rfl rfl 27 (0) _ rfl cd_kj0 ?_
      refine r_st (.istore_n 2) 1 0 2 rfl rfl rfl 28 rfl [some (.ref 2), some (.ref 1000), some (.int (0))] rfl ?_
      exact r_w (k7_isWord_2_1000_L28 cd_fu 0 M) (cd_le_s (cd_le_s (cd_le_s cd_le_0)))
    · refine q_const (.iconst 0) 1 rfl rfl rfl 25 (0) _ rfl cd_kj0 ?_
      exact r_retZ rfl rfl (by decide)
  · refine q_const (.iconst 0) 1 rfl rfl rfl 25 (0) _ rfl cd_kj0 ?_
    exact r_retZ rfl rfl (by decide)
def f7_start_2 (M : cd_M) : Int32 := (M.1 2 4)
set_option maxRecDepth 8000 in
theorem k7_start_2 (M : cd_M) : cd_R 86 0 [some (.ref 2)] [] M ((w_TI M) (f7_start_2 M)) := by
  unfold f7_start_2
  refine r_ld (.aload_n 0) 1 2 0 (.ref 2) rfl rfl rfl rfl 1 rfl ?_
  refine r_go (.getfield 25) 3 rfl rfl rfl 4 [.int (M.1 2 4)] rfl ?_
  exact r_ret .ireturn 1 rfl rfl rfl _ rfl
def f8_refuse_1 (a1 : Int32) (M : cd_M) : Int32 × cd_M := cd_lt (cd_wI M 1 3 ((8 * (f7_start_2 M)) + a1)) fun M1 => (0, M1)
set_option maxRecDepth 8000 in
theorem k8_refuse_1 (a1 : Int32) (M : cd_M) : cd_R 111 0 [some (.ref 1), some (.int (a1))] [] M (w_TM (f8_refuse_1 a1 M)) := by
  unfold f8_refuse_1
  refine r_ld (.aload_n 0) 1 2 0 (.ref 1) rfl rfl rfl rfl 1 rfl ?_
  refine q_const (.bipush 8) 2 rfl rfl rfl 3 (8) _ rfl cd_kc8 ?_
  refine r_ld (.aload_n 0) 1 2 0 (.ref 1) rfl rfl rfl rfl 4 rfl ?_
  refine r_go (.getfield 12) 3 rfl rfl rfl 7 [.ref 2, .int (8), .ref 1] rfl ?_
  refine q_cTI (.invokevirtual 145) rfl rfl rfl 86 [.ref 2] [.int (8), .ref 1] rfl (k7_start_2 M) ?_
  refine r_go (.imul) 1 rfl rfl rfl 11 [.int (8 * (f7_start_2 M)), .ref 1] rfl ?_
  refine r_ld (.iload_n 1) 1 0 1 (.int (a1)) rfl rfl rfl rfl 12 rfl ?_
  refine r_go (.iadd) 1 rfl rfl rfl 13 [.int ((8 * (f7_start_2 M)) + a1), .ref 1] rfl ?_
  refine q_wr w_TM (.putfield 34) 3 rfl rfl rfl 16 [] (cd_wI M 1 3 ((8 * (f7_start_2 M)) + a1)) rfl (fun M1 => ?_)
  refine q_const (.iconst 0) 1 rfl rfl rfl 17 (0) _ rfl cd_kj0 ?_
  exact r_retZ rfl rfl (by decide)
def f8_takeWord_1_1000 (M : cd_M) : Option (Int32 × cd_M) := (f7_isWord_2_1000 M).bind fun v1 => if v1 = 0 then (cd_lt (f8_refuse_1 1 M) (cd_u2 fun v4 M3 => some (v4, M3))) else ((f7_advance_2 M).bind fun M7 => some (1, M7))
set_option maxRecDepth 8000 in
theorem k8_takeWord_1_1000 (M : cd_M) : cd_R 107 0 [some (.ref 1), some (.ref 1000)] [] M (w_PM (f8_takeWord_1_1000 M)) := by
  unfold f8_takeWord_1_1000
  refine r_ld (.aload_n 0) 1 2 0 (.ref 1) rfl rfl rfl rfl 1 rfl ?_
  refine r_go (.getfield 12) 3 rfl rfl rfl 4 [.ref 2] rfl ?_
  refine r_ld (.aload_n 1) 1 2 1 (.ref 1000) rfl rfl rfl rfl 5 rfl ?_
  refine q_cIz w_PM rfl (.invokevirtual 74) rfl rfl rfl 89 rfl [.ref 2, .ref 1000] [] rfl (k7_isWord_2_1000 M) (fun v1 z2 => ?_)
  refine q_br w_PM (.ifCond .ne 9) 3 rfl rfl rfl (v1 = 0) 11 17 [] rfl (fun _ => ?_) (fun _ => ?_)
  · refine r_ld (.aload_n 0) 1 2 0 (.ref 1) rfl rfl rfl rfl 12 rfl ?_
    refine q_const (.iconst 1) 1 rfl rfl rfl 13 (1) _ rfl cd_kj1 ?_
    refine q_cTMz w_PM (.invokevirtual 77) rfl rfl rfl 111 rfl [.ref 1, .int (1)] [] rfl (k8_refuse_1 1 M) (fun v4 M3 z5 => ?_)
    exact r_retZ rfl rfl z5
  · refine r_ld (.aload_n 0) 1 2 0 (.ref 1) rfl rfl rfl rfl 18 rfl ?_
    refine r_go (.getfield 12) 3 rfl rfl rfl 21 [.ref 2] rfl ?_
    refine q_cV w_PM rfl (.invokevirtual 80) rfl rfl rfl 88 [.ref 2] [] rfl (k7_advance_2 M) (fun M7 => ?_)
    refine q_const (.iconst 1) 1 rfl rfl rfl 25 (1) _ rfl cd_kj1 ?_
    exact r_retZ rfl rfl (by decide)
def f7_kind_2 (M : cd_M) : Int32 := (M.1 2 5)
set_option maxRecDepth 8000 in
theorem k7_kind_2 (M : cd_M) : cd_R 85 0 [some (.ref 2)] [] M ((w_TI M) (f7_kind_2 M)) := by
  unfold f7_kind_2
  refine r_ld (.aload_n 0) 1 2 0 (.ref 2) rfl rfl rfl rfl 1 rfl ?_
  refine r_go (.getfield 28) 3 rfl rfl rfl 4 [.int (M.1 2 5)] rfl ?_
  exact r_ret .ireturn 1 rfl rfl rfl _ rfl
def f7_number_2 (M : cd_M) : Int32 := (M.1 2 6)
set_option maxRecDepth 8000 in
theorem k7_number_2 (M : cd_M) : cd_R 87 0 [some (.ref 2)] [] M ((w_TI M) (f7_number_2 M)) := by
  unfold f7_number_2
  refine r_ld (.aload_n 0) 1 2 0 (.ref 2) rfl rfl rfl rfl 1 rfl ?_
  refine r_go (.getfield 31) 3 rfl rfl rfl 4 [.int (M.1 2 6)] rfl ?_
  exact r_ret .ireturn 1 rfl rfl rfl _ rfl
def f8_isNumberWithin_1_L39 (M : cd_M) : Int32 × cd_M := cd_lt (f8_refuse_1 2 M) (cd_u2 fun v2 M1 => (v2, M1))
set_option maxRecDepth 8000 in
theorem k8_isNumberWithin_1_L39 (M : cd_M) : cd_R 110 39 [some (.ref 1), none, none] [] M (w_TM (f8_isNumberWithin_1_L39 M)) := by
  unfold f8_isNumberWithin_1_L39
  refine r_ld (.aload_n 0) 1 2 0 (.ref 1) rfl rfl rfl rfl 40 rfl ?_
  refine q_const (.iconst 2) 1 rfl rfl rfl 41 (2) _ rfl cd_kj2 ?_
  refine q_cTMz w_TM (.invokevirtual 77) rfl rfl rfl 111 rfl [.ref 1, .int (2)] [] rfl (k8_refuse_1 2 M) (fun v2 M1 z3 => ?_)
  exact r_retZ rfl rfl z3
def f8_isNumberWithin_1 (a1 : Int32) (a2 : Int32) (M : cd_M) : Int32 × cd_M := if f7_kind_2 M = 2 then (if f7_number_2 M < a1 then (f8_isNumberWithin_1_L39 M) else (if f7_number_2 M ≤ a2 then ((1, M)) else (f8_isNumberWithin_1_L39 M))) else (cd_lt (f8_refuse_1 1 M) (cd_u2 fun v6 M5 => (v6, M5)))
set_option maxRecDepth 8000 in
theorem k8_isNumberWithin_1 (a1 : Int32) (a2 : Int32) (M : cd_M) : cd_R 110 0 [some (.ref 1), some (.int (a1)), some (.int (a2))] [] M (w_TM (f8_isNumberWithin_1 a1 a2 M)) := by
  unfold f8_isNumberWithin_1
  refine r_ld (.aload_n 0) 1 2 0 (.ref 1) rfl rfl rfl rfl 1 rfl ?_
  refine r_go (.getfield 12) 3 rfl rfl rfl 4 [.ref 2] rfl ?_
  refine q_cTI (.invokevirtual 64) rfl rfl rfl 85 [.ref 2] [] rfl (k7_kind_2 M) ?_
  refine q_const (.iconst 2) 1 rfl rfl rfl 8 (2) _ rfl cd_kj2 ?_
  refine q_br w_TM (.if_icmp .eq 9) 3 rfl rfl rfl (f7_kind_2 M = 2) 17 11 [] rfl (fun _ => ?_) (fun _ => ?_)
  · refine r_ld (.aload_n 0) 1 2 0 (.ref 1) rfl rfl rfl rfl 18 rfl ?_
    refine r_go (.getfield 12) 3 rfl rfl rfl 21 [.ref 2] rfl ?_
    refine q_cTI (.invokevirtual 116) rfl rfl rfl 87 [.ref 2] [] rfl (k7_number_2 M) ?_
    refine r_ld (.iload_n 1) 1 0 1 (.int (a1)) rfl rfl rfl rfl 25 rfl ?_
    refine q_br w_TM (.if_icmp .lt 14) 3 rfl rfl rfl (f7_number_2 M < a1) 39 28 [] rfl (fun _ => ?_) (fun _ => ?_)
    · exact r_w (k8_isNumberWithin_1_L39 M) (cd_le_s (cd_le_n (cd_le_n cd_le_0)))
    · refine r_ld (.aload_n 0) 1 2 0 (.ref 1) rfl rfl rfl rfl 29 rfl ?_
      refine r_go (.getfield 12) 3 rfl rfl rfl 32 [.ref 2] rfl ?_
      refine q_cTI (.invokevirtual 116) rfl rfl rfl 87 [.ref 2] [] rfl (k7_number_2 M) ?_
      refine r_ld (.iload_n 2) 1 0 2 (.int (a2)) rfl rfl rfl rfl 36 rfl ?_
      refine q_br w_TM (.if_icmp .le 9) 3 rfl rfl rfl (f7_number_2 M ≤ a2) 45 39 [] rfl (fun _ => ?_) (fun _ => ?_)
      · refine q_const (.iconst 1) 1 rfl rfl rfl 46 (1) _ rfl cd_kj1 ?_
        exact r_retZ rfl rfl (by decide)
      · exact r_w (k8_isNumberWithin_1_L39 M) (cd_le_s (cd_le_n (cd_le_n cd_le_0)))
  · refine r_ld (.aload_n 0) 1 2 0 (.ref 1) rfl rfl rfl rfl 12 rfl ?_
    refine q_const (.iconst 1) 1 rfl rfl rfl 13 (1) _ rfl cd_kj1 ?_
    refine q_cTMz w_TM (.invokevirtual 77) rfl rfl rfl 111 rfl [.ref 1, .int (1)] [] rfl (k8_refuse_1 1 M) (fun v6 M5 z7 => ?_)
    exact r_retZ rfl rfl z7
def f8_takeNumber_1 (a1 : Int32) (a2 : Int32) (M : cd_M) : Option (Int32 × cd_M) := cd_lt (f8_isNumberWithin_1 a1 a2 M) (cd_u2 fun v2 M1 => if v2 = 0 then (some (0, M1)) else (cd_lt (cd_wI M1 1 4 (f7_number_2 M1)) fun M5 => (f7_advance_2 M5).bind fun M6 => some (1, M6)))
set_option maxRecDepth 8000 in
theorem k8_takeNumber_1 (a1 : Int32) (a2 : Int32) (M : cd_M) : cd_R 109 0 [some (.ref 1), some (.int (a1)), some (.int (a2))] [] M (w_PM (f8_takeNumber_1 a1 a2 M)) := by
  unfold f8_takeNumber_1
  refine r_ld (.aload_n 0) 1 2 0 (.ref 1) rfl rfl rfl rfl 1 rfl ?_
  refine r_ld (.iload_n 1) 1 0 1 (.int (a1)) rfl rfl rfl rfl 2 rfl ?_
  refine r_ld (.iload_n 2) 1 0 2 (.int (a2)) rfl rfl rfl rfl 3 rfl ?_
  refine q_cTMz w_PM (.invokevirtual 113) rfl rfl rfl 110 rfl [.ref 1, .int (a1), .int (a2)] [] rfl (k8_isNumberWithin_1 a1 a2 M) (fun v2 M1 z3 => ?_)
  refine q_br w_PM (.ifCond .ne 5) 3 rfl rfl rfl (v2 = 0) 9 11 [] rfl (fun _ => ?_) (fun _ => ?_)
  · refine q_const (.iconst 0) 1 rfl rfl rfl 10 (0) _ rfl cd_kj0 ?_
    exact r_retZ rfl rfl (by decide)
  · refine r_ld (.aload_n 0) 1 2 0 (.ref 1) rfl rfl rfl rfl 12 rfl ?_
    refine r_ld (.aload_n 0) 1 2 0 (.ref 1) rfl rfl rfl rfl 13 rfl ?_
    refine r_go (.getfield 12) 3 rfl rfl rfl 16 [.ref 2, .ref 1] rfl ?_
    refine q_cTI (.invokevirtual 116) rfl rfl rfl 87 [.ref 2] [.ref 1] rfl (k7_number_2 M1) ?_
    refine q_wr w_PM (.putfield 38) 3 rfl rfl rfl 22 [] (cd_wI M1 1 4 (f7_number_2 M1)) rfl (fun M5 => ?_)
    refine r_ld (.aload_n 0) 1 2 0 (.ref 1) rfl rfl rfl rfl 23 rfl ?_
    refine r_go (.getfield 12) 3 rfl rfl rfl 26 [.ref 2] rfl ?_
    refine q_cV w_PM rfl (.invokevirtual 80) rfl rfl rfl 88 [.ref 2] [] rfl (k7_advance_2 M5) (fun M6 => ?_)
    refine q_const (.iconst 1) 1 rfl rfl rfl 30 (1) _ rfl cd_kj1 ?_
    exact r_retZ rfl rfl (by decide)
def f1_begin_3 (a1 : Int32) (M : cd_M) : cd_M := cd_lt (cd_wI M 3 2 a1) fun M1 => cd_lt (cd_wI M1 3 3 0) fun M2 => M2
set_option maxRecDepth 8000 in
theorem k1_begin_3 (a1 : Int32) (M : cd_M) : cd_R 11 0 [some (.ref 3), some (.int (a1))] [] M (w_TV (f1_begin_3 a1 M)) := by
  unfold f1_begin_3
  refine r_ld (.aload_n 0) 1 2 0 (.ref 3) rfl rfl rfl rfl 1 rfl ?_
  refine r_ld (.iload_n 1) 1 0 1 (.int (a1)) rfl rfl rfl rfl 2 rfl ?_
  refine q_wr w_TV (.putfield 7) 3 rfl rfl rfl 5 [] (cd_wI M 3 2 a1) rfl (fun M1 => ?_)
  refine r_ld (.aload_n 0) 1 2 0 (.ref 3) rfl rfl rfl rfl 6 rfl ?_
  refine q_const (.iconst 0) 1 rfl rfl rfl 7 (0) _ rfl cd_kj0 ?_
  refine q_wr w_TV (.putfield 13) 3 rfl rfl rfl 10 [] (cd_wI M1 3 3 0) rfl (fun M2 => ?_)
  exact r_ret .return_ 1 rfl rfl rfl _ rfl
def f8_takeSemicolon_1 (M : cd_M) : Option (Int32 × cd_M) := if f7_kind_2 M = 3 then ((f7_advance_2 M).bind fun M1 => some (1, M1)) else (cd_lt (f8_refuse_1 1 M) (cd_u2 fun v3 M2 => some (v3, M2)))
set_option maxRecDepth 8000 in
theorem k8_takeSemicolon_1 (M : cd_M) : cd_R 108 0 [some (.ref 1)] [] M (w_PM (f8_takeSemicolon_1 M)) := by
  unfold f8_takeSemicolon_1
  refine r_ld (.aload_n 0) 1 2 0 (.ref 1) rfl rfl rfl rfl 1 rfl ?_
  refine r_go (.getfield 12) 3 rfl rfl rfl 4 [.ref 2] rfl ?_
  refine q_cTI (.invokevirtual 64) rfl rfl rfl 85 [.ref 2] [] rfl (k7_kind_2 M) ?_
  refine q_const (.iconst 3) 1 rfl rfl rfl 8 (3) _ rfl cd_kj3 ?_
  refine q_br w_PM (.if_icmp .eq 9) 3 rfl rfl rfl (f7_kind_2 M = 3) 17 11 [] rfl (fun _ => ?_) (fun _ => ?_)
  · refine r_ld (.aload_n 0) 1 2 0 (.ref 1) rfl rfl rfl rfl 18 rfl ?_
    refine r_go (.getfield 12) 3 rfl rfl rfl 21 [.ref 2] rfl ?_
    refine q_cV w_PM rfl (.invokevirtual 80) rfl rfl rfl 88 [.ref 2] [] rfl (k7_advance_2 M) (fun M1 => ?_)
    refine q_const (.iconst 1) 1 rfl rfl rfl 25 (1) _ rfl cd_kj1 ?_
    exact r_retZ rfl rfl (by decide)
  · refine r_ld (.aload_n 0) 1 2 0 (.ref 1) rfl rfl rfl rfl 12 rfl ?_
    refine q_const (.iconst 1) 1 rfl rfl rfl 13 (1) _ rfl cd_kj1 ?_
    refine q_cTMz w_PM (.invokevirtual 77) rfl rfl rfl 111 rfl [.ref 1, .int (1)] [] rfl (k8_refuse_1 1 M) (fun v3 M2 z4 => ?_)
    exact r_retZ rfl rfl z4
def fJ0_coder_1001 (M : cd_M) : Int32 := if (1 : Int32) = 0 then (1) else (0)
set_option maxRecDepth 8000 in
theorem kJ0_coder_1001 (M : cd_M) : cd_R 240 0 [some (.ref 1001)] [] M ((w_TI M) (fJ0_coder_1001 M)) := by
  unfold fJ0_coder_1001
  refine r_go (.getstatic 38) 3 rfl rfl rfl 3 [.int (1)] rfl ?_
  refine q_br (w_TI M) (.ifCond .eq 10) 3 rfl rfl rfl ((1 : Int32) = 0) 13 6 [] rfl (fun _ => ?_) (fun _ => ?_)
  · refine q_const (.iconst 1) 1 rfl rfl rfl 14 (1) _ rfl cd_kj1 ?_
    exact r_retB rfl rfl (by decide)
  · refine r_ld (.aload_n 0) 1 2 0 (.ref 1001) rfl rfl rfl rfl 7 rfl ?_
    refine r_go (.getfield 15) 3 rfl rfl rfl 10 [.int (0)] rfl ?_
    refine r_go (.goto 4) 3 rfl rfl rfl 14 [.int (0)] rfl ?_
    exact r_retB rfl rfl (by decide)
def fJ0_length_1001 (M : cd_M) : Int32 := (5 >>> ((fJ0_coder_1001 M) &&& 31))
set_option maxRecDepth 8000 in
theorem kJ0_length_1001 (M : cd_M) : cd_R 238 0 [some (.ref 1001)] [] M ((w_TI M) (fJ0_length_1001 M)) := by
  unfold fJ0_length_1001
  refine r_ld (.aload_n 0) 1 2 0 (.ref 1001) rfl rfl rfl rfl 1 rfl ?_
  refine r_go (.getfield 9) 3 rfl rfl rfl 4 [.ref 1101] rfl ?_
  refine r_go (.arraylength) 1 rfl rfl rfl 5 [.int (5)] rfl ?_
  refine r_ld (.aload_n 0) 1 2 0 (.ref 1001) rfl rfl rfl rfl 6 rfl ?_
  refine q_cTI (.invokevirtual 335) rfl rfl rfl 240 [.ref 1001] [.int (5)] rfl (kJ0_coder_1001 M) ?_
  refine r_go (.ishr) 1 rfl rfl rfl 10 [.int (5 >>> ((fJ0_coder_1001 M) &&& 31))] rfl ?_
  exact r_ret .ireturn 1 rfl rfl rfl _ rfl
def fJ0_isLatin1_1001 (M : cd_M) : Int32 := if (1 : Int32) = 0 then (0) else (if (0 : Int32) = 0 then (1) else (0))
set_option maxRecDepth 8000 in
theorem kJ0_isLatin1_1001 (M : cd_M) : cd_R 241 0 [some (.ref 1001)] [] M ((w_TI M) (fJ0_isLatin1_1001 M)) := by
  unfold fJ0_isLatin1_1001
  refine r_go (.getstatic 38) 3 rfl rfl rfl 3 [.int (1)] rfl ?_
  refine q_br (w_TI M) (.ifCond .eq 14) 3 rfl rfl rfl ((1 : Int32) = 0) 17 6 [] rfl (fun _ => ?_) (fun _ => ?_)
  · refine q_const (.iconst 0) 1 rfl rfl rfl 18 (0) _ rfl cd_kj0 ?_
    exact r_retZ rfl rfl (by decide)
  · refine r_ld (.aload_n 0) 1 2 0 (.ref 1001) rfl rfl rfl rfl 7 rfl ?_
    refine r_go (.getfield 15) 3 rfl rfl rfl 10 [.int (0)] rfl ?_
    refine q_br (w_TI M) (.ifCond .ne 7) 3 rfl rfl rfl ((0 : Int32) = 0) 13 17 [] rfl (fun _ => ?_) (fun _ => ?_)
    · refine q_const (.iconst 1) 1 rfl rfl rfl 14 (1) _ rfl cd_kj1 ?_
      refine r_go (.goto 4) 3 rfl rfl rfl 18 [.int (1)] rfl ?_
      exact r_retZ rfl rfl (by decide)
    · refine q_const (.iconst 0) 1 rfl rfl rfl 18 (0) _ rfl cd_kj0 ?_
      exact r_retZ rfl rfl (by decide)
end
section
def fJ1_charAt_1101 (a1 : Int32) (M : cd_M) : Option (Int32) := (fJ0_checkIndex a1 5 M).bind fun _ => if cd_in a1 5 = true then (some ((((cd_sbyte 1101 a1) &&& 255 : Int32).toUInt32 % 65536).toInt32)) else none
set_option maxRecDepth 8000 in
theorem kJ1_charAt_1101 (a1 : Int32) (M : cd_M) : cd_R 243 0 [some (.ref 1101), some (.int (a1))] [] M ((w_PI M) (fJ1_charAt_1101 a1 M)) := by
  unfold fJ1_charAt_1101
  refine r_ld (.iload_n 1) 1 0 1 (.int (a1)) rfl rfl rfl rfl 1 rfl ?_
  refine r_ld (.aload_n 0) 1 2 0 (.ref 1101) rfl rfl rfl rfl 2 rfl ?_
  refine r_go (.arraylength) 1 rfl rfl rfl 3 [.int (5), .int (a1)] rfl ?_
  refine q_cU (w_PI M) rfl (.invokestatic 9) rfl rfl rfl 242 [.int (a1), .int (5)] [] rfl (kJ0_checkIndex a1 5 M) ?_
  refine r_ld (.aload_n 0) 1 2 0 (.ref 1101) rfl rfl rfl rfl 7 rfl ?_
  refine r_ld (.iload_n 1) 1 0 1 (.int (a1)) rfl rfl rfl rfl 8 rfl ?_
  refine q_sbald (w_PI M) rfl rfl 1101 5 rfl rfl (by decide) ?_
  refine q_const (.sipush 255) 3 rfl rfl rfl 12 (255) _ rfl cd_kt255 ?_
  refine r_go (.iand) 1 rfl rfl rfl 13 [.int ((cd_sbyte 1101 a1) &&& 255)] rfl ?_
  refine r_go (.i2c) 1 rfl rfl rfl 14 [.int ((((cd_sbyte 1101 a1) &&& 255 : Int32).toUInt32 % 65536).toInt32)] rfl ?_
  exact r_retC rfl rfl (pk_nc _)
def fJ0_charAt_1001 (a1 : Int32) (M : cd_M) : Option (Int32) := if fJ0_isLatin1_1001 M = 0 then (none) else ((fJ1_charAt_1101 a1 M).bind fun v2 => some v2)
set_option maxRecDepth 8000 in
theorem kJ0_charAt_1001 (a1 : Int32) (M : cd_M) : cd_R 239 0 [some (.ref 1001), some (.int (a1))] [] M ((w_PI M) (fJ0_charAt_1001 a1 M)) := by
  unfold fJ0_charAt_1001
  refine r_ld (.aload_n 0) 1 2 0 (.ref 1001) rfl rfl rfl rfl 1 rfl ?_
  refine q_cTIz (.invokevirtual 492) rfl rfl rfl 241 rfl [.ref 1001] [] rfl (kJ0_isLatin1_1001 M) (fun z1 => ?_)
  refine q_br (w_PI M) (.ifCond .eq 12) 3 rfl rfl rfl (fJ0_isLatin1_1001 M = 0) 16 7 [] rfl (fun _ => ?_) (fun _ => ?_)
  · refine r_ld (.aload_n 0) 1 2 0 (.ref 1001) rfl rfl rfl rfl 17 rfl ?_
    refine r_go (.getfield 9) 3 rfl rfl rfl 20 [.ref 1101] rfl ?_
    refine r_ld (.iload_n 1) 1 0 1 (.int (a1)) rfl rfl rfl rfl 21 rfl ?_
    exact q_none (w_PI M) rfl
  · refine r_ld (.aload_n 0) 1 2 0 (.ref 1001) rfl rfl rfl rfl 8 rfl ?_
    refine r_go (.getfield 9) 3 rfl rfl rfl 11 [.ref 1101] rfl ?_
    refine r_ld (.iload_n 1) 1 0 1 (.int (a1)) rfl rfl rfl rfl 12 rfl ?_
    refine q_cIc (w_PI M) rfl (.invokestatic 495) rfl rfl rfl 243 rfl [.ref 1101, .int (a1)] [] rfl (kJ1_charAt_1101 a1 M) (fun v2 z3 => ?_)
    exact r_retC rfl rfl z3
def f7_isWord_2_1001_L28 : Nat → Int32 → cd_M → Option (Int32)
  | 0, _, _ => none
  | n + 1, a2, M => if fJ0_length_1001 M ≤ a2 then (some 1) else ((f7_byteAt_2 ((M.1 2 4) + a2) M).bind fun v1 => (fJ0_charAt_1001 a2 M).bind fun v2 => if v1 = v2 then (cd_lt (a2 + (1)) fun x4 => f7_isWord_2_1001_L28 n x4 M) else (some 0))
set_option maxRecDepth 8000 in
theorem k7_isWord_2_1001_L28 : ∀ (n : Nat) (a2 : Int32) (M : cd_M), cd_R 89 28 [some (.ref 2), some (.ref 1001), some (.int (a2))] [] M ((w_PI M) (f7_isWord_2_1001_L28 n a2 M)) := by
  intro n
  induction n with
  | zero =>
    intro a2 M
    exact q_none (w_PI M) rfl
  | succ n ih =>
    intro a2 M
    rw [f7_isWord_2_1001_L28]
    refine r_ld (.iload_n 2) 1 0 2 (.int (a2)) rfl rfl rfl rfl 29 rfl ?_
    refine r_ld (.aload_n 1) 1 2 1 (.ref 1001) rfl rfl rfl rfl 30 rfl ?_
    refine q_cTI (.invokevirtual 64) rfl rfl rfl 238 [.ref 1001] [.int (a2)] rfl (kJ0_length_1001 M) ?_
    refine q_br (w_PI M) (.if_icmp .ge 29) 3 rfl rfl rfl (fJ0_length_1001 M ≤ a2) 62 36 [] rfl (fun _ => ?_) (fun _ => ?_)
    · refine q_const (.iconst 1) 1 rfl rfl rfl 63 (1) _ rfl cd_kj1 ?_
      exact r_retZ rfl rfl (by decide)
    · refine r_ld (.aload_n 0) 1 2 0 (.ref 2) rfl rfl rfl rfl 37 rfl ?_
      refine r_ld (.aload_n 0) 1 2 0 (.ref 2) rfl rfl rfl rfl 38 rfl ?_
      refine r_go (.getfield 25) 3 rfl rfl rfl 41 [.int (M.1 2 4), .ref 2] rfl ?_
      refine r_ld (.iload_n 2) 1 0 2 (.int (a2)) rfl rfl rfl rfl 42 rfl ?_
      refine r_go (.iadd) 1 rfl rfl rfl 43 [.int ((M.1 2 4) + a2), .ref 2] rfl ?_
      refine q_cI (w_PI M) rfl (.invokevirtual 45) rfl rfl rfl 92 [.ref 2, .int ((M.1 2 4) + a2)] [] rfl (k7_byteAt_2 ((M.1 2 4) + a2) M) (fun v1 => ?_)
      refine r_ld (.aload_n 1) 1 2 1 (.ref 1001) rfl rfl rfl rfl 47 rfl ?_
      refine r_ld (.iload_n 2) 1 0 2 (.int (a2)) rfl rfl rfl rfl 48 rfl ?_
      refine q_cIc (w_PI M) rfl (.invokevirtual 69) rfl rfl rfl 239 rfl [.ref 1001, .int (a2)] [.int (v1)] rfl (kJ0_charAt_1001 a2 M) (fun v2 z3 => ?_)
      refine q_br (w_PI M) (.if_icmp .eq 5) 3 rfl rfl rfl (v1 = v2) 56 54 [] rfl (fun _ => ?_) (fun _ => ?_)
      · refine q_inc (w_PI M) 2 (1) (a2) rfl rfl rfl 59 rfl (1) cd_kj1 (fun x4 => [some (.ref 2), some (.ref 1001), some (.int (x4))]) (fun _ => rfl) (fun x4 => ?_)
        refine r_go (.goto (-31)) 3 rfl rfl rfl 28 [] rfl ?_
        exact r_w (ih x4 M) (cd_le_s (cd_le_s (cd_le_s cd_le_0)))
      · refine q_const (.iconst 0) 1 rfl rfl rfl 55 (0) _ rfl cd_kj0 ?_
        exact r_retZ rfl rfl (by decide)
def f7_isWord_2_1001 (M : cd_M) : Option (Int32) := if M.1 2 5 = 1 then (if (M.1 2 3) - (M.1 2 4) = fJ0_length_1001 M then (f7_isWord_2_1001_L28 cd_fu 0 M) else (some 0)) else (some 0)
set_option maxRecDepth 8000 in
theorem k7_isWord_2_1001 (M : cd_M) : cd_R 89 0 [some (.ref 2), some (.ref 1001), none] [] M ((w_PI M) (f7_isWord_2_1001 M)) := by
  unfold f7_isWord_2_1001
  refine r_ld (.aload_n 0) 1 2 0 (.ref 2) rfl rfl rfl rfl 1 rfl ?_
  refine r_go (.getfield 28) 3 rfl rfl rfl 4 [.int (M.1 2 5)] rfl ?_
  refine q_const (.iconst 1) 1 rfl rfl rfl 5 (1) _ rfl cd_kj1 ?_
  refine q_br (w_PI M) (.if_icmp .ne 19) 3 rfl rfl rfl (M.1 2 5 = 1) 8 24 [] rfl (fun _ => ?_) (fun _ => ?_)
  · refine r_ld (.aload_n 0) 1 2 0 (.ref 2) rfl rfl rfl rfl 9 rfl ?_
    refine r_go (.getfield 22) 3 rfl rfl rfl 12 [.int (M.1 2 3)] rfl ?_
    refine r_ld (.aload_n 0) 1 2 0 (.ref 2) rfl rfl rfl rfl 13 rfl ?_
    refine r_go (.getfield 25) 3 rfl rfl rfl 16 [.int (M.1 2 4), .int (M.1 2 3)] rfl ?_
    refine r_go (.isub) 1 rfl rfl rfl 17 [.int ((M.1 2 3) - (M.1 2 4))] rfl ?_
    refine r_ld (.aload_n 1) 1 2 1 (.ref 1001) rfl rfl rfl rfl 18 rfl ?_
    refine q_cTI (.invokevirtual 64) rfl rfl rfl 238 [.ref 1001] [.int ((M.1 2 3) - (M.1 2 4))] rfl (kJ0_length_1001 M) ?_
    refine q_br (w_PI M) (.if_icmp .eq 5) 3 rfl rfl rfl ((M.1 2 3) - (M.1 2 4) = fJ0_length_1001 M) 26 24 [] rfl (fun _ => ?_) (fun _ => ?_)
    · refine q_const (.iconst 0) 1 rfl rfl rfl 27 (0) _ rfl cd_kj0 ?_
      refine r_st (.istore_n 2) 1 0 2 rfl rfl rfl 28 rfl [some (.ref 2), some (.ref 1001), some (.int (0))] rfl ?_
      exact r_w (k7_isWord_2_1001_L28 cd_fu 0 M) (cd_le_s (cd_le_s (cd_le_s cd_le_0)))
    · refine q_const (.iconst 0) 1 rfl rfl rfl 25 (0) _ rfl cd_kj0 ?_
      exact r_retZ rfl rfl (by decide)
  · refine q_const (.iconst 0) 1 rfl rfl rfl 25 (0) _ rfl cd_kj0 ?_
    exact r_retZ rfl rfl (by decide)
def f1_width_3 (M : cd_M) : Int32 := (M.1 3 2)
set_option maxRecDepth 8000 in
theorem k1_width_3 (M : cd_M) : cd_R 12 0 [some (.ref 3)] [] M ((w_TI M) (f1_width_3 M)) := by
  unfold f1_width_3
  refine r_ld (.aload_n 0) 1 2 0 (.ref 3) rfl rfl rfl rfl 1 rfl ?_
  refine r_go (.getfield 7) 3 rfl rfl rfl 4 [.int (M.1 3 2)] rfl ?_
  exact r_ret .ireturn 1 rfl rfl rfl _ rfl
def f1_add_3 (a1 : Int64) (a2 : Int64) (M : cd_M) : Option cd_M := if 20 ≤ M.1 3 3 then (some M) else (if 20 ≤ M.1 3 3 then (some M) else (if cd_in (M.1 3 3) 20 = true then (cd_lt (cd_wL M 18 (M.1 3 3 : Int32).toNatClampNeg a1) fun M1 => if cd_in (M1.1 3 3) 20 = true then (cd_lt (cd_wL M1 19 (M1.1 3 3 : Int32).toNatClampNeg a2) fun M2 => cd_lt (cd_wI M2 3 3 ((M2.1 3 3) + 1)) fun M3 => some M3) else none) else none))
set_option maxRecDepth 8000 in
theorem k1_add_3 (a1 : Int64) (a2 : Int64) (M : cd_M) : cd_R 15 0 [some (.ref 3), some (.long (a1)), none, some (.long (a2)), none] [] M (w_PV (f1_add_3 a1 a2 M)) := by
  unfold f1_add_3
  refine r_ld (.aload_n 0) 1 2 0 (.ref 3) rfl rfl rfl rfl 1 rfl ?_
  refine r_go (.getfield 13) 3 rfl rfl rfl 4 [.int (M.1 3 3)] rfl ?_
  refine r_ld (.aload_n 0) 1 2 0 (.ref 3) rfl rfl rfl rfl 5 rfl ?_
  refine r_go (.getfield 22) 3 rfl rfl rfl 8 [.ref 18, .int (M.1 3 3)] rfl ?_
  refine r_go (.arraylength) 1 rfl rfl rfl 9 [.int (20), .int (M.1 3 3)] rfl ?_
  refine q_br w_PV (.if_icmp .ge 45) 3 rfl rfl rfl (20 ≤ M.1 3 3) 54 12 [] rfl (fun _ => ?_) (fun _ => ?_)
  · exact r_ret .return_ 1 rfl rfl rfl _ rfl
  · refine r_ld (.aload_n 0) 1 2 0 (.ref 3) rfl rfl rfl rfl 13 rfl ?_
    refine r_go (.getfield 13) 3 rfl rfl rfl 16 [.int (M.1 3 3)] rfl ?_
    refine r_ld (.aload_n 0) 1 2 0 (.ref 3) rfl rfl rfl rfl 17 rfl ?_
    refine r_go (.getfield 26) 3 rfl rfl rfl 20 [.ref 19, .int (M.1 3 3)] rfl ?_
    refine r_go (.arraylength) 1 rfl rfl rfl 21 [.int (20), .int (M.1 3 3)] rfl ?_
    refine q_br w_PV (.if_icmp .ge 33) 3 rfl rfl rfl (20 ≤ M.1 3 3) 54 24 [] rfl (fun _ => ?_) (fun _ => ?_)
    · exact r_ret .return_ 1 rfl rfl rfl _ rfl
    · refine r_ld (.aload_n 0) 1 2 0 (.ref 3) rfl rfl rfl rfl 25 rfl ?_
      refine r_go (.getfield 22) 3 rfl rfl rfl 28 [.ref 18] rfl ?_
      refine r_ld (.aload_n 0) 1 2 0 (.ref 3) rfl rfl rfl rfl 29 rfl ?_
      refine r_go (.getfield 13) 3 rfl rfl rfl 32 [.int (M.1 3 3), .ref 18] rfl ?_
      refine r_ld (.lload_n 1) 1 1 1 (.long (a1)) rfl rfl rfl rfl 33 rfl ?_
      refine q_last w_PV rfl rfl 18 20 rfl (fun M1 => ?_)
      refine r_ld (.aload_n 0) 1 2 0 (.ref 3) rfl rfl rfl rfl 35 rfl ?_
      refine r_go (.getfield 26) 3 rfl rfl rfl 38 [.ref 19] rfl ?_
      refine r_ld (.aload_n 0) 1 2 0 (.ref 3) rfl rfl rfl rfl 39 rfl ?_
      refine r_go (.getfield 13) 3 rfl rfl rfl 42 [.int (M1.1 3 3), .ref 19] rfl ?_
      refine r_ld (.lload_n 3) 1 1 3 (.long (a2)) rfl rfl rfl rfl 43 rfl ?_
      refine q_last w_PV rfl rfl 19 20 rfl (fun M2 => ?_)
      refine r_ld (.aload_n 0) 1 2 0 (.ref 3) rfl rfl rfl rfl 45 rfl ?_
      refine r_go (.dup) 1 rfl rfl rfl 46 [.ref 3, .ref 3] rfl ?_
      refine r_go (.getfield 13) 3 rfl rfl rfl 49 [.int (M2.1 3 3), .ref 3] rfl ?_
      refine q_const (.iconst 1) 1 rfl rfl rfl 50 (1) _ rfl cd_kj1 ?_
      refine r_go (.iadd) 1 rfl rfl rfl 51 [.int ((M2.1 3 3) + 1), .ref 3] rfl ?_
      refine q_wr w_PV (.putfield 13) 3 rfl rfl rfl 54 [] (cd_wI M2 3 3 ((M2.1 3 3) + 1)) rfl (fun M3 => ?_)
      exact r_ret .return_ 1 rfl rfl rfl _ rfl
def f10_withSample (a0 : Int64) (a1 : Int32) (a2 : Int32) (M : cd_M) : Int64 := cd_lt (7 * a1) fun x1 => ((a0 &&& ((127 <<< (x1.toInt64 &&& 63)) ^^^ (-1))) ||| ((a2.toInt64) <<< (x1.toInt64 &&& 63)))
set_option maxRecDepth 8000 in
theorem k10_withSample (a0 : Int64) (a1 : Int32) (a2 : Int32) (M : cd_M) : cd_R 159 0 [some (.long (a0)), none, some (.int (a1)), some (.int (a2)), none] [] M ((w_TL M) (f10_withSample a0 a1 a2 M)) := by
  unfold f10_withSample
  refine q_const (.bipush 7) 2 rfl rfl rfl 2 (7) _ rfl cd_kc7 ?_
  refine r_ld (.iload_n 2) 1 0 2 (.int (a1)) rfl rfl rfl rfl 3 rfl ?_
  refine r_go (.imul) 1 rfl rfl rfl 4 [.int (7 * a1)] rfl ?_
  refine q_stB (w_TL M) (.istore 4) 2 0 4 rfl rfl (fun _ => rfl) 6 rfl (fun x1 => [some (.long (a0)), none, some (.int (a1)), some (.int (a2)), some (.int (x1))]) (fun _ => rfl) (fun x1 => ?_)
  refine r_ld (.lload_n 0) 1 1 0 (.long (a0)) rfl rfl rfl rfl 7 rfl ?_
  refine r_go (.ldc2_w 337) 3 rfl rfl rfl 10 [.long (127), .long (a0)] rfl ?_
  refine r_ld (.iload 4) 2 0 4 (.int (x1)) rfl rfl rfl rfl 12 rfl ?_
  refine r_go (.lshl) 1 rfl rfl rfl 13 [.long (127 <<< (x1.toInt64 &&& 63)), .long (a0)] rfl ?_
  refine r_go (.ldc2_w 339) 3 rfl rfl rfl 16 [.long ((-1)), .long (127 <<< (x1.toInt64 &&& 63)), .long (a0)] rfl ?_
  refine r_go (.lxor) 1 rfl rfl rfl 17 [.long ((127 <<< (x1.toInt64 &&& 63)) ^^^ (-1)), .long (a0)] rfl ?_
  refine r_go (.land) 1 rfl rfl rfl 18 [.long (a0 &&& ((127 <<< (x1.toInt64 &&& 63)) ^^^ (-1)))] rfl ?_
  refine r_ld (.iload_n 3) 1 0 3 (.int (a2)) rfl rfl rfl rfl 19 rfl ?_
  refine r_go (.i2l) 1 rfl rfl rfl 20 [.long (a2.toInt64), .long (a0 &&& ((127 <<< (x1.toInt64 &&& 63)) ^^^ (-1)))] rfl ?_
  refine r_ld (.iload 4) 2 0 4 (.int (x1)) rfl rfl rfl rfl 22 rfl ?_
  refine r_go (.lshl) 1 rfl rfl rfl 23 [.long ((a2.toInt64) <<< (x1.toInt64 &&& 63)), .long (a0 &&& ((127 <<< (x1.toInt64 &&& 63)) ^^^ (-1)))] rfl ?_
  refine r_go (.lor) 1 rfl rfl rfl 24 [.long ((a0 &&& ((127 <<< (x1.toInt64 &&& 63)) ^^^ (-1))) ||| ((a2.toInt64) <<< (x1.toInt64 &&& 63)))] rfl ?_
  exact r_ret .lreturn 1 rfl rfl rfl _ rfl
def f8_readFrame_1_L112 (r54 : Int64 → Int64 → Int32 → Int32 → cd_M → Option (Int32 × cd_M)) (a2 : Int64) (a4 : Int64) (a6 : Int32) (a7 : Int32) (M : cd_M) : Option (Int32 × cd_M) := cd_lt (a7 + (1)) fun x19 => r54 a2 a4 a6 x19 M
set_option maxRecDepth 8000 in
theorem k8_readFrame_1_L112 (r54 : Int64 → Int64 → Int32 → Int32 → cd_M → Option (Int32 × cd_M)) (h54 : ∀ (a2 : Int64) (a4 : Int64) (a6 : Int32) (a7 : Int32) (M : cd_M), cd_R 101 54 [some (.ref 1), none, some (.long (a2)), none, some (.long (a4)), none, some (.int (a6)), some (.int (a7))] [] M (w_PM (r54 a2 a4 a6 a7 M))) (a2 : Int64) (a4 : Int64) (a6 : Int32) (a7 : Int32) (M : cd_M) : cd_R 101 112 [some (.ref 1), none, some (.long (a2)), none, some (.long (a4)), none, some (.int (a6)), some (.int (a7))] [] M (w_PM (f8_readFrame_1_L112 r54 a2 a4 a6 a7 M)) := by
  unfold f8_readFrame_1_L112
  refine q_inc w_PM 7 (1) (a7) rfl rfl rfl 115 rfl (1) cd_kj1 (fun x19 => [some (.ref 1), none, some (.long (a2)), none, some (.long (a4)), none, some (.int (a6)), some (.int (x19))]) (fun _ => rfl) (fun x19 => ?_)
  refine r_go (.goto (-61)) 3 rfl rfl rfl 54 [] rfl ?_
  exact r_w (h54 a2 a4 a6 x19 M) (cd_le_s (cd_le_n (cd_le_s (cd_le_n (cd_le_s (cd_le_n (cd_le_s (cd_le_s cd_le_0))))))))
def f8_readFrame_1_L54 : Nat → Int64 → Int64 → Int32 → Int32 → cd_M → Option (Int32 × cd_M)
  | 0, _, _, _, _, _ => none
  | n + 1, a2, a4, a6, a7, M => if 2 * a6 ≤ a7 then ((f1_add_3 a2 a4 M).bind fun M9 => (f8_takeSemicolon_1 M9).bind (cd_u2 fun v11 M10 => some (v11, M10))) else ((f8_takeNumber_1 0 99 M).bind (cd_u2 fun v15 M14 => if v15 = 0 then (some (0, M14)) else (if a6 ≤ a7 then (cd_lt (f10_withSample a4 (a7 - a6) (M14.1 1 4) M14) fun x18 => f8_readFrame_1_L112 (f8_readFrame_1_L54 n) a2 x18 a6 a7 M14) else (cd_lt (f10_withSample a2 a7 (M14.1 1 4) M14) fun x20 => f8_readFrame_1_L112 (f8_readFrame_1_L54 n) x20 a4 a6 a7 M14))))
set_option maxRecDepth 8000 in
theorem k8_readFrame_1_L54 : ∀ (n : Nat) (a2 : Int64) (a4 : Int64) (a6 : Int32) (a7 : Int32) (M : cd_M), cd_R 101 54 [some (.ref 1), none, some (.long (a2)), none, some (.long (a4)), none, some (.int (a6)), some (.int (a7))] [] M (w_PM (f8_readFrame_1_L54 n a2 a4 a6 a7 M)) := by
  intro n
  induction n with
  | zero =>
    intro a2 a4 a6 a7 M
    exact q_none w_PM rfl
  | succ n ih =>
    intro a2 a4 a6 a7 M
    rw [f8_readFrame_1_L54]
    refine r_ld (.iload 7) 2 0 7 (.int (a7)) rfl rfl rfl rfl 56 rfl ?_
    refine q_const (.iconst 2) 1 rfl rfl rfl 57 (2) _ rfl cd_kj2 ?_
    refine r_ld (.iload 6) 2 0 6 (.int (a6)) rfl rfl rfl rfl 59 rfl ?_
    refine r_go (.imul) 1 rfl rfl rfl 60 [.int (2 * a6), .int (a7)] rfl ?_
    refine q_br w_PM (.if_icmp .ge 58) 3 rfl rfl rfl (2 * a6 ≤ a7) 118 63 [] rfl (fun _ => ?_) (fun _ => ?_)
    · refine r_ld (.aload_n 0) 1 2 0 (.ref 1) rfl rfl rfl rfl 119 rfl ?_
      refine r_go (.getfield 23) 3 rfl rfl rfl 122 [.ref 3] rfl ?_
      refine r_ld (.lload_n 2) 1 1 2 (.long (a2)) rfl rfl rfl rfl 123 rfl ?_
      refine r_ld (.lload 4) 2 1 4 (.long (a4)) rfl rfl rfl rfl 125 rfl ?_
      refine q_cV w_PM rfl (.invokevirtual 89) rfl rfl rfl 15 [.ref 3, .long (a2), .long (a4)] [] rfl (k1_add_3 a2 a4 M) (fun M9 => ?_)
      refine r_ld (.aload_n 0) 1 2 0 (.ref 1) rfl rfl rfl rfl 129 rfl ?_
      refine q_cMz w_PM rfl (.invokevirtual 60) rfl rfl rfl 108 rfl [.ref 1] [] rfl (k8_takeSemicolon_1 M9) (fun v11 M10 z12 => ?_)
      exact r_retZ rfl rfl z12
    · refine r_ld (.aload_n 0) 1 2 0 (.ref 1) rfl rfl rfl rfl 64 rfl ?_
      refine q_const (.iconst 0) 1 rfl rfl rfl 65 (0) _ rfl cd_kj0 ?_
      refine q_const (.bipush 99) 2 rfl rfl rfl 67 (99) _ rfl cd_kc99 ?_
      refine q_cMz w_PM rfl (.invokevirtual 53) rfl rfl rfl 109 rfl [.ref 1, .int (0), .int (99)] [] rfl (k8_takeNumber_1 0 99 M) (fun v15 M14 z16 => ?_)
      refine q_br w_PM (.ifCond .ne 5) 3 rfl rfl rfl (v15 = 0) 73 75 [] rfl (fun _ => ?_) (fun _ => ?_)
      · refine q_const (.iconst 0) 1 rfl rfl rfl 74 (0) _ rfl cd_kj0 ?_
        exact r_retZ rfl rfl (by decide)
      · refine r_ld (.iload 7) 2 0 7 (.int (a7)) rfl rfl rfl rfl 77 rfl ?_
        refine r_ld (.iload 6) 2 0 6 (.int (a6)) rfl rfl rfl rfl 79 rfl ?_
        refine q_br w_PM (.if_icmp .ge 17) 3 rfl rfl rfl (a6 ≤ a7) 96 82 [] rfl (fun _ => ?_) (fun _ => ?_)
        · refine r_ld (.lload 4) 2 1 4 (.long (a4)) rfl rfl rfl rfl 98 rfl ?_
          refine r_ld (.iload 7) 2 0 7 (.int (a7)) rfl rfl rfl rfl 100 rfl ?_
          refine r_ld (.iload 6) 2 0 6 (.int (a6)) rfl rfl rfl rfl 102 rfl ?_
          refine r_go (.isub) 1 rfl rfl rfl 103 [.int (a7 - a6), .long (a4)] rfl ?_
          refine r_ld (.aload_n 0) 1 2 0 (.ref 1) rfl rfl rfl rfl 104 rfl ?_
          refine r_go (.getfield 38) 3 rfl rfl rfl 107 [.int (M14.1 1 4), .int (a7 - a6), .long (a4)] rfl ?_
          refine q_cTL (.invokestatic 85) rfl rfl rfl 159 [.long (a4), .int (a7 - a6), .int (M14.1 1 4)] [] rfl (k10_withSample a4 (a7 - a6) (M14.1 1 4) M14) ?_
          refine q_stBL w_PM (.lstore 4) 2 1 4 rfl rfl (fun _ => rfl) 112 rfl (fun x18 => [some (.ref 1), none, some (.long (a2)), none, some (.long (x18)), none, some (.int (a6)), some (.int (a7))]) (fun _ => rfl) (fun x18 => ?_)
          exact r_w (k8_readFrame_1_L112 (f8_readFrame_1_L54 n) ih a2 x18 a6 a7 M14) (cd_le_s (cd_le_n (cd_le_s (cd_le_n (cd_le_s (cd_le_n (cd_le_s (cd_le_s cd_le_0))))))))
        · refine r_ld (.lload_n 2) 1 1 2 (.long (a2)) rfl rfl rfl rfl 83 rfl ?_
          refine r_ld (.iload 7) 2 0 7 (.int (a7)) rfl rfl rfl rfl 85 rfl ?_
          refine r_ld (.aload_n 0) 1 2 0 (.ref 1) rfl rfl rfl rfl 86 rfl ?_
          refine r_go (.getfield 38) 3 rfl rfl rfl 89 [.int (M14.1 1 4), .int (a7), .long (a2)] rfl ?_
          refine q_cTL (.invokestatic 85) rfl rfl rfl 159 [.long (a2), .int (a7), .int (M14.1 1 4)] [] rfl (k10_withSample a2 a7 (M14.1 1 4) M14) ?_
          refine q_stBL w_PM (.lstore_n 2) 1 1 2 rfl rfl (fun _ => rfl) 93 rfl (fun x20 => [some (.ref 1), none, some (.long (x20)), none, some (.long (a4)), none, some (.int (a6)), some (.int (a7))]) (fun _ => rfl) (fun x20 => ?_)
          refine r_go (.goto 19) 3 rfl rfl rfl 112 [] rfl ?_
          exact r_w (k8_readFrame_1_L112 (f8_readFrame_1_L54 n) ih x20 a4 a6 a7 M14) (cd_le_s (cd_le_n (cd_le_s (cd_le_n (cd_le_s (cd_le_n (cd_le_s (cd_le_s cd_le_0))))))))
def f8_readFrame_1 (a1 : Int32) (M : cd_M) : Option (Int32 × cd_M) := (f7_isWord_2_1001 M).bind fun v1 => if v1 = 0 then (cd_lt (f8_refuse_1 1 M) (cd_u2 fun v4 M3 => some (v4, M3))) else (if a1 < 20 then ((f7_advance_2 M).bind fun M7 => cd_lt (f1_width_3 M7) fun x8 => f8_readFrame_1_L54 cd_fu 0 0 x8 0 M7) else (cd_lt (f8_refuse_1 4 M) (cd_u2 fun v22 M21 => some (v22, M21))))
set_option maxRecDepth 8000 in
theorem k8_readFrame_1 (a1 : Int32) (M : cd_M) : cd_R 101 0 [some (.ref 1), some (.int (a1)), none, none, none, none, none, none] [] M (w_PM (f8_readFrame_1 a1 M)) := by
  unfold f8_readFrame_1
  refine r_ld (.aload_n 0) 1 2 0 (.ref 1) rfl rfl rfl rfl 1 rfl ?_
  refine r_go (.getfield 12) 3 rfl rfl rfl 4 [.ref 2] rfl ?_
  refine r_go (.ldc 72) 2 rfl rfl rfl 6 [.ref 1001, .ref 2] rfl ?_
  refine q_cIz w_PM rfl (.invokevirtual 74) rfl rfl rfl 89 rfl [.ref 2, .ref 1001] [] rfl (k7_isWord_2_1001 M) (fun v1 z2 => ?_)
  refine q_br w_PM (.ifCond .ne 9) 3 rfl rfl rfl (v1 = 0) 12 18 [] rfl (fun _ => ?_) (fun _ => ?_)
  · refine r_ld (.aload_n 0) 1 2 0 (.ref 1) rfl rfl rfl rfl 13 rfl ?_
    refine q_const (.iconst 1) 1 rfl rfl rfl 14 (1) _ rfl cd_kj1 ?_
    refine q_cTMz w_PM (.invokevirtual 77) rfl rfl rfl 111 rfl [.ref 1, .int (1)] [] rfl (k8_refuse_1 1 M) (fun v4 M3 z5 => ?_)
    exact r_retZ rfl rfl z5
  · refine r_ld (.iload_n 1) 1 0 1 (.int (a1)) rfl rfl rfl rfl 19 rfl ?_
    refine q_const (.bipush 20) 2 rfl rfl rfl 21 (20) _ rfl cd_kc20 ?_
    refine q_br w_PM (.if_icmp .lt 9) 3 rfl rfl rfl (a1 < 20) 30 24 [] rfl (fun _ => ?_) (fun _ => ?_)
    · refine r_ld (.aload_n 0) 1 2 0 (.ref 1) rfl rfl rfl rfl 31 rfl ?_
      refine r_go (.getfield 12) 3 rfl rfl rfl 34 [.ref 2] rfl ?_
      refine q_cV w_PM rfl (.invokevirtual 80) rfl rfl rfl 88 [.ref 2] [] rfl (k7_advance_2 M) (fun M7 => ?_)
      refine r_go (.lconst 0) 1 rfl rfl rfl 38 [.long (0)] rfl ?_
      refine r_st (.lstore_n 2) 1 1 2 rfl rfl rfl 39 rfl [some (.ref 1), some (.int (a1)), some (.long (0)), none, none, none, none, none] rfl ?_
      refine r_go (.lconst 0) 1 rfl rfl rfl 40 [.long (0)] rfl ?_
      refine r_st (.lstore 4) 2 1 4 rfl rfl rfl 42 rfl [some (.ref 1), some (.int (a1)), some (.long (0)), none, some (.long (0)), none, none, none] rfl ?_
      refine r_ld (.aload_n 0) 1 2 0 (.ref 1) rfl rfl rfl rfl 43 rfl ?_
      refine r_go (.getfield 23) 3 rfl rfl rfl 46 [.ref 3] rfl ?_
      refine q_cTI (.invokevirtual 83) rfl rfl rfl 12 [.ref 3] [] rfl (k1_width_3 M7) ?_
      refine q_stB w_PM (.istore 6) 2 0 6 rfl rfl (fun _ => rfl) 51 rfl (fun x8 => [some (.ref 1), some (.int (a1)), some (.long (0)), none, some (.long (0)), none, some (.int (x8)), none]) (fun _ => rfl) (fun x8 => ?_)
      refine q_const (.iconst 0) 1 rfl rfl rfl 52 (0) _ rfl cd_kj0 ?_
      refine r_st (.istore 7) 2 0 7 rfl rfl rfl 54 rfl [some (.ref 1), some (.int (a1)), some (.long (0)), none, some (.long (0)), none, some (.int (x8)), some (.int (0))] rfl ?_
      exact r_w (k8_readFrame_1_L54 cd_fu 0 0 x8 0 M7) (cd_le_s (cd_le_n (cd_le_s (cd_le_n (cd_le_s (cd_le_n (cd_le_s (cd_le_s cd_le_0))))))))
    · refine r_ld (.aload_n 0) 1 2 0 (.ref 1) rfl rfl rfl rfl 25 rfl ?_
      refine q_const (.iconst 4) 1 rfl rfl rfl 26 (4) _ rfl cd_kj4 ?_
      refine q_cTMz w_PM (.invokevirtual 77) rfl rfl rfl 111 rfl [.ref 1, .int (4)] [] rfl (k8_refuse_1 4 M) (fun v22 M21 z23 => ?_)
      exact r_retZ rfl rfl z23
def f8_readFilm_1_L73 (r51 : Int32 → cd_M → Option (Int32 × cd_M)) (a2 : Int32) (M : cd_M) : Option (Int32 × cd_M) := (f8_readFrame_1 a2 M).bind (cd_u2 fun v16 M15 => if v16 = 0 then (some (0, M15)) else (cd_lt (a2 + (1)) fun x19 => r51 x19 M15))
set_option maxRecDepth 8000 in
theorem k8_readFilm_1_L73 (r51 : Int32 → cd_M → Option (Int32 × cd_M)) (h51 : ∀ (a2 : Int32) (M : cd_M), cd_R 100 51 [some (.ref 1), none, some (.int (a2))] [] M (w_PM (r51 a2 M))) (a2 : Int32) (M : cd_M) : cd_R 100 73 [some (.ref 1), none, some (.int (a2))] [] M (w_PM (f8_readFilm_1_L73 r51 a2 M)) := by
  unfold f8_readFilm_1_L73
  refine r_ld (.aload_n 0) 1 2 0 (.ref 1) rfl rfl rfl rfl 74 rfl ?_
  refine r_ld (.iload_n 2) 1 0 2 (.int (a2)) rfl rfl rfl rfl 75 rfl ?_
  refine q_cMz w_PM rfl (.invokevirtual 68) rfl rfl rfl 101 rfl [.ref 1, .int (a2)] [] rfl (k8_readFrame_1 a2 M) (fun v16 M15 z17 => ?_)
  refine q_br w_PM (.ifCond .ne 5) 3 rfl rfl rfl (v16 = 0) 81 83 [] rfl (fun _ => ?_) (fun _ => ?_)
  · refine q_const (.iconst 0) 1 rfl rfl rfl 82 (0) _ rfl cd_kj0 ?_
    exact r_retZ rfl rfl (by decide)
  · refine q_inc w_PM 2 (1) (a2) rfl rfl rfl 86 rfl (1) cd_kj1 (fun x19 => [some (.ref 1), none, some (.int (x19))]) (fun _ => rfl) (fun x19 => ?_)
    refine r_go (.goto (-35)) 3 rfl rfl rfl 51 [] rfl ?_
    exact r_w (h51 x19 M15) (cd_le_s (cd_le_n (cd_le_s cd_le_0)))
def f8_readFilm_1_L51 : Nat → Int32 → cd_M → Option (Int32 × cd_M)
  | 0, _, _ => none
  | n + 1, a2, M => if 20 < a2 then (some (0, M)) else (if a2 ≤ 0 then (f8_readFilm_1_L73 (f8_readFilm_1_L51 n) a2 M) else (if f7_kind_2 M = 0 then (some (1, M)) else (f8_readFilm_1_L73 (f8_readFilm_1_L51 n) a2 M)))
set_option maxRecDepth 8000 in
theorem k8_readFilm_1_L51 : ∀ (n : Nat) (a2 : Int32) (M : cd_M), cd_R 100 51 [some (.ref 1), none, some (.int (a2))] [] M (w_PM (f8_readFilm_1_L51 n a2 M)) := by
  intro n
  induction n with
  | zero =>
    intro a2 M
    exact q_none w_PM rfl
  | succ n ih =>
    intro a2 M
    rw [f8_readFilm_1_L51]
    refine r_ld (.iload_n 2) 1 0 2 (.int (a2)) rfl rfl rfl rfl 52 rfl ?_
    refine q_const (.bipush 20) 2 rfl rfl rfl 54 (20) _ rfl cd_kc20 ?_
    refine q_br w_PM (.if_icmp .gt 35) 3 rfl rfl rfl (20 < a2) 89 57 [] rfl (fun _ => ?_) (fun _ => ?_)
    · refine q_const (.iconst 0) 1 rfl rfl rfl 90 (0) _ rfl cd_kj0 ?_
      exact r_retZ rfl rfl (by decide)
    · refine r_ld (.iload_n 2) 1 0 2 (.int (a2)) rfl rfl rfl rfl 58 rfl ?_
      refine q_br w_PM (.ifCond .le 15) 3 rfl rfl rfl (a2 ≤ 0) 73 61 [] rfl (fun _ => ?_) (fun _ => ?_)
      · exact r_w (k8_readFilm_1_L73 (f8_readFilm_1_L51 n) ih a2 M) (cd_le_s (cd_le_n (cd_le_s cd_le_0)))
      · refine r_ld (.aload_n 0) 1 2 0 (.ref 1) rfl rfl rfl rfl 62 rfl ?_
        refine r_go (.getfield 12) 3 rfl rfl rfl 65 [.ref 2] rfl ?_
        refine q_cTI (.invokevirtual 64) rfl rfl rfl 85 [.ref 2] [] rfl (k7_kind_2 M) ?_
        refine q_br w_PM (.ifCond .ne 5) 3 rfl rfl rfl (f7_kind_2 M = 0) 71 73 [] rfl (fun _ => ?_) (fun _ => ?_)
        · refine q_const (.iconst 1) 1 rfl rfl rfl 72 (1) _ rfl cd_kj1 ?_
          exact r_retZ rfl rfl (by decide)
        · exact r_w (k8_readFilm_1_L73 (f8_readFilm_1_L51 n) ih a2 M) (cd_le_s (cd_le_n (cd_le_s cd_le_0)))
def f8_readFilm_1 (a1 : Int32) (M : cd_M) : Option (Int32 × cd_M) := (f7_open_2 a1 M).bind fun M1 => (f8_takeWord_1_1000 M1).bind (cd_u2 fun v3 M2 => if v3 = 0 then (some (0, M2)) else ((f8_takeNumber_1 1 6 M2).bind (cd_u2 fun v7 M6 => if v7 = 0 then (some (0, M6)) else (cd_lt (f1_begin_3 (M6.1 1 4) M6) fun M10 => (f8_takeSemicolon_1 M10).bind (cd_u2 fun v12 M11 => if v12 = 0 then (some (0, M11)) else (f8_readFilm_1_L51 cd_fu 0 M11))))))
set_option maxRecDepth 8000 in
theorem k8_readFilm_1 (a1 : Int32) (M : cd_M) : cd_R 100 0 [some (.ref 1), some (.int (a1)), none] [] M (w_PM (f8_readFilm_1 a1 M)) := by
  unfold f8_readFilm_1
  refine r_ld (.aload_n 0) 1 2 0 (.ref 1) rfl rfl rfl rfl 1 rfl ?_
  refine r_go (.getfield 12) 3 rfl rfl rfl 4 [.ref 2] rfl ?_
  refine r_ld (.iload_n 1) 1 0 1 (.int (a1)) rfl rfl rfl rfl 5 rfl ?_
  refine q_cV w_PM rfl (.invokevirtual 44) rfl rfl rfl 84 [.ref 2, .int (a1)] [] rfl (k7_open_2 a1 M) (fun M1 => ?_)
  refine r_ld (.aload_n 0) 1 2 0 (.ref 1) rfl rfl rfl rfl 9 rfl ?_
  refine r_go (.ldc 47) 2 rfl rfl rfl 11 [.ref 1000, .ref 1] rfl ?_
  refine q_cMz w_PM rfl (.invokevirtual 49) rfl rfl rfl 107 rfl [.ref 1, .ref 1000] [] rfl (k8_takeWord_1_1000 M1) (fun v3 M2 z4 => ?_)
  refine q_br w_PM (.ifCond .eq 13) 3 rfl rfl rfl (v3 = 0) 27 17 [] rfl (fun _ => ?_) (fun _ => ?_)
  · refine q_const (.iconst 0) 1 rfl rfl rfl 28 (0) _ rfl cd_kj0 ?_
    exact r_retZ rfl rfl (by decide)
  · refine r_ld (.aload_n 0) 1 2 0 (.ref 1) rfl rfl rfl rfl 18 rfl ?_
    refine q_const (.iconst 1) 1 rfl rfl rfl 19 (1) _ rfl cd_kj1 ?_
    refine q_const (.bipush 6) 2 rfl rfl rfl 21 (6) _ rfl cd_kc6 ?_
    refine q_cMz w_PM rfl (.invokevirtual 53) rfl rfl rfl 109 rfl [.ref 1, .int (1), .int (6)] [] rfl (k8_takeNumber_1 1 6 M2) (fun v7 M6 z8 => ?_)
    refine q_br w_PM (.ifCond .ne 5) 3 rfl rfl rfl (v7 = 0) 27 29 [] rfl (fun _ => ?_) (fun _ => ?_)
    · refine q_const (.iconst 0) 1 rfl rfl rfl 28 (0) _ rfl cd_kj0 ?_
      exact r_retZ rfl rfl (by decide)
    · refine r_ld (.aload_n 0) 1 2 0 (.ref 1) rfl rfl rfl rfl 30 rfl ?_
      refine r_go (.getfield 23) 3 rfl rfl rfl 33 [.ref 3] rfl ?_
      refine r_ld (.aload_n 0) 1 2 0 (.ref 1) rfl rfl rfl rfl 34 rfl ?_
      refine r_go (.getfield 38) 3 rfl rfl rfl 37 [.int (M6.1 1 4), .ref 3] rfl ?_
      refine q_cTV w_PM (.invokevirtual 57) rfl rfl rfl 11 [.ref 3, .int (M6.1 1 4)] [] rfl (k1_begin_3 (M6.1 1 4) M6) (fun M10 => ?_)
      refine r_ld (.aload_n 0) 1 2 0 (.ref 1) rfl rfl rfl rfl 41 rfl ?_
      refine q_cMz w_PM rfl (.invokevirtual 60) rfl rfl rfl 108 rfl [.ref 1] [] rfl (k8_takeSemicolon_1 M10) (fun v12 M11 z13 => ?_)
      refine q_br w_PM (.ifCond .ne 5) 3 rfl rfl rfl (v12 = 0) 47 49 [] rfl (fun _ => ?_) (fun _ => ?_)
      · refine q_const (.iconst 0) 1 rfl rfl rfl 48 (0) _ rfl cd_kj0 ?_
        exact r_retZ rfl rfl (by decide)
      · refine q_const (.iconst 0) 1 rfl rfl rfl 50 (0) _ rfl cd_kj0 ?_
        refine r_st (.istore_n 2) 1 0 2 rfl rfl rfl 51 rfl [some (.ref 1), some (.int (a1)), some (.int (0))] rfl ?_
        exact r_w (k8_readFilm_1_L51 cd_fu 0 M11) (cd_le_s (cd_le_n (cd_le_s cd_le_0)))
def f7_empty_2 (M : cd_M) : cd_M := cd_lt (cd_wI M 2 1 0) fun M1 => M1
set_option maxRecDepth 8000 in
theorem k7_empty_2 (M : cd_M) : cd_R 83 0 [some (.ref 2)] [] M (w_TV (f7_empty_2 M)) := by
  unfold f7_empty_2
  refine r_ld (.aload_n 0) 1 2 0 (.ref 2) rfl rfl rfl rfl 1 rfl ?_
  refine q_const (.iconst 0) 1 rfl rfl rfl 2 (0) _ rfl cd_kj0 ?_
  refine q_wr w_TV (.putfield 15) 3 rfl rfl rfl 5 [] (cd_wI M 2 1 0) rfl (fun M1 => ?_)
  exact r_ret .return_ 1 rfl rfl rfl _ rfl
def f8_frames_1 (M : cd_M) : Nat := 3
set_option maxRecDepth 8000 in
theorem k8_frames_1 (M : cd_M) : cd_R 97 0 [some (.ref 1)] [] M ((w_TR M) (f8_frames_1 M)) := by
  unfold f8_frames_1
  refine r_ld (.aload_n 0) 1 2 0 (.ref 1) rfl rfl rfl rfl 1 rfl ?_
  refine r_go (.getfield 23) 3 rfl rfl rfl 4 [.ref 3] rfl ?_
  exact r_ret .areturn 1 rfl rfl rfl _ rfl
def f1_begin_5 (a1 : Int32) (M : cd_M) : cd_M := cd_lt (cd_wI M 5 2 a1) fun M1 => cd_lt (cd_wI M1 5 3 0) fun M2 => M2
set_option maxRecDepth 8000 in
theorem k1_begin_5 (a1 : Int32) (M : cd_M) : cd_R 11 0 [some (.ref 5), some (.int (a1))] [] M (w_TV (f1_begin_5 a1 M)) := by
  unfold f1_begin_5
  refine r_ld (.aload_n 0) 1 2 0 (.ref 5) rfl rfl rfl rfl 1 rfl ?_
  refine r_ld (.iload_n 1) 1 0 1 (.int (a1)) rfl rfl rfl rfl 2 rfl ?_
  refine q_wr w_TV (.putfield 7) 3 rfl rfl rfl 5 [] (cd_wI M 5 2 a1) rfl (fun M1 => ?_)
  refine r_ld (.aload_n 0) 1 2 0 (.ref 5) rfl rfl rfl rfl 6 rfl ?_
  refine q_const (.iconst 0) 1 rfl rfl rfl 7 (0) _ rfl cd_kj0 ?_
  refine q_wr w_TV (.putfield 13) 3 rfl rfl rfl 10 [] (cd_wI M1 5 3 0) rfl (fun M2 => ?_)
  exact r_ret .return_ 1 rfl rfl rfl _ rfl
def f1_has_3 (a1 : Int32) (M : cd_M) : Int32 := if a1 < 0 then (0) else (if M.1 3 3 ≤ a1 then (0) else (1))
set_option maxRecDepth 8000 in
theorem k1_has_3 (a1 : Int32) (M : cd_M) : cd_R 14 0 [some (.ref 3), some (.int (a1))] [] M ((w_TI M) (f1_has_3 a1 M)) := by
  unfold f1_has_3
  refine r_ld (.iload_n 1) 1 0 1 (.int (a1)) rfl rfl rfl rfl 1 rfl ?_
  refine q_br (w_TI M) (.ifCond .lt 15) 3 rfl rfl rfl (a1 < 0) 16 4 [] rfl (fun _ => ?_) (fun _ => ?_)
  · refine q_const (.iconst 0) 1 rfl rfl rfl 17 (0) _ rfl cd_kj0 ?_
    exact r_retZ rfl rfl (by decide)
  · refine r_ld (.iload_n 1) 1 0 1 (.int (a1)) rfl rfl rfl rfl 5 rfl ?_
    refine r_ld (.aload_n 0) 1 2 0 (.ref 3) rfl rfl rfl rfl 6 rfl ?_
    refine r_go (.getfield 13) 3 rfl rfl rfl 9 [.int (M.1 3 3), .int (a1)] rfl ?_
    refine q_br (w_TI M) (.if_icmp .ge 7) 3 rfl rfl rfl (M.1 3 3 ≤ a1) 16 12 [] rfl (fun _ => ?_) (fun _ => ?_)
    · refine q_const (.iconst 0) 1 rfl rfl rfl 17 (0) _ rfl cd_kj0 ?_
      exact r_retZ rfl rfl (by decide)
    · refine q_const (.iconst 1) 1 rfl rfl rfl 13 (1) _ rfl cd_kj1 ?_
      refine r_go (.goto 4) 3 rfl rfl rfl 17 [.int (1)] rfl ?_
      exact r_retZ rfl rfl (by decide)
def f1_row_3 (a1 : Int32) (a2 : Int32) (M : cd_M) : Option (Int64) := if f1_has_3 a1 M = 0 then (some 0) else (if a2 = 0 then (if cd_in a1 20 = true then (some (M.2 18 a1.toNatClampNeg)) else none) else (if cd_in a1 20 = true then (some (M.2 19 a1.toNatClampNeg)) else none))
set_option maxRecDepth 8000 in
theorem k1_row_3 (a1 : Int32) (a2 : Int32) (M : cd_M) : cd_R 16 0 [some (.ref 3), some (.int (a1)), some (.int (a2))] [] M ((w_PL M) (f1_row_3 a1 a2 M)) := by
  unfold f1_row_3
  refine r_ld (.aload_n 0) 1 2 0 (.ref 3) rfl rfl rfl rfl 1 rfl ?_
  refine r_ld (.iload_n 1) 1 0 1 (.int (a1)) rfl rfl rfl rfl 2 rfl ?_
  refine q_cTIz (.invokevirtual 29) rfl rfl rfl 14 rfl [.ref 3, .int (a1)] [] rfl (k1_has_3 a1 M) (fun z1 => ?_)
  refine q_br (w_PL M) (.ifCond .ne 5) 3 rfl rfl rfl (f1_has_3 a1 M = 0) 8 10 [] rfl (fun _ => ?_) (fun _ => ?_)
  · refine r_go (.lconst 0) 1 rfl rfl rfl 9 [.long (0)] rfl ?_
    exact r_ret .lreturn 1 rfl rfl rfl _ rfl
  · refine r_ld (.iload_n 2) 1 0 2 (.int (a2)) rfl rfl rfl rfl 11 rfl ?_
    refine q_br (w_PL M) (.ifCond .ne 12) 3 rfl rfl rfl (a2 = 0) 14 23 [] rfl (fun _ => ?_) (fun _ => ?_)
    · refine r_ld (.aload_n 0) 1 2 0 (.ref 3) rfl rfl rfl rfl 15 rfl ?_
      refine r_go (.getfield 22) 3 rfl rfl rfl 18 [.ref 18] rfl ?_
      refine r_ld (.iload_n 1) 1 0 1 (.int (a1)) rfl rfl rfl rfl 19 rfl ?_
      refine q_lald (w_PL M) rfl rfl 18 20 rfl ?_
      refine r_go (.goto 9) 3 rfl rfl rfl 29 [.long (M.2 18 a1.toNatClampNeg)] rfl ?_
      exact r_ret .lreturn 1 rfl rfl rfl _ rfl
    · refine r_ld (.aload_n 0) 1 2 0 (.ref 3) rfl rfl rfl rfl 24 rfl ?_
      refine r_go (.getfield 26) 3 rfl rfl rfl 27 [.ref 19] rfl ?_
      refine r_ld (.iload_n 1) 1 0 1 (.int (a1)) rfl rfl rfl rfl 28 rfl ?_
      refine q_lald (w_PL M) rfl rfl 19 20 rfl ?_
      exact r_ret .lreturn 1 rfl rfl rfl _ rfl
def f1_add_5 (a1 : Int64) (a2 : Int64) (M : cd_M) : Option cd_M := if 20 ≤ M.1 5 3 then (some M) else (if 20 ≤ M.1 5 3 then (some M) else (if cd_in (M.1 5 3) 20 = true then (cd_lt (cd_wL M 23 (M.1 5 3 : Int32).toNatClampNeg a1) fun M1 => if cd_in (M1.1 5 3) 20 = true then (cd_lt (cd_wL M1 24 (M1.1 5 3 : Int32).toNatClampNeg a2) fun M2 => cd_lt (cd_wI M2 5 3 ((M2.1 5 3) + 1)) fun M3 => some M3) else none) else none))
set_option maxRecDepth 8000 in
theorem k1_add_5 (a1 : Int64) (a2 : Int64) (M : cd_M) : cd_R 15 0 [some (.ref 5), some (.long (a1)), none, some (.long (a2)), none] [] M (w_PV (f1_add_5 a1 a2 M)) := by
  unfold f1_add_5
  refine r_ld (.aload_n 0) 1 2 0 (.ref 5) rfl rfl rfl rfl 1 rfl ?_
  refine r_go (.getfield 13) 3 rfl rfl rfl 4 [.int (M.1 5 3)] rfl ?_
  refine r_ld (.aload_n 0) 1 2 0 (.ref 5) rfl rfl rfl rfl 5 rfl ?_
  refine r_go (.getfield 22) 3 rfl rfl rfl 8 [.ref 23, .int (M.1 5 3)] rfl ?_
  refine r_go (.arraylength) 1 rfl rfl rfl 9 [.int (20), .int (M.1 5 3)] rfl ?_
  refine q_br w_PV (.if_icmp .ge 45) 3 rfl rfl rfl (20 ≤ M.1 5 3) 54 12 [] rfl (fun _ => ?_) (fun _ => ?_)
  · exact r_ret .return_ 1 rfl rfl rfl _ rfl
  · refine r_ld (.aload_n 0) 1 2 0 (.ref 5) rfl rfl rfl rfl 13 rfl ?_
    refine r_go (.getfield 13) 3 rfl rfl rfl 16 [.int (M.1 5 3)] rfl ?_
    refine r_ld (.aload_n 0) 1 2 0 (.ref 5) rfl rfl rfl rfl 17 rfl ?_
    refine r_go (.getfield 26) 3 rfl rfl rfl 20 [.ref 24, .int (M.1 5 3)] rfl ?_
    refine r_go (.arraylength) 1 rfl rfl rfl 21 [.int (20), .int (M.1 5 3)] rfl ?_
    refine q_br w_PV (.if_icmp .ge 33) 3 rfl rfl rfl (20 ≤ M.1 5 3) 54 24 [] rfl (fun _ => ?_) (fun _ => ?_)
    · exact r_ret .return_ 1 rfl rfl rfl _ rfl
    · refine r_ld (.aload_n 0) 1 2 0 (.ref 5) rfl rfl rfl rfl 25 rfl ?_
      refine r_go (.getfield 22) 3 rfl rfl rfl 28 [.ref 23] rfl ?_
      refine r_ld (.aload_n 0) 1 2 0 (.ref 5) rfl rfl rfl rfl 29 rfl ?_
      refine r_go (.getfield 13) 3 rfl rfl rfl 32 [.int (M.1 5 3), .ref 23] rfl ?_
      refine r_ld (.lload_n 1) 1 1 1 (.long (a1)) rfl rfl rfl rfl 33 rfl ?_
      refine q_last w_PV rfl rfl 23 20 rfl (fun M1 => ?_)
      refine r_ld (.aload_n 0) 1 2 0 (.ref 5) rfl rfl rfl rfl 35 rfl ?_
      refine r_go (.getfield 26) 3 rfl rfl rfl 38 [.ref 24] rfl ?_
      refine r_ld (.aload_n 0) 1 2 0 (.ref 5) rfl rfl rfl rfl 39 rfl ?_
      refine r_go (.getfield 13) 3 rfl rfl rfl 42 [.int (M1.1 5 3), .ref 24] rfl ?_
      refine r_ld (.lload_n 3) 1 1 3 (.long (a2)) rfl rfl rfl rfl 43 rfl ?_
      refine q_last w_PV rfl rfl 24 20 rfl (fun M2 => ?_)
      refine r_ld (.aload_n 0) 1 2 0 (.ref 5) rfl rfl rfl rfl 45 rfl ?_
      refine r_go (.dup) 1 rfl rfl rfl 46 [.ref 5, .ref 5] rfl ?_
      refine r_go (.getfield 13) 3 rfl rfl rfl 49 [.int (M2.1 5 3), .ref 5] rfl ?_
      refine q_const (.iconst 1) 1 rfl rfl rfl 50 (1) _ rfl cd_kj1 ?_
      refine r_go (.iadd) 1 rfl rfl rfl 51 [.int ((M2.1 5 3) + 1), .ref 5] rfl ?_
      refine q_wr w_PV (.putfield 13) 3 rfl rfl rfl 54 [] (cd_wI M2 5 3 ((M2.1 5 3) + 1)) rfl (fun M3 => ?_)
      exact r_ret .return_ 1 rfl rfl rfl _ rfl
def f1_copyFrom_5_3_L10 : Nat → Int32 → cd_M → Option cd_M
  | 0, _, _ => none
  | n + 1, a2, M => if M.1 3 3 ≤ a2 then (some M) else ((f1_row_3 a2 0 M).bind fun v2 => (f1_row_3 a2 1 M).bind fun v3 => (f1_add_5 v2 v3 M).bind fun M4 => cd_lt (a2 + (1)) fun x5 => f1_copyFrom_5_3_L10 n x5 M4)
set_option maxRecDepth 8000 in
theorem k1_copyFrom_5_3_L10 : ∀ (n : Nat) (a2 : Int32) (M : cd_M), cd_R 18 10 [some (.ref 5), some (.ref 3), some (.int (a2))] [] M (w_PV (f1_copyFrom_5_3_L10 n a2 M)) := by
  intro n
  induction n with
  | zero =>
    intro a2 M
    exact q_none w_PV rfl
  | succ n ih =>
    intro a2 M
    rw [f1_copyFrom_5_3_L10]
    refine r_ld (.iload_n 2) 1 0 2 (.int (a2)) rfl rfl rfl rfl 11 rfl ?_
    refine r_ld (.aload_n 1) 1 2 1 (.ref 3) rfl rfl rfl rfl 12 rfl ?_
    refine r_go (.getfield 13) 3 rfl rfl rfl 15 [.int (M.1 3 3), .int (a2)] rfl ?_
    refine q_br w_PV (.if_icmp .ge 25) 3 rfl rfl rfl (M.1 3 3 ≤ a2) 40 18 [] rfl (fun _ => ?_) (fun _ => ?_)
    · exact r_ret .return_ 1 rfl rfl rfl _ rfl
    · refine r_ld (.aload_n 0) 1 2 0 (.ref 5) rfl rfl rfl rfl 19 rfl ?_
      refine r_ld (.aload_n 1) 1 2 1 (.ref 3) rfl rfl rfl rfl 20 rfl ?_
      refine r_ld (.iload_n 2) 1 0 2 (.int (a2)) rfl rfl rfl rfl 21 rfl ?_
      refine q_const (.iconst 0) 1 rfl rfl rfl 22 (0) _ rfl cd_kj0 ?_
      refine q_cL w_PV rfl (.invokevirtual 33) rfl rfl rfl 16 [.ref 3, .int (a2), .int (0)] [.ref 5] rfl (k1_row_3 a2 0 M) (fun v2 => ?_)
      refine r_ld (.aload_n 1) 1 2 1 (.ref 3) rfl rfl rfl rfl 26 rfl ?_
      refine r_ld (.iload_n 2) 1 0 2 (.int (a2)) rfl rfl rfl rfl 27 rfl ?_
      refine q_const (.iconst 1) 1 rfl rfl rfl 28 (1) _ rfl cd_kj1 ?_
      refine q_cL w_PV rfl (.invokevirtual 33) rfl rfl rfl 16 [.ref 3, .int (a2), .int (1)] [.long (v2), .ref 5] rfl (k1_row_3 a2 1 M) (fun v3 => ?_)
      refine q_cV w_PV rfl (.invokevirtual 41) rfl rfl rfl 15 [.ref 5, .long (v2), .long (v3)] [] rfl (k1_add_5 v2 v3 M) (fun M4 => ?_)
      refine q_inc w_PV 2 (1) (a2) rfl rfl rfl 37 rfl (1) cd_kj1 (fun x5 => [some (.ref 5), some (.ref 3), some (.int (x5))]) (fun _ => rfl) (fun x5 => ?_)
      refine r_go (.goto (-27)) 3 rfl rfl rfl 10 [] rfl ?_
      exact r_w (ih x5 M4) (cd_le_s (cd_le_s (cd_le_s cd_le_0)))
def f1_copyFrom_5_3 (M : cd_M) : Option cd_M := cd_lt (f1_begin_5 (M.1 3 2) M) fun M1 => f1_copyFrom_5_3_L10 cd_fu 0 M1
set_option maxRecDepth 8000 in
theorem k1_copyFrom_5_3 (M : cd_M) : cd_R 18 0 [some (.ref 5), some (.ref 3), none] [] M (w_PV (f1_copyFrom_5_3 M)) := by
  unfold f1_copyFrom_5_3
  refine r_ld (.aload_n 0) 1 2 0 (.ref 5) rfl rfl rfl rfl 1 rfl ?_
  refine r_ld (.aload_n 1) 1 2 1 (.ref 3) rfl rfl rfl rfl 2 rfl ?_
  refine r_go (.getfield 7) 3 rfl rfl rfl 5 [.int (M.1 3 2), .ref 5] rfl ?_
  refine q_cTV w_PV (.invokevirtual 37) rfl rfl rfl 11 [.ref 5, .int (M.1 3 2)] [] rfl (k1_begin_5 (M.1 3 2) M) (fun M1 => ?_)
  refine q_const (.iconst 0) 1 rfl rfl rfl 9 (0) _ rfl cd_kj0 ?_
  refine r_st (.istore_n 2) 1 0 2 rfl rfl rfl 10 rfl [some (.ref 5), some (.ref 3), some (.int (0))] rfl ?_
  exact r_w (k1_copyFrom_5_3_L10 cd_fu 0 M1) (cd_le_s (cd_le_s (cd_le_s cd_le_0)))
def f4_empty_7 (M : cd_M) : cd_M := cd_lt (cd_wI M 7 1 0) fun M1 => M1
set_option maxRecDepth 8000 in
theorem k4_empty_7 (M : cd_M) : cd_R 42 0 [some (.ref 7)] [] M (w_TV (f4_empty_7 M)) := by
  unfold f4_empty_7
  refine r_ld (.aload_n 0) 1 2 0 (.ref 7) rfl rfl rfl rfl 1 rfl ?_
  refine q_const (.iconst 0) 1 rfl rfl rfl 2 (0) _ rfl cd_kj0 ?_
  refine q_wr w_TV (.putfield 15) 3 rfl rfl rfl 5 [] (cd_wI M 7 1 0) rfl (fun M1 => ?_)
  exact r_ret .return_ 1 rfl rfl rfl _ rfl
def f3_empty_8 (M : cd_M) : cd_M := cd_lt (cd_wI M 8 3 0) fun M1 => M1
set_option maxRecDepth 8000 in
theorem k3_empty_8 (M : cd_M) : cd_R 38 0 [some (.ref 8)] [] M (w_TV (f3_empty_8 M)) := by
  unfold f3_empty_8
  refine r_ld (.aload_n 0) 1 2 0 (.ref 8) rfl rfl rfl rfl 1 rfl ?_
  refine q_const (.iconst 0) 1 rfl rfl rfl 2 (0) _ rfl cd_kj0 ?_
  refine q_wr w_TV (.putfield 23) 3 rfl rfl rfl 5 [] (cd_wI M 8 3 0) rfl (fun M1 => ?_)
  exact r_ret .return_ 1 rfl rfl rfl _ rfl
def f0_forget_9_L2 : Nat → Int32 → cd_M → Option cd_M
  | 0, _, _ => none
  | n + 1, a1, M => if 4 ≤ a1 then (some M) else (if cd_in a1 4 = true then (cd_lt (cd_wI M 35 a1.toNatClampNeg (vp_nar .boolean 0)) fun M1 => cd_lt (a1 + (1)) fun x2 => f0_forget_9_L2 n x2 M1) else none)
set_option maxRecDepth 8000 in
theorem k0_forget_9_L2 : ∀ (n : Nat) (a1 : Int32) (M : cd_M), cd_R 1 2 [some (.ref 9), some (.int (a1))] [] M (w_PV (f0_forget_9_L2 n a1 M)) := by
  intro n
  induction n with
  | zero =>
    intro a1 M
    exact q_none w_PV rfl
  | succ n ih =>
    intro a1 M
    rw [f0_forget_9_L2]
    refine r_ld (.iload_n 1) 1 0 1 (.int (a1)) rfl rfl rfl rfl 3 rfl ?_
    refine q_const (.iconst 4) 1 rfl rfl rfl 4 (4) _ rfl cd_kj4 ?_
    refine q_br w_PV (.if_icmp .ge 16) 3 rfl rfl rfl (4 ≤ a1) 20 7 [] rfl (fun _ => ?_) (fun _ => ?_)
    · exact r_ret .return_ 1 rfl rfl rfl _ rfl
    · refine r_ld (.aload_n 0) 1 2 0 (.ref 9) rfl rfl rfl rfl 8 rfl ?_
      refine r_go (.getfield 36) 3 rfl rfl rfl 11 [.ref 35] rfl ?_
      refine r_ld (.iload_n 1) 1 0 1 (.int (a1)) rfl rfl rfl rfl 12 rfl ?_
      refine q_const (.iconst 0) 1 rfl rfl rfl 13 (0) _ rfl cd_kj0 ?_
      refine q_zast w_PV rfl rfl 35 4 rfl (fun M1 => ?_)
      refine q_inc w_PV 1 (1) (a1) rfl rfl rfl 17 rfl (1) cd_kj1 (fun x2 => [some (.ref 9), some (.int (x2))]) (fun _ => rfl) (fun x2 => ?_)
      refine r_go (.goto (-15)) 3 rfl rfl rfl 2 [] rfl ?_
      exact r_w (ih x2 M1) (cd_le_s (cd_le_s cd_le_0))
def f0_forget_9 (M : cd_M) : Option cd_M := f0_forget_9_L2 cd_fu 0 M
set_option maxRecDepth 8000 in
theorem k0_forget_9 (M : cd_M) : cd_R 1 0 [some (.ref 9), none] [] M (w_PV (f0_forget_9 M)) := by
  unfold f0_forget_9
  refine q_const (.iconst 0) 1 rfl rfl rfl 1 (0) _ rfl cd_kj0 ?_
  refine r_st (.istore_n 1) 1 0 1 rfl rfl rfl 2 rfl [some (.ref 9), some (.int (0))] rfl ?_
  exact r_w (k0_forget_9_L2 cd_fu 0 M) (cd_le_s (cd_le_s cd_le_0))
def f10_forgetPaths_0 (M : cd_M) : Option cd_M := cd_lt (cd_wI M 0 11 0) fun M1 => (f0_forget_9 M1).bind fun M2 => some M2
set_option maxRecDepth 8000 in
theorem k10_forgetPaths_0 (M : cd_M) : cd_R 152 0 [some (.ref 0)] [] M (w_PV (f10_forgetPaths_0 M)) := by
  unfold f10_forgetPaths_0
  refine r_ld (.aload_n 0) 1 2 0 (.ref 0) rfl rfl rfl rfl 1 rfl ?_
  refine q_const (.iconst 0) 1 rfl rfl rfl 2 (0) _ rfl cd_kj0 ?_
  refine q_wr w_PV (.putfield 78) 3 rfl rfl rfl 5 [] (cd_wI M 0 11 0) rfl (fun M1 => ?_)
  refine r_ld (.aload_n 0) 1 2 0 (.ref 0) rfl rfl rfl rfl 6 rfl ?_
  refine r_go (.getfield 49) 3 rfl rfl rfl 9 [.ref 9] rfl ?_
  refine q_cV w_PV rfl (.invokevirtual 310) rfl rfl rfl 1 [.ref 9] [] rfl (k0_forget_9 M1) (fun M2 => ?_)
  exact r_ret .return_ 1 rfl rfl rfl _ rfl
def f1_size_5 (M : cd_M) : Int32 := (M.1 5 3)
set_option maxRecDepth 8000 in
theorem k1_size_5 (M : cd_M) : cd_R 13 0 [some (.ref 5)] [] M ((w_TI M) (f1_size_5 M)) := by
  unfold f1_size_5
  refine r_ld (.aload_n 0) 1 2 0 (.ref 5) rfl rfl rfl rfl 1 rfl ?_
  refine r_go (.getfield 13) 3 rfl rfl rfl 4 [.int (M.1 5 3)] rfl ?_
  exact r_ret .ireturn 1 rfl rfl rfl _ rfl
def f8_fault_1 (M : cd_M) : Int32 := (M.1 1 3)
set_option maxRecDepth 8000 in
theorem k8_fault_1 (M : cd_M) : cd_R 99 0 [some (.ref 1)] [] M ((w_TI M) (f8_fault_1 M)) := by
  unfold f8_fault_1
  refine r_ld (.aload_n 0) 1 2 0 (.ref 1) rfl rfl rfl rfl 1 rfl ?_
  refine r_go (.getfield 34) 3 rfl rfl rfl 4 [.int (M.1 1 3)] rfl ?_
  exact r_ret .ireturn 1 rfl rfl rfl _ rfl
def f10_film_0 (a1 : Int32) (M : cd_M) : Option (Int32 × cd_M) := if f7_holds_2 a1 M = 0 then (some ((-1), M)) else ((f8_readFilm_1 a1 M).bind (cd_u2 fun v3 M2 => cd_lt (f7_empty_2 M2) fun M6 => if v3 = 0 then (some ((-2) - (f8_fault_1 M6), M6)) else ((f1_copyFrom_5_3 M6).bind fun M7 => cd_lt (f4_empty_7 M7) fun M8 => cd_lt (f3_empty_8 M8) fun M9 => (f10_forgetPaths_0 M9).bind fun M10 => some (f1_size_5 M10, M10))))
set_option maxRecDepth 8000 in
theorem k10_film_0 (a1 : Int32) (M : cd_M) : cd_R 127 0 [some (.ref 0), some (.int (a1)), none] [] M (w_PM (f10_film_0 a1 M)) := by
  unfold f10_film_0
  refine r_ld (.aload_n 0) 1 2 0 (.ref 0) rfl rfl rfl rfl 1 rfl ?_
  refine r_go (.getfield 10) 3 rfl rfl rfl 4 [.ref 1] rfl ?_
  refine q_cTR (.invokevirtual 82) rfl rfl rfl 96 [.ref 1] [] rfl (k8_tape_1 M) ?_
  refine r_ld (.iload_n 1) 1 0 1 (.int (a1)) rfl rfl rfl rfl 8 rfl ?_
  refine q_cTIz (.invokevirtual 99) rfl rfl rfl 82 rfl [.ref 2, .int (a1)] [] rfl (k7_holds_2 a1 M) (fun z1 => ?_)
  refine q_br w_PM (.ifCond .ne 5) 3 rfl rfl rfl (f7_holds_2 a1 M = 0) 14 16 [] rfl (fun _ => ?_) (fun _ => ?_)
  · refine q_const (.iconst (-1)) 1 rfl rfl rfl 15 (-1) _ rfl cd_kjm1 ?_
    exact r_ret .ireturn 1 rfl rfl rfl _ rfl
  · refine r_ld (.aload_n 0) 1 2 0 (.ref 0) rfl rfl rfl rfl 17 rfl ?_
    refine r_go (.getfield 10) 3 rfl rfl rfl 20 [.ref 1] rfl ?_
    refine r_ld (.iload_n 1) 1 0 1 (.int (a1)) rfl rfl rfl rfl 21 rfl ?_
    refine q_cMz w_PM rfl (.invokevirtual 103) rfl rfl rfl 100 rfl [.ref 1, .int (a1)] [] rfl (k8_readFilm_1 a1 M) (fun v3 M2 z4 => ?_)
    refine r_st (.istore_n 2) 1 0 2 rfl rfl rfl 25 rfl [some (.ref 0), some (.int (a1)), some (.int (v3))] rfl ?_
    refine r_ld (.aload_n 0) 1 2 0 (.ref 0) rfl rfl rfl rfl 26 rfl ?_
    refine r_go (.getfield 10) 3 rfl rfl rfl 29 [.ref 1] rfl ?_
    refine q_cTR (.invokevirtual 82) rfl rfl rfl 96 [.ref 1] [] rfl (k8_tape_1 M2) ?_
    refine q_cTV w_PM (.invokevirtual 106) rfl rfl rfl 83 [.ref 2] [] rfl (k7_empty_2 M2) (fun M6 => ?_)
    refine r_ld (.iload_n 2) 1 0 2 (.int (v3)) rfl rfl rfl rfl 36 rfl ?_
    refine q_br w_PM (.ifCond .ne 14) 3 rfl rfl rfl (v3 = 0) 39 50 [] rfl (fun _ => ?_) (fun _ => ?_)
    · refine q_const (.bipush (-2)) 2 rfl rfl rfl 41 (-2) _ rfl cd_kcm2 ?_
      refine r_ld (.aload_n 0) 1 2 0 (.ref 0) rfl rfl rfl rfl 42 rfl ?_
      refine r_go (.getfield 10) 3 rfl rfl rfl 45 [.ref 1, .int ((-2))] rfl ?_
      refine q_cTI (.invokevirtual 109) rfl rfl rfl 99 [.ref 1] [.int ((-2))] rfl (k8_fault_1 M6) ?_
      refine r_go (.isub) 1 rfl rfl rfl 49 [.int ((-2) - (f8_fault_1 M6))] rfl ?_
      exact r_ret .ireturn 1 rfl rfl rfl _ rfl
    · refine r_ld (.aload_n 0) 1 2 0 (.ref 0) rfl rfl rfl rfl 51 rfl ?_
      refine r_go (.getfield 21) 3 rfl rfl rfl 54 [.ref 5] rfl ?_
      refine r_ld (.aload_n 0) 1 2 0 (.ref 0) rfl rfl rfl rfl 55 rfl ?_
      refine r_go (.getfield 10) 3 rfl rfl rfl 58 [.ref 1, .ref 5] rfl ?_
      refine q_cTR (.invokevirtual 112) rfl rfl rfl 97 [.ref 1] [.ref 5] rfl (k8_frames_1 M6) ?_
      refine q_cV w_PM rfl (.invokevirtual 116) rfl rfl rfl 18 [.ref 5, .ref 3] [] rfl (k1_copyFrom_5_3 M6) (fun M7 => ?_)
      refine r_ld (.aload_n 0) 1 2 0 (.ref 0) rfl rfl rfl rfl 65 rfl ?_
      refine r_go (.getfield 35) 3 rfl rfl rfl 68 [.ref 7] rfl ?_
      refine q_cTV w_PM (.invokevirtual 120) rfl rfl rfl 42 [.ref 7] [] rfl (k4_empty_7 M7) (fun M8 => ?_)
      refine r_ld (.aload_n 0) 1 2 0 (.ref 0) rfl rfl rfl rfl 72 rfl ?_
      refine r_go (.getfield 42) 3 rfl rfl rfl 75 [.ref 8] rfl ?_
      refine q_cTV w_PM (.invokevirtual 121) rfl rfl rfl 38 [.ref 8] [] rfl (k3_empty_8 M8) (fun M9 => ?_)
      refine r_ld (.aload_n 0) 1 2 0 (.ref 0) rfl rfl rfl rfl 79 rfl ?_
      refine q_cV w_PM rfl (.invokevirtual 122) rfl rfl rfl 152 [.ref 0] [] rfl (k10_forgetPaths_0 M9) (fun M10 => ?_)
      refine r_ld (.aload_n 0) 1 2 0 (.ref 0) rfl rfl rfl rfl 83 rfl ?_
      refine r_go (.getfield 21) 3 rfl rfl rfl 86 [.ref 5] rfl ?_
      refine q_cTI (.invokevirtual 125) rfl rfl rfl 13 [.ref 5] [] rfl (k1_size_5 M10) ?_
      exact r_ret .ireturn 1 rfl rfl rfl _ rfl
def f5_clear_4 (M : cd_M) : Option cd_M := cd_lt (cd_wI M 4 3 0) fun M1 => if cd_in 0 5 = true then (cd_lt (cd_wI M1 22 (0 : Int32).toNatClampNeg 0) fun M2 => if cd_in 1 5 = true then (cd_lt (cd_wI M2 22 (1 : Int32).toNatClampNeg 40) fun M3 => if cd_in 2 5 = true then (cd_lt (cd_wI M3 22 (2 : Int32).toNatClampNeg 10) fun M4 => if cd_in 3 5 = true then (cd_lt (cd_wI M4 22 (3 : Int32).toNatClampNeg 0) fun M5 => if cd_in 4 5 = true then (cd_lt (cd_wI M5 22 (4 : Int32).toNatClampNeg 0) fun M6 => some M6) else none) else none) else none) else none) else none
set_option maxRecDepth 8000 in
theorem k5_clear_4 (M : cd_M) : cd_R 55 0 [some (.ref 4)] [] M (w_PV (f5_clear_4 M)) := by
  unfold f5_clear_4
  refine r_ld (.aload_n 0) 1 2 0 (.ref 4) rfl rfl rfl rfl 1 rfl ?_
  refine q_const (.iconst 0) 1 rfl rfl rfl 2 (0) _ rfl cd_kj0 ?_
  refine q_wr w_PV (.putfield 21) 3 rfl rfl rfl 5 [] (cd_wI M 4 3 0) rfl (fun M1 => ?_)
  refine r_ld (.aload_n 0) 1 2 0 (.ref 4) rfl rfl rfl rfl 6 rfl ?_
  refine r_go (.getfield 18) 3 rfl rfl rfl 9 [.ref 22] rfl ?_
  refine q_const (.iconst 0) 1 rfl rfl rfl 10 (0) _ rfl cd_kj0 ?_
  refine q_const (.iconst 0) 1 rfl rfl rfl 11 (0) _ rfl cd_kj0 ?_
  refine q_iast w_PV rfl rfl 22 5 rfl (fun M2 => ?_)
  refine r_ld (.aload_n 0) 1 2 0 (.ref 4) rfl rfl rfl rfl 13 rfl ?_
  refine r_go (.getfield 18) 3 rfl rfl rfl 16 [.ref 22] rfl ?_
  refine q_const (.iconst 1) 1 rfl rfl rfl 17 (1) _ rfl cd_kj1 ?_
  refine q_const (.bipush 40) 2 rfl rfl rfl 19 (40) _ rfl cd_kc40 ?_
  refine q_iast w_PV rfl rfl 22 5 rfl (fun M3 => ?_)
  refine r_ld (.aload_n 0) 1 2 0 (.ref 4) rfl rfl rfl rfl 21 rfl ?_
  refine r_go (.getfield 18) 3 rfl rfl rfl 24 [.ref 22] rfl ?_
  refine q_const (.iconst 2) 1 rfl rfl rfl 25 (2) _ rfl cd_kj2 ?_
  refine q_const (.bipush 10) 2 rfl rfl rfl 27 (10) _ rfl cd_kc10 ?_
  refine q_iast w_PV rfl rfl 22 5 rfl (fun M4 => ?_)
  refine r_ld (.aload_n 0) 1 2 0 (.ref 4) rfl rfl rfl rfl 29 rfl ?_
  refine r_go (.getfield 18) 3 rfl rfl rfl 32 [.ref 22] rfl ?_
  refine q_const (.iconst 3) 1 rfl rfl rfl 33 (3) _ rfl cd_kj3 ?_
  refine q_const (.iconst 0) 1 rfl rfl rfl 34 (0) _ rfl cd_kj0 ?_
  refine q_iast w_PV rfl rfl 22 5 rfl (fun M5 => ?_)
  refine r_ld (.aload_n 0) 1 2 0 (.ref 4) rfl rfl rfl rfl 36 rfl ?_
  refine r_go (.getfield 18) 3 rfl rfl rfl 39 [.ref 22] rfl ?_
  refine q_const (.iconst 4) 1 rfl rfl rfl 40 (4) _ rfl cd_kj4 ?_
  refine q_const (.iconst 0) 1 rfl rfl rfl 41 (0) _ rfl cd_kj0 ?_
  refine q_iast w_PV rfl rfl 22 5 rfl (fun M6 => ?_)
  exact r_ret .return_ 1 rfl rfl rfl _ rfl
def fJ0_coder_1002 (M : cd_M) : Int32 := if (1 : Int32) = 0 then (1) else (0)
set_option maxRecDepth 8000 in
theorem kJ0_coder_1002 (M : cd_M) : cd_R 240 0 [some (.ref 1002)] [] M ((w_TI M) (fJ0_coder_1002 M)) := by
  unfold fJ0_coder_1002
  refine r_go (.getstatic 38) 3 rfl rfl rfl 3 [.int (1)] rfl ?_
  refine q_br (w_TI M) (.ifCond .eq 10) 3 rfl rfl rfl ((1 : Int32) = 0) 13 6 [] rfl (fun _ => ?_) (fun _ => ?_)
  · refine q_const (.iconst 1) 1 rfl rfl rfl 14 (1) _ rfl cd_kj1 ?_
    exact r_retB rfl rfl (by decide)
  · refine r_ld (.aload_n 0) 1 2 0 (.ref 1002) rfl rfl rfl rfl 7 rfl ?_
    refine r_go (.getfield 15) 3 rfl rfl rfl 10 [.int (0)] rfl ?_
    refine r_go (.goto 4) 3 rfl rfl rfl 14 [.int (0)] rfl ?_
    exact r_retB rfl rfl (by decide)
def fJ0_length_1002 (M : cd_M) : Int32 := (7 >>> ((fJ0_coder_1002 M) &&& 31))
set_option maxRecDepth 8000 in
theorem kJ0_length_1002 (M : cd_M) : cd_R 238 0 [some (.ref 1002)] [] M ((w_TI M) (fJ0_length_1002 M)) := by
  unfold fJ0_length_1002
  refine r_ld (.aload_n 0) 1 2 0 (.ref 1002) rfl rfl rfl rfl 1 rfl ?_
  refine r_go (.getfield 9) 3 rfl rfl rfl 4 [.ref 1102] rfl ?_
  refine r_go (.arraylength) 1 rfl rfl rfl 5 [.int (7)] rfl ?_
  refine r_ld (.aload_n 0) 1 2 0 (.ref 1002) rfl rfl rfl rfl 6 rfl ?_
  refine q_cTI (.invokevirtual 335) rfl rfl rfl 240 [.ref 1002] [.int (7)] rfl (kJ0_coder_1002 M) ?_
  refine r_go (.ishr) 1 rfl rfl rfl 10 [.int (7 >>> ((fJ0_coder_1002 M) &&& 31))] rfl ?_
  exact r_ret .ireturn 1 rfl rfl rfl _ rfl
def fJ0_isLatin1_1002 (M : cd_M) : Int32 := if (1 : Int32) = 0 then (0) else (if (0 : Int32) = 0 then (1) else (0))
set_option maxRecDepth 8000 in
theorem kJ0_isLatin1_1002 (M : cd_M) : cd_R 241 0 [some (.ref 1002)] [] M ((w_TI M) (fJ0_isLatin1_1002 M)) := by
  unfold fJ0_isLatin1_1002
  refine r_go (.getstatic 38) 3 rfl rfl rfl 3 [.int (1)] rfl ?_
  refine q_br (w_TI M) (.ifCond .eq 14) 3 rfl rfl rfl ((1 : Int32) = 0) 17 6 [] rfl (fun _ => ?_) (fun _ => ?_)
  · refine q_const (.iconst 0) 1 rfl rfl rfl 18 (0) _ rfl cd_kj0 ?_
    exact r_retZ rfl rfl (by decide)
  · refine r_ld (.aload_n 0) 1 2 0 (.ref 1002) rfl rfl rfl rfl 7 rfl ?_
    refine r_go (.getfield 15) 3 rfl rfl rfl 10 [.int (0)] rfl ?_
    refine q_br (w_TI M) (.ifCond .ne 7) 3 rfl rfl rfl ((0 : Int32) = 0) 13 17 [] rfl (fun _ => ?_) (fun _ => ?_)
    · refine q_const (.iconst 1) 1 rfl rfl rfl 14 (1) _ rfl cd_kj1 ?_
      refine r_go (.goto 4) 3 rfl rfl rfl 18 [.int (1)] rfl ?_
      exact r_retZ rfl rfl (by decide)
    · refine q_const (.iconst 0) 1 rfl rfl rfl 18 (0) _ rfl cd_kj0 ?_
      exact r_retZ rfl rfl (by decide)
def fJ1_charAt_1102 (a1 : Int32) (M : cd_M) : Option (Int32) := (fJ0_checkIndex a1 7 M).bind fun _ => if cd_in a1 7 = true then (some ((((cd_sbyte 1102 a1) &&& 255 : Int32).toUInt32 % 65536).toInt32)) else none
set_option maxRecDepth 8000 in
theorem kJ1_charAt_1102 (a1 : Int32) (M : cd_M) : cd_R 243 0 [some (.ref 1102), some (.int (a1))] [] M ((w_PI M) (fJ1_charAt_1102 a1 M)) := by
  unfold fJ1_charAt_1102
  refine r_ld (.iload_n 1) 1 0 1 (.int (a1)) rfl rfl rfl rfl 1 rfl ?_
  refine r_ld (.aload_n 0) 1 2 0 (.ref 1102) rfl rfl rfl rfl 2 rfl ?_
  refine r_go (.arraylength) 1 rfl rfl rfl 3 [.int (7), .int (a1)] rfl ?_
  refine q_cU (w_PI M) rfl (.invokestatic 9) rfl rfl rfl 242 [.int (a1), .int (7)] [] rfl (kJ0_checkIndex a1 7 M) ?_
  refine r_ld (.aload_n 0) 1 2 0 (.ref 1102) rfl rfl rfl rfl 7 rfl ?_
  refine r_ld (.iload_n 1) 1 0 1 (.int (a1)) rfl rfl rfl rfl 8 rfl ?_
  refine q_sbald (w_PI M) rfl rfl 1102 7 rfl rfl (by decide) ?_
  refine q_const (.sipush 255) 3 rfl rfl rfl 12 (255) _ rfl cd_kt255 ?_
  refine r_go (.iand) 1 rfl rfl rfl 13 [.int ((cd_sbyte 1102 a1) &&& 255)] rfl ?_
  refine r_go (.i2c) 1 rfl rfl rfl 14 [.int ((((cd_sbyte 1102 a1) &&& 255 : Int32).toUInt32 % 65536).toInt32)] rfl ?_
  exact r_retC rfl rfl (pk_nc _)
def fJ0_charAt_1002 (a1 : Int32) (M : cd_M) : Option (Int32) := if fJ0_isLatin1_1002 M = 0 then (none) else ((fJ1_charAt_1102 a1 M).bind fun v2 => some v2)
set_option maxRecDepth 8000 in
theorem kJ0_charAt_1002 (a1 : Int32) (M : cd_M) : cd_R 239 0 [some (.ref 1002), some (.int (a1))] [] M ((w_PI M) (fJ0_charAt_1002 a1 M)) := by
  unfold fJ0_charAt_1002
  refine r_ld (.aload_n 0) 1 2 0 (.ref 1002) rfl rfl rfl rfl 1 rfl ?_
  refine q_cTIz (.invokevirtual 492) rfl rfl rfl 241 rfl [.ref 1002] [] rfl (kJ0_isLatin1_1002 M) (fun z1 => ?_)
  refine q_br (w_PI M) (.ifCond .eq 12) 3 rfl rfl rfl (fJ0_isLatin1_1002 M = 0) 16 7 [] rfl (fun _ => ?_) (fun _ => ?_)
  · refine r_ld (.aload_n 0) 1 2 0 (.ref 1002) rfl rfl rfl rfl 17 rfl ?_
    refine r_go (.getfield 9) 3 rfl rfl rfl 20 [.ref 1102] rfl ?_
    refine r_ld (.iload_n 1) 1 0 1 (.int (a1)) rfl rfl rfl rfl 21 rfl ?_
    exact q_none (w_PI M) rfl
  · refine r_ld (.aload_n 0) 1 2 0 (.ref 1002) rfl rfl rfl rfl 8 rfl ?_
    refine r_go (.getfield 9) 3 rfl rfl rfl 11 [.ref 1102] rfl ?_
    refine r_ld (.iload_n 1) 1 0 1 (.int (a1)) rfl rfl rfl rfl 12 rfl ?_
    refine q_cIc (w_PI M) rfl (.invokestatic 495) rfl rfl rfl 243 rfl [.ref 1102, .int (a1)] [] rfl (kJ1_charAt_1102 a1 M) (fun v2 z3 => ?_)
    exact r_retC rfl rfl z3
def f7_isWord_2_1002_L28 : Nat → Int32 → cd_M → Option (Int32)
  | 0, _, _ => none
  | n + 1, a2, M => if fJ0_length_1002 M ≤ a2 then (some 1) else ((f7_byteAt_2 ((M.1 2 4) + a2) M).bind fun v1 => (fJ0_charAt_1002 a2 M).bind fun v2 => if v1 = v2 then (cd_lt (a2 + (1)) fun x4 => f7_isWord_2_1002_L28 n x4 M) else (some 0))
set_option maxRecDepth 8000 in
theorem k7_isWord_2_1002_L28 : ∀ (n : Nat) (a2 : Int32) (M : cd_M), cd_R 89 28 [some (.ref 2), some (.ref 1002), some (.int (a2))] [] M ((w_PI M) (f7_isWord_2_1002_L28 n a2 M)) := by
  intro n
  induction n with
  | zero =>
    intro a2 M
    exact q_none (w_PI M) rfl
  | succ n ih =>
    intro a2 M
    rw [f7_isWord_2_1002_L28]
    refine r_ld (.iload_n 2) 1 0 2 (.int (a2)) rfl rfl rfl rfl 29 rfl ?_
    refine r_ld (.aload_n 1) 1 2 1 (.ref 1002) rfl rfl rfl rfl 30 rfl ?_
    refine q_cTI (.invokevirtual 64) rfl rfl rfl 238 [.ref 1002] [.int (a2)] rfl (kJ0_length_1002 M) ?_
    refine q_br (w_PI M) (.if_icmp .ge 29) 3 rfl rfl rfl (fJ0_length_1002 M ≤ a2) 62 36 [] rfl (fun _ => ?_) (fun _ => ?_)
    · refine q_const (.iconst 1) 1 rfl rfl rfl 63 (1) _ rfl cd_kj1 ?_
      exact r_retZ rfl rfl (by decide)
    · refine r_ld (.aload_n 0) 1 2 0 (.ref 2) rfl rfl rfl rfl 37 rfl ?_
      refine r_ld (.aload_n 0) 1 2 0 (.ref 2) rfl rfl rfl rfl 38 rfl ?_
      refine r_go (.getfield 25) 3 rfl rfl rfl 41 [.int (M.1 2 4), .ref 2] rfl ?_
      refine r_ld (.iload_n 2) 1 0 2 (.int (a2)) rfl rfl rfl rfl 42 rfl ?_
      refine r_go (.iadd) 1 rfl rfl rfl 43 [.int ((M.1 2 4) + a2), .ref 2] rfl ?_
      refine q_cI (w_PI M) rfl (.invokevirtual 45) rfl rfl rfl 92 [.ref 2, .int ((M.1 2 4) + a2)] [] rfl (k7_byteAt_2 ((M.1 2 4) + a2) M) (fun v1 => ?_)
      refine r_ld (.aload_n 1) 1 2 1 (.ref 1002) rfl rfl rfl rfl 47 rfl ?_
      refine r_ld (.iload_n 2) 1 0 2 (.int (a2)) rfl rfl rfl rfl 48 rfl ?_
      refine q_cIc (w_PI M) rfl (.invokevirtual 69) rfl rfl rfl 239 rfl [.ref 1002, .int (a2)] [.int (v1)] rfl (kJ0_charAt_1002 a2 M) (fun v2 z3 => ?_)
      refine q_br (w_PI M) (.if_icmp .eq 5) 3 rfl rfl rfl (v1 = v2) 56 54 [] rfl (fun _ => ?_) (fun _ => ?_)
      · refine q_inc (w_PI M) 2 (1) (a2) rfl rfl rfl 59 rfl (1) cd_kj1 (fun x4 => [some (.ref 2), some (.ref 1002), some (.int (x4))]) (fun _ => rfl) (fun x4 => ?_)
        refine r_go (.goto (-31)) 3 rfl rfl rfl 28 [] rfl ?_
        exact r_w (ih x4 M) (cd_le_s (cd_le_s (cd_le_s cd_le_0)))
      · refine q_const (.iconst 0) 1 rfl rfl rfl 55 (0) _ rfl cd_kj0 ?_
        exact r_retZ rfl rfl (by decide)
def f7_isWord_2_1002 (M : cd_M) : Option (Int32) := if M.1 2 5 = 1 then (if (M.1 2 3) - (M.1 2 4) = fJ0_length_1002 M then (f7_isWord_2_1002_L28 cd_fu 0 M) else (some 0)) else (some 0)
set_option maxRecDepth 8000 in
theorem k7_isWord_2_1002 (M : cd_M) : cd_R 89 0 [some (.ref 2), some (.ref 1002), none] [] M ((w_PI M) (f7_isWord_2_1002 M)) := by
  unfold f7_isWord_2_1002
  refine r_ld (.aload_n 0) 1 2 0 (.ref 2) rfl rfl rfl rfl 1 rfl ?_
  refine r_go (.getfield 28) 3 rfl rfl rfl 4 [.int (M.1 2 5)] rfl ?_
  refine q_const (.iconst 1) 1 rfl rfl rfl 5 (1) _ rfl cd_kj1 ?_
  refine q_br (w_PI M) (.if_icmp .ne 19) 3 rfl rfl rfl (M.1 2 5 = 1) 8 24 [] rfl (fun _ => ?_) (fun _ => ?_)
  · refine r_ld (.aload_n 0) 1 2 0 (.ref 2) rfl rfl rfl rfl 9 rfl ?_
    refine r_go (.getfield 22) 3 rfl rfl rfl 12 [.int (M.1 2 3)] rfl ?_
    refine r_ld (.aload_n 0) 1 2 0 (.ref 2) rfl rfl rfl rfl 13 rfl ?_
    refine r_go (.getfield 25) 3 rfl rfl rfl 16 [.int (M.1 2 4), .int (M.1 2 3)] rfl ?_
    refine r_go (.isub) 1 rfl rfl rfl 17 [.int ((M.1 2 3) - (M.1 2 4))] rfl ?_
    refine r_ld (.aload_n 1) 1 2 1 (.ref 1002) rfl rfl rfl rfl 18 rfl ?_
    refine q_cTI (.invokevirtual 64) rfl rfl rfl 238 [.ref 1002] [.int ((M.1 2 3) - (M.1 2 4))] rfl (kJ0_length_1002 M) ?_
    refine q_br (w_PI M) (.if_icmp .eq 5) 3 rfl rfl rfl ((M.1 2 3) - (M.1 2 4) = fJ0_length_1002 M) 26 24 [] rfl (fun _ => ?_) (fun _ => ?_)
    · refine q_const (.iconst 0) 1 rfl rfl rfl 27 (0) _ rfl cd_kj0 ?_
      refine r_st (.istore_n 2) 1 0 2 rfl rfl rfl 28 rfl [some (.ref 2), some (.ref 1002), some (.int (0))] rfl ?_
      exact r_w (k7_isWord_2_1002_L28 cd_fu 0 M) (cd_le_s (cd_le_s (cd_le_s cd_le_0)))
    · refine q_const (.iconst 0) 1 rfl rfl rfl 25 (0) _ rfl cd_kj0 ?_
      exact r_retZ rfl rfl (by decide)
  · refine q_const (.iconst 0) 1 rfl rfl rfl 25 (0) _ rfl cd_kj0 ?_
    exact r_retZ rfl rfl (by decide)
end
