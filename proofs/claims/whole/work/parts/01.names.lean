-- ===== PART A: goes FIRST, ahead of the names: the tables' words, and 'selects' of the private methods out of them =====
/-- a private method of a class that the tables say can be made, by its rows of tables_1 -/
def lw_okq (q : MethodName × Nat) : Prop := (q.1.cls ≠ "java/lang/invoke/MethodHandle" ∧ q.1.cls ≠ "java/lang/invoke/VarHandle") ∧ Cond.instantiable q.1.cls q.2 ∈ tables_1 ∧ Cond.privateMethod q.1 ∈ tables_1 ∧ Cond.instanceMethod q.1 ∈ tables_1
theorem lw_p0 : lw_okq (⟨"CadenceDesk$Tape", "byteAt", "(I)I"⟩, 7) := ⟨⟨by decide +kernel, by decide +kernel⟩, List.mem_of_getElem? (i := 38) (by decide +kernel), List.mem_of_getElem? (i := 390) (by decide +kernel), List.mem_of_getElem? (i := 391) (by decide +kernel)⟩
theorem lw_p1 : lw_okq (⟨"CadenceDesk$Tape", "passWord", "()V"⟩, 7) := ⟨⟨by decide +kernel, by decide +kernel⟩, List.mem_of_getElem? (i := 38) (by decide +kernel), List.mem_of_getElem? (i := 400) (by decide +kernel), List.mem_of_getElem? (i := 401) (by decide +kernel)⟩
theorem lw_p2 : lw_okq (⟨"CadenceDesk$Tape", "passNumber", "()V"⟩, 7) := ⟨⟨by decide +kernel, by decide +kernel⟩, List.mem_of_getElem? (i := 38) (by decide +kernel), List.mem_of_getElem? (i := 407) (by decide +kernel), List.mem_of_getElem? (i := 408) (by decide +kernel)⟩
theorem lw_p3 : lw_okq (⟨"CadenceDesk$Telling", "takeWord", "(Ljava/lang/String;)Z"⟩, 6) := ⟨⟨by decide +kernel, by decide +kernel⟩, List.mem_of_getElem? (i := 32) (by decide +kernel), List.mem_of_getElem? (i := 412) (by decide +kernel), List.mem_of_getElem? (i := 413) (by decide +kernel)⟩
theorem lw_p4 : lw_okq (⟨"CadenceDesk$Telling", "refuse", "(I)Z"⟩, 6) := ⟨⟨by decide +kernel, by decide +kernel⟩, List.mem_of_getElem? (i := 32) (by decide +kernel), List.mem_of_getElem? (i := 468) (by decide +kernel), List.mem_of_getElem? (i := 469) (by decide +kernel)⟩
theorem lw_p5 : lw_okq (⟨"CadenceDesk$Telling", "takeNumber", "(II)Z"⟩, 6) := ⟨⟨by decide +kernel, by decide +kernel⟩, List.mem_of_getElem? (i := 32) (by decide +kernel), List.mem_of_getElem? (i := 477) (by decide +kernel), List.mem_of_getElem? (i := 478) (by decide +kernel)⟩
theorem lw_p6 : lw_okq (⟨"CadenceDesk$Telling", "isNumberWithin", "(II)Z"⟩, 6) := ⟨⟨by decide +kernel, by decide +kernel⟩, List.mem_of_getElem? (i := 32) (by decide +kernel), List.mem_of_getElem? (i := 481) (by decide +kernel), List.mem_of_getElem? (i := 482) (by decide +kernel)⟩
theorem lw_p7 : lw_okq (⟨"CadenceDesk$Telling", "takeSemicolon", "()Z"⟩, 6) := ⟨⟨by decide +kernel, by decide +kernel⟩, List.mem_of_getElem? (i := 32) (by decide +kernel), List.mem_of_getElem? (i := 497) (by decide +kernel), List.mem_of_getElem? (i := 498) (by decide +kernel)⟩
theorem lw_p8 : lw_okq (⟨"CadenceDesk$Telling", "readFrame", "(I)Z"⟩, 6) := ⟨⟨by decide +kernel, by decide +kernel⟩, List.mem_of_getElem? (i := 32) (by decide +kernel), List.mem_of_getElem? (i := 501) (by decide +kernel), List.mem_of_getElem? (i := 502) (by decide +kernel)⟩
theorem lw_p9 : lw_okq (⟨"CadenceDesk", "forgetPaths", "()V"⟩, 12) := ⟨⟨by decide +kernel, by decide +kernel⟩, List.mem_of_getElem? (i := 24) (by decide +kernel), List.mem_of_getElem? (i := 553) (by decide +kernel), List.mem_of_getElem? (i := 554) (by decide +kernel)⟩
theorem lw_p10 : lw_okq (⟨"CadenceDesk$Telling", "readCadence", "()Z"⟩, 6) := ⟨⟨by decide +kernel, by decide +kernel⟩, List.mem_of_getElem? (i := 32) (by decide +kernel), List.mem_of_getElem? (i := 580) (by decide +kernel), List.mem_of_getElem? (i := 581) (by decide +kernel)⟩
theorem lw_p11 : lw_okq (⟨"CadenceDesk$Telling", "valueTold", "()I"⟩, 6) := ⟨⟨by decide +kernel, by decide +kernel⟩, List.mem_of_getElem? (i := 32) (by decide +kernel), List.mem_of_getElem? (i := 586) (by decide +kernel), List.mem_of_getElem? (i := 587) (by decide +kernel)⟩
theorem lw_p12 : lw_okq (⟨"CadenceDesk$Telling", "readValue", "(I)Z"⟩, 6) := ⟨⟨by decide +kernel, by decide +kernel⟩, List.mem_of_getElem? (i := 32) (by decide +kernel), List.mem_of_getElem? (i := 595) (by decide +kernel), List.mem_of_getElem? (i := 596) (by decide +kernel)⟩
theorem lw_p13 : lw_okq (⟨"CadenceDesk$Telling", "takeMeasure", "()Z"⟩, 6) := ⟨⟨by decide +kernel, by decide +kernel⟩, List.mem_of_getElem? (i := 32) (by decide +kernel), List.mem_of_getElem? (i := 599) (by decide +kernel), List.mem_of_getElem? (i := 600) (by decide +kernel)⟩
theorem lw_p14 : lw_okq (⟨"CadenceDesk", "sampleOfFrame", "(LCadenceDesk$Frames;III)I"⟩, 12) := ⟨⟨by decide +kernel, by decide +kernel⟩, List.mem_of_getElem? (i := 24) (by decide +kernel), List.mem_of_getElem? (i := 626) (by decide +kernel), List.mem_of_getElem? (i := 627) (by decide +kernel)⟩
theorem lw_p15 : lw_okq (⟨"CadenceDesk", "isSampleNumber", "(I)Z"⟩, 12) := ⟨⟨by decide +kernel, by decide +kernel⟩, List.mem_of_getElem? (i := 24) (by decide +kernel), List.mem_of_getElem? (i := 634) (by decide +kernel), List.mem_of_getElem? (i := 635) (by decide +kernel)⟩
def lw_privs_1 : List (MethodName × Nat) := [(⟨"CadenceDesk$Tape", "byteAt", "(I)I"⟩, 7), (⟨"CadenceDesk$Tape", "passWord", "()V"⟩, 7), (⟨"CadenceDesk$Tape", "passNumber", "()V"⟩, 7), (⟨"CadenceDesk$Telling", "takeWord", "(Ljava/lang/String;)Z"⟩, 6), (⟨"CadenceDesk$Telling", "refuse", "(I)Z"⟩, 6), (⟨"CadenceDesk$Telling", "takeNumber", "(II)Z"⟩, 6), (⟨"CadenceDesk$Telling", "isNumberWithin", "(II)Z"⟩, 6), (⟨"CadenceDesk$Telling", "takeSemicolon", "()Z"⟩, 6), (⟨"CadenceDesk$Telling", "readFrame", "(I)Z"⟩, 6), (⟨"CadenceDesk", "forgetPaths", "()V"⟩, 12), (⟨"CadenceDesk$Telling", "readCadence", "()Z"⟩, 6), (⟨"CadenceDesk$Telling", "valueTold", "()I"⟩, 6), (⟨"CadenceDesk$Telling", "readValue", "(I)Z"⟩, 6), (⟨"CadenceDesk$Telling", "takeMeasure", "()Z"⟩, 6), (⟨"CadenceDesk", "sampleOfFrame", "(LCadenceDesk$Frames;III)I"⟩, 12), (⟨"CadenceDesk", "isSampleNumber", "(I)Z"⟩, 12)]
theorem lw_r1 : ∀ q ∈ lw_privs_1, lw_okq q := List.forall_mem_cons.mpr ⟨lw_p0, List.forall_mem_cons.mpr ⟨lw_p1, List.forall_mem_cons.mpr ⟨lw_p2, List.forall_mem_cons.mpr ⟨lw_p3, List.forall_mem_cons.mpr ⟨lw_p4, List.forall_mem_cons.mpr ⟨lw_p5, List.forall_mem_cons.mpr ⟨lw_p6, List.forall_mem_cons.mpr ⟨lw_p7, List.forall_mem_cons.mpr ⟨lw_p8, List.forall_mem_cons.mpr ⟨lw_p9, List.forall_mem_cons.mpr ⟨lw_p10, List.forall_mem_cons.mpr ⟨lw_p11, List.forall_mem_cons.mpr ⟨lw_p12, List.forall_mem_cons.mpr ⟨lw_p13, List.forall_mem_cons.mpr ⟨lw_p14, List.forall_mem_cons.mpr ⟨lw_p15, fun _ h => absurd h List.not_mem_nil⟩⟩⟩⟩⟩⟩⟩⟩⟩⟩⟩⟩⟩⟩⟩⟩
theorem lw_p16 : lw_okq (⟨"CadenceDesk", "beginAct", "()V"⟩, 12) := ⟨⟨by decide +kernel, by decide +kernel⟩, List.mem_of_getElem? (i := 24) (by decide +kernel), List.mem_of_getElem? (i := 674) (by decide +kernel), List.mem_of_getElem? (i := 675) (by decide +kernel)⟩
theorem lw_p17 : lw_okq (⟨"CadenceDesk$Reel", "addField", "(JI)V"⟩, 2) := ⟨⟨by decide +kernel, by decide +kernel⟩, List.mem_of_getElem? (i := 144) (by decide +kernel), List.mem_of_getElem? (i := 693) (by decide +kernel), List.mem_of_getElem? (i := 694) (by decide +kernel)⟩
theorem lw_p18 : lw_okq (⟨"CadenceDesk", "followPath", "()V"⟩, 12) := ⟨⟨by decide +kernel, by decide +kernel⟩, List.mem_of_getElem? (i := 24) (by decide +kernel), List.mem_of_getElem? (i := 792) (by decide +kernel), List.mem_of_getElem? (i := 793) (by decide +kernel)⟩
theorem lw_p19 : lw_okq (⟨"CadenceDesk$States", "addPlace", "(IIZ)V"⟩, 5) := ⟨⟨by decide +kernel, by decide +kernel⟩, List.mem_of_getElem? (i := 184) (by decide +kernel), List.mem_of_getElem? (i := 806) (by decide +kernel), List.mem_of_getElem? (i := 807) (by decide +kernel)⟩
theorem lw_p20 : lw_okq (⟨"CadenceDesk$States", "addState", "(IIII)V"⟩, 5) := ⟨⟨by decide +kernel, by decide +kernel⟩, List.mem_of_getElem? (i := 184) (by decide +kernel), List.mem_of_getElem? (i := 813) (by decide +kernel), List.mem_of_getElem? (i := 814) (by decide +kernel)⟩
theorem lw_p21 : lw_okq (⟨"CadenceDesk$Finder", "weighStates", "(LCadenceDesk$Reel;LCadenceDesk$Rules;I)V"⟩, 10) := ⟨⟨by decide +kernel, by decide +kernel⟩, List.mem_of_getElem? (i := 178) (by decide +kernel), List.mem_of_getElem? (i := 818) (by decide +kernel), List.mem_of_getElem? (i := 819) (by decide +kernel)⟩
theorem lw_p22 : lw_okq (⟨"CadenceDesk$States", "has", "(I)Z"⟩, 5) := ⟨⟨by decide +kernel, by decide +kernel⟩, List.mem_of_getElem? (i := 184) (by decide +kernel), List.mem_of_getElem? (i := 851) (by decide +kernel), List.mem_of_getElem? (i := 852) (by decide +kernel)⟩
theorem lw_p23 : lw_okq (⟨"CadenceDesk$Finder", "isBetterOn", "(III)Z"⟩, 10) := ⟨⟨by decide +kernel, by decide +kernel⟩, List.mem_of_getElem? (i := 178) (by decide +kernel), List.mem_of_getElem? (i := 855) (by decide +kernel), List.mem_of_getElem? (i := 856) (by decide +kernel)⟩
theorem lw_p24 : lw_okq (⟨"CadenceDesk$Finder", "leastEntry", "()I"⟩, 10) := ⟨⟨by decide +kernel, by decide +kernel⟩, List.mem_of_getElem? (i := 178) (by decide +kernel), List.mem_of_getElem? (i := 867) (by decide +kernel), List.mem_of_getElem? (i := 868) (by decide +kernel)⟩
theorem lw_p25 : lw_okq (⟨"CadenceDesk$Track", "addField", "(LCadenceDesk$States;IZ)V"⟩, 10) := ⟨⟨by decide +kernel, by decide +kernel⟩, List.mem_of_getElem? (i := 238) (by decide +kernel), List.mem_of_getElem? (i := 895) (by decide +kernel), List.mem_of_getElem? (i := 896) (by decide +kernel)⟩
theorem lw_p26 : lw_okq (⟨"CadenceDesk$Track", "putPrice", "(LCadenceDesk$Reel;LCadenceDesk$Rules;I)V"⟩, 10) := ⟨⟨by decide +kernel, by decide +kernel⟩, List.mem_of_getElem? (i := 238) (by decide +kernel), List.mem_of_getElem? (i := 902) (by decide +kernel), List.mem_of_getElem? (i := 903) (by decide +kernel)⟩
theorem lw_p27 : lw_okq (⟨"CadenceDesk$Track", "has", "(I)Z"⟩, 10) := ⟨⟨by decide +kernel, by decide +kernel⟩, List.mem_of_getElem? (i := 238) (by decide +kernel), List.mem_of_getElem? (i := 906) (by decide +kernel), List.mem_of_getElem? (i := 907) (by decide +kernel)⟩
theorem lw_p28 : lw_okq (⟨"CadenceDesk$Groups", "addField", "(IZ)V"⟩, 9) := ⟨⟨by decide +kernel, by decide +kernel⟩, List.mem_of_getElem? (i := 275) (by decide +kernel), List.mem_of_getElem? (i := 926) (by decide +kernel), List.mem_of_getElem? (i := 927) (by decide +kernel)⟩
theorem lw_p29 : lw_okq (⟨"CadenceDesk$Groups", "mateOrphans", "(LCadenceDesk$Reel;LCadenceDesk$Rules;)V"⟩, 9) := ⟨⟨by decide +kernel, by decide +kernel⟩, List.mem_of_getElem? (i := 275) (by decide +kernel), List.mem_of_getElem? (i := 930) (by decide +kernel), List.mem_of_getElem? (i := 931) (by decide +kernel)⟩
theorem lw_p30 : lw_okq (⟨"CadenceDesk$Groups", "canMate", "(ILCadenceDesk$Reel;LCadenceDesk$Rules;)Z"⟩, 9) := ⟨⟨by decide +kernel, by decide +kernel⟩, List.mem_of_getElem? (i := 275) (by decide +kernel), List.mem_of_getElem? (i := 942) (by decide +kernel), List.mem_of_getElem? (i := 943) (by decide +kernel)⟩
theorem lw_p31 : lw_okq (⟨"CadenceDesk$Groups", "rebuildFrames", "(LCadenceDesk$Reel;)V"⟩, 9) := ⟨⟨by decide +kernel, by decide +kernel⟩, List.mem_of_getElem? (i := 275) (by decide +kernel), List.mem_of_getElem? (i := 950) (by decide +kernel), List.mem_of_getElem? (i := 951) (by decide +kernel)⟩
def lw_privs_2 : List (MethodName × Nat) := [(⟨"CadenceDesk", "beginAct", "()V"⟩, 12), (⟨"CadenceDesk$Reel", "addField", "(JI)V"⟩, 2), (⟨"CadenceDesk", "followPath", "()V"⟩, 12), (⟨"CadenceDesk$States", "addPlace", "(IIZ)V"⟩, 5), (⟨"CadenceDesk$States", "addState", "(IIII)V"⟩, 5), (⟨"CadenceDesk$Finder", "weighStates", "(LCadenceDesk$Reel;LCadenceDesk$Rules;I)V"⟩, 10), (⟨"CadenceDesk$States", "has", "(I)Z"⟩, 5), (⟨"CadenceDesk$Finder", "isBetterOn", "(III)Z"⟩, 10), (⟨"CadenceDesk$Finder", "leastEntry", "()I"⟩, 10), (⟨"CadenceDesk$Track", "addField", "(LCadenceDesk$States;IZ)V"⟩, 10), (⟨"CadenceDesk$Track", "putPrice", "(LCadenceDesk$Reel;LCadenceDesk$Rules;I)V"⟩, 10), (⟨"CadenceDesk$Track", "has", "(I)Z"⟩, 10), (⟨"CadenceDesk$Groups", "addField", "(IZ)V"⟩, 9), (⟨"CadenceDesk$Groups", "mateOrphans", "(LCadenceDesk$Reel;LCadenceDesk$Rules;)V"⟩, 9), (⟨"CadenceDesk$Groups", "canMate", "(ILCadenceDesk$Reel;LCadenceDesk$Rules;)Z"⟩, 9), (⟨"CadenceDesk$Groups", "rebuildFrames", "(LCadenceDesk$Reel;)V"⟩, 9)]
theorem lw_r2 : ∀ q ∈ lw_privs_2, lw_okq q := List.forall_mem_cons.mpr ⟨lw_p16, List.forall_mem_cons.mpr ⟨lw_p17, List.forall_mem_cons.mpr ⟨lw_p18, List.forall_mem_cons.mpr ⟨lw_p19, List.forall_mem_cons.mpr ⟨lw_p20, List.forall_mem_cons.mpr ⟨lw_p21, List.forall_mem_cons.mpr ⟨lw_p22, List.forall_mem_cons.mpr ⟨lw_p23, List.forall_mem_cons.mpr ⟨lw_p24, List.forall_mem_cons.mpr ⟨lw_p25, List.forall_mem_cons.mpr ⟨lw_p26, List.forall_mem_cons.mpr ⟨lw_p27, List.forall_mem_cons.mpr ⟨lw_p28, List.forall_mem_cons.mpr ⟨lw_p29, List.forall_mem_cons.mpr ⟨lw_p30, List.forall_mem_cons.mpr ⟨lw_p31, fun _ h => absurd h List.not_mem_nil⟩⟩⟩⟩⟩⟩⟩⟩⟩⟩⟩⟩⟩⟩⟩⟩
theorem lw_p32 : lw_okq (⟨"CadenceDesk$Groups", "partner", "(I)I"⟩, 9) := ⟨⟨by decide +kernel, by decide +kernel⟩, List.mem_of_getElem? (i := 275) (by decide +kernel), List.mem_of_getElem? (i := 955) (by decide +kernel), List.mem_of_getElem? (i := 956) (by decide +kernel)⟩
theorem lw_p33 : lw_okq (⟨"CadenceDesk$Groups", "addFrame", "(LCadenceDesk$Reel;II)V"⟩, 9) := ⟨⟨by decide +kernel, by decide +kernel⟩, List.mem_of_getElem? (i := 275) (by decide +kernel), List.mem_of_getElem? (i := 959) (by decide +kernel), List.mem_of_getElem? (i := 960) (by decide +kernel)⟩
theorem lw_p34 : lw_okq (⟨"CadenceDesk", "mostInOrder", "(LCadenceDesk$Frames;)I"⟩, 12) := ⟨⟨by decide +kernel, by decide +kernel⟩, List.mem_of_getElem? (i := 24) (by decide +kernel), List.mem_of_getElem? (i := 1065) (by decide +kernel), List.mem_of_getElem? (i := 1066) (by decide +kernel)⟩
theorem lw_p35 : lw_okq (⟨"java/lang/Throwable", "fillInStackTrace", "(I)Ljava/lang/Throwable;"⟩, 6) := ⟨⟨by decide +kernel, by decide +kernel⟩, List.mem_of_getElem? (i := 1153) (by decide +kernel), List.mem_of_getElem? (i := 1151) (by decide +kernel), List.mem_of_getElem? (i := 1152) (by decide +kernel)⟩
theorem lw_p36 : lw_okq (⟨"CadenceDeskModel", "asAtFirst", "(I)V"⟩, 53) := ⟨⟨by decide +kernel, by decide +kernel⟩, List.mem_of_getElem? (i := 1183) (by decide +kernel), List.mem_of_getElem? (i := 1189) (by decide +kernel), List.mem_of_getElem? (i := 1190) (by decide +kernel)⟩
theorem lw_p37 : lw_okq (⟨"CadenceDeskModel", "puts", "(I)V"⟩, 53) := ⟨⟨by decide +kernel, by decide +kernel⟩, List.mem_of_getElem? (i := 1183) (by decide +kernel), List.mem_of_getElem? (i := 1361) (by decide +kernel), List.mem_of_getElem? (i := 1362) (by decide +kernel)⟩
theorem lw_p38 : lw_okq (⟨"CadenceDeskModel", "begins", "(I)V"⟩, 53) := ⟨⟨by decide +kernel, by decide +kernel⟩, List.mem_of_getElem? (i := 1183) (by decide +kernel), List.mem_of_getElem? (i := 1372) (by decide +kernel), List.mem_of_getElem? (i := 1373) (by decide +kernel)⟩
theorem lw_p39 : lw_okq (⟨"CadenceDeskModel", "steps", "()V"⟩, 53) := ⟨⟨by decide +kernel, by decide +kernel⟩, List.mem_of_getElem? (i := 1183) (by decide +kernel), List.mem_of_getElem? (i := 1376) (by decide +kernel), List.mem_of_getElem? (i := 1377) (by decide +kernel)⟩
theorem lw_p40 : lw_okq (⟨"CadenceDeskModel", "see", "(I)I"⟩, 53) := ⟨⟨by decide +kernel, by decide +kernel⟩, List.mem_of_getElem? (i := 1183) (by decide +kernel), List.mem_of_getElem? (i := 1380) (by decide +kernel), List.mem_of_getElem? (i := 1381) (by decide +kernel)⟩
theorem lw_p41 : lw_okq (⟨"CadenceDeskModel", "readsFilm", "()Z"⟩, 53) := ⟨⟨by decide +kernel, by decide +kernel⟩, List.mem_of_getElem? (i := 1183) (by decide +kernel), List.mem_of_getElem? (i := 1388) (by decide +kernel), List.mem_of_getElem? (i := 1389) (by decide +kernel)⟩
theorem lw_p42 : lw_okq (⟨"CadenceDeskModel", "isWord", "(IIIIIII)Z"⟩, 53) := ⟨⟨by decide +kernel, by decide +kernel⟩, List.mem_of_getElem? (i := 1183) (by decide +kernel), List.mem_of_getElem? (i := 1392) (by decide +kernel), List.mem_of_getElem? (i := 1393) (by decide +kernel)⟩
theorem lw_p43 : lw_okq (⟨"CadenceDeskModel", "must", "(ZI)Z"⟩, 53) := ⟨⟨by decide +kernel, by decide +kernel⟩, List.mem_of_getElem? (i := 1183) (by decide +kernel), List.mem_of_getElem? (i := 1396) (by decide +kernel), List.mem_of_getElem? (i := 1397) (by decide +kernel)⟩
theorem lw_p44 : lw_okq (⟨"CadenceDeskModel", "takesNumber", "(II)Z"⟩, 53) := ⟨⟨by decide +kernel, by decide +kernel⟩, List.mem_of_getElem? (i := 1183) (by decide +kernel), List.mem_of_getElem? (i := 1400) (by decide +kernel), List.mem_of_getElem? (i := 1401) (by decide +kernel)⟩
theorem lw_p45 : lw_okq (⟨"CadenceDeskModel", "takesEnd", "()Z"⟩, 53) := ⟨⟨by decide +kernel, by decide +kernel⟩, List.mem_of_getElem? (i := 1183) (by decide +kernel), List.mem_of_getElem? (i := 1404) (by decide +kernel), List.mem_of_getElem? (i := 1405) (by decide +kernel)⟩
theorem lw_p46 : lw_okq (⟨"CadenceDeskModel", "frameHere", "()Z"⟩, 53) := ⟨⟨by decide +kernel, by decide +kernel⟩, List.mem_of_getElem? (i := 1183) (by decide +kernel), List.mem_of_getElem? (i := 1408) (by decide +kernel), List.mem_of_getElem? (i := 1409) (by decide +kernel)⟩
theorem lw_p47 : lw_okq (⟨"CadenceDeskModel", "isFrame", "()Z"⟩, 53) := ⟨⟨by decide +kernel, by decide +kernel⟩, List.mem_of_getElem? (i := 1183) (by decide +kernel), List.mem_of_getElem? (i := 1412) (by decide +kernel), List.mem_of_getElem? (i := 1413) (by decide +kernel)⟩
def lw_privs_3 : List (MethodName × Nat) := [(⟨"CadenceDesk$Groups", "partner", "(I)I"⟩, 9), (⟨"CadenceDesk$Groups", "addFrame", "(LCadenceDesk$Reel;II)V"⟩, 9), (⟨"CadenceDesk", "mostInOrder", "(LCadenceDesk$Frames;)I"⟩, 12), (⟨"java/lang/Throwable", "fillInStackTrace", "(I)Ljava/lang/Throwable;"⟩, 6), (⟨"CadenceDeskModel", "asAtFirst", "(I)V"⟩, 53), (⟨"CadenceDeskModel", "puts", "(I)V"⟩, 53), (⟨"CadenceDeskModel", "begins", "(I)V"⟩, 53), (⟨"CadenceDeskModel", "steps", "()V"⟩, 53), (⟨"CadenceDeskModel", "see", "(I)I"⟩, 53), (⟨"CadenceDeskModel", "readsFilm", "()Z"⟩, 53), (⟨"CadenceDeskModel", "isWord", "(IIIIIII)Z"⟩, 53), (⟨"CadenceDeskModel", "must", "(ZI)Z"⟩, 53), (⟨"CadenceDeskModel", "takesNumber", "(II)Z"⟩, 53), (⟨"CadenceDeskModel", "takesEnd", "()Z"⟩, 53), (⟨"CadenceDeskModel", "frameHere", "()Z"⟩, 53), (⟨"CadenceDeskModel", "isFrame", "()Z"⟩, 53)]
theorem lw_r3 : ∀ q ∈ lw_privs_3, lw_okq q := List.forall_mem_cons.mpr ⟨lw_p32, List.forall_mem_cons.mpr ⟨lw_p33, List.forall_mem_cons.mpr ⟨lw_p34, List.forall_mem_cons.mpr ⟨lw_p35, List.forall_mem_cons.mpr ⟨lw_p36, List.forall_mem_cons.mpr ⟨lw_p37, List.forall_mem_cons.mpr ⟨lw_p38, List.forall_mem_cons.mpr ⟨lw_p39, List.forall_mem_cons.mpr ⟨lw_p40, List.forall_mem_cons.mpr ⟨lw_p41, List.forall_mem_cons.mpr ⟨lw_p42, List.forall_mem_cons.mpr ⟨lw_p43, List.forall_mem_cons.mpr ⟨lw_p44, List.forall_mem_cons.mpr ⟨lw_p45, List.forall_mem_cons.mpr ⟨lw_p46, List.forall_mem_cons.mpr ⟨lw_p47, fun _ h => absurd h List.not_mem_nil⟩⟩⟩⟩⟩⟩⟩⟩⟩⟩⟩⟩⟩⟩⟩⟩
theorem lw_p48 : lw_okq (⟨"CadenceDeskModel", "told", "()I"⟩, 53) := ⟨⟨by decide +kernel, by decide +kernel⟩, List.mem_of_getElem? (i := 1183) (by decide +kernel), List.mem_of_getElem? (i := 1419) (by decide +kernel), List.mem_of_getElem? (i := 1420) (by decide +kernel)⟩
theorem lw_p49 : lw_okq (⟨"CadenceDeskModel", "readsRules", "()Z"⟩, 53) := ⟨⟨by decide +kernel, by decide +kernel⟩, List.mem_of_getElem? (i := 1183) (by decide +kernel), List.mem_of_getElem? (i := 1427) (by decide +kernel), List.mem_of_getElem? (i := 1428) (by decide +kernel)⟩
theorem lw_p50 : lw_okq (⟨"CadenceDeskModel", "lineHere", "()Z"⟩, 53) := ⟨⟨by decide +kernel, by decide +kernel⟩, List.mem_of_getElem? (i := 1183) (by decide +kernel), List.mem_of_getElem? (i := 1431) (by decide +kernel), List.mem_of_getElem? (i := 1432) (by decide +kernel)⟩
theorem lw_p51 : lw_okq (⟨"CadenceDeskModel", "cadenceHere", "()Z"⟩, 53) := ⟨⟨by decide +kernel, by decide +kernel⟩, List.mem_of_getElem? (i := 1183) (by decide +kernel), List.mem_of_getElem? (i := 1435) (by decide +kernel), List.mem_of_getElem? (i := 1436) (by decide +kernel)⟩
theorem lw_p52 : lw_okq (⟨"CadenceDeskModel", "ruleHere", "()I"⟩, 53) := ⟨⟨by decide +kernel, by decide +kernel⟩, List.mem_of_getElem? (i := 1183) (by decide +kernel), List.mem_of_getElem? (i := 1441) (by decide +kernel), List.mem_of_getElem? (i := 1442) (by decide +kernel)⟩
theorem lw_p53 : lw_okq (⟨"CadenceDeskModel", "oneRule", "(I)Z"⟩, 53) := ⟨⟨by decide +kernel, by decide +kernel⟩, List.mem_of_getElem? (i := 1183) (by decide +kernel), List.mem_of_getElem? (i := 1445) (by decide +kernel), List.mem_of_getElem? (i := 1446) (by decide +kernel)⟩
theorem lw_p54 : lw_okq (⟨"CadenceDeskModel", "measureHere", "()I"⟩, 53) := ⟨⟨by decide +kernel, by decide +kernel⟩, List.mem_of_getElem? (i := 1183) (by decide +kernel), List.mem_of_getElem? (i := 1449) (by decide +kernel), List.mem_of_getElem? (i := 1450) (by decide +kernel)⟩
theorem lw_p55 : lw_okq (⟨"CadenceDeskModel", "isCadence", "(I)Z"⟩, 53) := ⟨⟨by decide +kernel, by decide +kernel⟩, List.mem_of_getElem? (i := 1183) (by decide +kernel), List.mem_of_getElem? (i := 1461) (by decide +kernel), List.mem_of_getElem? (i := 1462) (by decide +kernel)⟩
theorem lw_p56 : lw_okq (⟨"CadenceDeskModel", "keeps", "()V"⟩, 53) := ⟨⟨by decide +kernel, by decide +kernel⟩, List.mem_of_getElem? (i := 1183) (by decide +kernel), List.mem_of_getElem? (i := 1473) (by decide +kernel), List.mem_of_getElem? (i := 1474) (by decide +kernel)⟩
theorem lw_p57 : lw_okq (⟨"CadenceDeskModel", "areThere", "(II)Z"⟩, 53) := ⟨⟨by decide +kernel, by decide +kernel⟩, List.mem_of_getElem? (i := 1183) (by decide +kernel), List.mem_of_getElem? (i := 1481) (by decide +kernel), List.mem_of_getElem? (i := 1482) (by decide +kernel)⟩
theorem lw_p58 : lw_okq (⟨"CadenceDeskModel", "copiesField", "(II)V"⟩, 53) := ⟨⟨by decide +kernel, by decide +kernel⟩, List.mem_of_getElem? (i := 1183) (by decide +kernel), List.mem_of_getElem? (i := 1485) (by decide +kernel), List.mem_of_getElem? (i := 1486) (by decide +kernel)⟩
theorem lw_p59 : lw_okq (⟨"CadenceDeskModel", "sample", "(II)I"⟩, 53) := ⟨⟨by decide +kernel, by decide +kernel⟩, List.mem_of_getElem? (i := 1183) (by decide +kernel), List.mem_of_getElem? (i := 1500) (by decide +kernel), List.mem_of_getElem? (i := 1501) (by decide +kernel)⟩
theorem lw_p60 : lw_okq (⟨"CadenceDeskModel", "isField", "(I)Z"⟩, 53) := ⟨⟨by decide +kernel, by decide +kernel⟩, List.mem_of_getElem? (i := 1183) (by decide +kernel), List.mem_of_getElem? (i := 1508) (by decide +kernel), List.mem_of_getElem? (i := 1509) (by decide +kernel)⟩
theorem lw_p61 : lw_okq (⟨"CadenceDeskModel", "parityOf", "(I)I"⟩, 53) := ⟨⟨by decide +kernel, by decide +kernel⟩, List.mem_of_getElem? (i := 1183) (by decide +kernel), List.mem_of_getElem? (i := 1522) (by decide +kernel), List.mem_of_getElem? (i := 1523) (by decide +kernel)⟩
theorem lw_p62 : lw_okq (⟨"CadenceDeskModel", "apartOf", "(II)I"⟩, 53) := ⟨⟨by decide +kernel, by decide +kernel⟩, List.mem_of_getElem? (i := 1183) (by decide +kernel), List.mem_of_getElem? (i := 1530) (by decide +kernel), List.mem_of_getElem? (i := 1531) (by decide +kernel)⟩
theorem lw_p63 : lw_okq (⟨"CadenceDeskModel", "laysAll", "()V"⟩, 53) := ⟨⟨by decide +kernel, by decide +kernel⟩, List.mem_of_getElem? (i := 1183) (by decide +kernel), List.mem_of_getElem? (i := 1538) (by decide +kernel), List.mem_of_getElem? (i := 1539) (by decide +kernel)⟩
def lw_privs_4 : List (MethodName × Nat) := [(⟨"CadenceDeskModel", "told", "()I"⟩, 53), (⟨"CadenceDeskModel", "readsRules", "()Z"⟩, 53), (⟨"CadenceDeskModel", "lineHere", "()Z"⟩, 53), (⟨"CadenceDeskModel", "cadenceHere", "()Z"⟩, 53), (⟨"CadenceDeskModel", "ruleHere", "()I"⟩, 53), (⟨"CadenceDeskModel", "oneRule", "(I)Z"⟩, 53), (⟨"CadenceDeskModel", "measureHere", "()I"⟩, 53), (⟨"CadenceDeskModel", "isCadence", "(I)Z"⟩, 53), (⟨"CadenceDeskModel", "keeps", "()V"⟩, 53), (⟨"CadenceDeskModel", "areThere", "(II)Z"⟩, 53), (⟨"CadenceDeskModel", "copiesField", "(II)V"⟩, 53), (⟨"CadenceDeskModel", "sample", "(II)I"⟩, 53), (⟨"CadenceDeskModel", "isField", "(I)Z"⟩, 53), (⟨"CadenceDeskModel", "parityOf", "(I)I"⟩, 53), (⟨"CadenceDeskModel", "apartOf", "(II)I"⟩, 53), (⟨"CadenceDeskModel", "laysAll", "()V"⟩, 53)]
theorem lw_r4 : ∀ q ∈ lw_privs_4, lw_okq q := List.forall_mem_cons.mpr ⟨lw_p48, List.forall_mem_cons.mpr ⟨lw_p49, List.forall_mem_cons.mpr ⟨lw_p50, List.forall_mem_cons.mpr ⟨lw_p51, List.forall_mem_cons.mpr ⟨lw_p52, List.forall_mem_cons.mpr ⟨lw_p53, List.forall_mem_cons.mpr ⟨lw_p54, List.forall_mem_cons.mpr ⟨lw_p55, List.forall_mem_cons.mpr ⟨lw_p56, List.forall_mem_cons.mpr ⟨lw_p57, List.forall_mem_cons.mpr ⟨lw_p58, List.forall_mem_cons.mpr ⟨lw_p59, List.forall_mem_cons.mpr ⟨lw_p60, List.forall_mem_cons.mpr ⟨lw_p61, List.forall_mem_cons.mpr ⟨lw_p62, List.forall_mem_cons.mpr ⟨lw_p63, fun _ h => absurd h List.not_mem_nil⟩⟩⟩⟩⟩⟩⟩⟩⟩⟩⟩⟩⟩⟩⟩⟩
theorem lw_p64 : lw_okq (⟨"CadenceDeskModel", "laysPath", "(I)V"⟩, 53) := ⟨⟨by decide +kernel, by decide +kernel⟩, List.mem_of_getElem? (i := 1183) (by decide +kernel), List.mem_of_getElem? (i := 1542) (by decide +kernel), List.mem_of_getElem? (i := 1543) (by decide +kernel)⟩
theorem lw_p65 : lw_okq (⟨"CadenceDeskModel", "laysCosts", "()V"⟩, 53) := ⟨⟨by decide +kernel, by decide +kernel⟩, List.mem_of_getElem? (i := 1183) (by decide +kernel), List.mem_of_getElem? (i := 1546) (by decide +kernel), List.mem_of_getElem? (i := 1547) (by decide +kernel)⟩
theorem lw_p66 : lw_okq (⟨"CadenceDeskModel", "areAlike", "(II)Z"⟩, 53) := ⟨⟨by decide +kernel, by decide +kernel⟩, List.mem_of_getElem? (i := 1183) (by decide +kernel), List.mem_of_getElem? (i := 1550) (by decide +kernel), List.mem_of_getElem? (i := 1551) (by decide +kernel)⟩
theorem lw_p67 : lw_okq (⟨"CadenceDeskModel", "laysRest", "()V"⟩, 53) := ⟨⟨by decide +kernel, by decide +kernel⟩, List.mem_of_getElem? (i := 1183) (by decide +kernel), List.mem_of_getElem? (i := 1554) (by decide +kernel), List.mem_of_getElem? (i := 1555) (by decide +kernel)⟩
theorem lw_p68 : lw_okq (⟨"CadenceDeskModel", "isState", "(III)Z"⟩, 53) := ⟨⟨by decide +kernel, by decide +kernel⟩, List.mem_of_getElem? (i := 1183) (by decide +kernel), List.mem_of_getElem? (i := 1558) (by decide +kernel), List.mem_of_getElem? (i := 1559) (by decide +kernel)⟩
theorem lw_p69 : lw_okq (⟨"CadenceDeskModel", "numberAt", "(I)I"⟩, 53) := ⟨⟨by decide +kernel, by decide +kernel⟩, List.mem_of_getElem? (i := 1183) (by decide +kernel), List.mem_of_getElem? (i := 1562) (by decide +kernel), List.mem_of_getElem? (i := 1563) (by decide +kernel)⟩
theorem lw_p70 : lw_okq (⟨"CadenceDeskModel", "leastBehind", "(II)I"⟩, 53) := ⟨⟨by decide +kernel, by decide +kernel⟩, List.mem_of_getElem? (i := 1183) (by decide +kernel), List.mem_of_getElem? (i := 1566) (by decide +kernel), List.mem_of_getElem? (i := 1567) (by decide +kernel)⟩
theorem lw_p71 : lw_okq (⟨"CadenceDeskModel", "on", "(II)I"⟩, 53) := ⟨⟨by decide +kernel, by decide +kernel⟩, List.mem_of_getElem? (i := 1183) (by decide +kernel), List.mem_of_getElem? (i := 1570) (by decide +kernel), List.mem_of_getElem? (i := 1571) (by decide +kernel)⟩
theorem lw_p72 : lw_okq (⟨"CadenceDeskModel", "costs", "(IIZ)I"⟩, 53) := ⟨⟨by decide +kernel, by decide +kernel⟩, List.mem_of_getElem? (i := 1183) (by decide +kernel), List.mem_of_getElem? (i := 1578) (by decide +kernel), List.mem_of_getElem? (i := 1579) (by decide +kernel)⟩
theorem lw_p73 : lw_okq (⟨"CadenceDeskModel", "costAt", "(II)I"⟩, 53) := ⟨⟨by decide +kernel, by decide +kernel⟩, List.mem_of_getElem? (i := 1183) (by decide +kernel), List.mem_of_getElem? (i := 1582) (by decide +kernel), List.mem_of_getElem? (i := 1583) (by decide +kernel)⟩
theorem lw_p74 : lw_okq (⟨"CadenceDeskModel", "goes", "(II)V"⟩, 53) := ⟨⟨by decide +kernel, by decide +kernel⟩, List.mem_of_getElem? (i := 1183) (by decide +kernel), List.mem_of_getElem? (i := 1586) (by decide +kernel), List.mem_of_getElem? (i := 1587) (by decide +kernel)⟩
theorem lw_p75 : lw_okq (⟨"CadenceDeskModel", "costOf", "(I)I"⟩, 53) := ⟨⟨by decide +kernel, by decide +kernel⟩, List.mem_of_getElem? (i := 1183) (by decide +kernel), List.mem_of_getElem? (i := 1590) (by decide +kernel), List.mem_of_getElem? (i := 1591) (by decide +kernel)⟩
theorem lw_p76 : lw_okq (⟨"CadenceDeskModel", "laysGroups", "()V"⟩, 53) := ⟨⟨by decide +kernel, by decide +kernel⟩, List.mem_of_getElem? (i := 1183) (by decide +kernel), List.mem_of_getElem? (i := 1594) (by decide +kernel), List.mem_of_getElem? (i := 1595) (by decide +kernel)⟩
theorem lw_p77 : lw_okq (⟨"CadenceDeskModel", "laysFound", "()V"⟩, 53) := ⟨⟨by decide +kernel, by decide +kernel⟩, List.mem_of_getElem? (i := 1183) (by decide +kernel), List.mem_of_getElem? (i := 1598) (by decide +kernel), List.mem_of_getElem? (i := 1599) (by decide +kernel)⟩
theorem lw_p78 : lw_okq (⟨"CadenceDeskModel", "isOrphan", "(I)Z"⟩, 53) := ⟨⟨by decide +kernel, by decide +kernel⟩, List.mem_of_getElem? (i := 1183) (by decide +kernel), List.mem_of_getElem? (i := 1602) (by decide +kernel), List.mem_of_getElem? (i := 1603) (by decide +kernel)⟩
theorem lw_p79 : lw_okq (⟨"CadenceDeskModel", "canMate", "(II)Z"⟩, 53) := ⟨⟨by decide +kernel, by decide +kernel⟩, List.mem_of_getElem? (i := 1183) (by decide +kernel), List.mem_of_getElem? (i := 1606) (by decide +kernel), List.mem_of_getElem? (i := 1607) (by decide +kernel)⟩
def lw_privs_5 : List (MethodName × Nat) := [(⟨"CadenceDeskModel", "laysPath", "(I)V"⟩, 53), (⟨"CadenceDeskModel", "laysCosts", "()V"⟩, 53), (⟨"CadenceDeskModel", "areAlike", "(II)Z"⟩, 53), (⟨"CadenceDeskModel", "laysRest", "()V"⟩, 53), (⟨"CadenceDeskModel", "isState", "(III)Z"⟩, 53), (⟨"CadenceDeskModel", "numberAt", "(I)I"⟩, 53), (⟨"CadenceDeskModel", "leastBehind", "(II)I"⟩, 53), (⟨"CadenceDeskModel", "on", "(II)I"⟩, 53), (⟨"CadenceDeskModel", "costs", "(IIZ)I"⟩, 53), (⟨"CadenceDeskModel", "costAt", "(II)I"⟩, 53), (⟨"CadenceDeskModel", "goes", "(II)V"⟩, 53), (⟨"CadenceDeskModel", "costOf", "(I)I"⟩, 53), (⟨"CadenceDeskModel", "laysGroups", "()V"⟩, 53), (⟨"CadenceDeskModel", "laysFound", "()V"⟩, 53), (⟨"CadenceDeskModel", "isOrphan", "(I)Z"⟩, 53), (⟨"CadenceDeskModel", "canMate", "(II)Z"⟩, 53)]
theorem lw_r5 : ∀ q ∈ lw_privs_5, lw_okq q := List.forall_mem_cons.mpr ⟨lw_p64, List.forall_mem_cons.mpr ⟨lw_p65, List.forall_mem_cons.mpr ⟨lw_p66, List.forall_mem_cons.mpr ⟨lw_p67, List.forall_mem_cons.mpr ⟨lw_p68, List.forall_mem_cons.mpr ⟨lw_p69, List.forall_mem_cons.mpr ⟨lw_p70, List.forall_mem_cons.mpr ⟨lw_p71, List.forall_mem_cons.mpr ⟨lw_p72, List.forall_mem_cons.mpr ⟨lw_p73, List.forall_mem_cons.mpr ⟨lw_p74, List.forall_mem_cons.mpr ⟨lw_p75, List.forall_mem_cons.mpr ⟨lw_p76, List.forall_mem_cons.mpr ⟨lw_p77, List.forall_mem_cons.mpr ⟨lw_p78, List.forall_mem_cons.mpr ⟨lw_p79, fun _ h => absurd h List.not_mem_nil⟩⟩⟩⟩⟩⟩⟩⟩⟩⟩⟩⟩⟩⟩⟩⟩
theorem lw_p80 : lw_okq (⟨"CadenceDeskModel", "loneOf", "(I)I"⟩, 53) := ⟨⟨by decide +kernel, by decide +kernel⟩, List.mem_of_getElem? (i := 1183) (by decide +kernel), List.mem_of_getElem? (i := 1610) (by decide +kernel), List.mem_of_getElem? (i := 1611) (by decide +kernel)⟩
theorem lw_p81 : lw_okq (⟨"CadenceDeskModel", "areSame", "(II)Z"⟩, 53) := ⟨⟨by decide +kernel, by decide +kernel⟩, List.mem_of_getElem? (i := 1183) (by decide +kernel), List.mem_of_getElem? (i := 1634) (by decide +kernel), List.mem_of_getElem? (i := 1635) (by decide +kernel)⟩
theorem lw_p82 : lw_okq (⟨"CadenceDeskModel", "laysAnew", "(I)V"⟩, 53) := ⟨⟨by decide +kernel, by decide +kernel⟩, List.mem_of_getElem? (i := 1183) (by decide +kernel), List.mem_of_getElem? (i := 1654) (by decide +kernel), List.mem_of_getElem? (i := 1655) (by decide +kernel)⟩
theorem lw_p83 : lw_okq (⟨"CadenceDeskModel", "anewSample", "(II)I"⟩, 53) := ⟨⟨by decide +kernel, by decide +kernel⟩, List.mem_of_getElem? (i := 1183) (by decide +kernel), List.mem_of_getElem? (i := 1658) (by decide +kernel), List.mem_of_getElem? (i := 1659) (by decide +kernel)⟩
def lw_privs_6 : List (MethodName × Nat) := [(⟨"CadenceDeskModel", "loneOf", "(I)I"⟩, 53), (⟨"CadenceDeskModel", "areSame", "(II)Z"⟩, 53), (⟨"CadenceDeskModel", "laysAnew", "(I)V"⟩, 53), (⟨"CadenceDeskModel", "anewSample", "(II)I"⟩, 53)]
theorem lw_r6 : ∀ q ∈ lw_privs_6, lw_okq q := List.forall_mem_cons.mpr ⟨lw_p80, List.forall_mem_cons.mpr ⟨lw_p81, List.forall_mem_cons.mpr ⟨lw_p82, List.forall_mem_cons.mpr ⟨lw_p83, fun _ h => absurd h List.not_mem_nil⟩⟩⟩⟩
def lw_privs : List (MethodName × Nat) := lw_privs_1 ++ (lw_privs_2 ++ (lw_privs_3 ++ (lw_privs_4 ++ (lw_privs_5 ++ (lw_privs_6)))))
def lw_tbl : List Cond := k2_sels lw_privs ++ tables_1
theorem lw_privs_ok : ∀ q ∈ lw_privs, lw_okq q := by
  show ∀ q ∈ lw_privs_1 ++ (lw_privs_2 ++ (lw_privs_3 ++ (lw_privs_4 ++ (lw_privs_5 ++ (lw_privs_6))))), lw_okq q
  exact List.forall_mem_append.mpr ⟨lw_r1, List.forall_mem_append.mpr ⟨lw_r2, List.forall_mem_append.mpr ⟨lw_r3, List.forall_mem_append.mpr ⟨lw_r4, List.forall_mem_append.mpr ⟨lw_r5, lw_r6⟩⟩⟩⟩⟩
-- ===== end of PART A; then your names; then what follows =====
def RX0 : String := "CadenceDesk$Finder"
def TX0 : u_T := fun k => match k with
  | 0 => ("CadenceDesk$Finder", "states", "LCadenceDesk$States;", true)
  | 1 => ("CadenceDesk$Finder", "now", "[I", true)
  | 2 => ("CadenceDesk$Finder", "later", "[I", true)
  | 3 => ("CadenceDesk$Finder", "goings", "[J", true)
  | 4 => ("CadenceDesk$Finder", "entries", "[I", true)
  | 5 => ("CadenceDesk$Finder", "best", "I", false)
  | 6 => ("CadenceDesk$Finder", "measured", "[Z", true)
  | 7 => ("CadenceDesk$Finder", "costs", "[I", true)
  | 8 => ("CadenceDesk$Finder", "firstPlaces", "[I", true)
  | _ => ("CadenceDesk$Finder", "firstSteps", "[I", true)
def tyX0 : Nat → FieldType := fun k => match k with
  | 0 => .object "CadenceDesk$States"
  | 1 => .array .int
  | 2 => .array .int
  | 3 => .array .long
  | 4 => .array .int
  | 5 => .int
  | 6 => .array .boolean
  | 7 => .array .int
  | 8 => .array .int
  | _ => .array .int
abbrev wsX00 : List Cond := u_ws RX0 TX0 10
theorem nmX0 : ∀ a, a < 10 → ∀ b, b < 10 → a ≠ b → (TX0 a).2.1 ≠ (TX0 b).2.1 := by decide +kernel
theorem tyX0_ok : ∀ k, k < 10 → parseFieldDescriptor (TX0 k).2.2.1 = some (tyX0 k) := by decide +kernel
abbrev cX0_init : ByteArray := prog_2_method_1_code
def yX0_init : MethodName := ⟨RX0, "<init>", "()V"⟩
abbrev cX0_states : ByteArray := prog_2_method_2_code
def yX0_states : MethodName := ⟨RX0, "states", "()LCadenceDesk$States;"⟩
abbrev cX0_forget : ByteArray := prog_2_method_3_code
def yX0_forget : MethodName := ⟨RX0, "forget", "()V"⟩
abbrev cX0_costBy : ByteArray := prog_2_method_4_code
def yX0_costBy : MethodName := ⟨RX0, "costBy", "(LCadenceDesk$Reel;LCadenceDesk$Rules;I)I"⟩
abbrev cX0_firstPlace : ByteArray := prog_2_method_5_code
def yX0_firstPlace : MethodName := ⟨RX0, "firstPlace", "(I)I"⟩
abbrev cX0_firstStep : ByteArray := prog_2_method_6_code
def yX0_firstStep : MethodName := ⟨RX0, "firstStep", "(I)I"⟩
abbrev cX0_entry : ByteArray := prog_2_method_7_code
def yX0_entry : MethodName := ⟨RX0, "entry", "(I)I"⟩
abbrev cX0_goesOn : ByteArray := prog_2_method_8_code
def yX0_goesOn : MethodName := ⟨RX0, "goesOn", "(II)Z"⟩
abbrev cX0_solve : ByteArray := prog_2_method_9_code
def yX0_solve : MethodName := ⟨RX0, "solve", "(LCadenceDesk$Reel;LCadenceDesk$Rules;I)V"⟩
abbrev cX0_weighStates : ByteArray := prog_2_method_10_code
def yX0_weighStates : MethodName := ⟨RX0, "weighStates", "(LCadenceDesk$Reel;LCadenceDesk$Rules;I)V"⟩
abbrev cX0_isBetterOn : ByteArray := prog_2_method_11_code
def yX0_isBetterOn : MethodName := ⟨RX0, "isBetterOn", "(III)Z"⟩
abbrev cX0_leastEntry : ByteArray := prog_2_method_12_code
def yX0_leastEntry : MethodName := ⟨RX0, "leastEntry", "()I"⟩
def RX1 : String := "CadenceDesk$Frames"
def TX1 : u_T := fun k => match k with
  | 0 => ("CadenceDesk$Frames", "tops", "[J", true)
  | 1 => ("CadenceDesk$Frames", "bottoms", "[J", true)
  | 2 => ("CadenceDesk$Frames", "width", "I", false)
  | _ => ("CadenceDesk$Frames", "size", "I", false)
def tyX1 : Nat → FieldType := fun k => match k with
  | 0 => .array .long
  | 1 => .array .long
  | 2 => .int
  | _ => .int
abbrev wsX10 : List Cond := u_ws RX1 TX1 4
theorem nmX1 : ∀ a, a < 4 → ∀ b, b < 4 → a ≠ b → (TX1 a).2.1 ≠ (TX1 b).2.1 := by decide +kernel
theorem tyX1_ok : ∀ k, k < 4 → parseFieldDescriptor (TX1 k).2.2.1 = some (tyX1 k) := by decide +kernel
abbrev cX1_init : ByteArray := prog_3_method_1_code
def yX1_init : MethodName := ⟨RX1, "<init>", "(I)V"⟩
abbrev cX1_begin : ByteArray := prog_3_method_2_code
def yX1_begin : MethodName := ⟨RX1, "begin", "(I)V"⟩
abbrev cX1_width : ByteArray := prog_3_method_3_code
def yX1_width : MethodName := ⟨RX1, "width", "()I"⟩
abbrev cX1_size : ByteArray := prog_3_method_4_code
def yX1_size : MethodName := ⟨RX1, "size", "()I"⟩
abbrev cX1_has : ByteArray := prog_3_method_5_code
def yX1_has : MethodName := ⟨RX1, "has", "(I)Z"⟩
abbrev cX1_add : ByteArray := prog_3_method_6_code
def yX1_add : MethodName := ⟨RX1, "add", "(JJ)V"⟩
abbrev cX1_row : ByteArray := prog_3_method_7_code
def yX1_row : MethodName := ⟨RX1, "row", "(II)J"⟩
abbrev cX1_isSame : ByteArray := prog_3_method_8_code
def yX1_isSame : MethodName := ⟨RX1, "isSame", "(ILCadenceDesk$Frames;I)Z"⟩
abbrev cX1_copyFrom : ByteArray := prog_3_method_9_code
def yX1_copyFrom : MethodName := ⟨RX1, "copyFrom", "(LCadenceDesk$Frames;)V"⟩
def RX2 : String := "CadenceDesk$Groups"
def TX2 : u_T := fun k => match k with
  | 0 => ("CadenceDesk$Groups", "groupsOf", "[I", true)
  | 1 => ("CadenceDesk$Groups", "starts", "[I", true)
  | 2 => ("CadenceDesk$Groups", "lengths", "[I", true)
  | 3 => ("CadenceDesk$Groups", "mates", "[I", true)
  | 4 => ("CadenceDesk$Groups", "framesOf", "[I", true)
  | 5 => ("CadenceDesk$Groups", "frames", "LCadenceDesk$Frames;", true)
  | 6 => ("CadenceDesk$Groups", "size", "I", false)
  | 7 => ("CadenceDesk$Groups", "orphans", "I", false)
  | _ => ("CadenceDesk$Groups", "pairs", "I", false)
def tyX2 : Nat → FieldType := fun k => match k with
  | 0 => .array .int
  | 1 => .array .int
  | 2 => .array .int
  | 3 => .array .int
  | 4 => .array .int
  | 5 => .object "CadenceDesk$Frames"
  | 6 => .int
  | 7 => .int
  | _ => .int
abbrev wsX20 : List Cond := u_ws RX2 TX2 9
theorem nmX2 : ∀ a, a < 9 → ∀ b, b < 9 → a ≠ b → (TX2 a).2.1 ≠ (TX2 b).2.1 := by decide +kernel
theorem tyX2_ok : ∀ k, k < 9 → parseFieldDescriptor (TX2 k).2.2.1 = some (tyX2 k) := by decide +kernel
abbrev cX2_init : ByteArray := prog_4_method_1_code
def yX2_init : MethodName := ⟨RX2, "<init>", "()V"⟩
abbrev cX2_gather : ByteArray := prog_4_method_2_code
def yX2_gather : MethodName := ⟨RX2, "gather", "(LCadenceDesk$Track;LCadenceDesk$Reel;LCadenceDesk$Rules;)V"⟩
abbrev cX2_addField : ByteArray := prog_4_method_3_code
def yX2_addField : MethodName := ⟨RX2, "addField", "(IZ)V"⟩
abbrev cX2_mateOrphans : ByteArray := prog_4_method_4_code
def yX2_mateOrphans : MethodName := ⟨RX2, "mateOrphans", "(LCadenceDesk$Reel;LCadenceDesk$Rules;)V"⟩
abbrev cX2_canMate : ByteArray := prog_4_method_5_code
def yX2_canMate : MethodName := ⟨RX2, "canMate", "(ILCadenceDesk$Reel;LCadenceDesk$Rules;)Z"⟩
abbrev cX2_rebuildFrames : ByteArray := prog_4_method_6_code
def yX2_rebuildFrames : MethodName := ⟨RX2, "rebuildFrames", "(LCadenceDesk$Reel;)V"⟩
abbrev cX2_partner : ByteArray := prog_4_method_7_code
def yX2_partner : MethodName := ⟨RX2, "partner", "(I)I"⟩
abbrev cX2_addFrame : ByteArray := prog_4_method_8_code
def yX2_addFrame : MethodName := ⟨RX2, "addFrame", "(LCadenceDesk$Reel;II)V"⟩
abbrev cX2_has : ByteArray := prog_4_method_9_code
def yX2_has : MethodName := ⟨RX2, "has", "(I)Z"⟩
abbrev cX2_size : ByteArray := prog_4_method_10_code
def yX2_size : MethodName := ⟨RX2, "size", "()I"⟩
abbrev cX2_orphans : ByteArray := prog_4_method_11_code
def yX2_orphans : MethodName := ⟨RX2, "orphans", "()I"⟩
abbrev cX2_pairs : ByteArray := prog_4_method_12_code
def yX2_pairs : MethodName := ⟨RX2, "pairs", "()I"⟩
abbrev cX2_frames : ByteArray := prog_4_method_13_code
def yX2_frames : MethodName := ⟨RX2, "frames", "()LCadenceDesk$Frames;"⟩
abbrev cX2_groupOf : ByteArray := prog_4_method_14_code
def yX2_groupOf : MethodName := ⟨RX2, "groupOf", "(I)I"⟩
abbrev cX2_frameOf : ByteArray := prog_4_method_15_code
def yX2_frameOf : MethodName := ⟨RX2, "frameOf", "(I)I"⟩
abbrev cX2_start : ByteArray := prog_4_method_16_code
def yX2_start : MethodName := ⟨RX2, "start", "(I)I"⟩
abbrev cX2_length : ByteArray := prog_4_method_17_code
def yX2_length : MethodName := ⟨RX2, "length", "(I)I"⟩
abbrev cX2_isOrphan : ByteArray := prog_4_method_18_code
def yX2_isOrphan : MethodName := ⟨RX2, "isOrphan", "(I)Z"⟩
abbrev cX2_mateOf : ByteArray := prog_4_method_19_code
def yX2_mateOf : MethodName := ⟨RX2, "mateOf", "(I)I"⟩
def RX3 : String := "CadenceDesk$History"
def TX3 : u_T := fun k => match k with
  | 0 => ("CadenceDesk$History", "rows", "[J", true)
  | 1 => ("CadenceDesk$History", "sizes", "[I", true)
  | 2 => ("CadenceDesk$History", "next", "I", false)
  | _ => ("CadenceDesk$History", "size", "I", false)
def tyX3 : Nat → FieldType := fun k => match k with
  | 0 => .array .long
  | 1 => .array .int
  | 2 => .int
  | _ => .int
abbrev wsX30 : List Cond := u_ws RX3 TX3 4
theorem nmX3 : ∀ a, a < 4 → ∀ b, b < 4 → a ≠ b → (TX3 a).2.1 ≠ (TX3 b).2.1 := by decide +kernel
theorem tyX3_ok : ∀ k, k < 4 → parseFieldDescriptor (TX3 k).2.2.1 = some (tyX3 k) := by decide +kernel
abbrev cX3_init : ByteArray := prog_5_method_1_code
def yX3_init : MethodName := ⟨RX3, "<init>", "()V"⟩
abbrev cX3_size : ByteArray := prog_5_method_2_code
def yX3_size : MethodName := ⟨RX3, "size", "()I"⟩
abbrev cX3_empty : ByteArray := prog_5_method_3_code
def yX3_empty : MethodName := ⟨RX3, "empty", "()V"⟩
abbrev cX3_keep : ByteArray := prog_5_method_4_code
def yX3_keep : MethodName := ⟨RX3, "keep", "(LCadenceDesk$Reel;)V"⟩
abbrev cX3_giveBack : ByteArray := prog_5_method_5_code
def yX3_giveBack : MethodName := ⟨RX3, "giveBack", "(LCadenceDesk$Reel;)V"⟩
def RX4 : String := "CadenceDesk$Reel"
def TX4 : u_T := fun k => match k with
  | 0 => ("CadenceDesk$Reel", "fields", "[J", true)
  | _ => ("CadenceDesk$Reel", "size", "I", false)
def tyX4 : Nat → FieldType := fun k => match k with
  | 0 => .array .long
  | _ => .int
abbrev wsX40 : List Cond := u_ws RX4 TX4 2
theorem nmX4 : ∀ a, a < 2 → ∀ b, b < 2 → a ≠ b → (TX4 a).2.1 ≠ (TX4 b).2.1 := by decide +kernel
theorem tyX4_ok : ∀ k, k < 2 → parseFieldDescriptor (TX4 k).2.2.1 = some (tyX4 k) := by decide +kernel
abbrev cX4_init : ByteArray := prog_6_method_1_code
def yX4_init : MethodName := ⟨RX4, "<init>", "()V"⟩
abbrev cX4_size : ByteArray := prog_6_method_2_code
def yX4_size : MethodName := ⟨RX4, "size", "()I"⟩
abbrev cX4_empty : ByteArray := prog_6_method_3_code
def yX4_empty : MethodName := ⟨RX4, "empty", "()V"⟩
abbrev cX4_has : ByteArray := prog_6_method_4_code
def yX4_has : MethodName := ⟨RX4, "has", "(I)Z"⟩
abbrev cX4_hasSpan : ByteArray := prog_6_method_5_code
def yX4_hasSpan : MethodName := ⟨RX4, "hasSpan", "(II)Z"⟩
abbrev cX4_row : ByteArray := prog_6_method_6_code
def yX4_row : MethodName := ⟨RX4, "row", "(I)J"⟩
abbrev cX4_parity : ByteArray := prog_6_method_7_code
def yX4_parity : MethodName := ⟨RX4, "parity", "(I)I"⟩
abbrev cX4_sample : ByteArray := prog_6_method_8_code
def yX4_sample : MethodName := ⟨RX4, "sample", "(II)I"⟩
abbrev cX4_putSample : ByteArray := prog_6_method_9_code
def yX4_putSample : MethodName := ⟨RX4, "putSample", "(III)V"⟩
abbrev cX4_carryFrames : ByteArray := prog_6_method_10_code
def yX4_carryFrames : MethodName := ⟨RX4, "carryFrames", "(LCadenceDesk$Frames;LCadenceDesk$Rules;III)V"⟩
abbrev cX4_addField : ByteArray := prog_6_method_11_code
def yX4_addField : MethodName := ⟨RX4, "addField", "(JI)V"⟩
abbrev cX4_removeSpan : ByteArray := prog_6_method_12_code
def yX4_removeSpan : MethodName := ⟨RX4, "removeSpan", "(II)V"⟩
abbrev cX4_repeatSpan : ByteArray := prog_6_method_13_code
def yX4_repeatSpan : MethodName := ⟨RX4, "repeatSpan", "(II)V"⟩
abbrev cX4_disturb : ByteArray := prog_6_method_14_code
def yX4_disturb : MethodName := ⟨RX4, "disturb", "(III)I"⟩
abbrev cX4_isSame : ByteArray := prog_6_method_15_code
def yX4_isSame : MethodName := ⟨RX4, "isSame", "(LCadenceDesk$Reel;)Z"⟩
def RX5 : String := "CadenceDesk$Rules"
def TX5 : u_T := fun k => match k with
  | 0 => ("CadenceDesk$Rules", "numbers", "[I", true)
  | 1 => ("CadenceDesk$Rules", "lengths", "[I", true)
  | 2 => ("CadenceDesk$Rules", "values", "[I", true)
  | _ => ("CadenceDesk$Rules", "cadences", "I", false)
def tyX5 : Nat → FieldType := fun k => match k with
  | 0 => .array .int
  | 1 => .array .int
  | 2 => .array .int
  | _ => .int
abbrev wsX50 : List Cond := u_ws RX5 TX5 4
theorem nmX5 : ∀ a, a < 4 → ∀ b, b < 4 → a ≠ b → (TX5 a).2.1 ≠ (TX5 b).2.1 := by decide +kernel
theorem tyX5_ok : ∀ k, k < 4 → parseFieldDescriptor (TX5 k).2.2.1 = some (tyX5 k) := by decide +kernel
abbrev cX5_init : ByteArray := prog_7_method_1_code
def yX5_init : MethodName := ⟨RX5, "<init>", "()V"⟩
abbrev cX5_clear : ByteArray := prog_7_method_2_code
def yX5_clear : MethodName := ⟨RX5, "clear", "()V"⟩
abbrev cX5_addCadence : ByteArray := prog_7_method_3_code
def yX5_addCadence : MethodName := ⟨RX5, "addCadence", "()V"⟩
abbrev cX5_addNumber : ByteArray := prog_7_method_4_code
def yX5_addNumber : MethodName := ⟨RX5, "addNumber", "(I)V"⟩
abbrev cX5_putValue : ByteArray := prog_7_method_5_code
def yX5_putValue : MethodName := ⟨RX5, "putValue", "(II)V"⟩
abbrev cX5_copyFrom : ByteArray := prog_7_method_6_code
def yX5_copyFrom : MethodName := ⟨RX5, "copyFrom", "(LCadenceDesk$Rules;)V"⟩
abbrev cX5_cadences : ByteArray := prog_7_method_7_code
def yX5_cadences : MethodName := ⟨RX5, "cadences", "()I"⟩
abbrev cX5_hasCadence : ByteArray := prog_7_method_8_code
def yX5_hasCadence : MethodName := ⟨RX5, "hasCadence", "(I)Z"⟩
abbrev cX5_length : ByteArray := prog_7_method_9_code
def yX5_length : MethodName := ⟨RX5, "length", "(I)I"⟩
abbrev cX5_hasPlace : ByteArray := prog_7_method_10_code
def yX5_hasPlace : MethodName := ⟨RX5, "hasPlace", "(II)Z"⟩
abbrev cX5_number : ByteArray := prog_7_method_11_code
def yX5_number : MethodName := ⟨RX5, "number", "(II)I"⟩
abbrev cX5_value : ByteArray := prog_7_method_12_code
def yX5_value : MethodName := ⟨RX5, "value", "(I)I"⟩
abbrev cX5_distance : ByteArray := prog_7_method_13_code
def yX5_distance : MethodName := ⟨RX5, "distance", "(JJ)I"⟩
abbrev cX5_costOfRepeat : ByteArray := prog_7_method_14_code
def yX5_costOfRepeat : MethodName := ⟨RX5, "costOfRepeat", "(LCadenceDesk$Reel;I)I"⟩
abbrev cX5_costOfFresh : ByteArray := prog_7_method_15_code
def yX5_costOfFresh : MethodName := ⟨RX5, "costOfFresh", "(LCadenceDesk$Reel;I)I"⟩
def RX6 : String := "CadenceDesk$States"
def TX6 : u_T := fun k => match k with
  | 0 => ("CadenceDesk$States", "places", "[I", true)
  | 1 => ("CadenceDesk$States", "steps", "[I", true)
  | 2 => ("CadenceDesk$States", "seens", "[I", true)
  | 3 => ("CadenceDesk$States", "nexts", "[I", true)
  | _ => ("CadenceDesk$States", "size", "I", false)
def tyX6 : Nat → FieldType := fun k => match k with
  | 0 => .array .int
  | 1 => .array .int
  | 2 => .array .int
  | 3 => .array .int
  | _ => .int
abbrev wsX60 : List Cond := u_ws RX6 TX6 5
theorem nmX6 : ∀ a, a < 5 → ∀ b, b < 5 → a ≠ b → (TX6 a).2.1 ≠ (TX6 b).2.1 := by decide +kernel
theorem tyX6_ok : ∀ k, k < 5 → parseFieldDescriptor (TX6 k).2.2.1 = some (tyX6 k) := by decide +kernel
abbrev cX6_init : ByteArray := prog_8_method_1_code
def yX6_init : MethodName := ⟨RX6, "<init>", "()V"⟩
abbrev cX6_size : ByteArray := prog_8_method_2_code
def yX6_size : MethodName := ⟨RX6, "size", "()I"⟩
abbrev cX6_place : ByteArray := prog_8_method_3_code
def yX6_place : MethodName := ⟨RX6, "place", "(I)I"⟩
abbrev cX6_step : ByteArray := prog_8_method_4_code
def yX6_step : MethodName := ⟨RX6, "step", "(I)I"⟩
abbrev cX6_seen : ByteArray := prog_8_method_5_code
def yX6_seen : MethodName := ⟨RX6, "seen", "(I)I"⟩
abbrev cX6_next : ByteArray := prog_8_method_6_code
def yX6_next : MethodName := ⟨RX6, "next", "(I)I"⟩
abbrev cX6_has : ByteArray := prog_8_method_7_code
def yX6_has : MethodName := ⟨RX6, "has", "(I)Z"⟩
abbrev cX6_build : ByteArray := prog_8_method_8_code
def yX6_build : MethodName := ⟨RX6, "build", "(LCadenceDesk$Rules;I)V"⟩
abbrev cX6_addPlace : ByteArray := prog_8_method_9_code
def yX6_addPlace : MethodName := ⟨RX6, "addPlace", "(IIZ)V"⟩
abbrev cX6_addState : ByteArray := prog_8_method_10_code
def yX6_addState : MethodName := ⟨RX6, "addState", "(IIII)V"⟩
abbrev cX6_firstOfStep : ByteArray := prog_8_method_11_code
def yX6_firstOfStep : MethodName := ⟨RX6, "firstOfStep", "(I)I"⟩
def RX7 : String := "CadenceDesk$Tape"
def TX7 : u_T := fun k => match k with
  | 0 => ("CadenceDesk$Tape", "words", "[I", true)
  | 1 => ("CadenceDesk$Tape", "used", "I", false)
  | 2 => ("CadenceDesk$Tape", "end", "I", false)
  | 3 => ("CadenceDesk$Tape", "next", "I", false)
  | 4 => ("CadenceDesk$Tape", "start", "I", false)
  | 5 => ("CadenceDesk$Tape", "kind", "I", false)
  | _ => ("CadenceDesk$Tape", "number", "I", false)
def tyX7 : Nat → FieldType := fun k => match k with
  | 0 => .array .int
  | 1 => .int
  | 2 => .int
  | 3 => .int
  | 4 => .int
  | 5 => .int
  | _ => .int
abbrev wsX70 : List Cond := u_ws RX7 TX7 7
theorem nmX7 : ∀ a, a < 7 → ∀ b, b < 7 → a ≠ b → (TX7 a).2.1 ≠ (TX7 b).2.1 := by decide +kernel
theorem tyX7_ok : ∀ k, k < 7 → parseFieldDescriptor (TX7 k).2.2.1 = some (tyX7 k) := by decide +kernel
abbrev cX7_init : ByteArray := prog_9_method_1_code
def yX7_init : MethodName := ⟨RX7, "<init>", "()V"⟩
abbrev cX7_hasRoom : ByteArray := prog_9_method_2_code
def yX7_hasRoom : MethodName := ⟨RX7, "hasRoom", "()Z"⟩
abbrev cX7_put : ByteArray := prog_9_method_3_code
def yX7_put : MethodName := ⟨RX7, "put", "(I)V"⟩
abbrev cX7_size : ByteArray := prog_9_method_4_code
def yX7_size : MethodName := ⟨RX7, "size", "()I"⟩
abbrev cX7_holds : ByteArray := prog_9_method_5_code
def yX7_holds : MethodName := ⟨RX7, "holds", "(I)Z"⟩
abbrev cX7_empty : ByteArray := prog_9_method_6_code
def yX7_empty : MethodName := ⟨RX7, "empty", "()V"⟩
abbrev cX7_open : ByteArray := prog_9_method_7_code
def yX7_open : MethodName := ⟨RX7, "open", "(I)V"⟩
abbrev cX7_kind : ByteArray := prog_9_method_8_code
def yX7_kind : MethodName := ⟨RX7, "kind", "()I"⟩
abbrev cX7_start : ByteArray := prog_9_method_9_code
def yX7_start : MethodName := ⟨RX7, "start", "()I"⟩
abbrev cX7_number : ByteArray := prog_9_method_10_code
def yX7_number : MethodName := ⟨RX7, "number", "()I"⟩
abbrev cX7_advance : ByteArray := prog_9_method_11_code
def yX7_advance : MethodName := ⟨RX7, "advance", "()V"⟩
abbrev cX7_isWord : ByteArray := prog_9_method_12_code
def yX7_isWord : MethodName := ⟨RX7, "isWord", "(Ljava/lang/String;)Z"⟩
abbrev cX7_passWord : ByteArray := prog_9_method_13_code
def yX7_passWord : MethodName := ⟨RX7, "passWord", "()V"⟩
abbrev cX7_passNumber : ByteArray := prog_9_method_14_code
def yX7_passNumber : MethodName := ⟨RX7, "passNumber", "()V"⟩
abbrev cX7_byteAt : ByteArray := prog_9_method_15_code
def yX7_byteAt : MethodName := ⟨RX7, "byteAt", "(I)I"⟩
abbrev cX7_isBlank : ByteArray := prog_9_method_16_code
def yX7_isBlank : MethodName := ⟨RX7, "isBlank", "(I)Z"⟩
abbrev cX7_isLetter : ByteArray := prog_9_method_17_code
def yX7_isLetter : MethodName := ⟨RX7, "isLetter", "(I)Z"⟩
abbrev cX7_isDigit : ByteArray := prog_9_method_18_code
def yX7_isDigit : MethodName := ⟨RX7, "isDigit", "(I)Z"⟩
def RX8 : String := "CadenceDesk$Telling"
def TX8 : u_T := fun k => match k with
  | 0 => ("CadenceDesk$Telling", "tape", "LCadenceDesk$Tape;", true)
  | 1 => ("CadenceDesk$Telling", "frames", "LCadenceDesk$Frames;", true)
  | 2 => ("CadenceDesk$Telling", "rulesRead", "LCadenceDesk$Rules;", true)
  | 3 => ("CadenceDesk$Telling", "fault", "I", false)
  | 4 => ("CadenceDesk$Telling", "taken", "I", false)
  | _ => ("CadenceDesk$Telling", "toldValues", "I", false)
def tyX8 : Nat → FieldType := fun k => match k with
  | 0 => .object "CadenceDesk$Tape"
  | 1 => .object "CadenceDesk$Frames"
  | 2 => .object "CadenceDesk$Rules"
  | 3 => .int
  | 4 => .int
  | _ => .int
abbrev wsX80 : List Cond := u_ws RX8 TX8 6
theorem nmX8 : ∀ a, a < 6 → ∀ b, b < 6 → a ≠ b → (TX8 a).2.1 ≠ (TX8 b).2.1 := by decide +kernel
theorem tyX8_ok : ∀ k, k < 6 → parseFieldDescriptor (TX8 k).2.2.1 = some (tyX8 k) := by decide +kernel
abbrev cX8_init : ByteArray := prog_10_method_1_code
def yX8_init : MethodName := ⟨RX8, "<init>", "()V"⟩
abbrev cX8_tape : ByteArray := prog_10_method_2_code
def yX8_tape : MethodName := ⟨RX8, "tape", "()LCadenceDesk$Tape;"⟩
abbrev cX8_frames : ByteArray := prog_10_method_3_code
def yX8_frames : MethodName := ⟨RX8, "frames", "()LCadenceDesk$Frames;"⟩
abbrev cX8_rulesRead : ByteArray := prog_10_method_4_code
def yX8_rulesRead : MethodName := ⟨RX8, "rulesRead", "()LCadenceDesk$Rules;"⟩
abbrev cX8_fault : ByteArray := prog_10_method_5_code
def yX8_fault : MethodName := ⟨RX8, "fault", "()I"⟩
abbrev cX8_readFilm : ByteArray := prog_10_method_6_code
def yX8_readFilm : MethodName := ⟨RX8, "readFilm", "(I)Z"⟩
abbrev cX8_readFrame : ByteArray := prog_10_method_7_code
def yX8_readFrame : MethodName := ⟨RX8, "readFrame", "(I)Z"⟩
abbrev cX8_readRules : ByteArray := prog_10_method_8_code
def yX8_readRules : MethodName := ⟨RX8, "readRules", "(I)Z"⟩
abbrev cX8_readCadence : ByteArray := prog_10_method_9_code
def yX8_readCadence : MethodName := ⟨RX8, "readCadence", "()Z"⟩
abbrev cX8_valueTold : ByteArray := prog_10_method_10_code
def yX8_valueTold : MethodName := ⟨RX8, "valueTold", "()I"⟩
abbrev cX8_readValue : ByteArray := prog_10_method_11_code
def yX8_readValue : MethodName := ⟨RX8, "readValue", "(I)Z"⟩
abbrev cX8_takeMeasure : ByteArray := prog_10_method_12_code
def yX8_takeMeasure : MethodName := ⟨RX8, "takeMeasure", "()Z"⟩
abbrev cX8_takeWord : ByteArray := prog_10_method_13_code
def yX8_takeWord : MethodName := ⟨RX8, "takeWord", "(Ljava/lang/String;)Z"⟩
abbrev cX8_takeSemicolon : ByteArray := prog_10_method_14_code
def yX8_takeSemicolon : MethodName := ⟨RX8, "takeSemicolon", "()Z"⟩
abbrev cX8_takeNumber : ByteArray := prog_10_method_15_code
def yX8_takeNumber : MethodName := ⟨RX8, "takeNumber", "(II)Z"⟩
abbrev cX8_isNumberWithin : ByteArray := prog_10_method_16_code
def yX8_isNumberWithin : MethodName := ⟨RX8, "isNumberWithin", "(II)Z"⟩
abbrev cX8_refuse : ByteArray := prog_10_method_17_code
def yX8_refuse : MethodName := ⟨RX8, "refuse", "(I)Z"⟩
def RX9 : String := "CadenceDesk$Track"
def TX9 : u_T := fun k => match k with
  | 0 => ("CadenceDesk$Track", "places", "[I", true)
  | 1 => ("CadenceDesk$Track", "steps", "[I", true)
  | 2 => ("CadenceDesk$Track", "seens", "[I", true)
  | 3 => ("CadenceDesk$Track", "edited", "[Z", true)
  | 4 => ("CadenceDesk$Track", "prices", "[I", true)
  | 5 => ("CadenceDesk$Track", "editFields", "[I", true)
  | 6 => ("CadenceDesk$Track", "size", "I", false)
  | 7 => ("CadenceDesk$Track", "edits", "I", false)
  | 8 => ("CadenceDesk$Track", "dropped", "I", false)
  | _ => ("CadenceDesk$Track", "total", "I", false)
def tyX9 : Nat → FieldType := fun k => match k with
  | 0 => .array .int
  | 1 => .array .int
  | 2 => .array .int
  | 3 => .array .boolean
  | 4 => .array .int
  | 5 => .array .int
  | 6 => .int
  | 7 => .int
  | 8 => .int
  | _ => .int
abbrev wsX90 : List Cond := u_ws RX9 TX9 10
theorem nmX9 : ∀ a, a < 10 → ∀ b, b < 10 → a ≠ b → (TX9 a).2.1 ≠ (TX9 b).2.1 := by decide +kernel
theorem tyX9_ok : ∀ k, k < 10 → parseFieldDescriptor (TX9 k).2.2.1 = some (tyX9 k) := by decide +kernel
abbrev cX9_init : ByteArray := prog_11_method_1_code
def yX9_init : MethodName := ⟨RX9, "<init>", "()V"⟩
abbrev cX9_follow : ByteArray := prog_11_method_2_code
def yX9_follow : MethodName := ⟨RX9, "follow", "(LCadenceDesk$Finder;LCadenceDesk$Reel;LCadenceDesk$Rules;)V"⟩
abbrev cX9_addField : ByteArray := prog_11_method_3_code
def yX9_addField : MethodName := ⟨RX9, "addField", "(LCadenceDesk$States;IZ)V"⟩
abbrev cX9_putPrice : ByteArray := prog_11_method_4_code
def yX9_putPrice : MethodName := ⟨RX9, "putPrice", "(LCadenceDesk$Reel;LCadenceDesk$Rules;I)V"⟩
abbrev cX9_has : ByteArray := prog_11_method_5_code
def yX9_has : MethodName := ⟨RX9, "has", "(I)Z"⟩
abbrev cX9_place : ByteArray := prog_11_method_6_code
def yX9_place : MethodName := ⟨RX9, "place", "(I)I"⟩
abbrev cX9_step : ByteArray := prog_11_method_7_code
def yX9_step : MethodName := ⟨RX9, "step", "(I)I"⟩
abbrev cX9_seen : ByteArray := prog_11_method_8_code
def yX9_seen : MethodName := ⟨RX9, "seen", "(I)I"⟩
abbrev cX9_isEdit : ByteArray := prog_11_method_9_code
def yX9_isEdit : MethodName := ⟨RX9, "isEdit", "(I)Z"⟩
abbrev cX9_price : ByteArray := prog_11_method_10_code
def yX9_price : MethodName := ⟨RX9, "price", "(I)I"⟩
abbrev cX9_isKept : ByteArray := prog_11_method_11_code
def yX9_isKept : MethodName := ⟨RX9, "isKept", "(I)Z"⟩
abbrev cX9_fieldOfEdit : ByteArray := prog_11_method_12_code
def yX9_fieldOfEdit : MethodName := ⟨RX9, "fieldOfEdit", "(I)I"⟩
abbrev cX9_edits : ByteArray := prog_11_method_13_code
def yX9_edits : MethodName := ⟨RX9, "edits", "()I"⟩
abbrev cX9_dropped : ByteArray := prog_11_method_14_code
def yX9_dropped : MethodName := ⟨RX9, "dropped", "()I"⟩
abbrev cX9_total : ByteArray := prog_11_method_15_code
def yX9_total : MethodName := ⟨RX9, "total", "()I"⟩
def RX10 : String := "CadenceDesk"
def TX10 : u_T := fun k => match k with
  | 0 => ("CadenceDesk", "telling", "LCadenceDesk$Telling;", true)
  | 1 => ("CadenceDesk", "told", "LCadenceDesk$Frames;", true)
  | 2 => ("CadenceDesk", "ruling", "LCadenceDesk$Rules;", true)
  | 3 => ("CadenceDesk", "reel", "LCadenceDesk$Reel;", true)
  | 4 => ("CadenceDesk", "history", "LCadenceDesk$History;", true)
  | 5 => ("CadenceDesk", "finder", "LCadenceDesk$Finder;", true)
  | 6 => ("CadenceDesk", "track", "LCadenceDesk$Track;", true)
  | 7 => ("CadenceDesk", "groups", "LCadenceDesk$Groups;", true)
  | 8 => ("CadenceDesk", "renewed", "LCadenceDesk$Reel;", true)
  | 9 => ("CadenceDesk", "inOrder", "[I", true)
  | 10 => ("CadenceDesk", "inForce", "I", false)
  | _ => ("CadenceDesk", "tracked", "Z", false)
def tyX10 : Nat → FieldType := fun k => match k with
  | 0 => .object "CadenceDesk$Telling"
  | 1 => .object "CadenceDesk$Frames"
  | 2 => .object "CadenceDesk$Rules"
  | 3 => .object "CadenceDesk$Reel"
  | 4 => .object "CadenceDesk$History"
  | 5 => .object "CadenceDesk$Finder"
  | 6 => .object "CadenceDesk$Track"
  | 7 => .object "CadenceDesk$Groups"
  | 8 => .object "CadenceDesk$Reel"
  | 9 => .array .int
  | 10 => .int
  | _ => .boolean
abbrev wsX100 : List Cond := u_ws RX10 TX10 12
theorem nmX10 : ∀ a, a < 12 → ∀ b, b < 12 → a ≠ b → (TX10 a).2.1 ≠ (TX10 b).2.1 := by decide +kernel
theorem tyX10_ok : ∀ k, k < 12 → parseFieldDescriptor (TX10 k).2.2.1 = some (tyX10 k) := by decide +kernel
abbrev cX10_init : ByteArray := prog_1_method_1_code
def yX10_init : MethodName := ⟨RX10, "<init>", "()V"⟩
abbrev cX10_feed : ByteArray := prog_1_method_2_code
def yX10_feed : MethodName := ⟨RX10, "feed", "(IIIII)I"⟩
abbrev cX10_film : ByteArray := prog_1_method_3_code
def yX10_film : MethodName := ⟨RX10, "film", "(I)I"⟩
abbrev cX10_rules : ByteArray := prog_1_method_4_code
def yX10_rules : MethodName := ⟨RX10, "rules", "(I)I"⟩
abbrev cX10_frame : ByteArray := prog_1_method_5_code
def yX10_frame : MethodName := ⟨RX10, "frame", "(III)I"⟩
abbrev cX10_cadence : ByteArray := prog_1_method_6_code
def yX10_cadence : MethodName := ⟨RX10, "cadence", "(II)I"⟩
abbrev cX10_force : ByteArray := prog_1_method_7_code
def yX10_force : MethodName := ⟨RX10, "force", "(I)I"⟩
abbrev cX10_carry : ByteArray := prog_1_method_8_code
def yX10_carry : MethodName := ⟨RX10, "carry", "(II)I"⟩
abbrev cX10_cut : ByteArray := prog_1_method_9_code
def yX10_cut : MethodName := ⟨RX10, "cut", "(II)I"⟩
abbrev cX10_doubled : ByteArray := prog_1_method_10_code
def yX10_doubled : MethodName := ⟨RX10, "doubled", "(II)I"⟩
abbrev cX10_noise : ByteArray := prog_1_method_11_code
def yX10_noise : MethodName := ⟨RX10, "noise", "(II)I"⟩
abbrev cX10_set : ByteArray := prog_1_method_12_code
def yX10_set : MethodName := ⟨RX10, "set", "(III)I"⟩
abbrev cX10_undo : ByteArray := prog_1_method_13_code
def yX10_undo : MethodName := ⟨RX10, "undo", "()I"⟩
abbrev cX10_field : ByteArray := prog_1_method_14_code
def yX10_field : MethodName := ⟨RX10, "field", "(II)I"⟩
abbrev cX10_apart : ByteArray := prog_1_method_15_code
def yX10_apart : MethodName := ⟨RX10, "apart", "(II)I"⟩
abbrev cX10_path : ByteArray := prog_1_method_16_code
def yX10_path : MethodName := ⟨RX10, "path", "(II)I"⟩
abbrev cX10_all : ByteArray := prog_1_method_17_code
def yX10_all : MethodName := ⟨RX10, "all", "(I)I"⟩
abbrev cX10_edit : ByteArray := prog_1_method_18_code
def yX10_edit : MethodName := ⟨RX10, "edit", "(I)I"⟩
abbrev cX10_group : ByteArray := prog_1_method_19_code
def yX10_group : MethodName := ⟨RX10, "group", "(II)I"⟩
abbrev cX10_found : ByteArray := prog_1_method_20_code
def yX10_found : MethodName := ⟨RX10, "found", "(III)I"⟩
abbrev cX10_known : ByteArray := prog_1_method_21_code
def yX10_known : MethodName := ⟨RX10, "known", "(I)I"⟩
abbrev cX10_restored : ByteArray := prog_1_method_22_code
def yX10_restored : MethodName := ⟨RX10, "restored", "()I"⟩
abbrev cX10_costs : ByteArray := prog_1_method_23_code
def yX10_costs : MethodName := ⟨RX10, "costs", "(I)I"⟩
abbrev cX10_guess : ByteArray := prog_1_method_24_code
def yX10_guess : MethodName := ⟨RX10, "guess", "(I)I"⟩
abbrev cX10_anew : ByteArray := prog_1_method_25_code
def yX10_anew : MethodName := ⟨RX10, "anew", "(III)I"⟩
abbrev cX10_isClean : ByteArray := prog_1_method_26_code
def yX10_isClean : MethodName := ⟨RX10, "isClean", "(I)Z"⟩
abbrev cX10_count : ByteArray := prog_1_method_27_code
def yX10_count : MethodName := ⟨RX10, "count", "(I)I"⟩
abbrev cX10_beginAct : ByteArray := prog_1_method_28_code
def yX10_beginAct : MethodName := ⟨RX10, "beginAct", "()V"⟩
abbrev cX10_forgetPaths : ByteArray := prog_1_method_29_code
def yX10_forgetPaths : MethodName := ⟨RX10, "forgetPaths", "()V"⟩
abbrev cX10_followPath : ByteArray := prog_1_method_30_code
def yX10_followPath : MethodName := ⟨RX10, "followPath", "()V"⟩
abbrev cX10_mostInOrder : ByteArray := prog_1_method_31_code
def yX10_mostInOrder : MethodName := ⟨RX10, "mostInOrder", "(LCadenceDesk$Frames;)I"⟩
abbrev cX10_sampleOfFrame : ByteArray := prog_1_method_32_code
def yX10_sampleOfFrame : MethodName := ⟨RX10, "sampleOfFrame", "(LCadenceDesk$Frames;III)I"⟩
abbrev cX10_isSampleNumber : ByteArray := prog_1_method_33_code
def yX10_isSampleNumber : MethodName := ⟨RX10, "isSampleNumber", "(I)Z"⟩
abbrev cX10_isParity : ByteArray := prog_1_method_34_code
def yX10_isParity : MethodName := ⟨RX10, "isParity", "(I)Z"⟩
abbrev cX10_sampleOf : ByteArray := prog_1_method_35_code
def yX10_sampleOf : MethodName := ⟨RX10, "sampleOf", "(JI)I"⟩
abbrev cX10_withSample : ByteArray := prog_1_method_36_code
def yX10_withSample : MethodName := ⟨RX10, "withSample", "(JII)J"⟩
def RX11 : String := "CadenceDeskModel"
def TX11 : u_T := fun k => match k with
  | 0 => ("CadenceDeskModel", "thrown", "I", false)
  | 1 => ("CadenceDeskModel", "tape", "[B", true)
  | 2 => ("CadenceDeskModel", "taped", "I", false)
  | 3 => ("CadenceDeskModel", "size", "I", false)
  | 4 => ("CadenceDeskModel", "from", "I", false)
  | 5 => ("CadenceDeskModel", "to", "I", false)
  | 6 => ("CadenceDeskModel", "token", "I", false)
  | 7 => ("CadenceDeskModel", "value", "I", false)
  | 8 => ("CadenceDeskModel", "fault", "I", false)
  | 9 => ("CadenceDeskModel", "faultPlace", "I", false)
  | 10 => ("CadenceDeskModel", "numberHere", "I", false)
  | 11 => ("CadenceDeskModel", "width", "I", false)
  | 12 => ("CadenceDeskModel", "frames", "I", false)
  | 13 => ("CadenceDeskModel", "film", "[I", true)
  | 14 => ("CadenceDeskModel", "newWidth", "I", false)
  | 15 => ("CadenceDeskModel", "newFrames", "I", false)
  | 16 => ("CadenceDeskModel", "newFilm", "[I", true)
  | 17 => ("CadenceDeskModel", "cadences", "I", false)
  | 18 => ("CadenceDeskModel", "newCadences", "I", false)
  | 19 => ("CadenceDeskModel", "many", "[I", true)
  | 20 => ("CadenceDeskModel", "number", "[I", true)
  | 21 => ("CadenceDeskModel", "rule", "[I", true)
  | 22 => ("CadenceDeskModel", "isTold", "[Z", true)
  | 23 => ("CadenceDeskModel", "force", "I", false)
  | 24 => ("CadenceDeskModel", "fields", "I", false)
  | 25 => ("CadenceDeskModel", "field", "[I", true)
  | 26 => ("CadenceDeskModel", "undos", "I", false)
  | 27 => ("CadenceDeskModel", "undoMany", "[I", true)
  | 28 => ("CadenceDeskModel", "undone", "[I", true)
  | 29 => ("CadenceDeskModel", "by", "I", false)
  | 30 => ("CadenceDeskModel", "fresh", "[I", true)
  | 31 => ("CadenceDeskModel", "repeat", "[I", true)
  | 32 => ("CadenceDeskModel", "rest", "[I", true)
  | 33 => ("CadenceDeskModel", "state", "[I", true)
  | 34 => ("CadenceDeskModel", "isEdit", "[Z", true)
  | 35 => ("CadenceDeskModel", "costAll", "I", false)
  | 36 => ("CadenceDeskModel", "edits", "I", false)
  | 37 => ("CadenceDeskModel", "groups", "I", false)
  | 38 => ("CadenceDeskModel", "groupOf", "[I", true)
  | 39 => ("CadenceDeskModel", "groupAt", "[I", true)
  | 40 => ("CadenceDeskModel", "isKept", "[Z", true)
  | 41 => ("CadenceDeskModel", "keptOf", "[I", true)
  | 42 => ("CadenceDeskModel", "mateOf", "[I", true)
  | 43 => ("CadenceDeskModel", "foundOf", "[I", true)
  | 44 => ("CadenceDeskModel", "founds", "I", false)
  | 45 => ("CadenceDeskModel", "orphans", "I", false)
  | 46 => ("CadenceDeskModel", "pairs", "I", false)
  | 47 => ("CadenceDeskModel", "dropped", "I", false)
  | 48 => ("CadenceDeskModel", "foundField", "[I", true)
  | 49 => ("CadenceDeskModel", "common", "[I", true)
  | 50 => ("CadenceDeskModel", "anews", "I", false)
  | 51 => ("CadenceDeskModel", "anewFrame", "[I", true)
  | _ => ("CadenceDeskModel", "anewParity", "[I", true)
def tyX11 : Nat → FieldType := fun k => match k with
  | 0 => .int
  | 1 => .array .byte
  | 2 => .int
  | 3 => .int
  | 4 => .int
  | 5 => .int
  | 6 => .int
  | 7 => .int
  | 8 => .int
  | 9 => .int
  | 10 => .int
  | 11 => .int
  | 12 => .int
  | 13 => .array .int
  | 14 => .int
  | 15 => .int
  | 16 => .array .int
  | 17 => .int
  | 18 => .int
  | 19 => .array .int
  | 20 => .array .int
  | 21 => .array .int
  | 22 => .array .boolean
  | 23 => .int
  | 24 => .int
  | 25 => .array .int
  | 26 => .int
  | 27 => .array .int
  | 28 => .array .int
  | 29 => .int
  | 30 => .array .int
  | 31 => .array .int
  | 32 => .array .int
  | 33 => .array .int
  | 34 => .array .boolean
  | 35 => .int
  | 36 => .int
  | 37 => .int
  | 38 => .array .int
  | 39 => .array .int
  | 40 => .array .boolean
  | 41 => .array .int
  | 42 => .array .int
  | 43 => .array .int
  | 44 => .int
  | 45 => .int
  | 46 => .int
  | 47 => .int
  | 48 => .array .int
  | 49 => .array .int
  | 50 => .int
  | 51 => .array .int
  | _ => .array .int
abbrev wsX110 : List Cond := u_ws RX11 TX11 53
theorem nmX11 : ∀ a, a < 53 → ∀ b, b < 53 → a ≠ b → (TX11 a).2.1 ≠ (TX11 b).2.1 := by decide +kernel
theorem tyX11_ok : ∀ k, k < 53 → parseFieldDescriptor (TX11 k).2.2.1 = some (tyX11 k) := by decide +kernel
abbrev cX11_init : ByteArray := prog_13_method_1_code
def yX11_init : MethodName := ⟨RX11, "<init>", "()V"⟩
abbrev cX11_thrown : ByteArray := prog_13_method_2_code
def yX11_thrown : MethodName := ⟨RX11, "thrown", "()I"⟩
abbrev cX11_within : ByteArray := prog_13_method_3_code
def yX11_within : MethodName := ⟨RX11, "within", "(JJJ)Z"⟩
abbrev cX11_puts : ByteArray := prog_13_method_4_code
def yX11_puts : MethodName := ⟨RX11, "puts", "(I)V"⟩
abbrev cX11_feed : ByteArray := prog_13_method_5_code
def yX11_feed : MethodName := ⟨RX11, "feed", "(IIIII)I"⟩
abbrev cX11_see : ByteArray := prog_13_method_6_code
def yX11_see : MethodName := ⟨RX11, "see", "(I)I"⟩
abbrev cX11_steps : ByteArray := prog_13_method_7_code
def yX11_steps : MethodName := ⟨RX11, "steps", "()V"⟩
abbrev cX11_must : ByteArray := prog_13_method_8_code
def yX11_must : MethodName := ⟨RX11, "must", "(ZI)Z"⟩
abbrev cX11_isWord : ByteArray := prog_13_method_9_code
def yX11_isWord : MethodName := ⟨RX11, "isWord", "(IIIIIII)Z"⟩
abbrev cX11_isFrame : ByteArray := prog_13_method_10_code
def yX11_isFrame : MethodName := ⟨RX11, "isFrame", "()Z"⟩
abbrev cX11_takesEnd : ByteArray := prog_13_method_11_code
def yX11_takesEnd : MethodName := ⟨RX11, "takesEnd", "()Z"⟩
abbrev cX11_takesNumber : ByteArray := prog_13_method_12_code
def yX11_takesNumber : MethodName := ⟨RX11, "takesNumber", "(II)Z"⟩
abbrev cX11_begins : ByteArray := prog_13_method_13_code
def yX11_begins : MethodName := ⟨RX11, "begins", "(I)V"⟩
abbrev cX11_told : ByteArray := prog_13_method_14_code
def yX11_told : MethodName := ⟨RX11, "told", "()I"⟩
abbrev cX11_filmAt : ByteArray := prog_13_method_15_code
def yX11_filmAt : MethodName := ⟨RX11, "filmAt", "(III)I"⟩
abbrev cX11_frameHere : ByteArray := prog_13_method_16_code
def yX11_frameHere : MethodName := ⟨RX11, "frameHere", "()Z"⟩
abbrev cX11_readsFilm : ByteArray := prog_13_method_17_code
def yX11_readsFilm : MethodName := ⟨RX11, "readsFilm", "()Z"⟩
abbrev cX11_film : ByteArray := prog_13_method_18_code
def yX11_film : MethodName := ⟨RX11, "film", "(I)I"⟩
abbrev cX11_asAtFirst : ByteArray := prog_13_method_19_code
def yX11_asAtFirst : MethodName := ⟨RX11, "asAtFirst", "(I)V"⟩
abbrev cX11_cadenceHere : ByteArray := prog_13_method_20_code
def yX11_cadenceHere : MethodName := ⟨RX11, "cadenceHere", "()Z"⟩
abbrev cX11_measureHere : ByteArray := prog_13_method_21_code
def yX11_measureHere : MethodName := ⟨RX11, "measureHere", "()I"⟩
abbrev cX11_ruleHere : ByteArray := prog_13_method_22_code
def yX11_ruleHere : MethodName := ⟨RX11, "ruleHere", "()I"⟩
abbrev cX11_oneRule : ByteArray := prog_13_method_23_code
def yX11_oneRule : MethodName := ⟨RX11, "oneRule", "(I)Z"⟩
abbrev cX11_lineHere : ByteArray := prog_13_method_24_code
def yX11_lineHere : MethodName := ⟨RX11, "lineHere", "()Z"⟩
abbrev cX11_readsRules : ByteArray := prog_13_method_25_code
def yX11_readsRules : MethodName := ⟨RX11, "readsRules", "()Z"⟩
abbrev cX11_rules : ByteArray := prog_13_method_26_code
def yX11_rules : MethodName := ⟨RX11, "rules", "(I)I"⟩
abbrev cX11_isCadence : ByteArray := prog_13_method_27_code
def yX11_isCadence : MethodName := ⟨RX11, "isCadence", "(I)Z"⟩
abbrev cX11_frame : ByteArray := prog_13_method_28_code
def yX11_frame : MethodName := ⟨RX11, "frame", "(III)I"⟩
abbrev cX11_cadence : ByteArray := prog_13_method_29_code
def yX11_cadence : MethodName := ⟨RX11, "cadence", "(II)I"⟩
abbrev cX11_force : ByteArray := prog_13_method_30_code
def yX11_force : MethodName := ⟨RX11, "force", "(I)I"⟩
abbrev cX11_isField : ByteArray := prog_13_method_31_code
def yX11_isField : MethodName := ⟨RX11, "isField", "(I)Z"⟩
abbrev cX11_parityOf : ByteArray := prog_13_method_32_code
def yX11_parityOf : MethodName := ⟨RX11, "parityOf", "(I)I"⟩
abbrev cX11_sample : ByteArray := prog_13_method_33_code
def yX11_sample : MethodName := ⟨RX11, "sample", "(II)I"⟩
abbrev cX11_copiesField : ByteArray := prog_13_method_34_code
def yX11_copiesField : MethodName := ⟨RX11, "copiesField", "(II)V"⟩
abbrev cX11_keeps : ByteArray := prog_13_method_35_code
def yX11_keeps : MethodName := ⟨RX11, "keeps", "()V"⟩
abbrev cX11_carry : ByteArray := prog_13_method_36_code
def yX11_carry : MethodName := ⟨RX11, "carry", "(II)I"⟩
abbrev cX11_areThere : ByteArray := prog_13_method_37_code
def yX11_areThere : MethodName := ⟨RX11, "areThere", "(II)Z"⟩
abbrev cX11_cut : ByteArray := prog_13_method_38_code
def yX11_cut : MethodName := ⟨RX11, "cut", "(II)I"⟩
abbrev cX11_doubled : ByteArray := prog_13_method_39_code
def yX11_doubled : MethodName := ⟨RX11, "doubled", "(II)I"⟩
abbrev cX11_noise : ByteArray := prog_13_method_40_code
def yX11_noise : MethodName := ⟨RX11, "noise", "(II)I"⟩
abbrev cX11_set : ByteArray := prog_13_method_41_code
def yX11_set : MethodName := ⟨RX11, "set", "(III)I"⟩
abbrev cX11_undo : ByteArray := prog_13_method_42_code
def yX11_undo : MethodName := ⟨RX11, "undo", "()I"⟩
abbrev cX11_field : ByteArray := prog_13_method_43_code
def yX11_field : MethodName := ⟨RX11, "field", "(II)I"⟩
abbrev cX11_apartOf : ByteArray := prog_13_method_44_code
def yX11_apartOf : MethodName := ⟨RX11, "apartOf", "(II)I"⟩
abbrev cX11_apart : ByteArray := prog_13_method_45_code
def yX11_apart : MethodName := ⟨RX11, "apart", "(II)I"⟩
abbrev cX11_areAlike : ByteArray := prog_13_method_46_code
def yX11_areAlike : MethodName := ⟨RX11, "areAlike", "(II)Z"⟩
abbrev cX11_stateOf : ByteArray := prog_13_method_47_code
def yX11_stateOf : MethodName := ⟨RX11, "stateOf", "(III)I"⟩
abbrev cX11_numberAt : ByteArray := prog_13_method_48_code
def yX11_numberAt : MethodName := ⟨RX11, "numberAt", "(I)I"⟩
abbrev cX11_isState : ByteArray := prog_13_method_49_code
def yX11_isState : MethodName := ⟨RX11, "isState", "(III)Z"⟩
abbrev cX11_laysCosts : ByteArray := prog_13_method_50_code
def yX11_laysCosts : MethodName := ⟨RX11, "laysCosts", "()V"⟩
abbrev cX11_costAt : ByteArray := prog_13_method_51_code
def yX11_costAt : MethodName := ⟨RX11, "costAt", "(II)I"⟩
abbrev cX11_on : ByteArray := prog_13_method_52_code
def yX11_on : MethodName := ⟨RX11, "on", "(II)I"⟩
abbrev cX11_costs : ByteArray := prog_13_method_53_code
def yX11_costs : MethodName := ⟨RX11, "costs", "(IIZ)I"⟩
abbrev cX11_leastBehind : ByteArray := prog_13_method_54_code
def yX11_leastBehind : MethodName := ⟨RX11, "leastBehind", "(II)I"⟩
abbrev cX11_laysRest : ByteArray := prog_13_method_55_code
def yX11_laysRest : MethodName := ⟨RX11, "laysRest", "()V"⟩
abbrev cX11_goes : ByteArray := prog_13_method_56_code
def yX11_goes : MethodName := ⟨RX11, "goes", "(II)V"⟩
abbrev cX11_laysPath : ByteArray := prog_13_method_57_code
def yX11_laysPath : MethodName := ⟨RX11, "laysPath", "(I)V"⟩
abbrev cX11_costOf : ByteArray := prog_13_method_58_code
def yX11_costOf : MethodName := ⟨RX11, "costOf", "(I)I"⟩
abbrev cX11_isOrphan : ByteArray := prog_13_method_59_code
def yX11_isOrphan : MethodName := ⟨RX11, "isOrphan", "(I)Z"⟩
abbrev cX11_loneOf : ByteArray := prog_13_method_60_code
def yX11_loneOf : MethodName := ⟨RX11, "loneOf", "(I)I"⟩
abbrev cX11_laysGroups : ByteArray := prog_13_method_61_code
def yX11_laysGroups : MethodName := ⟨RX11, "laysGroups", "()V"⟩
abbrev cX11_canMate : ByteArray := prog_13_method_62_code
def yX11_canMate : MethodName := ⟨RX11, "canMate", "(II)Z"⟩
abbrev cX11_laysFound : ByteArray := prog_13_method_63_code
def yX11_laysFound : MethodName := ⟨RX11, "laysFound", "()V"⟩
abbrev cX11_laysAll : ByteArray := prog_13_method_64_code
def yX11_laysAll : MethodName := ⟨RX11, "laysAll", "()V"⟩
abbrev cX11_path : ByteArray := prog_13_method_65_code
def yX11_path : MethodName := ⟨RX11, "path", "(II)I"⟩
abbrev cX11_all : ByteArray := prog_13_method_66_code
def yX11_all : MethodName := ⟨RX11, "all", "(I)I"⟩
abbrev cX11_edit : ByteArray := prog_13_method_67_code
def yX11_edit : MethodName := ⟨RX11, "edit", "(I)I"⟩
abbrev cX11_group : ByteArray := prog_13_method_68_code
def yX11_group : MethodName := ⟨RX11, "group", "(II)I"⟩
abbrev cX11_found : ByteArray := prog_13_method_69_code
def yX11_found : MethodName := ⟨RX11, "found", "(III)I"⟩
abbrev cX11_areSame : ByteArray := prog_13_method_70_code
def yX11_areSame : MethodName := ⟨RX11, "areSame", "(II)Z"⟩
abbrev cX11_known : ByteArray := prog_13_method_71_code
def yX11_known : MethodName := ⟨RX11, "known", "(I)I"⟩
abbrev cX11_restored : ByteArray := prog_13_method_72_code
def yX11_restored : MethodName := ⟨RX11, "restored", "()I"⟩
abbrev cX11_costs_ : ByteArray := prog_13_method_73_code
def yX11_costs_ : MethodName := ⟨RX11, "costs", "(I)I"⟩
abbrev cX11_guess : ByteArray := prog_13_method_74_code
def yX11_guess : MethodName := ⟨RX11, "guess", "(I)I"⟩
abbrev cX11_laysAnew : ByteArray := prog_13_method_75_code
def yX11_laysAnew : MethodName := ⟨RX11, "laysAnew", "(I)V"⟩
abbrev cX11_anewSample : ByteArray := prog_13_method_76_code
def yX11_anewSample : MethodName := ⟨RX11, "anewSample", "(II)I"⟩
abbrev cX11_anew : ByteArray := prog_13_method_77_code
def yX11_anew : MethodName := ⟨RX11, "anew", "(III)I"⟩
abbrev cX11_isClean : ByteArray := prog_13_method_78_code
def yX11_isClean : MethodName := ⟨RX11, "isClean", "(I)Z"⟩
abbrev cX11_count : ByteArray := prog_13_method_79_code
def yX11_count : MethodName := ⟨RX11, "count", "(I)I"⟩
def RJ0 : String := "java/lang/String"
abbrev cJ0_length_8abf5 : ByteArray := prog_20_method_54_code
def yJ0_length_8abf5 : MethodName := ⟨RJ0, "length", "()I"⟩
abbrev cJ0_charAt_5068e : ByteArray := prog_20_method_56_code
def yJ0_charAt_5068e : MethodName := ⟨RJ0, "charAt", "(I)C"⟩
abbrev cJ0_coder_7d493 : ByteArray := prog_20_method_152_code
def yJ0_coder_7d493 : MethodName := ⟨RJ0, "coder", "()B"⟩
abbrev cJ0_isLatin1_aae02 : ByteArray := prog_20_method_154_code
def yJ0_isLatin1_aae02 : MethodName := ⟨RJ0, "isLatin1", "()Z"⟩
abbrev cJ0_checkIndex_df160 : ByteArray := prog_20_method_155_code
def yJ0_checkIndex_df160 : MethodName := ⟨RJ0, "checkIndex", "(II)V"⟩
def RJ1 : String := "java/lang/StringLatin1"
abbrev cJ1_charAt_3b067 : ByteArray := prog_21_method_2_code
def yJ1_charAt_3b067 : MethodName := ⟨RJ1, "charAt", "([BI)C"⟩
def RJ3 : String := "jdk/internal/util/Preconditions"
abbrev cJ3_checkIndex_8e157 : ByteArray := prog_28_method_11_code
def yJ3_checkIndex_8e157 : MethodName := ⟨RJ3, "checkIndex", "(IILjava/util/function/BiFunction;)I"⟩
def RL : String := "CadenceDeskLaw"
abbrev cL_field : ByteArray := method_3_code
def yL_field : MethodName := ⟨RL, "field", "(LCadenceDesk;II[J)I"⟩
abbrev cL_law : ByteArray := code
def yL_law : MethodName := ⟨RL, "law", "([I)Z"⟩
