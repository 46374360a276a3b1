section
-- ===== PART A: goes FIRST, ahead of the names: the tables' words, and 'selects' of the private methods out of them =====
/-- a private method of a class that the tables say can be made, by its rows of tables_1 -/
def lw_okq (q : MethodName × Nat) : Prop := (q.1.cls ≠ "java/lang/invoke/MethodHandle" ∧ q.1.cls ≠ "java/lang/invoke/VarHandle") ∧ Cond.instantiable q.1.cls q.2 ∈ tables_1 ∧ Cond.privateMethod q.1 ∈ tables_1 ∧ Cond.instanceMethod q.1 ∈ tables_1
theorem lw_p0 : lw_okq (⟨"CacheDiary$Machine", "serve", "(IIZ)V"⟩, 14) := ⟨⟨by decide +kernel, by decide +kernel⟩, List.mem_of_getElem? (i := 30) (by decide +kernel), List.mem_of_getElem? (i := 346) (by decide +kernel), List.mem_of_getElem? (i := 347) (by decide +kernel)⟩
theorem lw_p1 : lw_okq (⟨"CacheDiary$Machine", "fetch", "(IIZ)V"⟩, 14) := ⟨⟨by decide +kernel, by decide +kernel⟩, List.mem_of_getElem? (i := 30) (by decide +kernel), List.mem_of_getElem? (i := 388) (by decide +kernel), List.mem_of_getElem? (i := 389) (by decide +kernel)⟩
theorem lw_p2 : lw_okq (⟨"CacheDiary$Machine", "makeRoomInDiary", "()V"⟩, 14) := ⟨⟨by decide +kernel, by decide +kernel⟩, List.mem_of_getElem? (i := 30) (by decide +kernel), List.mem_of_getElem? (i := 392) (by decide +kernel), List.mem_of_getElem? (i := 393) (by decide +kernel)⟩
theorem lw_p3 : lw_okq (⟨"CacheDiary$Machine", "bringBack", "(II)V"⟩, 14) := ⟨⟨by decide +kernel, by decide +kernel⟩, List.mem_of_getElem? (i := 30) (by decide +kernel), List.mem_of_getElem? (i := 414) (by decide +kernel), List.mem_of_getElem? (i := 415) (by decide +kernel)⟩
theorem lw_p4 : lw_okq (⟨"CacheDiary$OrderReader", "take", "(II)I"⟩, 11) := ⟨⟨by decide +kernel, by decide +kernel⟩, List.mem_of_getElem? (i := 217) (by decide +kernel), List.mem_of_getElem? (i := 475) (by decide +kernel), List.mem_of_getElem? (i := 476) (by decide +kernel)⟩
theorem lw_p5 : lw_okq (⟨"CacheDiary$OrderReader", "takeKind", "(I)Z"⟩, 11) := ⟨⟨by decide +kernel, by decide +kernel⟩, List.mem_of_getElem? (i := 217) (by decide +kernel), List.mem_of_getElem? (i := 479) (by decide +kernel), List.mem_of_getElem? (i := 480) (by decide +kernel)⟩
theorem lw_p6 : lw_okq (⟨"CacheDiary$OrderReader", "startNumber", "(LCacheDiary$Place;)V"⟩, 11) := ⟨⟨by decide +kernel, by decide +kernel⟩, List.mem_of_getElem? (i := 217) (by decide +kernel), List.mem_of_getElem? (i := 485) (by decide +kernel), List.mem_of_getElem? (i := 486) (by decide +kernel)⟩
theorem lw_p7 : lw_okq (⟨"CacheDiary$OrderReader", "takeCache", "(I)Z"⟩, 11) := ⟨⟨by decide +kernel, by decide +kernel⟩, List.mem_of_getElem? (i := 217) (by decide +kernel), List.mem_of_getElem? (i := 491) (by decide +kernel), List.mem_of_getElem? (i := 492) (by decide +kernel)⟩
theorem lw_p8 : lw_okq (⟨"CacheDiary$OrderReader", "takeColon", "(I)Z"⟩, 11) := ⟨⟨by decide +kernel, by decide +kernel⟩, List.mem_of_getElem? (i := 217) (by decide +kernel), List.mem_of_getElem? (i := 497) (by decide +kernel), List.mem_of_getElem? (i := 498) (by decide +kernel)⟩
theorem lw_p9 : lw_okq (⟨"CacheDiary$OrderReader", "takeOfNumber", "(II)I"⟩, 11) := ⟨⟨by decide +kernel, by decide +kernel⟩, List.mem_of_getElem? (i := 217) (by decide +kernel), List.mem_of_getElem? (i := 503) (by decide +kernel), List.mem_of_getElem? (i := 504) (by decide +kernel)⟩
theorem lw_p10 : lw_okq (⟨"CacheDiary$OrderReader", "takeDigit", "(II)I"⟩, 11) := ⟨⟨by decide +kernel, by decide +kernel⟩, List.mem_of_getElem? (i := 217) (by decide +kernel), List.mem_of_getElem? (i := 507) (by decide +kernel), List.mem_of_getElem? (i := 508) (by decide +kernel)⟩
theorem lw_p11 : lw_okq (⟨"CacheDiary$OrderReader", "keepOrder", "()V"⟩, 11) := ⟨⟨by decide +kernel, by decide +kernel⟩, List.mem_of_getElem? (i := 217) (by decide +kernel), List.mem_of_getElem? (i := 513) (by decide +kernel), List.mem_of_getElem? (i := 514) (by decide +kernel)⟩
theorem lw_p12 : lw_okq (⟨"CacheDiary$History", "dropOldest", "()V"⟩, 2) := ⟨⟨by decide +kernel, by decide +kernel⟩, List.mem_of_getElem? (i := 200) (by decide +kernel), List.mem_of_getElem? (i := 521) (by decide +kernel), List.mem_of_getElem? (i := 522) (by decide +kernel)⟩
theorem lw_p13 : lw_okq (⟨"CacheDiary", "isPossible", "(I)Z"⟩, 6) := ⟨⟨by decide +kernel, by decide +kernel⟩, List.mem_of_getElem? (i := 22) (by decide +kernel), List.mem_of_getElem? (i := 526) (by decide +kernel), List.mem_of_getElem? (i := 527) (by decide +kernel)⟩
theorem lw_p14 : lw_okq (⟨"CacheDiary", "hashLine", "(JI)J"⟩, 6) := ⟨⟨by decide +kernel, by decide +kernel⟩, List.mem_of_getElem? (i := 22) (by decide +kernel), List.mem_of_getElem? (i := 560) (by decide +kernel), List.mem_of_getElem? (i := 561) (by decide +kernel)⟩
theorem lw_p15 : lw_okq (⟨"CacheDiary$Copies", "usedLater", "(II)I"⟩, 5) := ⟨⟨by decide +kernel, by decide +kernel⟩, List.mem_of_getElem? (i := 36) (by decide +kernel), List.mem_of_getElem? (i := 572) (by decide +kernel), List.mem_of_getElem? (i := 573) (by decide +kernel)⟩
def lw_privs_1 : List (MethodName × Nat) := [(⟨"CacheDiary$Machine", "serve", "(IIZ)V"⟩, 14), (⟨"CacheDiary$Machine", "fetch", "(IIZ)V"⟩, 14), (⟨"CacheDiary$Machine", "makeRoomInDiary", "()V"⟩, 14), (⟨"CacheDiary$Machine", "bringBack", "(II)V"⟩, 14), (⟨"CacheDiary$OrderReader", "take", "(II)I"⟩, 11), (⟨"CacheDiary$OrderReader", "takeKind", "(I)Z"⟩, 11), (⟨"CacheDiary$OrderReader", "startNumber", "(LCacheDiary$Place;)V"⟩, 11), (⟨"CacheDiary$OrderReader", "takeCache", "(I)Z"⟩, 11), (⟨"CacheDiary$OrderReader", "takeColon", "(I)Z"⟩, 11), (⟨"CacheDiary$OrderReader", "takeOfNumber", "(II)I"⟩, 11), (⟨"CacheDiary$OrderReader", "takeDigit", "(II)I"⟩, 11), (⟨"CacheDiary$OrderReader", "keepOrder", "()V"⟩, 11), (⟨"CacheDiary$History", "dropOldest", "()V"⟩, 2), (⟨"CacheDiary", "isPossible", "(I)Z"⟩, 6), (⟨"CacheDiary", "hashLine", "(JI)J"⟩, 6), (⟨"CacheDiary$Copies", "usedLater", "(II)I"⟩, 5)]
theorem lw_r1 : ∀ q ∈ lw_privs_1, lw_okq q := List.forall_mem_cons.mpr ⟨lw_p0, List.forall_mem_cons.mpr ⟨lw_p1, List.forall_mem_cons.mpr ⟨lw_p2, List.forall_mem_cons.mpr ⟨lw_p3, List.forall_mem_cons.mpr ⟨lw_p4, List.forall_mem_cons.mpr ⟨lw_p5, List.forall_mem_cons.mpr ⟨lw_p6, List.forall_mem_cons.mpr ⟨lw_p7, List.forall_mem_cons.mpr ⟨lw_p8, List.forall_mem_cons.mpr ⟨lw_p9, List.forall_mem_cons.mpr ⟨lw_p10, List.forall_mem_cons.mpr ⟨lw_p11, List.forall_mem_cons.mpr ⟨lw_p12, List.forall_mem_cons.mpr ⟨lw_p13, List.forall_mem_cons.mpr ⟨lw_p14, List.forall_mem_cons.mpr ⟨lw_p15, fun _ h => absurd h List.not_mem_nil⟩⟩⟩⟩⟩⟩⟩⟩⟩⟩⟩⟩⟩⟩⟩⟩
theorem lw_p16 : lw_okq (⟨"java/lang/Throwable", "fillInStackTrace", "(I)Ljava/lang/Throwable;"⟩, 6) := ⟨⟨by decide +kernel, by decide +kernel⟩, List.mem_of_getElem? (i := 633) (by decide +kernel), List.mem_of_getElem? (i := 631) (by decide +kernel), List.mem_of_getElem? (i := 632) (by decide +kernel)⟩
theorem lw_p17 : lw_okq (⟨"CacheDiaryModel", "anew", "(III)V"⟩, 9) := ⟨⟨by decide +kernel, by decide +kernel⟩, List.mem_of_getElem? (i := 827) (by decide +kernel), List.mem_of_getElem? (i := 833) (by decide +kernel), List.mem_of_getElem? (i := 834) (by decide +kernel)⟩
theorem lw_p18 : lw_okq (⟨"CacheDiaryModel", "fails", "(I)I"⟩, 9) := ⟨⟨by decide +kernel, by decide +kernel⟩, List.mem_of_getElem? (i := 827) (by decide +kernel), List.mem_of_getElem? (i := 876) (by decide +kernel), List.mem_of_getElem? (i := 877) (by decide +kernel)⟩
theorem lw_p19 : lw_okq (⟨"CacheDiaryModel", "save", "()V"⟩, 9) := ⟨⟨by decide +kernel, by decide +kernel⟩, List.mem_of_getElem? (i := 827) (by decide +kernel), List.mem_of_getElem? (i := 880) (by decide +kernel), List.mem_of_getElem? (i := 881) (by decide +kernel)⟩
theorem lw_p20 : lw_okq (⟨"CacheDiaryModel", "isCache", "(I)Z"⟩, 9) := ⟨⟨by decide +kernel, by decide +kernel⟩, List.mem_of_getElem? (i := 827) (by decide +kernel), List.mem_of_getElem? (i := 888) (by decide +kernel), List.mem_of_getElem? (i := 889) (by decide +kernel)⟩
theorem lw_p21 : lw_okq (⟨"CacheDiaryModel", "isAsking", "(I)Z"⟩, 9) := ⟨⟨by decide +kernel, by decide +kernel⟩, List.mem_of_getElem? (i := 827) (by decide +kernel), List.mem_of_getElem? (i := 895) (by decide +kernel), List.mem_of_getElem? (i := 896) (by decide +kernel)⟩
theorem lw_p22 : lw_okq (⟨"CacheDiaryModel", "asks", "(III)I"⟩, 9) := ⟨⟨by decide +kernel, by decide +kernel⟩, List.mem_of_getElem? (i := 827) (by decide +kernel), List.mem_of_getElem? (i := 899) (by decide +kernel), List.mem_of_getElem? (i := 900) (by decide +kernel)⟩
theorem lw_p23 : lw_okq (⟨"CacheDiaryModel", "isHit", "(IIZ)Z"⟩, 9) := ⟨⟨by decide +kernel, by decide +kernel⟩, List.mem_of_getElem? (i := 827) (by decide +kernel), List.mem_of_getElem? (i := 903) (by decide +kernel), List.mem_of_getElem? (i := 904) (by decide +kernel)⟩
theorem lw_p24 : lw_okq (⟨"CacheDiaryModel", "copyOf", "(II)I"⟩, 9) := ⟨⟨by decide +kernel, by decide +kernel⟩, List.mem_of_getElem? (i := 827) (by decide +kernel), List.mem_of_getElem? (i := 907) (by decide +kernel), List.mem_of_getElem? (i := 908) (by decide +kernel)⟩
theorem lw_p25 : lw_okq (⟨"CacheDiaryModel", "ticks", "(I)I"⟩, 9) := ⟨⟨by decide +kernel, by decide +kernel⟩, List.mem_of_getElem? (i := 827) (by decide +kernel), List.mem_of_getElem? (i := 927) (by decide +kernel), List.mem_of_getElem? (i := 928) (by decide +kernel)⟩
theorem lw_p26 : lw_okq (⟨"CacheDiaryModel", "tick", "()I"⟩, 9) := ⟨⟨by decide +kernel, by decide +kernel⟩, List.mem_of_getElem? (i := 827) (by decide +kernel), List.mem_of_getElem? (i := 931) (by decide +kernel), List.mem_of_getElem? (i := 932) (by decide +kernel)⟩
theorem lw_p27 : lw_okq (⟨"CacheDiaryModel", "serves", "(III)I"⟩, 9) := ⟨⟨by decide +kernel, by decide +kernel⟩, List.mem_of_getElem? (i := 827) (by decide +kernel), List.mem_of_getElem? (i := 935) (by decide +kernel), List.mem_of_getElem? (i := 936) (by decide +kernel)⟩
theorem lw_p28 : lw_okq (⟨"CacheDiaryModel", "misses", "(III)I"⟩, 9) := ⟨⟨by decide +kernel, by decide +kernel⟩, List.mem_of_getElem? (i := 827) (by decide +kernel), List.mem_of_getElem? (i := 939) (by decide +kernel), List.mem_of_getElem? (i := 940) (by decide +kernel)⟩
theorem lw_p29 : lw_okq (⟨"CacheDiaryModel", "opensPage", "(I)I"⟩, 9) := ⟨⟨by decide +kernel, by decide +kernel⟩, List.mem_of_getElem? (i := 827) (by decide +kernel), List.mem_of_getElem? (i := 943) (by decide +kernel), List.mem_of_getElem? (i := 944) (by decide +kernel)⟩
theorem lw_p30 : lw_okq (⟨"CacheDiaryModel", "pageOf", "(I)I"⟩, 9) := ⟨⟨by decide +kernel, by decide +kernel⟩, List.mem_of_getElem? (i := 827) (by decide +kernel), List.mem_of_getElem? (i := 947) (by decide +kernel), List.mem_of_getElem? (i := 948) (by decide +kernel)⟩
theorem lw_p31 : lw_okq (⟨"CacheDiaryModel", "oldestPage", "()I"⟩, 9) := ⟨⟨by decide +kernel, by decide +kernel⟩, List.mem_of_getElem? (i := 827) (by decide +kernel), List.mem_of_getElem? (i := 951) (by decide +kernel), List.mem_of_getElem? (i := 952) (by decide +kernel)⟩
def lw_privs_2 : List (MethodName × Nat) := [(⟨"java/lang/Throwable", "fillInStackTrace", "(I)Ljava/lang/Throwable;"⟩, 6), (⟨"CacheDiaryModel", "anew", "(III)V"⟩, 9), (⟨"CacheDiaryModel", "fails", "(I)I"⟩, 9), (⟨"CacheDiaryModel", "save", "()V"⟩, 9), (⟨"CacheDiaryModel", "isCache", "(I)Z"⟩, 9), (⟨"CacheDiaryModel", "isAsking", "(I)Z"⟩, 9), (⟨"CacheDiaryModel", "asks", "(III)I"⟩, 9), (⟨"CacheDiaryModel", "isHit", "(IIZ)Z"⟩, 9), (⟨"CacheDiaryModel", "copyOf", "(II)I"⟩, 9), (⟨"CacheDiaryModel", "ticks", "(I)I"⟩, 9), (⟨"CacheDiaryModel", "tick", "()I"⟩, 9), (⟨"CacheDiaryModel", "serves", "(III)I"⟩, 9), (⟨"CacheDiaryModel", "misses", "(III)I"⟩, 9), (⟨"CacheDiaryModel", "opensPage", "(I)I"⟩, 9), (⟨"CacheDiaryModel", "pageOf", "(I)I"⟩, 9), (⟨"CacheDiaryModel", "oldestPage", "()I"⟩, 9)]
theorem lw_r2 : ∀ q ∈ lw_privs_2, lw_okq q := List.forall_mem_cons.mpr ⟨lw_p16, List.forall_mem_cons.mpr ⟨lw_p17, List.forall_mem_cons.mpr ⟨lw_p18, List.forall_mem_cons.mpr ⟨lw_p19, List.forall_mem_cons.mpr ⟨lw_p20, List.forall_mem_cons.mpr ⟨lw_p21, List.forall_mem_cons.mpr ⟨lw_p22, List.forall_mem_cons.mpr ⟨lw_p23, List.forall_mem_cons.mpr ⟨lw_p24, List.forall_mem_cons.mpr ⟨lw_p25, List.forall_mem_cons.mpr ⟨lw_p26, List.forall_mem_cons.mpr ⟨lw_p27, List.forall_mem_cons.mpr ⟨lw_p28, List.forall_mem_cons.mpr ⟨lw_p29, List.forall_mem_cons.mpr ⟨lw_p30, List.forall_mem_cons.mpr ⟨lw_p31, fun _ h => absurd h List.not_mem_nil⟩⟩⟩⟩⟩⟩⟩⟩⟩⟩⟩⟩⟩⟩⟩⟩
theorem lw_p32 : lw_okq (⟨"CacheDiaryModel", "tearOut", "(I)V"⟩, 9) := ⟨⟨by decide +kernel, by decide +kernel⟩, List.mem_of_getElem? (i := 827) (by decide +kernel), List.mem_of_getElem? (i := 955) (by decide +kernel), List.mem_of_getElem? (i := 956) (by decide +kernel)⟩
theorem lw_p33 : lw_okq (⟨"CacheDiaryModel", "ownerOf", "(I)I"⟩, 9) := ⟨⟨by decide +kernel, by decide +kernel⟩, List.mem_of_getElem? (i := 827) (by decide +kernel), List.mem_of_getElem? (i := 959) (by decide +kernel), List.mem_of_getElem? (i := 960) (by decide +kernel)⟩
theorem lw_p34 : lw_okq (⟨"CacheDiaryModel", "sharersOf", "(I)I"⟩, 9) := ⟨⟨by decide +kernel, by decide +kernel⟩, List.mem_of_getElem? (i := 827) (by decide +kernel), List.mem_of_getElem? (i := 963) (by decide +kernel), List.mem_of_getElem? (i := 964) (by decide +kernel)⟩
theorem lw_p35 : lw_okq (⟨"CacheDiaryModel", "reachesOthers", "(IIZ)I"⟩, 9) := ⟨⟨by decide +kernel, by decide +kernel⟩, List.mem_of_getElem? (i := 827) (by decide +kernel), List.mem_of_getElem? (i := 967) (by decide +kernel), List.mem_of_getElem? (i := 968) (by decide +kernel)⟩
theorem lw_p36 : lw_okq (⟨"CacheDiaryModel", "toMemory", "(I)V"⟩, 9) := ⟨⟨by decide +kernel, by decide +kernel⟩, List.mem_of_getElem? (i := 827) (by decide +kernel), List.mem_of_getElem? (i := 971) (by decide +kernel), List.mem_of_getElem? (i := 972) (by decide +kernel)⟩
theorem lw_p37 : lw_okq (⟨"CacheDiaryModel", "oldestCopy", "(I)I"⟩, 9) := ⟨⟨by decide +kernel, by decide +kernel⟩, List.mem_of_getElem? (i := 827) (by decide +kernel), List.mem_of_getElem? (i := 975) (by decide +kernel), List.mem_of_getElem? (i := 976) (by decide +kernel)⟩
theorem lw_p38 : lw_okq (⟨"CacheDiaryModel", "throwAway", "(II)I"⟩, 9) := ⟨⟨by decide +kernel, by decide +kernel⟩, List.mem_of_getElem? (i := 827) (by decide +kernel), List.mem_of_getElem? (i := 979) (by decide +kernel), List.mem_of_getElem? (i := 980) (by decide +kernel)⟩
theorem lw_p39 : lw_okq (⟨"CacheDiaryModel", "aboutCopy", "(III)I"⟩, 9) := ⟨⟨by decide +kernel, by decide +kernel⟩, List.mem_of_getElem? (i := 827) (by decide +kernel), List.mem_of_getElem? (i := 998) (by decide +kernel), List.mem_of_getElem? (i := 999) (by decide +kernel)⟩
theorem lw_p40 : lw_okq (⟨"CacheDiaryModel", "aboutLine", "(II)I"⟩, 9) := ⟨⟨by decide +kernel, by decide +kernel⟩, List.mem_of_getElem? (i := 827) (by decide +kernel), List.mem_of_getElem? (i := 1006) (by decide +kernel), List.mem_of_getElem? (i := 1007) (by decide +kernel)⟩
theorem lw_p41 : lw_okq (⟨"CacheDiaryModel", "aboutPending", "(II)I"⟩, 9) := ⟨⟨by decide +kernel, by decide +kernel⟩, List.mem_of_getElem? (i := 827) (by decide +kernel), List.mem_of_getElem? (i := 1014) (by decide +kernel), List.mem_of_getElem? (i := 1015) (by decide +kernel)⟩
theorem lw_p42 : lw_okq (⟨"CacheDiaryModel", "number", "(I)I"⟩, 9) := ⟨⟨by decide +kernel, by decide +kernel⟩, List.mem_of_getElem? (i := 827) (by decide +kernel), List.mem_of_getElem? (i := 1026) (by decide +kernel), List.mem_of_getElem? (i := 1027) (by decide +kernel)⟩
theorem lw_p43 : lw_okq (⟨"CacheDiaryModel", "waiting", "()I"⟩, 9) := ⟨⟨by decide +kernel, by decide +kernel⟩, List.mem_of_getElem? (i := 827) (by decide +kernel), List.mem_of_getElem? (i := 1030) (by decide +kernel), List.mem_of_getElem? (i := 1031) (by decide +kernel)⟩
theorem lw_p44 : lw_okq (⟨"CacheDiaryModel", "costOf", "(IIZ)I"⟩, 9) := ⟨⟨by decide +kernel, by decide +kernel⟩, List.mem_of_getElem? (i := 827) (by decide +kernel), List.mem_of_getElem? (i := 1038) (by decide +kernel), List.mem_of_getElem? (i := 1039) (by decide +kernel)⟩
theorem lw_p45 : lw_okq (⟨"CacheDiaryModel", "keep", "()V"⟩, 9) := ⟨⟨by decide +kernel, by decide +kernel⟩, List.mem_of_getElem? (i := 827) (by decide +kernel), List.mem_of_getElem? (i := 1042) (by decide +kernel), List.mem_of_getElem? (i := 1043) (by decide +kernel)⟩
theorem lw_p46 : lw_okq (⟨"CacheDiaryModel", "bringBack", "()V"⟩, 9) := ⟨⟨by decide +kernel, by decide +kernel⟩, List.mem_of_getElem? (i := 827) (by decide +kernel), List.mem_of_getElem? (i := 1046) (by decide +kernel), List.mem_of_getElem? (i := 1047) (by decide +kernel)⟩
theorem lw_p47 : lw_okq (⟨"CacheDiaryModel", "readOrder", "()Z"⟩, 9) := ⟨⟨by decide +kernel, by decide +kernel⟩, List.mem_of_getElem? (i := 827) (by decide +kernel), List.mem_of_getElem? (i := 1082) (by decide +kernel), List.mem_of_getElem? (i := 1083) (by decide +kernel)⟩
def lw_privs_3 : List (MethodName × Nat) := [(⟨"CacheDiaryModel", "tearOut", "(I)V"⟩, 9), (⟨"CacheDiaryModel", "ownerOf", "(I)I"⟩, 9), (⟨"CacheDiaryModel", "sharersOf", "(I)I"⟩, 9), (⟨"CacheDiaryModel", "reachesOthers", "(IIZ)I"⟩, 9), (⟨"CacheDiaryModel", "toMemory", "(I)V"⟩, 9), (⟨"CacheDiaryModel", "oldestCopy", "(I)I"⟩, 9), (⟨"CacheDiaryModel", "throwAway", "(II)I"⟩, 9), (⟨"CacheDiaryModel", "aboutCopy", "(III)I"⟩, 9), (⟨"CacheDiaryModel", "aboutLine", "(II)I"⟩, 9), (⟨"CacheDiaryModel", "aboutPending", "(II)I"⟩, 9), (⟨"CacheDiaryModel", "number", "(I)I"⟩, 9), (⟨"CacheDiaryModel", "waiting", "()I"⟩, 9), (⟨"CacheDiaryModel", "costOf", "(IIZ)I"⟩, 9), (⟨"CacheDiaryModel", "keep", "()V"⟩, 9), (⟨"CacheDiaryModel", "bringBack", "()V"⟩, 9), (⟨"CacheDiaryModel", "readOrder", "()Z"⟩, 9)]
theorem lw_r3 : ∀ q ∈ lw_privs_3, lw_okq q := List.forall_mem_cons.mpr ⟨lw_p32, List.forall_mem_cons.mpr ⟨lw_p33, List.forall_mem_cons.mpr ⟨lw_p34, List.forall_mem_cons.mpr ⟨lw_p35, List.forall_mem_cons.mpr ⟨lw_p36, List.forall_mem_cons.mpr ⟨lw_p37, List.forall_mem_cons.mpr ⟨lw_p38, List.forall_mem_cons.mpr ⟨lw_p39, List.forall_mem_cons.mpr ⟨lw_p40, List.forall_mem_cons.mpr ⟨lw_p41, List.forall_mem_cons.mpr ⟨lw_p42, List.forall_mem_cons.mpr ⟨lw_p43, List.forall_mem_cons.mpr ⟨lw_p44, List.forall_mem_cons.mpr ⟨lw_p45, List.forall_mem_cons.mpr ⟨lw_p46, List.forall_mem_cons.mpr ⟨lw_p47, fun _ h => absurd h List.not_mem_nil⟩⟩⟩⟩⟩⟩⟩⟩⟩⟩⟩⟩⟩⟩⟩⟩
theorem lw_p48 : lw_okq (⟨"CacheDiaryModel", "sign", "(I)Z"⟩, 9) := ⟨⟨by decide +kernel, by decide +kernel⟩, List.mem_of_getElem? (i := 827) (by decide +kernel), List.mem_of_getElem? (i := 1086) (by decide +kernel), List.mem_of_getElem? (i := 1087) (by decide +kernel)⟩
theorem lw_p49 : lw_okq (⟨"CacheDiaryModel", "numberInto", "(IIII)Z"⟩, 9) := ⟨⟨by decide +kernel, by decide +kernel⟩, List.mem_of_getElem? (i := 827) (by decide +kernel), List.mem_of_getElem? (i := 1090) (by decide +kernel), List.mem_of_getElem? (i := 1091) (by decide +kernel)⟩
theorem lw_p50 : lw_okq (⟨"CacheDiaryModel", "isDigit", "(I)Z"⟩, 9) := ⟨⟨by decide +kernel, by decide +kernel⟩, List.mem_of_getElem? (i := 827) (by decide +kernel), List.mem_of_getElem? (i := 1094) (by decide +kernel), List.mem_of_getElem? (i := 1095) (by decide +kernel)⟩
theorem lw_p51 : lw_okq (⟨"CacheDiaryModel", "doOrder", "()Z"⟩, 9) := ⟨⟨by decide +kernel, by decide +kernel⟩, List.mem_of_getElem? (i := 827) (by decide +kernel), List.mem_of_getElem? (i := 1098) (by decide +kernel), List.mem_of_getElem? (i := 1099) (by decide +kernel)⟩
def lw_privs_4 : List (MethodName × Nat) := [(⟨"CacheDiaryModel", "sign", "(I)Z"⟩, 9), (⟨"CacheDiaryModel", "numberInto", "(IIII)Z"⟩, 9), (⟨"CacheDiaryModel", "isDigit", "(I)Z"⟩, 9), (⟨"CacheDiaryModel", "doOrder", "()Z"⟩, 9)]
theorem lw_r4 : ∀ q ∈ lw_privs_4, lw_okq q := List.forall_mem_cons.mpr ⟨lw_p48, List.forall_mem_cons.mpr ⟨lw_p49, List.forall_mem_cons.mpr ⟨lw_p50, List.forall_mem_cons.mpr ⟨lw_p51, fun _ h => absurd h List.not_mem_nil⟩⟩⟩⟩
def lw_privs : List (MethodName × Nat) := lw_privs_1 ++ (lw_privs_2 ++ (lw_privs_3 ++ (lw_privs_4)))
def lw_tbl : List Cond := k2_sels lw_privs ++ tables_1
theorem lw_privs_ok : ∀ q ∈ lw_privs, lw_okq q := by
  show ∀ q ∈ lw_privs_1 ++ (lw_privs_2 ++ (lw_privs_3 ++ (lw_privs_4))), lw_okq q
  exact List.forall_mem_append.mpr ⟨lw_r1, List.forall_mem_append.mpr ⟨lw_r2, List.forall_mem_append.mpr ⟨lw_r3, lw_r4⟩⟩⟩
/-- the streams that the claim lets the run draw from -/
abbrev lw_cs : List Choice := [Jvm.Choice.named "NaN.bits"]
theorem lw_bits : nanBits ∈ lw_cs := by first | decide | exact List.mem_cons_self | simp [lw_cs, nanBits]
-- ===== end of PART A; then your names; then what follows =====
end
section
/-! ===== BEGIN words of one list among another's, by their places ===== -/
theorem goodIn_r {big : List Cond} (ws : List Cond) (ps : List Nat) (hp : ws = ps.filterMap (fun i => big[i]?)) (h : ws.all goodWord = true) : GoodIn big ws := by
  intro w hw
  have h1 := List.all_eq_true.mp h w hw
  rw [hp] at hw
  obtain ⟨i, -, hi⟩ := List.mem_filterMap.mp hw
  have hm : w ∈ big := by first | exact List.mem_of_getElem? hi | exact List.getElem?_mem hi
  exact ⟨hm, good_of_word h1⟩
theorem goodIn_app {big a b : List Cond} (ha : GoodIn big a) (hb : GoodIn big b) : GoodIn big (a ++ b) := fun w h => (List.mem_append.mp h).elim (ha w) (hb w)
theorem goodIn_ca {big a b : List Cond} {c : Cond} (ha : GoodIn big (c :: a)) (hb : GoodIn big b) : GoodIn big (c :: (a ++ b)) := fun w h => (List.mem_cons.mp h).elim (fun e => ha w (List.mem_cons.mpr (Or.inl e))) (fun h => (List.mem_append.mp h).elim (fun h => ha w (List.mem_cons.mpr (Or.inr h))) (hb w))
theorem goodIn_sub {big ws : List Cond} (hm : ∀ w ∈ ws, w ∈ big) (h : ws.all goodWord = true) : GoodIn big ws := fun w hw => ⟨hm w hw, good_of_word (List.all_eq_true.mp h w hw)⟩
/-! ===== END ===== -/

/-! ===== BEGIN exceptions that leave a method, and their catching by the caller (launches without stack traces) ===== -/
section VXA
/-! The laws vx_back, vx_callV, vx_callS, vx_callSW, vx_throw0, vx_throwS follow proofs of the library, with one case more: JvmDerived/Free/Laws.lean (Back.of_free), Shelf42/LK1.lean (callV, callS), Shelf/KitTraced.lean (throwNew0V, throwNewS). -/
/-- where a method has thrown q: the class by its name, the cell, what was written, the world -/
def vx_T (XC : String → State → State → Prop) (st : State) (q : Addr) (t : State) (mc ms : Nat) (free : Addr → Prop) : Prop :=
  ∃ (E : String) (ce : Cell) (L : List Loc), XC E st t ∧ t.heap[q]? = some ce ∧ ce.vm = .none ∧ st.vm.findClass E = some ce.cls ∧ st.WarmedH t.vm ∧ st.sameButNew ({ t with vm := st.vm } : State) L mc ms ∧ ∀ z ∈ L, free z.base
def vx_Q (Qc : Array Value → State → Outcome → State → Prop) (XC : String → State → State → Prop) (mc ms : Nat) (free : Addr → Prop) : Array Value → State → Outcome → State → Prop := fun a st o t =>
  (Qc a st o t ∧ ∃ L, FrameEnd st o t L mc ms ∧ ∀ q ∈ L, free q.base) ∨ ∃ q, o = .threw q ∧ vx_T XC st q t mc ms free
/-- a callee that returns or throws -/
def vx_Met (l : Launch) (y : MethodName) (ws : List Cond) (rm : Room) (Pc : Array Value → State → Prop) (Qc : Array Value → State → Outcome → State → Prop) (XC : String → State → State → Prop) (mc ms : Nat) (free : Addr → Prop) : Prop :=
  MetFree l y (headSpec ws rm) Pc (fun _ _ _ _ _ => True) (vx_Q Qc XC mc ms free)
def vx_Post (XC : String → State → State → Prop) (mc ms : Nat) (free : Addr → Prop) : Pt → Array Value → Addr → Pt → Prop := fun A a q B =>
  ∃ (g : JFrame) (mk : MethodId) (t : State) (L : List Loc) (E : String) (ce : Cell), B.U.heap = t.heap ∧ B.U.vm = t.vm ∧ XC E (A.U.calling g mk a) t ∧ t.heap[q]? = some ce ∧ ce.vm = .none ∧ A.U.vm.findClass E = some ce.cls ∧ B.locs = A.locs ++ L ∧ (∀ z ∈ L, free z.base) ∧ B.cells = A.cells + mc ∧ B.slots = A.slots + ms
def vx_Back (l : Launch) (R : Room) (p : Program) (e : Env) (below : List Frame) (s : State) (sargs : Array Value) (y : MethodName) (len W9 : Nat)
    (Pre : Pt → Array Value → Prop) (Post : Pt → Array Value → Option Value → Pt → Prop) (PostX : Pt → Array Value → Addr → Pt → Prop) : Prop :=
  ∀ (m : MethodId) (meth : Method) (c : Code) (A : Pt) (g : JFrame) (ig : Instr) (mk : MethodId) (a : Array Value),
    Stand p l e R s m sargs below meth c A.U A.locs A.cells A.slots → g.method = m → g.locals.size = c.maxLocals → decode c.code g.pc = .ok (ig, len) →
    2 * g.monitorRoom + (g.stack.map fun v => v.category).sum ≤ W9 → A.U.methodNamed? y = some mk → Pre A a →
    (∃ (v : Option Value) (B : Pt), Stand p l e R s m sargs below meth c B.U B.locs B.cells B.slots ∧ Post A a v B ∧
      Steps p.tables e below (doInvoke e (A.U.setTop g) [] mk a).1 (B.U.setTop { g with pc := g.pc + len, stack := v.toList ++ g.stack })) ∨
    (∃ (q : Addr) (B : Pt), Stand p l e R s m sargs below meth c B.U B.locs B.cells B.slots ∧ PostX A a q B ∧
      Steps p.tables e below (doInvoke e (A.U.setTop g) [] mk a).1 ((B.U.setTop g).pushFrame (.throwing q)))
section Payer
variable {l : Launch} {R : Room} {p : Program} {e : Env} {below : List Frame} {s : State} {sargs : Array Value} {y : MethodName} {len W9 : Nat}
theorem vx_back {ws : List Cond} {rm : Room} {Pc : Array Value → State → Prop} {Qc : Array Value → State → Outcome → State → Prop} {XC : String → State → State → Prop} {mc ms : Nat} {free : Addr → Prop} {bytes : ByteArray} {maxL : Nat} {ret : Option FieldType}
    (hM : vx_Met l y ws rm Pc Qc XC mc ms free) (hblind : FrameBlind Pc) (hrc : rm.cells = mc) (hrs : rm.slots = ms)
    (hframes : rm.frames + 1 ≤ R.frames) (hlocals : W9 + (maxL + 11) + rm.locals ≤ R.locals)
    (hws : ∀ w ∈ ws, ∀ a' U, s.WarmedH U.vm → w.before a' U = true) (hcode : Cond.code y bytes maxL ret ∈ ws) (hinit : ∀ a' U, s.WarmedH U.vm → (Cond.initialized y.cls).before a' U = true) :
    vx_Back l R p e below s sargs y len W9 (PreOf R mc ms Pc) (PostOf Qc mc ms free) (vx_Post XC mc ms free) := by
  intro m meth c A g ig mk a X hg hsize hdg hW hn hp
  have h1 : (headSpec ws rm).pre.before a A.U = true := atoms_intro fun w hw => hws w hw _ _ X.warmed
  have h2 : (Cond.code y bytes maxL ret).before a A.U = true := hws _ hcode _ _ X.warmed
  have h3 : (Cond.initialized y.cls).before a A.U = true := hinit _ _ X.warmed
  have h4 : A.cells + (headSpec ws rm).room.cells ≤ R.cells := by rw [show (headSpec ws rm).room.cells = mc from hrc]; exact hp.1
  have h5 : A.slots + (headSpec ws rm).room.slots ≤ R.slots := by rw [show (headSpec ws rm).room.slots = ms from hrs]; exact hp.2.1
  have hPc : Pc a (A.U.calling g mk a) := hblind _ _ _ _ hp.2.2
  obtain ⟨U, Ls, c0, s0⟩ := A
  dsimp only [Pt.U, Pt.locs, Pt.cells, Pt.slots] at h1 h2 h3 h4 h5 X hn hPc ⊢
  obtain ⟨methY, cY, hmY, hcY, -, hlY, -, -, -, -⟩ := Cond.code_spec hn h2
  obtain ⟨kY, hkY, -⟩ := className_of_methodNamed hn
  have hinitY : kY.init = .initialized := Cond.initialized_spec (findClass_of_methodNamed hn) hkY h3
  have h : At U g.method c below := by rw [hg]; exact X.here
  have hlocals9 : W9 + (maxL + 11) + (headSpec ws rm).room.locals ≤ R.locals := hlocals
  have happ : (headSpec ws rm).appliesLoose y e.platform (U.calling g mk a) = true :=
    Spec.appliesLoose_calling (g := g) h hdg hn hkY hinitY
      (X.room_calling (g := g) (R' := (headSpec ws rm).room) hsize hmY hcY hframes (by rw [hlY]; omega) h4 h5) h1
  obtain ⟨mid, hmid⟩ := h.above
  have hfr : (U.setTop g).frames = (.java g :: mid) ++ below := by rw [State.frames_setTop' g h.top, hmid]; rfl
  obtain ⟨o, s₂, hsteps, -, hend, hq⟩ := Steps.callFree hM p X.admits X.cas X.clock (acts := []) hfr happ hPc trivial
  have hq' : vx_Q Qc XC mc ms free a (U.calling g mk a) o s₂ := hq
  rw [State.frames_setTop' g h.top] at hend
  obtain ⟨g₀, hg0⟩ := Option.isSome_iff_exists.mp h.top
  obtain ⟨r, hr⟩ := State.topJava?_eq_some.mp hg0
  have hr' : (({ U with heap := s₂.heap, slotsUsed := s₂.slotsUsed } : State).setVm s₂.vm).frames = .java g₀ :: r := hr
  rcases hq' with ⟨hqc, L, hfe, hL⟩ | ⟨q, rfl, E, ce, L, hx, hce, hcv, hcl, hW₂, hsm, hL⟩
  · obtain ⟨⟨v, rfl⟩, hW₂, e2, q2, q3, q4, q5, q6⟩ := id hfe
    have e3 : s₂ = ({ (U.calling g mk a).setFrames s₂.frames with heap := s₂.heap, slotsUsed := s₂.slotsUsed } : State).setVm s₂.vm := by
      have : s₂ = ({ s₂ with vm := (U.calling g mk a).vm } : State).setVm s₂.vm := rfl
      rw [e2] at this
      exact this
    obtain ⟨c₂, i₂, len₂, hc₂, hd₂, hf₂⟩ := hend
    have hW' : U.WarmedH s₂.vm := hW₂
    have hcc : c₂ = c := by
      have h1 : s₂.code? g.method = U.code? g.method := by
        rw [State.code?_eq, State.code?_eq, hW'.alike.method?]
      exact Option.some.inj (hc₂.symm.trans (h1.trans h.code))
    subst hcc
    have hlen : len₂ = len := by rw [hdg] at hd₂; cases hd₂; rfl
    subst hlen
    have hs₂ : s₂ = (({ U with heap := s₂.heap, slotsUsed := s₂.slotsUsed } : State).setVm s₂.vm).setTop { g with pc := g.pc + len₂, stack := v.toList ++ g.stack } := by
      refine e3.trans ?_
      rw [hf₂, State.calling_eq h.top, State.setFrames_setFrames, State.setTop_of_frames _ hr', hr]
      rfl
    have hsame : U.sameButNew ({ U with heap := s₂.heap, slotsUsed := s₂.slotsUsed } : State) L mc ms := by
      refine ⟨?_, q2, q3, q4, q5, q6⟩
      obtain ⟨t, ht, -⟩ := State.frames_cons hr
      show ({ U with heap := s₂.heap, slotsUsed := s₂.slotsUsed } : State) = { U.setFrames U.frames with heap := s₂.heap, slotsUsed := s₂.slotsUsed }
      rw [State.setFrames_self ht]
    subst hg
    refine Or.inl ⟨v, ⟨(({ U with heap := s₂.heap, slotsUsed := s₂.slotsUsed } : State).setVm s₂.vm), Ls ++ L, c0 + mc, s0 + ms⟩,
      ⟨X.admits, X.cas, X.clock, X.frames, X.room, X.hears, X.method, X.code, (X.here.setHeapUsed s₂.heap s₂.slotsUsed).setVm hW'.alike, X.tail, State.WarmedH.trans X.warmed hW', X.limits, X.bytes, X.same.trans (hsame.setVm s.vm)⟩,
      ⟨g, mk, s₂, L, rfl, rfl, hqc, rfl, hL, rfl, rfl⟩, ?_⟩
    show Steps p.tables e below _ ((({ U with heap := s₂.heap, slotsUsed := s₂.slotsUsed } : State).setVm s₂.vm).setTop { g with pc := g.pc + len₂, stack := v.toList ++ g.stack })
    rw [← hs₂]
    exact hsteps
  · obtain ⟨e2, q2, q3, q4, q5, q6⟩ := id hsm
    have e3 : s₂ = ({ (U.calling g mk a).setFrames s₂.frames with heap := s₂.heap, slotsUsed := s₂.slotsUsed } : State).setVm s₂.vm := by
      have : s₂ = ({ s₂ with vm := (U.calling g mk a).vm } : State).setVm s₂.vm := rfl
      rw [e2] at this
      exact this
    have hf₂ : s₂.frames = .throwing q :: .java g :: U.frames.tail := hend
    have hW' : U.WarmedH s₂.vm := hW₂
    have hs₂ : s₂ = ((({ U with heap := s₂.heap, slotsUsed := s₂.slotsUsed } : State).setVm s₂.vm).setTop g).pushFrame (.throwing q) := by
      refine e3.trans ?_
      rw [hf₂, State.calling_eq h.top, State.setFrames_setFrames, State.pushFrame, State.frames_setTop _ hr', State.setTop_of_frames _ hr', State.setFrames_setFrames, hr]
      rfl
    have hsame : U.sameButNew ({ U with heap := s₂.heap, slotsUsed := s₂.slotsUsed } : State) L mc ms := by
      refine ⟨?_, q2, q3, q4, q5, q6⟩
      obtain ⟨t, ht, -⟩ := State.frames_cons hr
      show ({ U with heap := s₂.heap, slotsUsed := s₂.slotsUsed } : State) = { U.setFrames U.frames with heap := s₂.heap, slotsUsed := s₂.slotsUsed }
      rw [State.setFrames_self ht]
    subst hg
    refine Or.inr ⟨q, ⟨(({ U with heap := s₂.heap, slotsUsed := s₂.slotsUsed } : State).setVm s₂.vm), Ls ++ L, c0 + mc, s0 + ms⟩,
      ⟨X.admits, X.cas, X.clock, X.frames, X.room, X.hears, X.method, X.code, (X.here.setHeapUsed s₂.heap s₂.slotsUsed).setVm hW'.alike, X.tail, State.WarmedH.trans X.warmed hW', X.limits, X.bytes, X.same.trans (hsame.setVm s.vm)⟩,
      ⟨g, mk, s₂, L, E, ce, rfl, rfl, hx, hce, hcv, hcl, rfl, hL, rfl, rfl⟩, ?_⟩
    show Steps p.tables e below _ (((({ U with heap := s₂.heap, slotsUsed := s₂.slotsUsed } : State).setVm s₂.vm).setTop g).pushFrame (.throwing q))
    rw [← hs₂]
    exact hsteps
end Payer
section Calls
variable {p : Program} {l : Launch} {e : Env} {R : Room} {s : State} {m : MethodId} {args : Array Value} {below : List Frame} {meth : Method} {c : Code} {T : State} {locs : List Loc} {cells slots : Nat}
theorem vx_callV (X : Stand p l e R s m args below meth c T locs cells slots) (hexec : p.tables.exec = Jvm.exec) {own C : String} {index : Nat} {y : MethodName} {bytes : ByteArray} {maxL : Nat} {ret : Option FieldType}
    (hown : s.vm.findClass own = some m.cls) (hlink : (Cond.methodLink own index y).before args s = true) (hinst : (Cond.instanceMethod y).before args s = true) (hsel : (Cond.selects C y y).before args s = true)
    (hcode : (Cond.code y bytes maxL ret).before args s = true) (hy : y.cls ≠ "java/lang/invoke/MethodHandle" ∧ y.cls ≠ "java/lang/invoke/VarHandle")
    {W9 : Nat} {Pre : Pt → Array Value → Prop} {Post : Pt → Array Value → Option Value → Pt → Prop} {PostX : Pt → Array Value → Addr → Pt → Prop} (hK : vx_Back l R p e below s args y 3 W9 Pre Post PostX)
    {b : Addr} {cellB : Cell} (hcell : T.heap[b]? = some cellB) (hobj : cellB.vm.isStatics = false) (hcls : s.vm.findClass C = some cellB.cls)
    {g : JFrame} (hg : g.method = m) (hsize : g.locals.size = c.maxLocals) {argsL rest : List Value} (hlen : ∀ sig, parseMethodDescriptor y.desc = some sig → argsL.length = sig.parameters.length)
    (hstack : g.stack = argsL.reverse ++ .ref b :: rest) (hW : 2 * g.monitorRoom + (rest.map fun v => v.category).sum ≤ W9) (hdg : decode c.code g.pc = .ok (.invokevirtual index, 3))
    (hpre : ∀ vm₁, s.WarmedH vm₁ → Pre ⟨T.setVm vm₁, locs, cells, slots⟩ (Value.ref b :: argsL).toArray) :
    (∃ (v : Option Value) (vm₁ : Vm) (B : Pt), s.WarmedH vm₁ ∧ Stand p l e R s m args below meth c B.U B.locs B.cells B.slots ∧ Post ⟨T.setVm vm₁, locs, cells, slots⟩ (Value.ref b :: argsL).toArray v B ∧
      ∀ target, Steps p.tables e below (B.U.setTop { g with pc := g.pc + 3, stack := v.toList ++ rest }) target → Steps p.tables e below (T.setTop g) target) ∨
    (∃ (q : Addr) (vm₁ : Vm) (B : Pt), s.WarmedH vm₁ ∧ Stand p l e R s m args below meth c B.U B.locs B.cells B.slots ∧ PostX ⟨T.setVm vm₁, locs, cells, slots⟩ (Value.ref b :: argsL).toArray q B ∧
      Steps p.tables e below (T.setTop g) ((B.U.setTop { g with stack := rest }).pushFrame (.throwing q))) := by
  obtain ⟨mk, methM, hnamed, hmethM, hstM, habM⟩ := Cond.instanceMethod_spec hinst
  obtain ⟨methM', cM, hmethM', -, -, -, -, -, -, hsigM⟩ := Cond.code_spec hnamed hcode
  cases hmethM.symm.trans hmethM'
  obtain ⟨c2, r2, m2, q1, q2, q3, q4, kP, hkP, hkPi⟩ := Cond.selects_spec hsel
  cases hcls.symm.trans q1
  cases (State.methodFound?_of_named hnamed hy).symm.trans q2
  cases hnamed.symm.trans q3
  have hselP : selectMethod e.platform s.vm cellB.cls mk = .method mk := by rw [Launch.admits_selectMethod X.admits]; exact q4
  obtain ⟨vm₁, X₁, hstep₁⟩ := X.invokevirtual hexec hown hlink hnamed hmethM hstM hkP hkPi hy (a := b) (cell := cellB) hcell
    (fun z h => by rw [h] at hobj; cases hobj) hselP hmethM habM hkP hkPi (g := g) hg (argsL := argsL) (rest := rest) (hlen _ hsigM) hstack hdg
  rcases hK m meth c ⟨T.setVm vm₁, locs, cells, slots⟩ { g with stack := rest } (.invokevirtual index) mk (Value.ref b :: argsL).toArray X₁ hg hsize hdg hW (X₁.named hnamed) (hpre vm₁ X₁.warmed) with ⟨v, B, X', hpost, hsteps⟩ | ⟨q, B, X', hpost, hsteps⟩
  · exact Or.inl ⟨v, vm₁, B, X₁.warmed, X', hpost, fun target h => hstep₁ _ fun acts => by rw [doInvoke_state]; exact hsteps.trans h⟩
  · exact Or.inr ⟨q, vm₁, B, X₁.warmed, X', hpost, hstep₁ _ fun acts => by rw [doInvoke_state]; exact hsteps⟩
theorem vx_callS (X : Stand p l e R s m args below meth c T locs cells slots) (hexec : p.tables.exec = Jvm.exec) {own : String} {index : Nat} {y : MethodName} {bytes : ByteArray} {maxL : Nat} {ret : Option FieldType}
    (hown : s.vm.findClass own = some m.cls) (hlink : (Cond.methodLink own index y).before args s = true) (hstat : (Cond.static y).before args s = true) (hinit : (Cond.initialized y.cls).before args s = true)
    (hcode : (Cond.code y bytes maxL ret).before args s = true) (hy : y.cls ≠ "java/lang/invoke/MethodHandle" ∧ y.cls ≠ "java/lang/invoke/VarHandle")
    {W9 : Nat} {Pre : Pt → Array Value → Prop} {Post : Pt → Array Value → Option Value → Pt → Prop} {PostX : Pt → Array Value → Addr → Pt → Prop} (hK : vx_Back l R p e below s args y 3 W9 Pre Post PostX)
    {g : JFrame} (hg : g.method = m) (hsize : g.locals.size = c.maxLocals) {argsL rest : List Value} (hlen : ∀ sig, parseMethodDescriptor y.desc = some sig → argsL.length = sig.parameters.length)
    (hstack : g.stack = argsL.reverse ++ rest) (hW : 2 * g.monitorRoom + (rest.map fun v => v.category).sum ≤ W9) (hdg : decode c.code g.pc = .ok (.invokestatic index, 3))
    (hpre : ∀ vm₁, s.WarmedH vm₁ → Pre ⟨T.setVm vm₁, locs, cells, slots⟩ argsL.toArray) :
    (∃ (v : Option Value) (vm₁ : Vm) (B : Pt), s.WarmedH vm₁ ∧ Stand p l e R s m args below meth c B.U B.locs B.cells B.slots ∧ Post ⟨T.setVm vm₁, locs, cells, slots⟩ argsL.toArray v B ∧
      ∀ target, Steps p.tables e below (B.U.setTop { g with pc := g.pc + 3, stack := v.toList ++ rest }) target → Steps p.tables e below (T.setTop g) target) ∨
    (∃ (q : Addr) (vm₁ : Vm) (B : Pt), s.WarmedH vm₁ ∧ Stand p l e R s m args below meth c B.U B.locs B.cells B.slots ∧ PostX ⟨T.setVm vm₁, locs, cells, slots⟩ argsL.toArray q B ∧
      Steps p.tables e below (T.setTop g) ((B.U.setTop { g with stack := rest }).pushFrame (.throwing q))) := by
  obtain ⟨mk, hnamed⟩ := Cond.code_named hcode
  obtain ⟨methM, cM, hmethM, -, -, -, -, -, -, hsigM⟩ := Cond.code_spec hnamed hcode
  have hstatic : methM.isStatic = true := Cond.static_spec hnamed hmethM hstat
  obtain ⟨kP, hkP, -⟩ := className_of_methodNamed hnamed
  have hinitP : kP.init = .initialized := Cond.initialized_spec (findClass_of_methodNamed hnamed) hkP hinit
  obtain ⟨vm₁, X₁, hstep₁⟩ := X.invokestatic hexec hown hlink hnamed hmethM hstatic hkP hinitP hy (g := g) hg (argsL := argsL) (rest := rest) (hlen _ hsigM) hstack hdg
  rcases hK m meth c ⟨T.setVm vm₁, locs, cells, slots⟩ { g with stack := rest } (.invokestatic index) mk argsL.toArray X₁ hg hsize hdg hW (X₁.named hnamed) (hpre vm₁ X₁.warmed) with ⟨v, B, X', hpost, hsteps⟩ | ⟨q, B, X', hpost, hsteps⟩
  · exact Or.inl ⟨v, vm₁, B, X₁.warmed, X', hpost, fun target h => hstep₁ _ fun acts => by rw [doInvoke_state]; exact hsteps.trans h⟩
  · exact Or.inr ⟨q, vm₁, B, X₁.warmed, X', hpost, hstep₁ _ fun acts => by rw [doInvoke_state]; exact hsteps⟩
end Calls
theorem vx_cls {s : State} {T : State} {vm₁ : Vm} {E : String} {k : ClassId} (hW : s.WarmedH vm₁) (h : (T.setVm vm₁).vm.findClass E = some k) : s.vm.findClass E = some k := by
  have h1 : vm₁.findClass E = some k := h
  rw [hW.alike.findClass] at h1
  exact h1
/-- the method's frame g, with q thrown over it -/
def vx_W (p : Program) (l : Launch) (e : Env) (R : Room) (s : State) (m : MethodId) (args : Array Value) (below : List Frame) (meth : Method) (c : Code) (H : Heap) (locs : List Loc) (cells slots : Nat) (Q : State → Prop) (g : JFrame) (q : Addr) : Prop :=
  ∀ T : State, T.heap = H → Stand p l e R s m args below meth c T locs cells slots → ∃ t, Steps p.tables e below ((T.setTop g).pushFrame (.throwing q)) t ∧ Q t
def vx_Run (p : Program) (l : Launch) (e : Env) (R : Room) (s : State) (m : MethodId) (args : Array Value) (below : List Frame) (meth : Method) (c : Code) (H : Heap) (locs : List Loc) (cells slots mc ms : Nat) (g : JFrame) (rest : List Value) (Qa : State → Outcome → State → Prop) (XC : String → State → State → Prop) (free : Addr → Prop) : Prop :=
  ∀ T : State, T.heap = H → Stand p l e R s m args below meth c T locs cells slots →
    (∃ (v : Option Value) (st₀ t T' : State) (L : List Loc), st₀.heap = H ∧ Stand p l e R s m args below meth c T' (locs ++ L) (cells + mc) (slots + ms) ∧ (∀ q ∈ L, free q.base) ∧ T'.heap = t.heap ∧ T'.vm = t.vm ∧ Qa st₀ (.returned v) t ∧
      Goes p e below T g T' { g with pc := g.pc + 3, stack := v.toList ++ rest }) ∨
    (∃ (q : Addr) (st₀ t T' : State) (L : List Loc) (E : String) (ce : Cell), st₀.heap = H ∧ Stand p l e R s m args below meth c T' (locs ++ L) (cells + mc) (slots + ms) ∧ (∀ z ∈ L, free z.base) ∧ T'.heap = t.heap ∧ T'.vm = t.vm ∧ XC E st₀ t ∧ t.heap[q]? = some ce ∧ ce.vm = .none ∧ s.vm.findClass E = some ce.cls ∧
      Steps p.tables e below (T.setTop g) ((T'.setTop { g with stack := rest }).pushFrame (.throwing q)))
def vx_X {S : Type} (px : S → Prop) (B : String → S → State → Prop) (A : Nat → Prop) : String → State → State → Prop := fun E st t => ∃ u : S, px u ∧ B E u t ∧ va_F A st t
section Runs
variable {p : Program} {l : Launch} {e : Env} {R : Room} {s : State} {m : MethodId} {args : Array Value} {below : List Frame} {meth : Method} {c : Code} {H : Heap} {locs : List Loc} {cells slots : Nat}
variable {y : MethodName} {bytes cc : ByteArray} {maxL nL mc ms n index : Nat} {ret : Option FieldType} {ws : List Cond} {rm : Room} {Pc : Array Value → State → Prop} {Qc : Array Value → State → Outcome → State → Prop} {XC : String → State → State → Prop} {free : Addr → Prop} {Ts : List Cond} {own C : String} {b : Addr} {As rest : List Value} {g : JFrame}
theorem vx_callBack (cb : CallB R s args own index y bytes maxL ret ws rm mc ms n) (hM : vx_Met l y ws rm Pc Qc XC mc ms free) (hbl : FrameBlind Pc) : vx_Back l R p e below s args y 3 8 (PreOf R mc ms Pc) (PostOf Qc mc ms free) (vx_Post XC mc ms free) := by
  obtain ⟨hrc, hrs, hfr, hlo, hws, hcw, -, hini, -⟩ := cb
  exact vx_back (bytes := bytes) (maxL := maxL) (ret := ret) hM hbl hrc hrs hfr hlo hws hcw (fun a' U hW => word_at hW (Or.inl (by first | rfl | simp [Cond.onTables, Cond.keeps, Cond.steady])) hini)
theorem vx_runV (S : CallFix p m c cc nL s args Ts own) (hM : vx_Met l y ws rm Pc Qc XC mc ms free) (cw : CallW R s args own C index y bytes maxL ret ws rm mc ms n) (hp : PreV s H C b Pc As)
    (hg : g.method = m) (hn : As.length = n) (hsize : g.locals.size = nL) (hstack : g.stack = As.reverse ++ .ref b :: rest) (hW : 2 * g.monitorRoom + (rest.map fun v => v.category).sum ≤ 8) (hdg : decode cc g.pc = .ok (.invokevirtual index, 3)) (hf : cells + mc ≤ R.cells ∧ slots + ms ≤ R.slots) :
    vx_Run p l e R s m args below meth c H locs cells slots mc ms g rest (Qc (Value.ref b :: As).toArray) XC free := by
  have hK : vx_Back l R p e below s args y 3 8 (PreOf R mc ms Pc) (PostOf Qc mc ms free) (vx_Post XC mc ms free) := vx_callBack cw.1 hM hp.1
  obtain ⟨⟨-, -, -, -, -, -, hcode, -, hy, hlen, hl⟩, hin, hse⟩ := cw
  obtain ⟨hx, hb, hml, ho, -⟩ := S
  obtain ⟨-, ⟨cellB, hcB, hoB, hclB⟩, hPc⟩ := hp
  intro T hT X
  rcases vx_callV X hx (C := C) (bytes := bytes) (maxL := maxL) (ret := ret) ho hl hin hse hcode hy hK (by rw [hT]; exact hcB) hoB hclB hg (hsize.trans hml.symm) (argsL := As) (rest := rest) (fun sig h => hn.trans (hlen sig h)) hstack hW (by rw [hb]; exact hdg)
    (fun vm₁ hW₁ => ⟨hf.1, hf.2, hPc (T.setVm vm₁) hT hW₁⟩) with ⟨v, vm₁, ⟨U', l2, c2, s2⟩, hW₁, X', ⟨g', mk, t, L, e1, e2, hq, h1, hL, h2, h3⟩, st⟩ | ⟨q, vm₁, ⟨U', l2, c2, s2⟩, hW₁, X', ⟨g', mk, t, L, E, ce, e1, e2, hq, hce, hcv, hcl, h1, hL, h2, h3⟩, st⟩
  · dsimp only [Pt.U, Pt.locs, Pt.cells, Pt.slots] at X' e1 e2 h1 h2 h3 st
    subst h1; subst h2; subst h3
    exact Or.inl ⟨v, (T.setVm vm₁).calling g' mk (Value.ref b :: As).toArray, t, U', L, hT, X', hL, e1, e2, hq, st⟩
  · dsimp only [Pt.U, Pt.locs, Pt.cells, Pt.slots] at X' e1 e2 h1 h2 h3 st hcl
    subst h1; subst h2; subst h3
    exact Or.inr ⟨q, (T.setVm vm₁).calling g' mk (Value.ref b :: As).toArray, t, U', L, E, ce, hT, X', hL, e1, e2, hq, hce, hcv, vx_cls hW₁ hcl, st⟩
theorem vx_runS (S : CallFix p m c cc nL s args Ts own) (hM : vx_Met l y ws rm Pc Qc XC mc ms free) (cw : CallB R s args own index y bytes maxL ret ws rm mc ms n ∧ (Cond.static y).before args s = true) (hp : PreS s H Pc As)
    (hg : g.method = m) (hn : As.length = n) (hsize : g.locals.size = nL) (hstack : g.stack = As.reverse ++ rest) (hW : 2 * g.monitorRoom + (rest.map fun v => v.category).sum ≤ 8) (hdg : decode cc g.pc = .ok (.invokestatic index, 3)) (hf : cells + mc ≤ R.cells ∧ slots + ms ≤ R.slots) :
    vx_Run p l e R s m args below meth c H locs cells slots mc ms g rest (Qc As.toArray) XC free := by
  have hK : vx_Back l R p e below s args y 3 8 (PreOf R mc ms Pc) (PostOf Qc mc ms free) (vx_Post XC mc ms free) := vx_callBack cw.1 hM hp.1
  obtain ⟨⟨-, -, -, -, -, -, hcode, hini, hy, hlen, hl⟩, hstt⟩ := cw
  obtain ⟨hx, hb, hml, ho, -⟩ := S
  intro T hT X
  rcases vx_callS X hx (bytes := bytes) (maxL := maxL) (ret := ret) ho hl hstt hini hcode hy hK hg (hsize.trans hml.symm) (argsL := As) (rest := rest) (fun sig h => hn.trans (hlen sig h)) hstack hW (by rw [hb]; exact hdg)
    (fun vm₁ hW₁ => ⟨hf.1, hf.2, hp.2 (T.setVm vm₁) hT hW₁⟩) with ⟨v, vm₁, ⟨U', l2, c2, s2⟩, hW₁, X', ⟨g', mk, t, L, e1, e2, hq, h1, hL, h2, h3⟩, st⟩ | ⟨q, vm₁, ⟨U', l2, c2, s2⟩, hW₁, X', ⟨g', mk, t, L, E, ce, e1, e2, hq, hce, hcv, hcl, h1, hL, h2, h3⟩, st⟩
  · dsimp only [Pt.U, Pt.locs, Pt.cells, Pt.slots] at X' e1 e2 h1 h2 h3 st
    subst h1; subst h2; subst h3
    exact Or.inl ⟨v, (T.setVm vm₁).calling g' mk As.toArray, t, U', L, hT, X', hL, e1, e2, hq, st⟩
  · dsimp only [Pt.U, Pt.locs, Pt.cells, Pt.slots] at X' e1 e2 h1 h2 h3 st hcl
    subst h1; subst h2; subst h3
    exact Or.inr ⟨q, (T.setVm vm₁).calling g' mk As.toArray, t, U', L, E, ce, hT, X', hL, e1, e2, hq, hce, hcv, vx_cls hW₁ hcl, st⟩
end Runs
section Rows
variable {p : Program} {l : Launch} {e : Env} {R : Room} {s : State} {m : MethodId} {args : Array Value} {below : List Frame} {meth : Method} {c : Code} {H : Heap} {locs : List Loc} {cells slots : Nat} {Q : State → Prop}
variable {mc ms : Nat} {free : Addr → Prop} {A0 A1 : Nat → Prop} {H0 : Heap} {a : Array Value} {pc : Nat} {ls : Array Slot} {st0 rest : List Value}
theorem vx_keep {st₀ t T' : State} {L : List Loc} (h0 : st₀.heap = H) (e1 : T'.heap = t.heap) (hS : va_S A0 H0 H locs) (hA : ∀ q, q < H.size → A1 q → A0 q) (hf : ∀ q, free q → A0 q) (hL : ∀ q ∈ L, free q.base) (hF : va_F A1 st₀ t) :
    H.size ≤ T'.heap.size ∧ (∀ q : Nat, q < H.size → ¬ A1 q → T'.heap[q]? = H[q]?) ∧ va_S A0 H0 T'.heap (locs ++ L) := by
  obtain ⟨hz, hk⟩ := hF
  rw [h0] at hz hk
  exact ⟨by rw [e1]; exact hz, fun q h1 h2 => by rw [e1]; exact hk q h1 h2,
    ⟨Nat.le_trans hS.1 (by rw [e1]; exact hz), fun q h1 h2 => by rw [e1, hk q (Nat.lt_of_lt_of_le h1 hS.1) (fun z => h2 (hA q (Nat.lt_of_lt_of_le h1 hS.1) z))]; exact hS.2.1 q h1 h2, fun q hq => by
      rcases List.mem_append.mp hq with h | h
      · exact hS.2.2 q h
      · exact hf _ (hL q h)⟩⟩
theorem vx_calli {S SX : Type} {post : Int32 → S → Prop} {px : SX → Prop} {B : S → State → Prop} {BX : String → SX → State → Prop} {AX : Nat → Prop} (hr : vx_Run p l e R s m args below meth c H locs cells slots mc ms (F0 m pc ls st0) rest (va_Qi post B A1 a) (vx_X px BX AX) free) (hS : va_S A0 H0 H locs) (hA : ∀ q, q < H.size → A1 q → A0 q) (hf : ∀ q, free q → A0 q) (hAX : ∀ q, q < H.size → AX q → A0 q)
    (kx : ∀ (E : String) (ce : Cell) (q9 : Addr) (u : SX) (t : State) (H1 : Heap) (locs1 : List Loc), t.heap = H1 → s.vm.Alike t.vm → px u → BX E u t → H.size ≤ H1.size → (∀ q : Nat, q < H.size → ¬ AX q → H1[q]? = H[q]?) → va_S A0 H0 H1 locs1 → H1[q9]? = some ce → ce.vm = .none → s.vm.findClass E = some ce.cls → vx_W p l e R s m args below meth c H1 locs1 (cells + mc) (slots + ms) Q (F0 m pc ls rest) q9)
    (kk : ∀ (r : Int32) (u : S) (t : State) (H1 : Heap) (locs1 : List Loc), t.heap = H1 → s.vm.Alike t.vm → post r u → B u t → H.size ≤ H1.size → (∀ q : Nat, q < H.size → ¬ A1 q → H1[q]? = H[q]?) → va_S A0 H0 H1 locs1 → W p l e R s m args below meth c H1 locs1 (cells + mc) (slots + ms) Q (F0 m (pc + 3) ls (.int r :: rest))) : W p l e R s m args below meth c H locs cells slots Q (F0 m pc ls st0) := by
  intro T hT X
  rcases hr T hT X with ⟨v, st₀, t, T', L, h0, X', hL, e1, e2, ⟨⟨r, u, hv, hp, hb⟩, hF⟩, st⟩ | ⟨q, st₀, t, T', L, E, ce, h0, X', hL, e1, e2, ⟨u, hp, hb, hF⟩, hce, hcv, hcl, st⟩
  · cases hv
    obtain ⟨k1, k2, k3⟩ := vx_keep h0 e1 hS hA hf hL hF
    obtain ⟨t2, a1, b1⟩ := kk r u t T'.heap (locs ++ L) e1.symm (by rw [← e2]; exact X'.warmed.alike) hp hb k1 k2 k3 T' rfl X'
    exact ⟨t2, st t2 a1, b1⟩
  · obtain ⟨k1, k2, k3⟩ := vx_keep h0 e1 hS hAX hf hL hF
    obtain ⟨t2, a1, b1⟩ := kx E ce q u t T'.heap (locs ++ L) e1.symm (by rw [← e2]; exact X'.warmed.alike) hp hb k1 k2 k3 (by rw [e1]; exact hce) hcv hcl T' rfl X'
    exact ⟨t2, st.trans a1, b1⟩
theorem vx_calll {S SX : Type} {post : Int64 → S → Prop} {px : SX → Prop} {B : S → State → Prop} {BX : String → SX → State → Prop} {AX : Nat → Prop} (hr : vx_Run p l e R s m args below meth c H locs cells slots mc ms (F0 m pc ls st0) rest (va_Ql post B A1 a) (vx_X px BX AX) free) (hS : va_S A0 H0 H locs) (hA : ∀ q, q < H.size → A1 q → A0 q) (hf : ∀ q, free q → A0 q) (hAX : ∀ q, q < H.size → AX q → A0 q)
    (kx : ∀ (E : String) (ce : Cell) (q9 : Addr) (u : SX) (t : State) (H1 : Heap) (locs1 : List Loc), t.heap = H1 → s.vm.Alike t.vm → px u → BX E u t → H.size ≤ H1.size → (∀ q : Nat, q < H.size → ¬ AX q → H1[q]? = H[q]?) → va_S A0 H0 H1 locs1 → H1[q9]? = some ce → ce.vm = .none → s.vm.findClass E = some ce.cls → vx_W p l e R s m args below meth c H1 locs1 (cells + mc) (slots + ms) Q (F0 m pc ls rest) q9)
    (kk : ∀ (r : Int64) (u : S) (t : State) (H1 : Heap) (locs1 : List Loc), t.heap = H1 → s.vm.Alike t.vm → post r u → B u t → H.size ≤ H1.size → (∀ q : Nat, q < H.size → ¬ A1 q → H1[q]? = H[q]?) → va_S A0 H0 H1 locs1 → W p l e R s m args below meth c H1 locs1 (cells + mc) (slots + ms) Q (F0 m (pc + 3) ls (.long r :: rest))) : W p l e R s m args below meth c H locs cells slots Q (F0 m pc ls st0) := by
  intro T hT X
  rcases hr T hT X with ⟨v, st₀, t, T', L, h0, X', hL, e1, e2, ⟨⟨r, u, hv, hp, hb⟩, hF⟩, st⟩ | ⟨q, st₀, t, T', L, E, ce, h0, X', hL, e1, e2, ⟨u, hp, hb, hF⟩, hce, hcv, hcl, st⟩
  · cases hv
    obtain ⟨k1, k2, k3⟩ := vx_keep h0 e1 hS hA hf hL hF
    obtain ⟨t2, a1, b1⟩ := kk r u t T'.heap (locs ++ L) e1.symm (by rw [← e2]; exact X'.warmed.alike) hp hb k1 k2 k3 T' rfl X'
    exact ⟨t2, st t2 a1, b1⟩
  · obtain ⟨k1, k2, k3⟩ := vx_keep h0 e1 hS hAX hf hL hF
    obtain ⟨t2, a1, b1⟩ := kx E ce q u t T'.heap (locs ++ L) e1.symm (by rw [← e2]; exact X'.warmed.alike) hp hb k1 k2 k3 (by rw [e1]; exact hce) hcv hcl T' rfl X'
    exact ⟨t2, st.trans a1, b1⟩
theorem vx_callf {S SX : Type} {post : UInt32 → S → Prop} {px : SX → Prop} {B : S → State → Prop} {BX : String → SX → State → Prop} {AX : Nat → Prop} (hr : vx_Run p l e R s m args below meth c H locs cells slots mc ms (F0 m pc ls st0) rest (va_Qf post B A1 a) (vx_X px BX AX) free) (hS : va_S A0 H0 H locs) (hA : ∀ q, q < H.size → A1 q → A0 q) (hf : ∀ q, free q → A0 q) (hAX : ∀ q, q < H.size → AX q → A0 q)
    (kx : ∀ (E : String) (ce : Cell) (q9 : Addr) (u : SX) (t : State) (H1 : Heap) (locs1 : List Loc), t.heap = H1 → s.vm.Alike t.vm → px u → BX E u t → H.size ≤ H1.size → (∀ q : Nat, q < H.size → ¬ AX q → H1[q]? = H[q]?) → va_S A0 H0 H1 locs1 → H1[q9]? = some ce → ce.vm = .none → s.vm.findClass E = some ce.cls → vx_W p l e R s m args below meth c H1 locs1 (cells + mc) (slots + ms) Q (F0 m pc ls rest) q9)
    (kk : ∀ (r : UInt32) (u : S) (t : State) (H1 : Heap) (locs1 : List Loc), t.heap = H1 → s.vm.Alike t.vm → post r u → B u t → H.size ≤ H1.size → (∀ q : Nat, q < H.size → ¬ A1 q → H1[q]? = H[q]?) → va_S A0 H0 H1 locs1 → W p l e R s m args below meth c H1 locs1 (cells + mc) (slots + ms) Q (F0 m (pc + 3) ls (.float r :: rest))) : W p l e R s m args below meth c H locs cells slots Q (F0 m pc ls st0) := by
  intro T hT X
  rcases hr T hT X with ⟨v, st₀, t, T', L, h0, X', hL, e1, e2, ⟨⟨r, u, hv, hp, hb⟩, hF⟩, st⟩ | ⟨q, st₀, t, T', L, E, ce, h0, X', hL, e1, e2, ⟨u, hp, hb, hF⟩, hce, hcv, hcl, st⟩
  · cases hv
    obtain ⟨k1, k2, k3⟩ := vx_keep h0 e1 hS hA hf hL hF
    obtain ⟨t2, a1, b1⟩ := kk r u t T'.heap (locs ++ L) e1.symm (by rw [← e2]; exact X'.warmed.alike) hp hb k1 k2 k3 T' rfl X'
    exact ⟨t2, st t2 a1, b1⟩
  · obtain ⟨k1, k2, k3⟩ := vx_keep h0 e1 hS hAX hf hL hF
    obtain ⟨t2, a1, b1⟩ := kx E ce q u t T'.heap (locs ++ L) e1.symm (by rw [← e2]; exact X'.warmed.alike) hp hb k1 k2 k3 (by rw [e1]; exact hce) hcv hcl T' rfl X'
    exact ⟨t2, st.trans a1, b1⟩
theorem vx_calld {S SX : Type} {post : UInt64 → S → Prop} {px : SX → Prop} {B : S → State → Prop} {BX : String → SX → State → Prop} {AX : Nat → Prop} (hr : vx_Run p l e R s m args below meth c H locs cells slots mc ms (F0 m pc ls st0) rest (va_Qd post B A1 a) (vx_X px BX AX) free) (hS : va_S A0 H0 H locs) (hA : ∀ q, q < H.size → A1 q → A0 q) (hf : ∀ q, free q → A0 q) (hAX : ∀ q, q < H.size → AX q → A0 q)
    (kx : ∀ (E : String) (ce : Cell) (q9 : Addr) (u : SX) (t : State) (H1 : Heap) (locs1 : List Loc), t.heap = H1 → s.vm.Alike t.vm → px u → BX E u t → H.size ≤ H1.size → (∀ q : Nat, q < H.size → ¬ AX q → H1[q]? = H[q]?) → va_S A0 H0 H1 locs1 → H1[q9]? = some ce → ce.vm = .none → s.vm.findClass E = some ce.cls → vx_W p l e R s m args below meth c H1 locs1 (cells + mc) (slots + ms) Q (F0 m pc ls rest) q9)
    (kk : ∀ (r : UInt64) (u : S) (t : State) (H1 : Heap) (locs1 : List Loc), t.heap = H1 → s.vm.Alike t.vm → post r u → B u t → H.size ≤ H1.size → (∀ q : Nat, q < H.size → ¬ A1 q → H1[q]? = H[q]?) → va_S A0 H0 H1 locs1 → W p l e R s m args below meth c H1 locs1 (cells + mc) (slots + ms) Q (F0 m (pc + 3) ls (.double r :: rest))) : W p l e R s m args below meth c H locs cells slots Q (F0 m pc ls st0) := by
  intro T hT X
  rcases hr T hT X with ⟨v, st₀, t, T', L, h0, X', hL, e1, e2, ⟨⟨r, u, hv, hp, hb⟩, hF⟩, st⟩ | ⟨q, st₀, t, T', L, E, ce, h0, X', hL, e1, e2, ⟨u, hp, hb, hF⟩, hce, hcv, hcl, st⟩
  · cases hv
    obtain ⟨k1, k2, k3⟩ := vx_keep h0 e1 hS hA hf hL hF
    obtain ⟨t2, a1, b1⟩ := kk r u t T'.heap (locs ++ L) e1.symm (by rw [← e2]; exact X'.warmed.alike) hp hb k1 k2 k3 T' rfl X'
    exact ⟨t2, st t2 a1, b1⟩
  · obtain ⟨k1, k2, k3⟩ := vx_keep h0 e1 hS hAX hf hL hF
    obtain ⟨t2, a1, b1⟩ := kx E ce q u t T'.heap (locs ++ L) e1.symm (by rw [← e2]; exact X'.warmed.alike) hp hb k1 k2 k3 (by rw [e1]; exact hce) hcv hcl T' rfl X'
    exact ⟨t2, st.trans a1, b1⟩
theorem vx_callv {S SX : Type} {post : S → Prop} {px : SX → Prop} {B : S → State → Prop} {BX : String → SX → State → Prop} {AX : Nat → Prop} (hr : vx_Run p l e R s m args below meth c H locs cells slots mc ms (F0 m pc ls st0) rest (va_Qv post B A1 a) (vx_X px BX AX) free) (hS : va_S A0 H0 H locs) (hA : ∀ q, q < H.size → A1 q → A0 q) (hf : ∀ q, free q → A0 q) (hAX : ∀ q, q < H.size → AX q → A0 q)
    (kx : ∀ (E : String) (ce : Cell) (q9 : Addr) (u : SX) (t : State) (H1 : Heap) (locs1 : List Loc), t.heap = H1 → s.vm.Alike t.vm → px u → BX E u t → H.size ≤ H1.size → (∀ q : Nat, q < H.size → ¬ AX q → H1[q]? = H[q]?) → va_S A0 H0 H1 locs1 → H1[q9]? = some ce → ce.vm = .none → s.vm.findClass E = some ce.cls → vx_W p l e R s m args below meth c H1 locs1 (cells + mc) (slots + ms) Q (F0 m pc ls rest) q9)
    (kk : ∀ (u : S) (t : State) (H1 : Heap) (locs1 : List Loc), t.heap = H1 → s.vm.Alike t.vm → post u → B u t → H.size ≤ H1.size → (∀ q : Nat, q < H.size → ¬ A1 q → H1[q]? = H[q]?) → va_S A0 H0 H1 locs1 → W p l e R s m args below meth c H1 locs1 (cells + mc) (slots + ms) Q (F0 m (pc + 3) ls (rest))) : W p l e R s m args below meth c H locs cells slots Q (F0 m pc ls st0) := by
  intro T hT X
  rcases hr T hT X with ⟨v, st₀, t, T', L, h0, X', hL, e1, e2, ⟨⟨u, hv, hp, hb⟩, hF⟩, st⟩ | ⟨q, st₀, t, T', L, E, ce, h0, X', hL, e1, e2, ⟨u, hp, hb, hF⟩, hce, hcv, hcl, st⟩
  · cases hv
    obtain ⟨k1, k2, k3⟩ := vx_keep h0 e1 hS hA hf hL hF
    obtain ⟨t2, a1, b1⟩ := kk u t T'.heap (locs ++ L) e1.symm (by rw [← e2]; exact X'.warmed.alike) hp hb k1 k2 k3 T' rfl X'
    exact ⟨t2, st t2 a1, b1⟩
  · obtain ⟨k1, k2, k3⟩ := vx_keep h0 e1 hS hAX hf hL hF
    obtain ⟨t2, a1, b1⟩ := kx E ce q u t T'.heap (locs ++ L) e1.symm (by rw [← e2]; exact X'.warmed.alike) hp hb k1 k2 k3 (by rw [e1]; exact hce) hcv hcl T' rfl X'
    exact ⟨t2, st.trans a1, b1⟩
/-- caught by the row x of this method's table; the rows ahead don't take it -/
theorem vx_catch {own name : String} {E : String} {ce : Cell} {q : Addr} (hown : s.vm.findClass own = some m.cls) (pre : List ExceptionTableEntry) (x : ExceptionTableEntry) (suf : List ExceptionTableEntry) (hsplit : c.exceptionTable.toList = pre ++ x :: suf)
    (hpass : ∀ z ∈ pre, covers z pc = false ∨ (z.catchType ≠ 0 ∧ ∃ nm : String, (Cond.classLink own z.catchType nm).before args s = true ∧ va_Nc E nm s)) (hx : covers x pc = true) (h0 : x.catchType ≠ 0)
    (hlink : (Cond.classLink own x.catchType name).before args s = true) (hcast : (Cond.castable E name).before args s = true) (hcell : H[q]? = some ce) (hv : ce.vm = .none) (hcl : s.vm.findClass E = some ce.cls)
    (kk : W p l e R s m args below meth c H locs cells slots Q (F0 m x.handlerPc ls [.ref q])) : vx_W p l e R s m args below meth c H locs cells slots Q (F0 m pc ls rest) q := by
  intro T hT X
  have hpl : e.platform.magicAccessors = ({} : Platform).magicAccessors := by rw [X.admits.platform]
  obtain ⟨c3, c4, hc3, hc4, hasg⟩ := Cond.castable_spec hcast
  cases Option.some.inj (hc3.symm.trans hcl)
  obtain ⟨c5, hc5, hcl5⟩ := Cond.classLink_spec hown hlink e.platform hpl
  cases Option.some.inj (hc4.symm.trans hc5)
  obtain ⟨vm', X', st⟩ := X.thenCaughtThrough q (g := F0 m pc ls rest) rfl (Steps.refl _) (by rw [hT]; exact hcell) (by rw [hv]; rfl) (by obtain ⟨k9, h9, -⟩ := Vm.findClass_spec hcl; exact ⟨k9, h9⟩) pre x suf hsplit
    (fun z hz => by
      rcases hpass z hz with h | ⟨hz0, nm, hl1, hn1⟩
      · exact Or.inl h
      · obtain ⟨c6, hc6, hcl6⟩ := Cond.classLink_spec hown hl1 e.platform hpl
        obtain ⟨a8, b8, h1, h2, h3⟩ := hn1
        cases Option.some.inj (h1.symm.trans hcl)
        cases Option.some.inj (h2.symm.trans hc6)
        exact Or.inr ⟨hz0, _, hcl6, h3⟩) hx (Or.inr ⟨h0, c4, hcl5, hasg⟩)
  obtain ⟨t, a1, b1⟩ := kk (T.setVm vm') hT X'
  exact ⟨t, st.trans a1, b1⟩
end Rows
section Ends
variable {p : Program} {l : Launch} {e : Env} {R : Room} {s : State} {m : MethodId} {args : Array Value} {below : List Frame} {meth : Method} {c : Code} {H : Heap} {locs : List Loc} {cells slots : Nat} {Q : State → Prop}
variable {mc ms : Nat} {free : Addr → Prop} {A0 A1 : Nat → Prop} {H0 : Heap} {a : Array Value} {ls : Array Slot} {st0 rest : List Value}
variable {Qc : Array Value → State → Outcome → State → Prop} {XC : String → State → State → Prop}
/-- what a body that may throw owes at its end -/
def vx_MQ (below : List Frame) (Qc : Array Value → State → Outcome → State → Prop) (XC : String → State → State → Prop) (a : Array Value) (s : State) (mc ms : Nat) (free : Addr → Prop) : State → Prop := fun t =>
  ∃ o, t.status = .running ∧ Ended t below o ∧ vx_Q Qc XC mc ms free a s o t
theorem vx_ret {g : JFrame} {mc ms : Nat} (k : W p l e R s m args below meth c H locs cells slots (MQ below Qc args s mc ms free) g) : W p l e R s m args below meth c H locs cells slots (vx_MQ below Qc XC args s mc ms free) g := by
  intro T hT X
  obtain ⟨t, a1, o, b1, b2, b3, b4⟩ := k T hT X
  exact ⟨t, a1, o, b1, b2, Or.inl ⟨b3, b4⟩⟩
/-- not caught here: it goes on to the caller -/
theorem vx_widen {g : JFrame} {q : Addr} {k n : Nat} (h1 : cells ≤ k) (h2 : slots ≤ n) (kk : vx_W p l e R s m args below meth c H locs k n Q g q) : vx_W p l e R s m args below meth c H locs cells slots Q g q := fun T hT X => kk T hT (stand_widen X h1 h2)
theorem vx_out {pc : Nat} {E : String} {ce : Cell} {q : Addr} {mc ms : Nat} (hout : ∀ x ∈ c.exceptionTable.toList, covers x pc = false) (hlocks : meth.locks = false) (hcell : H[q]? = some ce) (hv : ce.vm = .none) (hcl : s.vm.findClass E = some ce.cls)
    (hx : ∀ t : State, t.heap = H → s.vm.Alike t.vm → XC E s t) (hf : ∀ z ∈ locs, free z.base) (hc : cells ≤ mc) (hs : slots ≤ ms) :
    vx_W p l e R s m args below meth c H locs cells slots (vx_MQ below Qc XC args s mc ms free) (F0 m pc ls rest) q := by
  intro T hT X
  obtain ⟨st1, hrun, hend, hW, hsm⟩ := X.leaveThrown q (g := F0 m pc ls rest) rfl rfl rfl hout hlocks
  have hcell9 : (T.setFrames (.throwing q :: below)).heap[q]? = some ce := by
    show T.heap[q]? = some ce
    rw [hT]; exact hcell
  exact ⟨_, st1, .threw q, hrun, hend, Or.inr ⟨q, rfl, E, ce, locs, hx _ hT hW.alike, hcell9, hv, hcl, hW, hsm.mono hc hs, hf⟩⟩
theorem vx_frame {U : State} {k n : Nat} (h : s.sameButNew ({ U with vm := s.vm } : State) locs k n) : s.heap.size ≤ U.heap.size ∧ ∀ q : Nat, q < s.heap.size → (∀ z ∈ locs, z.base ≠ q) → U.heap[q]? = s.heap[q]? := by
  obtain ⟨-, h2, -, -, -, h6⟩ := h
  refine ⟨h2, fun q hq hz => ?_⟩
  obtain ⟨c9, e1, e2, e3, e4⟩ := h6 q _ (Array.getElem?_eq_getElem hq)
  have hs : c9.slots = (s.heap[q]).slots := Array.ext_getElem? fun i => e4 i fun hm => hz _ hm rfl
  have h9 : c9 = s.heap[q] := by
    rw [hs] at e2
    exact e2
  have e5 : U.heap[q]? = some c9 := e1
  rw [e5, h9, Array.getElem?_eq_getElem hq]
/-- the words of a throw but the four that speak of the heap -/
def vx_no (w : Cond) : Bool := decide (w ≠ .isRef (.static Bundle.tN "UNASSIGNED_STACK" Bundle.steD)) && decide (w ≠ .isRef (.static Bundle.tN "SUPPRESSED_SENTINEL" Bundle.listD)) && decide (w ≠ .laysStatic Bundle.tN "UNASSIGNED_STACK" Bundle.steD) && decide (w ≠ .laysStatic Bundle.tN "SUPPRESSED_SENTINEL" Bundle.listD)
def vx_at0 (own : String) (ic : Nat) (X : String) (names : List String) : List Cond := (Bundle.ownAtoms0 own ic X names).filter vx_no
def vx_atS (own : String) (ic : Nat) (X : String) (names : List String) : List Cond := (Bundle.ownAtoms own ic X names).filter vx_no
/-- a word that the tables alone decide, or a good one -/
def vx_ot (w : Cond) : Bool := w.onTables || goodWord w
theorem vx_ot_at {args a' : Array Value} {s U : State} {w : Cond} (hW : s.WarmedH U.vm) (hvm : s.vm = U.vm) (hg : vx_ot w = true) (h : w.before args s = true) : w.before a' U = true := by
  simp only [vx_ot, Bool.or_eq_true] at hg
  rcases hg with hg | hg
  · exact va_tabs hg hvm h
  · exact word_at hW (good_of_word hg) h
/-- a list's words: the good ones out of the method's own list, the others by premises of their own -/
theorem vx_hat {args : Array Value} {s : State} {L B : List Cond} (h1 : ∀ w ∈ L.filter goodWord, w.before args s = true) (h2 : ∀ w ∈ L.filter (fun w => !goodWord w), w ∈ B) (h3 : ∀ w ∈ B, w.before args s = true) : ∀ w ∈ L, w.before args s = true := by
  intro w hw
  by_cases g : goodWord w = true
  · exact h1 w (List.mem_filter.mpr ⟨hw, g⟩)
  · refine h3 w (h2 w (List.mem_filter.mpr ⟨hw, ?_⟩))
    show (!goodWord w) = true
    cases hgw : goodWord w
    · rfl
    · exact absurd hgw g
theorem vx_c {args : Array Value} {s : State} {w : Cond} {B : List Cond} (h : w.before args s = true) (t : ∀ w ∈ B, w.before args s = true) : ∀ w' ∈ w :: B, w'.before args s = true := fun w' h' => (List.mem_cons.mp h').elim (fun e => by rw [e]; exact h) (t w')
theorem vx_n {args : Array Value} {s : State} : ∀ w ∈ ([] : List Cond), w.before args s = true := fun _ h => nomatch h
theorem vx_own {args : Array Value} {s : State} {L : List Cond} (h1 : ∀ w ∈ L.filter vx_no, w.before args s = true)
    (hU : (Cond.isRef (.static Bundle.tN "UNASSIGNED_STACK" Bundle.steD)).before args s = true) (hN : (Cond.isRef (.static Bundle.tN "SUPPRESSED_SENTINEL" Bundle.listD)).before args s = true)
    (lU : (Cond.laysStatic Bundle.tN "UNASSIGNED_STACK" Bundle.steD).before args s = true) (lN : (Cond.laysStatic Bundle.tN "SUPPRESSED_SENTINEL" Bundle.listD).before args s = true) : ∀ w ∈ L, w.before args s = true := by
  intro w hw
  by_cases e1 : w = .isRef (.static Bundle.tN "UNASSIGNED_STACK" Bundle.steD)
  · rw [e1]; exact hU
  · by_cases e2 : w = .isRef (.static Bundle.tN "SUPPRESSED_SENTINEL" Bundle.listD)
    · rw [e2]; exact hN
    · by_cases e3 : w = .laysStatic Bundle.tN "UNASSIGNED_STACK" Bundle.steD
      · rw [e3]; exact lU
      · by_cases e4 : w = .laysStatic Bundle.tN "SUPPRESSED_SENTINEL" Bundle.listD
        · rw [e4]; exact lN
        · exact h1 w (List.mem_filter.mpr ⟨hw, by unfold vx_no; rw [decide_eq_true e1, decide_eq_true e2, decide_eq_true e3, decide_eq_true e4]; rfl⟩)
/-- where a static field lies, its class's statics cell in H -/
def vx_L (C n d : String) (A : Nat → Prop) (U : State) (H : Heap) : Prop := ∃ (c : ClassId) (k : Class) (i : Nat) (f : Field) (a : Nat) (cell : Cell), U.vm.findClass C = some c ∧ U.fieldFound? C n d = some (c, k, i, f) ∧ f.isStatic = true ∧ k.statics = some a ∧ H[a]? = some cell ∧ cell.vm.isStatics = true ∧ cell.cls = c ∧ f.slot < cell.slots.size ∧ k.staticTypes[f.slot]? = some f.type ∧ ¬ A a
theorem vx_L.moved {C n d : String} {A : Nat → Prop} {u U : State} {H : Heap} (hvm : u.vm.Alike U.vm) (h : vx_L C n d A u H) : vx_L C n d A U H := by
  obtain ⟨c, k, i, f, a, cell, h1, h2, h3, h4, h5, h6, h7, h8, h9, h10⟩ := h
  obtain ⟨k', hi', he⟩ := State.fieldFound?_setVm hvm h2
  exact ⟨c, k', i, f, a, cell, by rw [hvm.findClass]; exact h1, hi', h3, by rw [he]; exact h4, h5, h6, h7, h8, by rw [he]; exact h9, h10⟩
theorem vx_L.kept {C n d : String} {A : Nat → Prop} {U : State} {H H1 : Heap} (h : vx_L C n d A U H) (hq : ∀ a : Nat, a < H.size → ¬ A a → H1[a]? = H[a]?) : vx_L C n d A U H1 := by
  obtain ⟨c, k, i, f, a, cell, h1, h2, h3, h4, h5, h6, h7, h8, h9, h10⟩ := h
  exact ⟨c, k, i, f, a, cell, h1, h2, h3, h4, by rw [hq a (Array.getElem?_eq_some_iff.mp h5).1 h10]; exact h5, h6, h7, h8, h9, h10⟩
theorem vx_L.narrow {C n d : String} {A B : Nat → Prop} {U : State} {H : Heap} (h : vx_L C n d A U H) (hAB : ∀ q, B q → A q) : vx_L C n d B U H := by
  obtain ⟨c, k, i, f, a, cell, h1, h2, h3, h4, h5, h6, h7, h8, h9, h10⟩ := h
  exact ⟨c, k, i, f, a, cell, h1, h2, h3, h4, h5, h6, h7, h8, h9, fun z => h10 (hAB _ z)⟩
theorem vx_L.word {C n d : String} {A : Nat → Prop} {s : State} {args : Array Value} (h : vx_L C n d A s s.heap) : (Cond.laysStatic C n d).before args s = true := by
  obtain ⟨c, k, i, f, a, cell, h1, h2, h3, h4, h5, h6, h7, h8, h9, -⟩ := h
  show (Cond.laysStatic C n d).holds args s none s [] = true
  exact Cond.laysStatic_of h1 h2 h3 h4 h5 h6 h7 h8 h9
/-- .. and what it holds: null or some reference -/
def vx_Zq (C n d : String) (A : Nat → Prop) (U : State) (H : Heap) : Prop := va_Zq C n d A U H ∧ vx_L C n d A U H
theorem vx_Zq.moved {C n d : String} {A : Nat → Prop} {u U : State} {H : Heap} (hvm : u.vm.Alike U.vm) (h : vx_Zq C n d A u H) : vx_Zq C n d A U H := ⟨va_Zq.moved hvm h.1, vx_L.moved hvm h.2⟩
theorem vx_Zq.kept {C n d : String} {A : Nat → Prop} {U : State} {H H1 : Heap} (h : vx_Zq C n d A U H) (hq : ∀ a : Nat, a < H.size → ¬ A a → H1[a]? = H[a]?) : vx_Zq C n d A U H1 := ⟨va_Zq.kept h.1 hq, vx_L.kept h.2 hq⟩
theorem vx_Zq.narrow {C n d : String} {A B : Nat → Prop} {U : State} {H : Heap} (h : vx_Zq C n d A U H) (hAB : ∀ q, B q → A q) : vx_Zq C n d B U H := ⟨va_Zq.narrow h.1 hAB, vx_L.narrow h.2 hAB⟩
theorem vx_Zqof {args : Array Value} {s : State} {C n d : String} {A : Nat → Prop} (hl : (Cond.laysStatic C n d).before args s = true) (hini : (Cond.initialized C).before args s = true) (h : (Cond.isRef (.static C n d)).before args s = true) (hA : ∀ a : Nat, a < s.heap.size → ¬ A a) : vx_Zq C n d A s s.heap := by
  refine ⟨va_Zqof hl hini h hA, ?_⟩
  obtain ⟨c, k, i, f, a, cell, h1, h2, h3, h4, h5, h6, h7, h8, h9⟩ := Cond.laysStatic_spec hl
  exact ⟨c, k, i, f, a, cell, h1, h2, h3, h4, h5, h6, h7, h8, h9, hA a (Array.getElem?_eq_some_iff.mp h5).1⟩
theorem vx_isRef {C n d : String} {v : Value} {A : Nat → Prop} {s : State} {args : Array Value} (h : va_Z C n d v A s s.heap) (hv : v.isRef = true) : (Cond.isRef (.static C n d)).before args s = true := by
  obtain ⟨cf, kf, fi, f, a, cell, h1, h2, h3, h4, h5, h6, h7, -⟩ := h
  have he : (Term.static C n d).eval args s none [] s = some v := by
    simp [Term.eval, State.fieldNamed?, h1, h2, h4, h5, h6, h7]
  simp only [Cond.before, Cond.holds, Cond.value, he]
  cases v <;> simp_all [Value.isRef]
theorem vx_isRefq {C n d : String} {A : Nat → Prop} {s : State} {args : Array Value} (h : va_Zq C n d A s s.heap) : (Cond.isRef (.static C n d)).before args s = true := by
  rcases h with h | ⟨t, h⟩
  · exact vx_isRef h rfl
  · exact vx_isRef h rfl
/-- the same frame, seen from here: as if the method were called anew in this heap -/
theorem vx_rebase {T : State} (X : Stand p l e R s m args below meth c T locs cells slots) {R' : Room} (hf : R'.frames ≤ R.frames) (hl : R'.locals ≤ R.locals) (hc : cells + R'.cells ≤ R.cells) (hs : slots + R'.slots ≤ R.slots) :
    Stand p l e R' ((T.setVm s.vm).setFrames (.invoking m args :: below)) m args below meth c T [] 0 0 := by
  have htop : (T.setVm s.vm).topJava?.isSome := X.here.top
  have hF : ((T.setVm s.vm).setFrames (.invoking m args :: below)).frames = .invoking m args :: below := State.frames_setFrames _ (State.cur_lt_of_top htop)
  obtain ⟨g₀, hg0⟩ := Option.isSome_iff_exists.mp htop
  obtain ⟨r, hr⟩ := State.topJava?_eq_some.mp hg0
  have hl9 : e.platform.stackLimits (T.setVm s.vm).me = e.platform.stackLimits s.me := X.limits
  have hb9 : (T.setVm s.vm).me.stackBytes = s.me.stackBytes := X.bytes
  refine ⟨X.admits, X.cas, X.clock, hF, ?_, X.hears, X.method, X.code, X.here, X.tail, X.warmed, ?_, ?_, ?_⟩
  · have h := X.room
    have hU : ((T.setVm s.vm).setFrames (.invoking m args :: below)).localsInUse = s.localsInUse := by
      rw [State.localsInUse_invoking hF (meth := meth) (c := c) X.method X.code, State.localsInUse_invoking X.frames X.method X.code]
    simp only [State.hasRoom, Bool.and_eq_true, decide_eq_true_eq] at h ⊢
    obtain ⟨⟨⟨⟨h1, h2, h3, h4, h5, h6⟩, h7⟩, h8⟩, h9⟩ := h
    rw [X.frames, List.length_cons] at h2 h3
    have q1 := X.heapSize
    have q2 := X.used
    simp only [hF, hU, List.length_cons, State.stackLimits_setFrames, State.stackBytes_setFrames, hl9, hb9]
    refine ⟨⟨⟨⟨by omega, by omega, by omega, by omega, by omega, h6⟩, ?_⟩, ?_⟩, X.book⟩
    · show T.heap.size + R'.cells ≤ e.platform.maxCells
      omega
    · show T.slotsUsed + R'.slots ≤ e.platform.maxSlots
      omega
  · rw [State.stackLimits_setFrames]; rfl
  · rw [State.stackBytes_setFrames]; rfl
  · refine ⟨?_, Nat.le_refl _, Nat.le_refl _, ?_, ?_, fun a c9 h9 => ⟨c9, h9, rfl, rfl, fun _ _ => rfl⟩⟩
    · obtain ⟨t, ht, -⟩ := State.frames_cons hr
      show T.setVm s.vm = { ((T.setVm s.vm).setFrames (.invoking m args :: below)).setFrames (T.setVm s.vm).frames with heap := T.heap, slotsUsed := T.slotsUsed }
      rw [State.setFrames_setFrames, State.setFrames_self ht]
      rfl
    · show T.slotsUsed = T.slotsUsed + ((T.heap.toList.drop T.heap.size).map (·.slots.size)).sum
      rw [List.drop_eq_nil_of_le (Nat.le_of_eq Array.length_toList)]
      rfl
    · show ((T.heap.toList.drop T.heap.size).map (·.slots.size)).sum ≤ 0
      rw [List.drop_eq_nil_of_le (Nat.le_of_eq Array.length_toList)]
      exact Nat.le_refl _
/-- 'throw new E()': new; dup; invokespecial; athrow -/
theorem vx_throw0 {cc : ByteArray} {pc : Nat} (hexec : p.tables.exec = Jvm.exec) (hb : c.code = cc) (hl : l.stackTraces = false) {own cls : String} {names : List String} {ik ic mc ms : Nat} {A : Nat → Prop}
    (hown : s.vm.findClass own = some m.cls) (hcls : Bundle.fit cls = true) (hnames : ∀ n ∈ names, Bundle.fit n = true)
    (hk : (Cond.classLink own ik cls).before args s = true) (hini : (Cond.initialized cls).before args s = true) (hat : ∀ w ∈ vx_at0 own ic cls names, w.before args s = true)
    (hgood : ∀ w ∈ Cond.classLink own ik cls :: Cond.initialized cls :: vx_at0 own ic cls names, vx_ot w = true)
    (hU : vx_Zq Bundle.tN "UNASSIGNED_STACK" Bundle.steD A s s.heap) (hN : vx_Zq Bundle.tN "SUPPRESSED_SENTINEL" Bundle.listD A s s.heap) (hS : va_S A s.heap H locs) (hsize : ls.size = c.maxLocals)
    (d0 : decode cc pc = .ok (.new ik, 3)) (d3 : decode cc (pc + 3) = .ok (.dup, 1)) (d4 : decode cc (pc + 4) = .ok (.invokespecial ic, 3)) (d7 : decode cc (pc + 7) = .ok (.athrow, 1))
    (hout : ∀ x ∈ c.exceptionTable.toList, covers x (pc + 7) = false)
    (hRframes : names.length + 3 < R.frames) (hRlocals : (rest.map fun v => v.category).sum + (13 * (names.length + 1) + 42) ≤ R.locals) (hRcells : cells + 1 ≤ R.cells) (hRslots : slots + 6 ≤ R.slots) (hlocks : meth.locks = false)
    (hx : ∀ t : State, s.vm.Alike t.vm → H.size ≤ t.heap.size → (∀ q : Nat, q < H.size → t.heap[q]? = H[q]?) → XC cls s t)
    (hf : ∀ z ∈ locs, free z.base) (hc : cells + 1 ≤ mc) (hs : slots + 6 ≤ ms) :
    W p l e R s m args below meth c H locs cells slots (vx_MQ below Qc XC args s mc ms free) (F0 m pc ls rest) := by
  intro T hT X
  have htr : e.platform.stackTraces = false := (show e.platform.stackTraces = l.stackTraces by rw [X.admits.platform]).trans hl
  have Y := vx_rebase X (R' := { frames := R.frames, locals := R.locals, cells := 1, slots := 6 }) (Nat.le_refl _) (Nat.le_refl _) hRcells hRslots
  obtain ⟨s', hA⟩ : ∃ z, z = (T.setVm s.vm).setFrames (.invoking m args :: below) := ⟨_, rfl⟩
  rw [← hA] at Y
  have hvm : s'.vm = s.vm := by rw [hA]; rfl
  have hhp : s'.heap = H := by rw [hA]; exact hT
  have hW0 : s.WarmedH s'.vm := by rw [hvm]; exact State.WarmedH.refl s
  have hat' : ∀ w ∈ vx_at0 own ic cls names, w.before args s' = true := fun w hw => vx_ot_at hW0 hvm.symm (hgood w (List.mem_cons_of_mem _ (List.mem_cons_of_mem _ hw))) (hat w hw)
  have hk' : (Cond.classLink own ik cls).before args s' = true := vx_ot_at hW0 hvm.symm (hgood _ List.mem_cons_self) hk
  have hini' : (Cond.initialized cls).before args s' = true := vx_ot_at hW0 hvm.symm (hgood _ (List.mem_cons_of_mem _ List.mem_cons_self)) hini
  have hU' : vx_Zq Bundle.tN "UNASSIGNED_STACK" Bundle.steD A s' s'.heap := by rw [hhp]; exact vx_Zq.moved hW0.alike (hU.kept hS.2.1)
  have hN' : vx_Zq Bundle.tN "SUPPRESSED_SENTINEL" Bundle.listD A s' s'.heap := by rw [hhp]; exact vx_Zq.moved hW0.alike (hN.kept hS.2.1)
  have h : ∀ w ∈ Bundle.ownAtoms0 own ic cls names, w.before args s' = true := vx_own hat' (vx_isRefq hU'.1) (vx_isRefq hN'.1) hU'.2.word hN'.2.word
  have hown' : s'.vm.findClass own = some m.cls := by rw [hvm]; exact hown
  have hins : (Cond.instantiable cls 6).before args s' = true := h _ (by simp [Bundle.ownAtoms0])
  obtain ⟨vm₁, cX, kX, hfX, hkX, -, -, X₁, st1⟩ := Y.newCold hexec (own := own) (C := cls) (index := ik) (n := 6) hown' hk' hins hini'
    (g := F0 m pc ls rest) rfl (by rw [hb]; exact d0) (Nat.le_refl _) (Nat.le_refl _)
  generalize hT1 : (T.setVm vm₁).pushCell { cls := cX, slots := kX.instanceTypes.map defaultValue, vm := .none } = T1 at X₁ st1
  have hcat : (Value.ref T.heap.size).category = 1 := rfl
  have hcellA : T1.heap[T.heap.size]? = some (freshCell cX kX) := by rw [← hT1]; exact State.heap_pushCell_size _ _
  have d3' : decode c.code (pc + 3) = .ok (.dup, 1) := by rw [hb]; exact d3
  obtain ⟨U, hsteps, hrun, hend, hW, hsame, ce, hce, hO⟩ := X₁.ctorThrow0 hexec htr (own := own) (cls := cls) (names := names) (ic := ic) hown' hcls hnames h (fun x hx => nomatch hx) hfX hkX hcellA (by rw [hhp, hT]; exact Nat.le_refl _)
    (g := { method := m, pc := pc + 4, locals := ls, stack := .ref T.heap.size :: .ref T.heap.size :: rest, locked := none }) rfl hsize rfl rfl (rest := rest) rfl
    (by rw [hb]; exact d4) (by rw [hb]; exact d7) hout hRframes (by simp only [List.map_cons, List.sum_cons, hcat]; omega) hlocks
  obtain ⟨f1, f2⟩ := vx_frame hsame
  rw [hhp] at f1 f2
  have hWs : s.WarmedH U.vm := State.WarmedH.trans hW0 hW
  have hcl : s.vm.findClass cls = some ce.cls := by
    have h9 := hO.cls
    rw [hvm] at h9
    exact h9
  have hall : s.sameButNew ({ U with vm := s.vm } : State) locs mc ms := by
    subst hA
    obtain ⟨e1, e2⟩ := hsame
    rw [State.setFrames_setFrames] at e1
    have h2 : (T.setVm s.vm).sameButNew ({ U with vm := s.vm } : State) [] (0 + 1) (0 + 6) := ⟨e1, e2⟩
    have h3 := X.same.trans h2
    rw [List.append_nil] at h3
    exact h3.mono hc hs
  refine ⟨U, ?_, .threw T.heap.size, hrun, hend, Or.inr ⟨T.heap.size, rfl, cls, ce, locs, hx U hWs.alike f1 (fun q hq => f2 q hq (fun z hz => nomatch hz)), hce, hO.vm, hcl, hWs, hall, hf⟩⟩
  refine st1 _ ?_
  show Steps p.tables e below (T1.setTop { method := m, pc := pc + 3, locals := ls, stack := .ref T.heap.size :: rest, locked := none }) _
  jvm_step X₁.here [X₁.here.top, hexec, d3', Value.category]
  exact hsteps
/-- 'throw new E("text")': new; dup; ldc; invokespecial; athrow -/
theorem vx_throwS {cc : ByteArray} {pc : Nat} (hexec : p.tables.exec = Jvm.exec) (hb : c.code = cc) (hl : l.stackTraces = false) {own cls text : String} {names : List String} {ik is ic mc ms sa : Nat} {A : Nat → Prop}
    (hown : s.vm.findClass own = some m.cls) (hcls : Bundle.fit cls = true) (hnames : ∀ n ∈ names, Bundle.fit n = true)
    (hk : (Cond.classLink own ik cls).before args s = true) (hini : (Cond.initialized cls).before args s = true) (hstr : vk_R own is text sa s) (hat : ∀ w ∈ vx_atS own ic cls names, w.before args s = true)
    (hgood : ∀ w ∈ Cond.classLink own ik cls :: Cond.initialized cls :: vx_atS own ic cls names, vx_ot w = true)
    (hU : vx_Zq Bundle.tN "UNASSIGNED_STACK" Bundle.steD A s s.heap) (hN : vx_Zq Bundle.tN "SUPPRESSED_SENTINEL" Bundle.listD A s s.heap) (hS : va_S A s.heap H locs) (hsize : ls.size = c.maxLocals)
    (d0 : decode cc pc = .ok (.new ik, 3)) (d3 : decode cc (pc + 3) = .ok (.dup, 1)) (d4 : decode cc (pc + 4) = .ok (.ldc is, 2)) (d6 : decode cc (pc + 6) = .ok (.invokespecial ic, 3)) (d9 : decode cc (pc + 9) = .ok (.athrow, 1))
    (hout : ∀ x ∈ c.exceptionTable.toList, covers x (pc + 9) = false)
    (hRframes : names.length + 3 < R.frames) (hRlocals : (rest.map fun v => v.category).sum + (13 * (names.length + 1) + 43) ≤ R.locals) (hRcells : cells + 1 ≤ R.cells) (hRslots : slots + 6 ≤ R.slots) (hlocks : meth.locks = false)
    (hx : ∀ t : State, s.vm.Alike t.vm → H.size ≤ t.heap.size → (∀ q : Nat, q < H.size → t.heap[q]? = H[q]?) → XC cls s t)
    (hf : ∀ z ∈ locs, free z.base) (hc : cells + 1 ≤ mc) (hs : slots + 6 ≤ ms) :
    W p l e R s m args below meth c H locs cells slots (vx_MQ below Qc XC args s mc ms free) (F0 m pc ls rest) := by
  intro T hT X
  have htr : e.platform.stackTraces = false := (show e.platform.stackTraces = l.stackTraces by rw [X.admits.platform]).trans hl
  have Y := vx_rebase X (R' := { frames := R.frames, locals := R.locals, cells := 1, slots := 6 }) (Nat.le_refl _) (Nat.le_refl _) hRcells hRslots
  obtain ⟨s', hA⟩ : ∃ z, z = (T.setVm s.vm).setFrames (.invoking m args :: below) := ⟨_, rfl⟩
  rw [← hA] at Y
  have hvm : s'.vm = s.vm := by rw [hA]; rfl
  have hhp : s'.heap = H := by rw [hA]; exact hT
  have hW0 : s.WarmedH s'.vm := by rw [hvm]; exact State.WarmedH.refl s
  have hat' : ∀ w ∈ vx_atS own ic cls names, w.before args s' = true := fun w hw => vx_ot_at hW0 hvm.symm (hgood w (List.mem_cons_of_mem _ (List.mem_cons_of_mem _ hw))) (hat w hw)
  have hk' : (Cond.classLink own ik cls).before args s' = true := vx_ot_at hW0 hvm.symm (hgood _ List.mem_cons_self) hk
  have hini' : (Cond.initialized cls).before args s' = true := vx_ot_at hW0 hvm.symm (hgood _ (List.mem_cons_of_mem _ List.mem_cons_self)) hini
  have hU' : vx_Zq Bundle.tN "UNASSIGNED_STACK" Bundle.steD A s' s'.heap := by rw [hhp]; exact vx_Zq.moved hW0.alike (hU.kept hS.2.1)
  have hN' : vx_Zq Bundle.tN "SUPPRESSED_SENTINEL" Bundle.listD A s' s'.heap := by rw [hhp]; exact vx_Zq.moved hW0.alike (hN.kept hS.2.1)
  have h : ∀ w ∈ Bundle.ownAtoms own ic cls names, w.before args s' = true := vx_own hat' (vx_isRefq hU'.1) (vx_isRefq hN'.1) hU'.2.word hN'.2.word
  have hown' : s'.vm.findClass own = some m.cls := by rw [hvm]; exact hown
  have hins : (Cond.instantiable cls 6).before args s' = true := h _ (by simp [Bundle.ownAtoms])
  obtain ⟨vm₁, cX, kX, hfX, hkX, -, -, X₁, st1⟩ := Y.newCold hexec (own := own) (C := cls) (index := ik) (n := 6) hown' hk' hins hini'
    (g := F0 m pc ls rest) rfl (by rw [hb]; exact d0) (Nat.le_refl _) (Nat.le_refl _)
  generalize hT1 : (T.setVm vm₁).pushCell { cls := cX, slots := kX.instanceTypes.map defaultValue, vm := .none } = T1 at X₁ st1
  have hcat : (Value.ref T.heap.size).category = 1 := rfl
  have hcellA : T1.heap[T.heap.size]? = some (freshCell cX kX) := by rw [← hT1]; exact State.heap_pushCell_size _ _
  have d3' : decode c.code (pc + 3) = .ok (.dup, 1) := by rw [hb]; exact d3
  have d4' : decode c.code (pc + 4) = .ok (.ldc is, 2) := by rw [hb]; exact d4
  have hstr' : vk_R own is text sa s' := vk_R.warm hW0 hstr
  obtain ⟨U, hsteps, hrun, hend, hW, hsame, ce, hce, hO⟩ := X₁.ctorThrowS hexec htr (own := own) (cls := cls) (names := names) (ic := ic) hown' hcls hnames h (fun x hx => nomatch hx) hfX hkX hcellA (by rw [hhp, hT]; exact Nat.le_refl _) (msg := .ref sa) rfl
    (g := { method := m, pc := pc + 6, locals := ls, stack := .ref sa :: .ref T.heap.size :: .ref T.heap.size :: rest, locked := none }) rfl hsize rfl rfl (rest := rest) rfl
    (by rw [hb]; exact d6) (by rw [hb]; exact d9) hout hRframes (by simp only [List.map_cons, List.sum_cons, hcat]; omega) hlocks
  obtain ⟨f1, f2⟩ := vx_frame hsame
  rw [hhp] at f1 f2
  have hWs : s.WarmedH U.vm := State.WarmedH.trans hW0 hW
  have hcl : s.vm.findClass cls = some ce.cls := by
    have h9 := hO.cls
    rw [hvm] at h9
    exact h9
  have hall : s.sameButNew ({ U with vm := s.vm } : State) locs mc ms := by
    subst hA
    obtain ⟨e1, e2⟩ := hsame
    rw [State.setFrames_setFrames] at e1
    have h2 : (T.setVm s.vm).sameButNew ({ U with vm := s.vm } : State) [] (0 + 1) (0 + 6) := ⟨e1, e2⟩
    have h3 := X.same.trans h2
    rw [List.append_nil] at h3
    exact h3.mono hc hs
  refine ⟨U, ?_, .threw T.heap.size, hrun, hend, Or.inr ⟨T.heap.size, rfl, cls, ce, locs, hx U hWs.alike f1 (fun q hq => f2 q hq (fun z hz => nomatch hz)), hce, hO.vm, hcl, hWs, hall, hf⟩⟩
  refine st1 _ ?_
  show Steps p.tables e below (T1.setTop { method := m, pc := pc + 3, locals := ls, stack := .ref T.heap.size :: rest, locked := none }) _
  jvm_step X₁.here [X₁.here.top, hexec, d3', Value.category]
  exact X₁.ldcString hexec (own := own) (text := text) (index := is) (a := sa) hown' hstr'.1 hstr'.2
    (g := { method := m, pc := pc + 4, locals := ls, stack := .ref T.heap.size :: .ref T.heap.size :: rest, locked := none }) rfl d4' _ hsteps
/-- 'throw new E("text")', the text by a wide index -/
theorem vx_throwSW {cc : ByteArray} {pc : Nat} (hexec : p.tables.exec = Jvm.exec) (hb : c.code = cc) (hl : l.stackTraces = false) {own cls text : String} {names : List String} {ik is ic mc ms sa : Nat} {A : Nat → Prop}
    (hown : s.vm.findClass own = some m.cls) (hcls : Bundle.fit cls = true) (hnames : ∀ n ∈ names, Bundle.fit n = true)
    (hk : (Cond.classLink own ik cls).before args s = true) (hini : (Cond.initialized cls).before args s = true) (hstr : vk_R own is text sa s) (hat : ∀ w ∈ vx_atS own ic cls names, w.before args s = true)
    (hgood : ∀ w ∈ Cond.classLink own ik cls :: Cond.initialized cls :: vx_atS own ic cls names, vx_ot w = true)
    (hU : vx_Zq Bundle.tN "UNASSIGNED_STACK" Bundle.steD A s s.heap) (hN : vx_Zq Bundle.tN "SUPPRESSED_SENTINEL" Bundle.listD A s s.heap) (hS : va_S A s.heap H locs) (hsize : ls.size = c.maxLocals)
    (d0 : decode cc pc = .ok (.new ik, 3)) (d3 : decode cc (pc + 3) = .ok (.dup, 1)) (d4 : decode cc (pc + 4) = .ok (.ldc_w is, 3)) (d7 : decode cc (pc + 7) = .ok (.invokespecial ic, 3)) (d10 : decode cc (pc + 10) = .ok (.athrow, 1))
    (hout : ∀ x ∈ c.exceptionTable.toList, covers x (pc + 10) = false)
    (hRframes : names.length + 3 < R.frames) (hRlocals : (rest.map fun v => v.category).sum + (13 * (names.length + 1) + 43) ≤ R.locals) (hRcells : cells + 1 ≤ R.cells) (hRslots : slots + 6 ≤ R.slots) (hlocks : meth.locks = false)
    (hx : ∀ t : State, s.vm.Alike t.vm → H.size ≤ t.heap.size → (∀ q : Nat, q < H.size → t.heap[q]? = H[q]?) → XC cls s t)
    (hf : ∀ z ∈ locs, free z.base) (hc : cells + 1 ≤ mc) (hs : slots + 6 ≤ ms) :
    W p l e R s m args below meth c H locs cells slots (vx_MQ below Qc XC args s mc ms free) (F0 m pc ls rest) := by
  intro T hT X
  have htr : e.platform.stackTraces = false := (show e.platform.stackTraces = l.stackTraces by rw [X.admits.platform]).trans hl
  have Y := vx_rebase X (R' := { frames := R.frames, locals := R.locals, cells := 1, slots := 6 }) (Nat.le_refl _) (Nat.le_refl _) hRcells hRslots
  obtain ⟨s', hA⟩ : ∃ z, z = (T.setVm s.vm).setFrames (.invoking m args :: below) := ⟨_, rfl⟩
  rw [← hA] at Y
  have hvm : s'.vm = s.vm := by rw [hA]; rfl
  have hhp : s'.heap = H := by rw [hA]; exact hT
  have hW0 : s.WarmedH s'.vm := by rw [hvm]; exact State.WarmedH.refl s
  have hat' : ∀ w ∈ vx_atS own ic cls names, w.before args s' = true := fun w hw => vx_ot_at hW0 hvm.symm (hgood w (List.mem_cons_of_mem _ (List.mem_cons_of_mem _ hw))) (hat w hw)
  have hk' : (Cond.classLink own ik cls).before args s' = true := vx_ot_at hW0 hvm.symm (hgood _ List.mem_cons_self) hk
  have hini' : (Cond.initialized cls).before args s' = true := vx_ot_at hW0 hvm.symm (hgood _ (List.mem_cons_of_mem _ List.mem_cons_self)) hini
  have hU' : vx_Zq Bundle.tN "UNASSIGNED_STACK" Bundle.steD A s' s'.heap := by rw [hhp]; exact vx_Zq.moved hW0.alike (hU.kept hS.2.1)
  have hN' : vx_Zq Bundle.tN "SUPPRESSED_SENTINEL" Bundle.listD A s' s'.heap := by rw [hhp]; exact vx_Zq.moved hW0.alike (hN.kept hS.2.1)
  have h : ∀ w ∈ Bundle.ownAtoms own ic cls names, w.before args s' = true := vx_own hat' (vx_isRefq hU'.1) (vx_isRefq hN'.1) hU'.2.word hN'.2.word
  have hown' : s'.vm.findClass own = some m.cls := by rw [hvm]; exact hown
  have hins : (Cond.instantiable cls 6).before args s' = true := h _ (by simp [Bundle.ownAtoms])
  obtain ⟨vm₁, cX, kX, hfX, hkX, -, -, X₁, st1⟩ := Y.newCold hexec (own := own) (C := cls) (index := ik) (n := 6) hown' hk' hins hini'
    (g := F0 m pc ls rest) rfl (by rw [hb]; exact d0) (Nat.le_refl _) (Nat.le_refl _)
  generalize hT1 : (T.setVm vm₁).pushCell { cls := cX, slots := kX.instanceTypes.map defaultValue, vm := .none } = T1 at X₁ st1
  have hcat : (Value.ref T.heap.size).category = 1 := rfl
  have hcellA : T1.heap[T.heap.size]? = some (freshCell cX kX) := by rw [← hT1]; exact State.heap_pushCell_size _ _
  have d3' : decode c.code (pc + 3) = .ok (.dup, 1) := by rw [hb]; exact d3
  have d4' : decode c.code (pc + 4) = .ok (.ldc_w is, 3) := by rw [hb]; exact d4
  have hstr' : vk_R own is text sa s' := vk_R.warm hW0 hstr
  obtain ⟨U, hsteps, hrun, hend, hW, hsame, ce, hce, hO⟩ := X₁.ctorThrowS hexec htr (own := own) (cls := cls) (names := names) (ic := ic) hown' hcls hnames h (fun x hx => nomatch hx) hfX hkX hcellA (by rw [hhp, hT]; exact Nat.le_refl _) (msg := .ref sa) rfl
    (g := { method := m, pc := pc + 7, locals := ls, stack := .ref sa :: .ref T.heap.size :: .ref T.heap.size :: rest, locked := none }) rfl hsize rfl rfl (rest := rest) rfl
    (by rw [hb]; exact d7) (by rw [hb]; exact d10) hout hRframes (by simp only [List.map_cons, List.sum_cons, hcat]; omega) hlocks
  obtain ⟨f1, f2⟩ := vx_frame hsame
  rw [hhp] at f1 f2
  have hWs : s.WarmedH U.vm := State.WarmedH.trans hW0 hW
  have hcl : s.vm.findClass cls = some ce.cls := by
    have h9 := hO.cls
    rw [hvm] at h9
    exact h9
  have hall : s.sameButNew ({ U with vm := s.vm } : State) locs mc ms := by
    subst hA
    obtain ⟨e1, e2⟩ := hsame
    rw [State.setFrames_setFrames] at e1
    have h2 : (T.setVm s.vm).sameButNew ({ U with vm := s.vm } : State) [] (0 + 1) (0 + 6) := ⟨e1, e2⟩
    have h3 := X.same.trans h2
    rw [List.append_nil] at h3
    exact h3.mono hc hs
  refine ⟨U, ?_, .threw T.heap.size, hrun, hend, Or.inr ⟨T.heap.size, rfl, cls, ce, locs, hx U hWs.alike f1 (fun q hq => f2 q hq (fun z hz => nomatch hz)), hce, hO.vm, hcl, hWs, hall, hf⟩⟩
  refine st1 _ ?_
  show Steps p.tables e below (T1.setTop { method := m, pc := pc + 3, locals := ls, stack := .ref T.heap.size :: rest, locked := none }) _
  jvm_step X₁.here [X₁.here.top, hexec, d3', Value.category]
  exact X₁.ldcStringW hexec (own := own) (text := text) (index := is) (a := sa) hown' hstr'.1 hstr'.2
    (g := { method := m, pc := pc + 4, locals := ls, stack := .ref T.heap.size :: .ref T.heap.size :: rest, locked := none }) rfl d4' _ hsteps
end Ends
section Bodies
variable {l : Launch}
theorem vx_ofW {y : MethodName} {ws ws' : List Cond} {rm : Room} {Pc : Array Value → State → Prop} {Qc : Array Value → State → Outcome → State → Prop} {XC : String → State → State → Prop} {mc ms : Nat} {free : Addr → Prop} {cc : ByteArray} {maxL : Nat} {ret : Option FieldType}
    (hy : plainName y.cls = true) (hw : ws = Cond.code y cc maxL ret :: ws')
    (body : ∀ p e s m args below meth c s₁, BodyLoose p l y (headSpec ws rm) cc maxL ret e s m args below meth c s₁ → c.maxLocals = maxL → (∀ x ∈ c.exceptionTable.toList, False) → Pc args s →
      W p l e (headSpec ws rm).room s m args below meth c s.heap [] 0 0 (vx_MQ below Qc XC args s mc ms free) (entryFrame m args maxL)) : vx_Met l y ws rm Pc Qc XC mc ms free := by
  refine MetFree.of_bodyS (code := cc) (maxLocals := maxL) (ret := ret) hy ?_ ?_
  · intro args s m h hn
    obtain ⟨meth, c, h1, h2, h3, h4, h5, h6, -, -⟩ := Cond.code_spec hn (atoms_spec (ws := ws) h _ (by rw [hw]; exact List.mem_cons_self))
    exact ⟨meth, c, h1, h2, h3, h4, h5, h6⟩
  · intro p e s m args below meth c s₁ B hml hP _
    have hh0 : s₁.heap = s.heap := by rw [B.state]; rfl
    have ht : ∀ x ∈ c.exceptionTable.toList, False := by
      obtain ⟨meth9, c9, h1, h2, -, -, -, -, h7, -⟩ := Cond.code_spec B.named (atoms_spec (ws := ws) B.pre _ (by rw [hw]; exact List.mem_cons_self))
      cases Option.some.inj (h1.symm.trans B.method)
      cases Option.some.inj (h2.symm.trans (Stand.of_body B).code)
      intro x hx
      rw [Array.isEmpty_iff.mp h7] at hx
      cases hx
    obtain ⟨t, a1, o, b1, b2, b3⟩ := body p e s m args below meth c s₁ B hml ht hP s₁ hh0 (Stand.of_body B)
    exact ⟨t, o, a1, b1, b2, b3⟩
/-- the table of a body with handlers -/
theorem vx_table {p : Program} {x y : MethodName} {S : Spec} {cc bytes : ByteArray} {maxL maxL' : Nat} {ret ret' : Option FieldType} {e : Env} {s s₁ : State} {m : MethodId} {args : Array Value} {below : List Frame} {meth : Method} {c : Code} {hh : List (Nat × Nat × Nat × Nat)}
    (B : BodyLoose p l y S cc maxL ret e s m args below meth c s₁) (h : (Cond.codeWith y bytes maxL' ret' hh).before args s = true) : c.exceptionTable.toList = tableOf hh := by
  obtain ⟨m9, meth9, c9, hn9, h1, h2, -, -, h6, -⟩ := Cond.codeWith_spec h
  cases Option.some.inj (hn9.symm.trans B.named)
  cases Option.some.inj (h1.symm.trans B.method)
  cases Option.some.inj (h2.symm.trans (Stand.of_body B).code)
  rw [← h6, table_eq]
end Bodies
end VXA
/-! ===== END ===== -/
/-! ===== BEGIN a static call of a method with an exception table ===== -/
section VXS
variable {p : Program} {l : Launch} {e : Env} {R : Room} {s : State} {m : MethodId} {args : Array Value} {below : List Frame} {meth : Method} {c : Code} {T : State} {H : Heap} {locs : List Loc} {cells slots : Nat}
abbrev vx_CSW (R : Room) (s : State) (args : Array Value) (own : String) (index : Nat) (y : MethodName) (bytes : ByteArray) (maxL : Nat) (ret : Option FieldType) (hh : List (Nat × Nat × Nat × Nat)) (ws : List Cond) (rm : Room) (mc ms n : Nat) : Prop :=
  (rm.cells = mc ∧ rm.slots = ms ∧ rm.frames + 1 ≤ R.frames ∧ 8 + (maxL + 11) + rm.locals ≤ R.locals ∧ (∀ w ∈ ws, ∀ (a' : Array Value) (U : State), s.WarmedH U.vm → w.before a' U = true) ∧ Cond.codeWith y bytes maxL ret hh ∈ ws) ∧
  (Cond.codeWith y bytes maxL ret hh).before args s = true ∧ (Cond.initialized y.cls).before args s = true ∧ (y.cls ≠ "java/lang/invoke/MethodHandle" ∧ y.cls ≠ "java/lang/invoke/VarHandle") ∧
  (∀ sig, parseMethodDescriptor y.desc = some sig → n = sig.parameters.length) ∧ (Cond.methodLink own index y).before args s = true ∧ (Cond.static y).before args s = true
theorem vx_cwSW {own : String} {index maxL mc ms : Nat} {y : MethodName} {bytes : ByteArray} {ret : Option FieldType} {hh : List (Nat × Nat × Nat × Nat)} {Ts ws ws' : List Cond} {rm : Room} (n : Nat) (ht : ∀ w ∈ Ts, w.before args s = true) (hT : GoodIn Ts (va_wsS own index y ws)) (hw : ws = Cond.codeWith y bytes maxL ret hh :: ws') (hrc : rm.cells = mc) (hrs : rm.slots = ms)
    (hd : y.cls ≠ "java/lang/invoke/MethodHandle" ∧ y.cls ≠ "java/lang/invoke/VarHandle" ∧ (parseMethodDescriptor y.desc).map (fun d => d.parameters.length) = some n) (hR : rm.frames + 1 ≤ R.frames ∧ 8 + (maxL + 11) + rm.locals ≤ R.locals) :
    vx_CSW R s args own index y bytes maxL ret hh ws rm mc ms n := by
  have ok : ∀ w ∈ va_wsS own index y ws, w.before args s = true := fun w h => ht w (hT w h).1
  have hG : GoodIn Ts ws := fun w h => hT w (by unfold va_wsS; exact List.mem_append_right _ h)
  have hc : Cond.codeWith y bytes maxL ret hh ∈ ws := by rw [hw]; exact List.mem_cons_self
  refine ⟨⟨hrc, hrs, hR.1, hR.2, pay_in ht hG, hc⟩, ht _ (hG _ hc).1, ok _ (by simp [va_wsS]), ⟨hd.1, hd.2.1⟩, fun sig h => ?_, ok _ (by simp [va_wsS]), ok _ (by simp [va_wsS])⟩
  have h2 := hd.2.2
  rw [h] at h2
  exact (Option.some.inj h2).symm
theorem vx_callSW (X : Stand p l e R s m args below meth c T locs cells slots) (hexec : p.tables.exec = Jvm.exec) {own : String} {index : Nat} {y : MethodName} {bytes : ByteArray} {maxL : Nat} {ret : Option FieldType} {hh : List (Nat × Nat × Nat × Nat)}
    (hown : s.vm.findClass own = some m.cls) (hlink : (Cond.methodLink own index y).before args s = true) (hstat : (Cond.static y).before args s = true) (hinit : (Cond.initialized y.cls).before args s = true)
    (hcode : (Cond.codeWith y bytes maxL ret hh).before args s = true) (hy : y.cls ≠ "java/lang/invoke/MethodHandle" ∧ y.cls ≠ "java/lang/invoke/VarHandle")
    {W9 : Nat} {Pre : Pt → Array Value → Prop} {Post : Pt → Array Value → Option Value → Pt → Prop} (hK : Back l R p e below s args y 3 W9 Pre Post)
    {g : JFrame} (hg : g.method = m) (hsize : g.locals.size = c.maxLocals) {argsL rest : List Value} (hlen : ∀ sig, parseMethodDescriptor y.desc = some sig → argsL.length = sig.parameters.length)
    (hstack : g.stack = argsL.reverse ++ rest) (hW : 2 * g.monitorRoom + (rest.map fun v => v.category).sum ≤ W9) (hdg : decode c.code g.pc = .ok (.invokestatic index, 3))
    (hpre : ∀ vm₁, s.WarmedH vm₁ → Pre ⟨T.setVm vm₁, locs, cells, slots⟩ argsL.toArray) :
    ∃ (v : Option Value) (vm₁ : Vm) (B : Pt), s.WarmedH vm₁ ∧ Stand p l e R s m args below meth c B.U B.locs B.cells B.slots ∧ Post ⟨T.setVm vm₁, locs, cells, slots⟩ argsL.toArray v B ∧
      ∀ target, Steps p.tables e below (B.U.setTop { g with pc := g.pc + 3, stack := v.toList ++ rest }) target → Steps p.tables e below (T.setTop g) target := by
  obtain ⟨mk, methM, cM, hnamed, hmethM, -, -, -, -, -, -, hsigM⟩ := Cond.codeWith_spec hcode
  have hstatic : methM.isStatic = true := Cond.static_spec hnamed hmethM hstat
  obtain ⟨kP, hkP, -⟩ := className_of_methodNamed hnamed
  have hinitP : kP.init = .initialized := Cond.initialized_spec (findClass_of_methodNamed hnamed) hkP hinit
  obtain ⟨vm₁, X₁, hstep₁⟩ := X.invokestatic hexec hown hlink hnamed hmethM hstatic hkP hinitP hy (g := g) hg (argsL := argsL) (rest := rest) (hlen _ hsigM) hstack hdg
  obtain ⟨v, B, X', hpost, hsteps⟩ := hK m meth c ⟨T.setVm vm₁, locs, cells, slots⟩ { g with stack := rest } (.invokestatic index) mk argsL.toArray X₁ hg hsize hdg hW (X₁.named hnamed) (hpre vm₁ X₁.warmed)
  exact ⟨v, vm₁, B, X₁.warmed, X', hpost, fun target h => hstep₁ _ fun acts => by rw [doInvoke_state]; exact hsteps.trans h⟩
theorem vx_runSW {y : MethodName} {bytes cc : ByteArray} {maxL nL mc ms n index : Nat} {ret : Option FieldType} {hh : List (Nat × Nat × Nat × Nat)} {ws : List Cond} {rm : Room} {Pc : Array Value → State → Prop} {Qc : Array Value → State → Outcome → State → Prop} {free : Addr → Prop} {Ts : List Cond} {own : String} {As rest : List Value} {g : JFrame}
    (S : CallFix p m c cc nL s args Ts own) (hM : Met l y ws rm Pc Qc mc ms free) (cw : vx_CSW R s args own index y bytes maxL ret hh ws rm mc ms n) (hp : PreS s H Pc As)
    (hg : g.method = m) (hn : As.length = n) (hsize : g.locals.size = nL) (hstack : g.stack = As.reverse ++ rest) (hW : 2 * g.monitorRoom + (rest.map fun v => v.category).sum ≤ 8) (hdg : decode cc g.pc = .ok (.invokestatic index, 3)) (hf : cells + mc ≤ R.cells ∧ slots + ms ≤ R.slots) :
    va_Run p l e R s m args below meth c H locs cells slots mc ms g rest (Qc As.toArray) (free) := by
  obtain ⟨⟨hrc, hrs, hfr, hlo, hws, hcw⟩, hcode, hini, hy, hlen, hl, hstt⟩ := cw
  have hK : Back l R p e below s args y 3 8 (PreOf R mc ms Pc) (PostOf Qc mc ms free) := va_backW (hh := hh) (bytes := bytes) (maxL := maxL) (ret := ret) hM hp.1 hrc hrs hfr hlo hws hcw (fun a' U hW => word_at hW (Or.inl (by first | rfl | simp [Cond.onTables, Cond.keeps, Cond.steady])) hini)
  obtain ⟨hx, hb, hml, ho, -⟩ := S
  intro T hT X
  obtain ⟨v, vm₁, ⟨U', l2, c2, s2⟩, hW₁, X', ⟨g', mk, t, L, e1, e2, hq, h1, hL, h2, h3⟩, st⟩ := vx_callSW X hx (hh := hh) (bytes := bytes) (maxL := maxL) (ret := ret) ho hl hstt hini hcode hy hK hg (hsize.trans hml.symm) (argsL := As) (rest := rest) (fun sig h => hn.trans (hlen sig h)) hstack hW (by rw [hb]; exact hdg)
    (fun vm₁ hW₁ => ⟨hf.1, hf.2, hp.2 (T.setVm vm₁) hT hW₁⟩)
  dsimp only [Pt.U, Pt.locs, Pt.cells, Pt.slots] at X' e1 e2 h1 h2 h3 st
  subst h1; subst h2; subst h3
  exact ⟨v, (T.setVm vm₁).calling g' mk As.toArray, t, U', L, hT, X', hL, e1, e2, hq, st⟩
/-- not caught here, past rows that name other classes: it goes on to the caller -/
theorem vx_outP {p : Program} {l : Launch} {e : Env} {R : Room} {s : State} {m : MethodId} {args : Array Value} {below : List Frame} {meth : Method} {c : Code} {H : Heap} {locs : List Loc} {cells slots : Nat} {free : Addr → Prop} {ls : Array Slot} {rest : List Value} {Qc : Array Value → State → Outcome → State → Prop} {XC : String → State → State → Prop}
    {pc : Nat} {own E : String} {ce : Cell} {q : Addr} {mc ms : Nat} (hown : s.vm.findClass own = some m.cls) (hlocks : meth.locks = false)
    (hpass : ∀ z ∈ c.exceptionTable.toList, covers z pc = false ∨ (z.catchType ≠ 0 ∧ ∃ nm : String, (Cond.classLink own z.catchType nm).before args s = true ∧ va_Nc E nm s)) (hcell : H[q]? = some ce) (hv : ce.vm = .none) (hcl : s.vm.findClass E = some ce.cls)
    (hx : ∀ t : State, t.heap = H → s.vm.Alike t.vm → XC E s t) (hf : ∀ z ∈ locs, free z.base) (hc : cells ≤ mc) (hs : slots ≤ ms) :
    vx_W p l e R s m args below meth c H locs cells slots (vx_MQ below Qc XC args s mc ms free) (F0 m pc ls rest) q := by
  intro T hT X
  have hpl : e.platform.magicAccessors = ({} : Platform).magicAccessors := by rw [X.admits.platform]
  obtain ⟨vm', hW', X', st⟩ := X.outThrough hlocks q (g := F0 m pc ls rest) rfl rfl rfl (cell := ce) (by rw [hT]; exact hcell) (by rw [hv]; rfl)
    (by obtain ⟨k9, h9, -⟩ := Vm.findClass_spec hcl; exact ⟨k9, h9⟩) (fun z hz => by
      rcases hpass z hz with h | ⟨hz0, nm, hl1, hn1⟩
      · exact Or.inl h
      · obtain ⟨c6, hc6, hcl6⟩ := Cond.classLink_spec hown hl1 e.platform hpl
        obtain ⟨a8, b8, h1, h2, h3⟩ := hn1
        cases Option.some.inj (h1.symm.trans hcl)
        cases Option.some.inj (h2.symm.trans hc6)
        exact Or.inr ⟨hz0, _, hcl6, h3⟩)
  obtain ⟨g₀, hfr⟩ := X'.frames_eq
  have hcell9 : ((T.setVm vm').setFrames (.throwing q :: below)).heap[q]? = some ce := by
    show T.heap[q]? = some ce
    rw [hT]; exact hcell
  have hend : Ended ((T.setVm vm').setFrames (.throwing q :: below)) below (.threw q) := State.frames_setFrames _ (State.cur_lt_of_frames hfr)
  refine ⟨(T.setVm vm').setFrames (.throwing q :: below), ?_, .threw q, X'.here.running, hend, Or.inr ⟨q, rfl, E, ce, locs, hx _ hT (X'.ends _).1.alike, hcell9, hv, hcl, (X'.ends _).1, (X'.ends _).2.mono hc hs, hf⟩⟩
  rw [X.pushThrowing_eq]
  exact st
/-- a thing of a world lies in the heap -/
theorem vx_lt {D : va_G} {cl : List vw_C} {ws : va_W} {H1 : Heap} (h : va_P D cl ws H1) {k : Nat} {q : Nat × va_E} (hk : ws[k]? = some q) : q.1 < H1.size := (h k q hk).lt
end VXS
/-! ===== END ===== -/
/-! ===== BEGIN methods with a table of their own: called by a name, returning or throwing ===== -/
section VXH
/-! vx_backW, vx_callVX, vx_callSX, vx_callVW, vx_runVW, vx_runVX, vx_runSX, vx_ofWH follow the same proofs as their sisters above (Free/Laws.lean, Shelf42/LK1.lean); vx_outP calls Shelf42/NT130.lean (outThrough). -/
section
variable {l : Launch} {R : Room} {p : Program} {e : Env} {below : List Frame} {s : State} {sargs : Array Value} {y : MethodName} {len W9 : Nat}
theorem vx_backW {ws : List Cond} {rm : Room} {Pc : Array Value → State → Prop} {Qc : Array Value → State → Outcome → State → Prop} {XC : String → State → State → Prop} {mc ms : Nat} {free : Addr → Prop} {bytes : ByteArray} {maxL : Nat} {ret : Option FieldType} {hh : List (Nat × Nat × Nat × Nat)}
    (hM : vx_Met l y ws rm Pc Qc XC mc ms free) (hblind : FrameBlind Pc) (hrc : rm.cells = mc) (hrs : rm.slots = ms)
    (hframes : rm.frames + 1 ≤ R.frames) (hlocals : W9 + (maxL + 11) + rm.locals ≤ R.locals)
    (hws : ∀ w ∈ ws, ∀ a' U, s.WarmedH U.vm → w.before a' U = true) (hcode : Cond.codeWith y bytes maxL ret hh ∈ ws) (hinit : ∀ a' U, s.WarmedH U.vm → (Cond.initialized y.cls).before a' U = true) :
    vx_Back l R p e below s sargs y len W9 (PreOf R mc ms Pc) (PostOf Qc mc ms free) (vx_Post XC mc ms free) := by
  intro m meth c A g ig mk a X hg hsize hdg hW hn hp
  have h1 : (headSpec ws rm).pre.before a A.U = true := atoms_intro fun w hw => hws w hw _ _ X.warmed
  have h2 : (Cond.codeWith y bytes maxL ret hh).before a A.U = true := hws _ hcode _ _ X.warmed
  have h3 : (Cond.initialized y.cls).before a A.U = true := hinit _ _ X.warmed
  have h4 : A.cells + (headSpec ws rm).room.cells ≤ R.cells := by rw [show (headSpec ws rm).room.cells = mc from hrc]; exact hp.1
  have h5 : A.slots + (headSpec ws rm).room.slots ≤ R.slots := by rw [show (headSpec ws rm).room.slots = ms from hrs]; exact hp.2.1
  have hPc : Pc a (A.U.calling g mk a) := hblind _ _ _ _ hp.2.2
  obtain ⟨U, Ls, c0, s0⟩ := A
  dsimp only [Pt.U, Pt.locs, Pt.cells, Pt.slots] at h1 h2 h3 h4 h5 X hn hPc ⊢
  obtain ⟨m9, methY, cY, hn9, hmY, hcY, -, hlY, -⟩ := Cond.codeWith_spec h2
  cases Option.some.inj (hn9.symm.trans hn)
  obtain ⟨kY, hkY, -⟩ := className_of_methodNamed hn
  have hinitY : kY.init = .initialized := Cond.initialized_spec (findClass_of_methodNamed hn) hkY h3
  have h : At U g.method c below := by rw [hg]; exact X.here
  have hlocals9 : W9 + (maxL + 11) + (headSpec ws rm).room.locals ≤ R.locals := hlocals
  have happ : (headSpec ws rm).appliesLoose y e.platform (U.calling g mk a) = true :=
    Spec.appliesLoose_calling (g := g) h hdg hn hkY hinitY
      (X.room_calling (g := g) (R' := (headSpec ws rm).room) hsize hmY hcY hframes (by rw [hlY]; omega) h4 h5) h1
  obtain ⟨mid, hmid⟩ := h.above
  have hfr : (U.setTop g).frames = (.java g :: mid) ++ below := by rw [State.frames_setTop' g h.top, hmid]; rfl
  obtain ⟨o, s₂, hsteps, -, hend, hq⟩ := Steps.callFree hM p X.admits X.cas X.clock (acts := []) hfr happ hPc trivial
  have hq' : vx_Q Qc XC mc ms free a (U.calling g mk a) o s₂ := hq
  rw [State.frames_setTop' g h.top] at hend
  obtain ⟨g₀, hg0⟩ := Option.isSome_iff_exists.mp h.top
  obtain ⟨r, hr⟩ := State.topJava?_eq_some.mp hg0
  have hr' : (({ U with heap := s₂.heap, slotsUsed := s₂.slotsUsed } : State).setVm s₂.vm).frames = .java g₀ :: r := hr
  rcases hq' with ⟨hqc, L, hfe, hL⟩ | ⟨q, rfl, E, ce, L, hx, hce, hcv, hcl, hW₂, hsm, hL⟩
  · obtain ⟨⟨v, rfl⟩, hW₂, e2, q2, q3, q4, q5, q6⟩ := id hfe
    have e3 : s₂ = ({ (U.calling g mk a).setFrames s₂.frames with heap := s₂.heap, slotsUsed := s₂.slotsUsed } : State).setVm s₂.vm := by
      have : s₂ = ({ s₂ with vm := (U.calling g mk a).vm } : State).setVm s₂.vm := rfl
      rw [e2] at this
      exact this
    obtain ⟨c₂, i₂, len₂, hc₂, hd₂, hf₂⟩ := hend
    have hW' : U.WarmedH s₂.vm := hW₂
    have hcc : c₂ = c := by
      have h1 : s₂.code? g.method = U.code? g.method := by
        rw [State.code?_eq, State.code?_eq, hW'.alike.method?]
      exact Option.some.inj (hc₂.symm.trans (h1.trans h.code))
    subst hcc
    have hlen : len₂ = len := by rw [hdg] at hd₂; cases hd₂; rfl
    subst hlen
    have hs₂ : s₂ = (({ U with heap := s₂.heap, slotsUsed := s₂.slotsUsed } : State).setVm s₂.vm).setTop { g with pc := g.pc + len₂, stack := v.toList ++ g.stack } := by
      refine e3.trans ?_
      rw [hf₂, State.calling_eq h.top, State.setFrames_setFrames, State.setTop_of_frames _ hr', hr]
      rfl
    have hsame : U.sameButNew ({ U with heap := s₂.heap, slotsUsed := s₂.slotsUsed } : State) L mc ms := by
      refine ⟨?_, q2, q3, q4, q5, q6⟩
      obtain ⟨t, ht, -⟩ := State.frames_cons hr
      show ({ U with heap := s₂.heap, slotsUsed := s₂.slotsUsed } : State) = { U.setFrames U.frames with heap := s₂.heap, slotsUsed := s₂.slotsUsed }
      rw [State.setFrames_self ht]
    subst hg
    refine Or.inl ⟨v, ⟨(({ U with heap := s₂.heap, slotsUsed := s₂.slotsUsed } : State).setVm s₂.vm), Ls ++ L, c0 + mc, s0 + ms⟩,
      ⟨X.admits, X.cas, X.clock, X.frames, X.room, X.hears, X.method, X.code, (X.here.setHeapUsed s₂.heap s₂.slotsUsed).setVm hW'.alike, X.tail, State.WarmedH.trans X.warmed hW', X.limits, X.bytes, X.same.trans (hsame.setVm s.vm)⟩,
      ⟨g, mk, s₂, L, rfl, rfl, hqc, rfl, hL, rfl, rfl⟩, ?_⟩
    show Steps p.tables e below _ ((({ U with heap := s₂.heap, slotsUsed := s₂.slotsUsed } : State).setVm s₂.vm).setTop { g with pc := g.pc + len₂, stack := v.toList ++ g.stack })
    rw [← hs₂]
    exact hsteps
  · obtain ⟨e2, q2, q3, q4, q5, q6⟩ := id hsm
    have e3 : s₂ = ({ (U.calling g mk a).setFrames s₂.frames with heap := s₂.heap, slotsUsed := s₂.slotsUsed } : State).setVm s₂.vm := by
      have : s₂ = ({ s₂ with vm := (U.calling g mk a).vm } : State).setVm s₂.vm := rfl
      rw [e2] at this
      exact this
    have hf₂ : s₂.frames = .throwing q :: .java g :: U.frames.tail := hend
    have hW' : U.WarmedH s₂.vm := hW₂
    have hs₂ : s₂ = ((({ U with heap := s₂.heap, slotsUsed := s₂.slotsUsed } : State).setVm s₂.vm).setTop g).pushFrame (.throwing q) := by
      refine e3.trans ?_
      rw [hf₂, State.calling_eq h.top, State.setFrames_setFrames, State.pushFrame, State.frames_setTop _ hr', State.setTop_of_frames _ hr', State.setFrames_setFrames, hr]
      rfl
    have hsame : U.sameButNew ({ U with heap := s₂.heap, slotsUsed := s₂.slotsUsed } : State) L mc ms := by
      refine ⟨?_, q2, q3, q4, q5, q6⟩
      obtain ⟨t, ht, -⟩ := State.frames_cons hr
      show ({ U with heap := s₂.heap, slotsUsed := s₂.slotsUsed } : State) = { U.setFrames U.frames with heap := s₂.heap, slotsUsed := s₂.slotsUsed }
      rw [State.setFrames_self ht]
    subst hg
    refine Or.inr ⟨q, ⟨(({ U with heap := s₂.heap, slotsUsed := s₂.slotsUsed } : State).setVm s₂.vm), Ls ++ L, c0 + mc, s0 + ms⟩,
      ⟨X.admits, X.cas, X.clock, X.frames, X.room, X.hears, X.method, X.code, (X.here.setHeapUsed s₂.heap s₂.slotsUsed).setVm hW'.alike, X.tail, State.WarmedH.trans X.warmed hW', X.limits, X.bytes, X.same.trans (hsame.setVm s.vm)⟩,
      ⟨g, mk, s₂, L, E, ce, rfl, rfl, hx, hce, hcv, hcl, rfl, hL, rfl, rfl⟩, ?_⟩
    show Steps p.tables e below _ (((({ U with heap := s₂.heap, slotsUsed := s₂.slotsUsed } : State).setVm s₂.vm).setTop g).pushFrame (.throwing q))
    rw [← hs₂]
    exact hsteps
end
variable {p : Program} {l : Launch} {e : Env} {R : Room} {s : State} {m : MethodId} {args : Array Value} {below : List Frame} {meth : Method} {c : Code} {T : State} {H : Heap} {locs : List Loc} {cells slots : Nat}
theorem vx_callVX (X : Stand p l e R s m args below meth c T locs cells slots) (hexec : p.tables.exec = Jvm.exec) {own C : String} {index : Nat} {y : MethodName} {bytes : ByteArray} {maxL : Nat} {ret : Option FieldType} {hh : List (Nat × Nat × Nat × Nat)}
    (hown : s.vm.findClass own = some m.cls) (hlink : (Cond.methodLink own index y).before args s = true) (hinst : (Cond.instanceMethod y).before args s = true) (hsel : (Cond.selects C y y).before args s = true)
    (hcode : (Cond.codeWith y bytes maxL ret hh).before args s = true) (hy : y.cls ≠ "java/lang/invoke/MethodHandle" ∧ y.cls ≠ "java/lang/invoke/VarHandle")
    {W9 : Nat} {Pre : Pt → Array Value → Prop} {Post : Pt → Array Value → Option Value → Pt → Prop} {PostX : Pt → Array Value → Addr → Pt → Prop} (hK : vx_Back l R p e below s args y 3 W9 Pre Post PostX)
    {b : Addr} {cellB : Cell} (hcell : T.heap[b]? = some cellB) (hobj : cellB.vm.isStatics = false) (hcls : s.vm.findClass C = some cellB.cls)
    {g : JFrame} (hg : g.method = m) (hsize : g.locals.size = c.maxLocals) {argsL rest : List Value} (hlen : ∀ sig, parseMethodDescriptor y.desc = some sig → argsL.length = sig.parameters.length)
    (hstack : g.stack = argsL.reverse ++ .ref b :: rest) (hW : 2 * g.monitorRoom + (rest.map fun v => v.category).sum ≤ W9) (hdg : decode c.code g.pc = .ok (.invokevirtual index, 3))
    (hpre : ∀ vm₁, s.WarmedH vm₁ → Pre ⟨T.setVm vm₁, locs, cells, slots⟩ (Value.ref b :: argsL).toArray) :
    (∃ (v : Option Value) (vm₁ : Vm) (B : Pt), s.WarmedH vm₁ ∧ Stand p l e R s m args below meth c B.U B.locs B.cells B.slots ∧ Post ⟨T.setVm vm₁, locs, cells, slots⟩ (Value.ref b :: argsL).toArray v B ∧
      ∀ target, Steps p.tables e below (B.U.setTop { g with pc := g.pc + 3, stack := v.toList ++ rest }) target → Steps p.tables e below (T.setTop g) target) ∨
    (∃ (q : Addr) (vm₁ : Vm) (B : Pt), s.WarmedH vm₁ ∧ Stand p l e R s m args below meth c B.U B.locs B.cells B.slots ∧ PostX ⟨T.setVm vm₁, locs, cells, slots⟩ (Value.ref b :: argsL).toArray q B ∧
      Steps p.tables e below (T.setTop g) ((B.U.setTop { g with stack := rest }).pushFrame (.throwing q))) := by
  obtain ⟨mk, methM, hnamed, hmethM, hstM, habM⟩ := Cond.instanceMethod_spec hinst
  obtain ⟨m8, methM', cM, hn8, hmethM', -, -, -, -, -, -, hsigM⟩ := Cond.codeWith_spec hcode
  cases Option.some.inj (hn8.symm.trans hnamed)
  cases hmethM.symm.trans hmethM'
  obtain ⟨c2, r2, m2, q1, q2, q3, q4, kP, hkP, hkPi⟩ := Cond.selects_spec hsel
  cases hcls.symm.trans q1
  cases (State.methodFound?_of_named hnamed hy).symm.trans q2
  cases hnamed.symm.trans q3
  have hselP : selectMethod e.platform s.vm cellB.cls mk = .method mk := by rw [Launch.admits_selectMethod X.admits]; exact q4
  obtain ⟨vm₁, X₁, hstep₁⟩ := X.invokevirtual hexec hown hlink hnamed hmethM hstM hkP hkPi hy (a := b) (cell := cellB) hcell
    (fun z h => by rw [h] at hobj; cases hobj) hselP hmethM habM hkP hkPi (g := g) hg (argsL := argsL) (rest := rest) (hlen _ hsigM) hstack hdg
  rcases hK m meth c ⟨T.setVm vm₁, locs, cells, slots⟩ { g with stack := rest } (.invokevirtual index) mk (Value.ref b :: argsL).toArray X₁ hg hsize hdg hW (X₁.named hnamed) (hpre vm₁ X₁.warmed) with ⟨v, B, X', hpost, hsteps⟩ | ⟨q, B, X', hpost, hsteps⟩
  · exact Or.inl ⟨v, vm₁, B, X₁.warmed, X', hpost, fun target h => hstep₁ _ fun acts => by rw [doInvoke_state]; exact hsteps.trans h⟩
  · exact Or.inr ⟨q, vm₁, B, X₁.warmed, X', hpost, hstep₁ _ fun acts => by rw [doInvoke_state]; exact hsteps⟩
theorem vx_callSX (X : Stand p l e R s m args below meth c T locs cells slots) (hexec : p.tables.exec = Jvm.exec) {own : String} {index : Nat} {y : MethodName} {bytes : ByteArray} {maxL : Nat} {ret : Option FieldType} {hh : List (Nat × Nat × Nat × Nat)}
    (hown : s.vm.findClass own = some m.cls) (hlink : (Cond.methodLink own index y).before args s = true) (hstat : (Cond.static y).before args s = true) (hinit : (Cond.initialized y.cls).before args s = true)
    (hcode : (Cond.codeWith y bytes maxL ret hh).before args s = true) (hy : y.cls ≠ "java/lang/invoke/MethodHandle" ∧ y.cls ≠ "java/lang/invoke/VarHandle")
    {W9 : Nat} {Pre : Pt → Array Value → Prop} {Post : Pt → Array Value → Option Value → Pt → Prop} {PostX : Pt → Array Value → Addr → Pt → Prop} (hK : vx_Back l R p e below s args y 3 W9 Pre Post PostX)
    {g : JFrame} (hg : g.method = m) (hsize : g.locals.size = c.maxLocals) {argsL rest : List Value} (hlen : ∀ sig, parseMethodDescriptor y.desc = some sig → argsL.length = sig.parameters.length)
    (hstack : g.stack = argsL.reverse ++ rest) (hW : 2 * g.monitorRoom + (rest.map fun v => v.category).sum ≤ W9) (hdg : decode c.code g.pc = .ok (.invokestatic index, 3))
    (hpre : ∀ vm₁, s.WarmedH vm₁ → Pre ⟨T.setVm vm₁, locs, cells, slots⟩ argsL.toArray) :
    (∃ (v : Option Value) (vm₁ : Vm) (B : Pt), s.WarmedH vm₁ ∧ Stand p l e R s m args below meth c B.U B.locs B.cells B.slots ∧ Post ⟨T.setVm vm₁, locs, cells, slots⟩ argsL.toArray v B ∧
      ∀ target, Steps p.tables e below (B.U.setTop { g with pc := g.pc + 3, stack := v.toList ++ rest }) target → Steps p.tables e below (T.setTop g) target) ∨
    (∃ (q : Addr) (vm₁ : Vm) (B : Pt), s.WarmedH vm₁ ∧ Stand p l e R s m args below meth c B.U B.locs B.cells B.slots ∧ PostX ⟨T.setVm vm₁, locs, cells, slots⟩ argsL.toArray q B ∧
      Steps p.tables e below (T.setTop g) ((B.U.setTop { g with stack := rest }).pushFrame (.throwing q))) := by
  obtain ⟨mk, methM, cM, hnamed, hmethM, -, -, -, -, -, -, hsigM⟩ := Cond.codeWith_spec hcode
  have hstatic : methM.isStatic = true := Cond.static_spec hnamed hmethM hstat
  obtain ⟨kP, hkP, -⟩ := className_of_methodNamed hnamed
  have hinitP : kP.init = .initialized := Cond.initialized_spec (findClass_of_methodNamed hnamed) hkP hinit
  obtain ⟨vm₁, X₁, hstep₁⟩ := X.invokestatic hexec hown hlink hnamed hmethM hstatic hkP hinitP hy (g := g) hg (argsL := argsL) (rest := rest) (hlen _ hsigM) hstack hdg
  rcases hK m meth c ⟨T.setVm vm₁, locs, cells, slots⟩ { g with stack := rest } (.invokestatic index) mk argsL.toArray X₁ hg hsize hdg hW (X₁.named hnamed) (hpre vm₁ X₁.warmed) with ⟨v, B, X', hpost, hsteps⟩ | ⟨q, B, X', hpost, hsteps⟩
  · exact Or.inl ⟨v, vm₁, B, X₁.warmed, X', hpost, fun target h => hstep₁ _ fun acts => by rw [doInvoke_state]; exact hsteps.trans h⟩
  · exact Or.inr ⟨q, vm₁, B, X₁.warmed, X', hpost, hstep₁ _ fun acts => by rw [doInvoke_state]; exact hsteps⟩
theorem vx_callVW (X : Stand p l e R s m args below meth c T locs cells slots) (hexec : p.tables.exec = Jvm.exec) {own C : String} {index : Nat} {y : MethodName} {bytes : ByteArray} {maxL : Nat} {ret : Option FieldType} {hh : List (Nat × Nat × Nat × Nat)}
    (hown : s.vm.findClass own = some m.cls) (hlink : (Cond.methodLink own index y).before args s = true) (hinst : (Cond.instanceMethod y).before args s = true) (hsel : (Cond.selects C y y).before args s = true)
    (hcode : (Cond.codeWith y bytes maxL ret hh).before args s = true) (hy : y.cls ≠ "java/lang/invoke/MethodHandle" ∧ y.cls ≠ "java/lang/invoke/VarHandle")
    {W9 : Nat} {Pre : Pt → Array Value → Prop} {Post : Pt → Array Value → Option Value → Pt → Prop} (hK : Back l R p e below s args y 3 W9 Pre Post)
    {b : Addr} {cellB : Cell} (hcell : T.heap[b]? = some cellB) (hobj : cellB.vm.isStatics = false) (hcls : s.vm.findClass C = some cellB.cls)
    {g : JFrame} (hg : g.method = m) (hsize : g.locals.size = c.maxLocals) {argsL rest : List Value} (hlen : ∀ sig, parseMethodDescriptor y.desc = some sig → argsL.length = sig.parameters.length)
    (hstack : g.stack = argsL.reverse ++ .ref b :: rest) (hW : 2 * g.monitorRoom + (rest.map fun v => v.category).sum ≤ W9) (hdg : decode c.code g.pc = .ok (.invokevirtual index, 3))
    (hpre : ∀ vm₁, s.WarmedH vm₁ → Pre ⟨T.setVm vm₁, locs, cells, slots⟩ (Value.ref b :: argsL).toArray) :
    ∃ (v : Option Value) (vm₁ : Vm) (B : Pt), s.WarmedH vm₁ ∧ Stand p l e R s m args below meth c B.U B.locs B.cells B.slots ∧ Post ⟨T.setVm vm₁, locs, cells, slots⟩ (Value.ref b :: argsL).toArray v B ∧
      ∀ target, Steps p.tables e below (B.U.setTop { g with pc := g.pc + 3, stack := v.toList ++ rest }) target → Steps p.tables e below (T.setTop g) target := by
  obtain ⟨mk, methM, hnamed, hmethM, hstM, habM⟩ := Cond.instanceMethod_spec hinst
  obtain ⟨m8, methM', cM, hn8, hmethM', -, -, -, -, -, -, hsigM⟩ := Cond.codeWith_spec hcode
  cases Option.some.inj (hn8.symm.trans hnamed)
  cases hmethM.symm.trans hmethM'
  obtain ⟨c2, r2, m2, q1, q2, q3, q4, kP, hkP, hkPi⟩ := Cond.selects_spec hsel
  cases hcls.symm.trans q1
  cases (State.methodFound?_of_named hnamed hy).symm.trans q2
  cases hnamed.symm.trans q3
  have hselP : selectMethod e.platform s.vm cellB.cls mk = .method mk := by rw [Launch.admits_selectMethod X.admits]; exact q4
  obtain ⟨vm₁, X₁, hstep₁⟩ := X.invokevirtual hexec hown hlink hnamed hmethM hstM hkP hkPi hy (a := b) (cell := cellB) hcell
    (fun z h => by rw [h] at hobj; cases hobj) hselP hmethM habM hkP hkPi (g := g) hg (argsL := argsL) (rest := rest) (hlen _ hsigM) hstack hdg
  obtain ⟨v, B, X', hpost, hsteps⟩ := hK m meth c ⟨T.setVm vm₁, locs, cells, slots⟩ { g with stack := rest } (.invokevirtual index) mk (Value.ref b :: argsL).toArray X₁ hg hsize hdg hW (X₁.named hnamed) (hpre vm₁ X₁.warmed)
  exact ⟨v, vm₁, B, X₁.warmed, X', hpost, fun target h => hstep₁ _ fun acts => by rw [doInvoke_state]; exact hsteps.trans h⟩
abbrev vx_CVW (R : Room) (s : State) (args : Array Value) (own C : String) (index : Nat) (y : MethodName) (bytes : ByteArray) (maxL : Nat) (ret : Option FieldType) (hh : List (Nat × Nat × Nat × Nat)) (ws : List Cond) (rm : Room) (mc ms n : Nat) : Prop :=
  (rm.cells = mc ∧ rm.slots = ms ∧ rm.frames + 1 ≤ R.frames ∧ 8 + (maxL + 11) + rm.locals ≤ R.locals ∧ (∀ w ∈ ws, ∀ (a' : Array Value) (U : State), s.WarmedH U.vm → w.before a' U = true) ∧ Cond.codeWith y bytes maxL ret hh ∈ ws) ∧
  (Cond.codeWith y bytes maxL ret hh).before args s = true ∧ (Cond.initialized y.cls).before args s = true ∧ (y.cls ≠ "java/lang/invoke/MethodHandle" ∧ y.cls ≠ "java/lang/invoke/VarHandle") ∧
  (∀ sig, parseMethodDescriptor y.desc = some sig → n = sig.parameters.length) ∧ (Cond.methodLink own index y).before args s = true ∧ (Cond.instanceMethod y).before args s = true ∧ (Cond.selects C y y).before args s = true
theorem vx_cwVW {own C : String} {index maxL mc ms : Nat} {y : MethodName} {bytes : ByteArray} {ret : Option FieldType} {hh : List (Nat × Nat × Nat × Nat)} {Ts ws ws' : List Cond} {rm : Room} (n : Nat) (ht : ∀ w ∈ Ts, w.before args s = true) (hT : GoodIn Ts (wsV own index C y ws)) (hw : ws = Cond.codeWith y bytes maxL ret hh :: ws') (hrc : rm.cells = mc) (hrs : rm.slots = ms)
    (hd : y.cls = C ∧ y.cls ≠ "java/lang/invoke/MethodHandle" ∧ y.cls ≠ "java/lang/invoke/VarHandle" ∧ (parseMethodDescriptor y.desc).map (fun d => d.parameters.length) = some n) (hR : rm.frames + 1 ≤ R.frames ∧ 8 + (maxL + 11) + rm.locals ≤ R.locals) :
    vx_CVW R s args own C index y bytes maxL ret hh ws rm mc ms n := by
  obtain ⟨hC, hd⟩ := hd
  subst hC
  have ok : ∀ w ∈ wsV own index y.cls y ws, w.before args s = true := fun w h => ht w (hT w h).1
  have hG : GoodIn Ts ws := fun w h => hT w (by unfold wsV; exact List.mem_append_right _ h)
  have hc : Cond.codeWith y bytes maxL ret hh ∈ ws := by rw [hw]; exact List.mem_cons_self
  refine ⟨⟨hrc, hrs, hR.1, hR.2, pay_in ht hG, hc⟩, ht _ (hG _ hc).1, ok _ (by simp [wsV]), ⟨hd.1, hd.2.1⟩, fun sig h => ?_, ok _ (by simp [wsV]), ok _ (by simp [wsV]), ok _ (by simp [wsV])⟩
  have h2 := hd.2.2
  rw [h] at h2
  exact (Option.some.inj h2).symm
theorem vx_runVW {y : MethodName} {bytes cc : ByteArray} {maxL nL mc ms n index : Nat} {ret : Option FieldType} {hh : List (Nat × Nat × Nat × Nat)} {ws : List Cond} {rm : Room} {Pc : Array Value → State → Prop} {Qc : Array Value → State → Outcome → State → Prop} {free : Addr → Prop} {Ts : List Cond} {own C : String} {b : Addr} {As rest : List Value} {g : JFrame}
    (S : CallFix p m c cc nL s args Ts own) (hM : Met l y ws rm Pc Qc mc ms free) (cw : vx_CVW R s args own C index y bytes maxL ret hh ws rm mc ms n) (hp : PreV s H C b Pc As)
    (hg : g.method = m) (hn : As.length = n) (hsize : g.locals.size = nL) (hstack : g.stack = As.reverse ++ .ref b :: rest) (hW : 2 * g.monitorRoom + (rest.map fun v => v.category).sum ≤ 8) (hdg : decode cc g.pc = .ok (.invokevirtual index, 3)) (hf : cells + mc ≤ R.cells ∧ slots + ms ≤ R.slots) :
    va_Run p l e R s m args below meth c H locs cells slots mc ms g rest (Qc (Value.ref b :: As).toArray) free := by
  obtain ⟨⟨hrc, hrs, hfr, hlo, hws, hcw⟩, hcode, hini, hy, hlen, hl, hin, hse⟩ := cw
  have hK : Back l R p e below s args y 3 8 (PreOf R mc ms Pc) (PostOf Qc mc ms free) := va_backW (hh := hh) (bytes := bytes) (maxL := maxL) (ret := ret) hM hp.1 hrc hrs hfr hlo hws hcw (fun a' U hW => word_at hW (Or.inl (by first | rfl | simp [Cond.onTables, Cond.keeps, Cond.steady])) hini)
  obtain ⟨hx, hb, hml, ho, -⟩ := S
  obtain ⟨-, ⟨cellB, hcB, hoB, hclB⟩, hPc⟩ := hp
  intro T hT X
  obtain ⟨v, vm₁, ⟨U', l2, c2, s2⟩, hW₁, X', ⟨g', mk, t, L, e1, e2, hq, h1, hL, h2, h3⟩, st⟩ := vx_callVW X hx (C := C) (hh := hh) (bytes := bytes) (maxL := maxL) (ret := ret) ho hl hin hse hcode hy hK (by rw [hT]; exact hcB) hoB hclB hg (hsize.trans hml.symm) (argsL := As) (rest := rest) (fun sig h => hn.trans (hlen sig h)) hstack hW (by rw [hb]; exact hdg)
    (fun vm₁ hW₁ => ⟨hf.1, hf.2, hPc (T.setVm vm₁) hT hW₁⟩)
  dsimp only [Pt.U, Pt.locs, Pt.cells, Pt.slots] at X' e1 e2 h1 h2 h3 st
  subst h1; subst h2; subst h3
  exact ⟨v, (T.setVm vm₁).calling g' mk (Value.ref b :: As).toArray, t, U', L, hT, X', hL, e1, e2, hq, st⟩
section
variable {y : MethodName} {bytes cc : ByteArray} {maxL nL mc ms n index : Nat} {ret : Option FieldType} {ws : List Cond} {rm : Room} {Pc : Array Value → State → Prop} {Qc : Array Value → State → Outcome → State → Prop} {XC : String → State → State → Prop} {free : Addr → Prop} {Ts : List Cond} {own C : String} {b : Addr} {As rest : List Value} {g : JFrame}
theorem vx_runVX {hh : List (Nat × Nat × Nat × Nat)} (S : CallFix p m c cc nL s args Ts own) (hM : vx_Met l y ws rm Pc Qc XC mc ms free) (cw : vx_CVW R s args own C index y bytes maxL ret hh ws rm mc ms n) (hp : PreV s H C b Pc As)
    (hg : g.method = m) (hn : As.length = n) (hsize : g.locals.size = nL) (hstack : g.stack = As.reverse ++ .ref b :: rest) (hW : 2 * g.monitorRoom + (rest.map fun v => v.category).sum ≤ 8) (hdg : decode cc g.pc = .ok (.invokevirtual index, 3)) (hf : cells + mc ≤ R.cells ∧ slots + ms ≤ R.slots) :
    vx_Run p l e R s m args below meth c H locs cells slots mc ms g rest (Qc (Value.ref b :: As).toArray) XC free := by
  obtain ⟨⟨hrc, hrs, hfr, hlo, hws, hcw⟩, hcode, hini, hy, hlen, hl, hin, hse⟩ := cw
  have hK : vx_Back l R p e below s args y 3 8 (PreOf R mc ms Pc) (PostOf Qc mc ms free) (vx_Post XC mc ms free) := vx_backW (hh := hh) (bytes := bytes) (maxL := maxL) (ret := ret) hM hp.1 hrc hrs hfr hlo hws hcw (fun a' U hW => word_at hW (Or.inl (by first | rfl | simp [Cond.onTables, Cond.keeps, Cond.steady])) hini)
  obtain ⟨hx, hb, hml, ho, -⟩ := S
  obtain ⟨-, ⟨cellB, hcB, hoB, hclB⟩, hPc⟩ := hp
  intro T hT X
  rcases vx_callVX X hx (C := C) (hh := hh) (bytes := bytes) (maxL := maxL) (ret := ret) ho hl hin hse hcode hy hK (by rw [hT]; exact hcB) hoB hclB hg (hsize.trans hml.symm) (argsL := As) (rest := rest) (fun sig h => hn.trans (hlen sig h)) hstack hW (by rw [hb]; exact hdg)
    (fun vm₁ hW₁ => ⟨hf.1, hf.2, hPc (T.setVm vm₁) hT hW₁⟩) with ⟨v, vm₁, ⟨U', l2, c2, s2⟩, hW₁, X', ⟨g', mk, t, L, e1, e2, hq, h1, hL, h2, h3⟩, st⟩ | ⟨q, vm₁, ⟨U', l2, c2, s2⟩, hW₁, X', ⟨g', mk, t, L, E, ce, e1, e2, hq, hce, hcv, hcl, h1, hL, h2, h3⟩, st⟩
  · dsimp only [Pt.U, Pt.locs, Pt.cells, Pt.slots] at X' e1 e2 h1 h2 h3 st
    subst h1; subst h2; subst h3
    exact Or.inl ⟨v, (T.setVm vm₁).calling g' mk (Value.ref b :: As).toArray, t, U', L, hT, X', hL, e1, e2, hq, st⟩
  · dsimp only [Pt.U, Pt.locs, Pt.cells, Pt.slots] at X' e1 e2 h1 h2 h3 st hcl
    subst h1; subst h2; subst h3
    exact Or.inr ⟨q, (T.setVm vm₁).calling g' mk (Value.ref b :: As).toArray, t, U', L, E, ce, hT, X', hL, e1, e2, hq, hce, hcv, vx_cls hW₁ hcl, st⟩
theorem vx_runSX {hh : List (Nat × Nat × Nat × Nat)} (S : CallFix p m c cc nL s args Ts own) (hM : vx_Met l y ws rm Pc Qc XC mc ms free) (cw : vx_CSW R s args own index y bytes maxL ret hh ws rm mc ms n) (hp : PreS s H Pc As)
    (hg : g.method = m) (hn : As.length = n) (hsize : g.locals.size = nL) (hstack : g.stack = As.reverse ++ rest) (hW : 2 * g.monitorRoom + (rest.map fun v => v.category).sum ≤ 8) (hdg : decode cc g.pc = .ok (.invokestatic index, 3)) (hf : cells + mc ≤ R.cells ∧ slots + ms ≤ R.slots) :
    vx_Run p l e R s m args below meth c H locs cells slots mc ms g rest (Qc As.toArray) XC free := by
  obtain ⟨⟨hrc, hrs, hfr, hlo, hws, hcw⟩, hcode, hini, hy, hlen, hl, hstt⟩ := cw
  have hK : vx_Back l R p e below s args y 3 8 (PreOf R mc ms Pc) (PostOf Qc mc ms free) (vx_Post XC mc ms free) := vx_backW (hh := hh) (bytes := bytes) (maxL := maxL) (ret := ret) hM hp.1 hrc hrs hfr hlo hws hcw (fun a' U hW => word_at hW (Or.inl (by first | rfl | simp [Cond.onTables, Cond.keeps, Cond.steady])) hini)
  obtain ⟨hx, hb, hml, ho, -⟩ := S
  intro T hT X
  rcases vx_callSX X hx (hh := hh) (bytes := bytes) (maxL := maxL) (ret := ret) ho hl hstt hini hcode hy hK hg (hsize.trans hml.symm) (argsL := As) (rest := rest) (fun sig h => hn.trans (hlen sig h)) hstack hW (by rw [hb]; exact hdg)
    (fun vm₁ hW₁ => ⟨hf.1, hf.2, hp.2 (T.setVm vm₁) hT hW₁⟩) with ⟨v, vm₁, ⟨U', l2, c2, s2⟩, hW₁, X', ⟨g', mk, t, L, e1, e2, hq, h1, hL, h2, h3⟩, st⟩ | ⟨q, vm₁, ⟨U', l2, c2, s2⟩, hW₁, X', ⟨g', mk, t, L, E, ce, e1, e2, hq, hce, hcv, hcl, h1, hL, h2, h3⟩, st⟩
  · dsimp only [Pt.U, Pt.locs, Pt.cells, Pt.slots] at X' e1 e2 h1 h2 h3 st
    subst h1; subst h2; subst h3
    exact Or.inl ⟨v, (T.setVm vm₁).calling g' mk As.toArray, t, U', L, hT, X', hL, e1, e2, hq, st⟩
  · dsimp only [Pt.U, Pt.locs, Pt.cells, Pt.slots] at X' e1 e2 h1 h2 h3 st hcl
    subst h1; subst h2; subst h3
    exact Or.inr ⟨q, (T.setVm vm₁).calling g' mk As.toArray, t, U', L, E, ce, hT, X', hL, e1, e2, hq, hce, hcv, vx_cls hW₁ hcl, st⟩
end
end VXH
theorem vx_ofWH {l : Launch} {y : MethodName} {ws ws' : List Cond} {rm : Room} {Pc : Array Value → State → Prop} {Qc : Array Value → State → Outcome → State → Prop} {XC : String → State → State → Prop} {mc ms : Nat} {free : Addr → Prop} {cc : ByteArray} {maxL : Nat} {ret : Option FieldType} {hh : List (Nat × Nat × Nat × Nat)}
    (hy : plainName y.cls = true) (hw : ws = Cond.codeWith y cc maxL ret hh :: ws')
    (body : ∀ p e s m args below meth c s₁, BodyLoose p l y (headSpec ws rm) cc maxL ret e s m args below meth c s₁ → c.maxLocals = maxL → Pc args s →
      W p l e (headSpec ws rm).room s m args below meth c s.heap [] 0 0 (vx_MQ below Qc XC args s mc ms free) (entryFrame m args maxL)) : vx_Met l y ws rm Pc Qc XC mc ms free := by
  refine MetFree.of_bodyS (code := cc) (maxLocals := maxL) (ret := ret) hy ?_ ?_
  · intro args s m h hn
    obtain ⟨m9, meth, c, hn9, h1, h2, h3, h4, -, h5, h6, -⟩ := Cond.codeWith_spec (atoms_spec (ws := ws) h _ (by rw [hw]; exact List.mem_cons_self))
    cases hn.symm.trans hn9
    exact ⟨meth, c, h1, h2, h3, h4, h5, h6⟩
  · intro p e s m args below meth c s₁ B hml hP _
    have hh0 : s₁.heap = s.heap := by rw [B.state]; rfl
    obtain ⟨t, a1, o, b1, b2, b3⟩ := body p e s m args below meth c s₁ B hml hP s₁ hh0 (Stand.of_body B)
    exact ⟨t, o, a1, b1, b2, b3⟩
/-! ===== END ===== -/

/-! ===== BEGIN printed: names, fields, word lists, decode rows ===== -/
end
section
def RX0 : String := "CacheDiary$Copies"
def TX0 : u_T := fun k => match k with
  | 0 => ("CacheDiary$Copies", "kind", "[I", true)
  | 1 => ("CacheDiary$Copies", "value", "[I", true)
  | 2 => ("CacheDiary$Copies", "slot", "[I", true)
  | 3 => ("CacheDiary$Copies", "lastUse", "[I", true)
  | _ => ("CacheDiary$Copies", "uses", "I", false)
def tyX0 : Nat → FieldType := fun k => match k with
  | 0 => .array .int
  | 1 => .array .int
  | 2 => .array .int
  | 3 => .array .int
  | _ => .int
abbrev wsX00 : List Cond := u_ws RX0 TX0 5
theorem nmX0 : ∀ a, a < 5 → ∀ b, b < 5 → a ≠ b → (TX0 a).2.1 ≠ (TX0 b).2.1 := by decide +kernel
theorem tyX0_ok : ∀ k, k < 5 → parseFieldDescriptor (TX0 k).2.2.1 = some (tyX0 k) := by decide +kernel
abbrev cX0_init : ByteArray := prog_2_method_1_code
def yX0_init : MethodName := ⟨RX0, "<init>", "()V"⟩
abbrev cX0_removeAll : ByteArray := prog_2_method_2_code
def yX0_removeAll : MethodName := ⟨RX0, "removeAll", "()V"⟩
abbrev cX0_takeOver : ByteArray := prog_2_method_3_code
def yX0_takeOver : MethodName := ⟨RX0, "takeOver", "(LCacheDiary$Copies;)V"⟩
abbrev cX0_kindOf : ByteArray := prog_2_method_4_code
def yX0_kindOf : MethodName := ⟨RX0, "kindOf", "(II)I"⟩
abbrev cX0_valueOf : ByteArray := prog_2_method_5_code
def yX0_valueOf : MethodName := ⟨RX0, "valueOf", "(II)I"⟩
abbrev cX0_add : ByteArray := prog_2_method_6_code
def yX0_add : MethodName := ⟨RX0, "add", "(IIII)V"⟩
abbrev cX0_share : ByteArray := prog_2_method_7_code
def yX0_share : MethodName := ⟨RX0, "share", "(II)V"⟩
abbrev cX0_own : ByteArray := prog_2_method_8_code
def yX0_own : MethodName := ⟨RX0, "own", "(III)V"⟩
abbrev cX0_use : ByteArray := prog_2_method_9_code
def yX0_use : MethodName := ⟨RX0, "use", "(II)V"⟩
abbrev cX0_remove : ByteArray := prog_2_method_10_code
def yX0_remove : MethodName := ⟨RX0, "remove", "(II)V"⟩
abbrev cX0_removeOthers : ByteArray := prog_2_method_11_code
def yX0_removeOthers : MethodName := ⟨RX0, "removeOthers", "(II)V"⟩
abbrev cX0_ownerOf : ByteArray := prog_2_method_12_code
def yX0_ownerOf : MethodName := ⟨RX0, "ownerOf", "(I)I"⟩
abbrev cX0_sharersOf : ByteArray := prog_2_method_13_code
def yX0_sharersOf : MethodName := ⟨RX0, "sharersOf", "(I)I"⟩
abbrev cX0_countOf : ByteArray := prog_2_method_14_code
def yX0_countOf : MethodName := ⟨RX0, "countOf", "(I)I"⟩
abbrev cX0_freeSlot : ByteArray := prog_2_method_15_code
def yX0_freeSlot : MethodName := ⟨RX0, "freeSlot", "(II)I"⟩
abbrev cX0_leastUsed : ByteArray := prog_2_method_16_code
def yX0_leastUsed : MethodName := ⟨RX0, "leastUsed", "(I)I"⟩
abbrev cX0_usedLater : ByteArray := prog_2_method_17_code
def yX0_usedLater : MethodName := ⟨RX0, "usedLater", "(II)I"⟩
abbrev cX0_fact : ByteArray := prog_2_method_18_code
def yX0_fact : MethodName := ⟨RX0, "fact", "(III)I"⟩
def RX1 : String := "CacheDiary$Diary"
def TX1 : u_T := fun k => match k with
  | 0 => ("CacheDiary$Diary", "lastUse", "[I", true)
  | 1 => ("CacheDiary$Diary", "uses", "I", false)
  | 2 => ("CacheDiary$Diary", "marks", "I", false)
  | 3 => ("CacheDiary$Diary", "room", "I", false)
  | 4 => ("CacheDiary$Diary", "pages", "I", false)
  | 5 => ("CacheDiary$Diary", "timesAsked", "I", false)
  | _ => ("CacheDiary$Diary", "tornOut", "I", false)
def tyX1 : Nat → FieldType := fun k => match k with
  | 0 => .array .int
  | 1 => .int
  | 2 => .int
  | 3 => .int
  | 4 => .int
  | 5 => .int
  | _ => .int
abbrev wsX10 : List Cond := u_ws RX1 TX1 7
theorem nmX1 : ∀ a, a < 7 → ∀ b, b < 7 → a ≠ b → (TX1 a).2.1 ≠ (TX1 b).2.1 := by decide +kernel
theorem tyX1_ok : ∀ k, k < 7 → parseFieldDescriptor (TX1 k).2.2.1 = some (tyX1 k) := by decide +kernel
abbrev cX1_init : ByteArray := prog_3_method_1_code
def yX1_init : MethodName := ⟨RX1, "<init>", "()V"⟩
abbrev cX1_empty : ByteArray := prog_3_method_2_code
def yX1_empty : MethodName := ⟨RX1, "empty", "(I)V"⟩
abbrev cX1_takeOver : ByteArray := prog_3_method_3_code
def yX1_takeOver : MethodName := ⟨RX1, "takeOver", "(LCacheDiary$Diary;)V"⟩
abbrev cX1_hasPage : ByteArray := prog_3_method_4_code
def yX1_hasPage : MethodName := ⟨RX1, "hasPage", "(I)Z"⟩
abbrev cX1_isMarked : ByteArray := prog_3_method_5_code
def yX1_isMarked : MethodName := ⟨RX1, "isMarked", "(I)Z"⟩
abbrev cX1_lineToTear : ByteArray := prog_3_method_6_code
def yX1_lineToTear : MethodName := ⟨RX1, "lineToTear", "()I"⟩
abbrev cX1_tearOut : ByteArray := prog_3_method_7_code
def yX1_tearOut : MethodName := ⟨RX1, "tearOut", "(IZ)V"⟩
abbrev cX1_makePage : ByteArray := prog_3_method_8_code
def yX1_makePage : MethodName := ⟨RX1, "makePage", "(I)V"⟩
abbrev cX1_use : ByteArray := prog_3_method_9_code
def yX1_use : MethodName := ⟨RX1, "use", "(I)V"⟩
def RX2 : String := "CacheDiary$History"
def TX2 : u_T := fun k => match k with
  | 0 => ("CacheDiary$History", "saved", "[LCacheDiary$Machine;", true)
  | _ => ("CacheDiary$History", "count", "I", false)
def tyX2 : Nat → FieldType := fun k => match k with
  | 0 => .array (.object "CacheDiary$Machine")
  | _ => .int
abbrev wsX20 : List Cond := u_ws RX2 TX2 2
theorem nmX2 : ∀ a, a < 2 → ∀ b, b < 2 → a ≠ b → (TX2 a).2.1 ≠ (TX2 b).2.1 := by decide +kernel
theorem tyX2_ok : ∀ k, k < 2 → parseFieldDescriptor (TX2 k).2.2.1 = some (tyX2 k) := by decide +kernel
abbrev cX2_init : ByteArray := prog_4_method_1_code
def yX2_init : MethodName := ⟨RX2, "<init>", "()V"⟩
abbrev cX2_save : ByteArray := prog_4_method_2_code
def yX2_save : MethodName := ⟨RX2, "save", "(LCacheDiary$Machine;)V"⟩
abbrev cX2_dropOldest : ByteArray := prog_4_method_3_code
def yX2_dropOldest : MethodName := ⟨RX2, "dropOldest", "()V"⟩
abbrev cX2_restore : ByteArray := prog_4_method_4_code
def yX2_restore : MethodName := ⟨RX2, "restore", "(LCacheDiary$Machine;)V"⟩
def RX3 : String := "CacheDiary$Log"
def TX3 : u_T := fun k => match k with
  | 0 => ("CacheDiary$Log", "facts", "[I", true)
  | _ => ("CacheDiary$Log", "count", "I", false)
def tyX3 : Nat → FieldType := fun k => match k with
  | 0 => .array .int
  | _ => .int
abbrev wsX30 : List Cond := u_ws RX3 TX3 2
theorem nmX3 : ∀ a, a < 2 → ∀ b, b < 2 → a ≠ b → (TX3 a).2.1 ≠ (TX3 b).2.1 := by decide +kernel
theorem tyX3_ok : ∀ k, k < 2 → parseFieldDescriptor (TX3 k).2.2.1 = some (tyX3 k) := by decide +kernel
abbrev cX3_init : ByteArray := prog_5_method_1_code
def yX3_init : MethodName := ⟨RX3, "<init>", "()V"⟩
abbrev cX3_takeOver : ByteArray := prog_5_method_2_code
def yX3_takeOver : MethodName := ⟨RX3, "takeOver", "(LCacheDiary$Log;)V"⟩
abbrev cX3_add : ByteArray := prog_5_method_3_code
def yX3_add : MethodName := ⟨RX3, "add", "(IIIIII)V"⟩
abbrev cX3_fact : ByteArray := prog_5_method_4_code
def yX3_fact : MethodName := ⟨RX3, "fact", "(II)I"⟩
def RX4 : String := "CacheDiary$Machine"
def TX4 : u_T := fun k => match k with
  | 0 => ("CacheDiary$Machine", "memory", "[I", true)
  | 1 => ("CacheDiary$Machine", "lastWritten", "[I", true)
  | 2 => ("CacheDiary$Machine", "copies", "LCacheDiary$Copies;", true)
  | 3 => ("CacheDiary$Machine", "diary", "LCacheDiary$Diary;", true)
  | 4 => ("CacheDiary$Machine", "requests", "LCacheDiary$Requests;", true)
  | 5 => ("CacheDiary$Machine", "log", "LCacheDiary$Log;", true)
  | 6 => ("CacheDiary$Machine", "caches", "I", false)
  | 7 => ("CacheDiary$Machine", "slots", "I", false)
  | 8 => ("CacheDiary$Machine", "time", "I", false)
  | 9 => ("CacheDiary$Machine", "messages", "I", false)
  | 10 => ("CacheDiary$Machine", "hits", "I", false)
  | 11 => ("CacheDiary$Machine", "misses", "I", false)
  | 12 => ("CacheDiary$Machine", "races", "I", false)
  | _ => ("CacheDiary$Machine", "broughtBack", "I", false)
def tyX4 : Nat → FieldType := fun k => match k with
  | 0 => .array .int
  | 1 => .array .int
  | 2 => .object "CacheDiary$Copies"
  | 3 => .object "CacheDiary$Diary"
  | 4 => .object "CacheDiary$Requests"
  | 5 => .object "CacheDiary$Log"
  | 6 => .int
  | 7 => .int
  | 8 => .int
  | 9 => .int
  | 10 => .int
  | 11 => .int
  | 12 => .int
  | _ => .int
abbrev wsX40 : List Cond := u_ws RX4 TX4 14
theorem nmX4 : ∀ a, a < 14 → ∀ b, b < 14 → a ≠ b → (TX4 a).2.1 ≠ (TX4 b).2.1 := by decide +kernel
theorem tyX4_ok : ∀ k, k < 14 → parseFieldDescriptor (TX4 k).2.2.1 = some (tyX4 k) := by decide +kernel
abbrev cX4_init : ByteArray := prog_6_method_1_code
def yX4_init : MethodName := ⟨RX4, "<init>", "()V"⟩
abbrev cX4_startAnew : ByteArray := prog_6_method_2_code
def yX4_startAnew : MethodName := ⟨RX4, "startAnew", "(III)V"⟩
abbrev cX4_takeOver : ByteArray := prog_6_method_3_code
def yX4_takeOver : MethodName := ⟨RX4, "takeOver", "(LCacheDiary$Machine;)V"⟩
abbrev cX4_hasTimeFor : ByteArray := prog_6_method_4_code
def yX4_hasTimeFor : MethodName := ⟨RX4, "hasTimeFor", "(I)Z"⟩
abbrev cX4_letPass : ByteArray := prog_6_method_5_code
def yX4_letPass : MethodName := ⟨RX4, "letPass", "(I)I"⟩
abbrev cX4_tick : ByteArray := prog_6_method_6_code
def yX4_tick : MethodName := ⟨RX4, "tick", "()I"⟩
abbrev cX4_isHit : ByteArray := prog_6_method_7_code
def yX4_isHit : MethodName := ⟨RX4, "isHit", "(IIZ)Z"⟩
abbrev cX4_costOf : ByteArray := prog_6_method_8_code
def yX4_costOf : MethodName := ⟨RX4, "costOf", "(IIZ)I"⟩
abbrev cX4_serve : ByteArray := prog_6_method_9_code
def yX4_serve : MethodName := ⟨RX4, "serve", "(IIZ)V"⟩
abbrev cX4_fetch : ByteArray := prog_6_method_10_code
def yX4_fetch : MethodName := ⟨RX4, "fetch", "(IIZ)V"⟩
abbrev cX4_makeRoomInDiary : ByteArray := prog_6_method_11_code
def yX4_makeRoomInDiary : MethodName := ⟨RX4, "makeRoomInDiary", "()V"⟩
abbrev cX4_bringBack : ByteArray := prog_6_method_12_code
def yX4_bringBack : MethodName := ⟨RX4, "bringBack", "(II)V"⟩
abbrev cX4_throwAway : ByteArray := prog_6_method_13_code
def yX4_throwAway : MethodName := ⟨RX4, "throwAway", "(II)V"⟩
abbrev cX4_lineToDrop : ByteArray := prog_6_method_14_code
def yX4_lineToDrop : MethodName := ⟨RX4, "lineToDrop", "(I)I"⟩
abbrev cX4_lineFact : ByteArray := prog_6_method_15_code
def yX4_lineFact : MethodName := ⟨RX4, "lineFact", "(II)I"⟩
abbrev cX4_number : ByteArray := prog_6_method_16_code
def yX4_number : MethodName := ⟨RX4, "number", "(I)I"⟩
def RX5 : String := "CacheDiary$OrderReader"
def TX5 : u_T := fun k => match k with
  | 0 => ("CacheDiary$OrderReader", "cache", "[I", true)
  | 1 => ("CacheDiary$OrderReader", "line", "[I", true)
  | 2 => ("CacheDiary$OrderReader", "number", "[I", true)
  | 3 => ("CacheDiary$OrderReader", "count", "I", false)
  | 4 => ("CacheDiary$OrderReader", "place", "LCacheDiary$Place;", false)
  | 5 => ("CacheDiary$OrderReader", "write", "Z", false)
  | 6 => ("CacheDiary$OrderReader", "readCache", "I", false)
  | 7 => ("CacheDiary$OrderReader", "readLine", "I", false)
  | 8 => ("CacheDiary$OrderReader", "readNumber", "I", false)
  | 9 => ("CacheDiary$OrderReader", "digits", "I", false)
  | _ => ("CacheDiary$OrderReader", "firstDigit", "I", false)
def tyX5 : Nat → FieldType := fun k => match k with
  | 0 => .array .int
  | 1 => .array .int
  | 2 => .array .int
  | 3 => .int
  | 4 => .object "CacheDiary$Place"
  | 5 => .boolean
  | 6 => .int
  | 7 => .int
  | 8 => .int
  | 9 => .int
  | _ => .int
abbrev wsX50 : List Cond := u_ws RX5 TX5 11
theorem nmX5 : ∀ a, a < 11 → ∀ b, b < 11 → a ≠ b → (TX5 a).2.1 ≠ (TX5 b).2.1 := by decide +kernel
theorem tyX5_ok : ∀ k, k < 11 → parseFieldDescriptor (TX5 k).2.2.1 = some (tyX5 k) := by decide +kernel
abbrev cX5_init : ByteArray := prog_7_method_1_code
def yX5_init : MethodName := ⟨RX5, "<init>", "()V"⟩
abbrev cX5_isTicks : ByteArray := prog_7_method_2_code
def yX5_isTicks : MethodName := ⟨RX5, "isTicks", "(I)Z"⟩
abbrev cX5_readAll : ByteArray := prog_7_method_3_code
def yX5_readAll : MethodName := ⟨RX5, "readAll", "([BI)I"⟩
abbrev cX5_take : ByteArray := prog_7_method_4_code
def yX5_take : MethodName := ⟨RX5, "take", "(II)I"⟩
abbrev cX5_takeKind : ByteArray := prog_7_method_5_code
def yX5_takeKind : MethodName := ⟨RX5, "takeKind", "(I)Z"⟩
abbrev cX5_takeCache : ByteArray := prog_7_method_6_code
def yX5_takeCache : MethodName := ⟨RX5, "takeCache", "(I)Z"⟩
abbrev cX5_takeColon : ByteArray := prog_7_method_7_code
def yX5_takeColon : MethodName := ⟨RX5, "takeColon", "(I)Z"⟩
abbrev cX5_startNumber : ByteArray := prog_7_method_8_code
def yX5_startNumber : MethodName := ⟨RX5, "startNumber", "(LCacheDiary$Place;)V"⟩
abbrev cX5_takeOfNumber : ByteArray := prog_7_method_9_code
def yX5_takeOfNumber : MethodName := ⟨RX5, "takeOfNumber", "(II)I"⟩
abbrev cX5_takeDigit : ByteArray := prog_7_method_10_code
def yX5_takeDigit : MethodName := ⟨RX5, "takeDigit", "(II)I"⟩
abbrev cX5_keepOrder : ByteArray := prog_7_method_11_code
def yX5_keepOrder : MethodName := ⟨RX5, "keepOrder", "()V"⟩
def RX6 : String := "CacheDiary$Place"
def TX6 : u_T := fun k => match k with
  | _ => ("", "", "", false)
def tyX6 : Nat → FieldType := fun k => match k with
  | _ => .int
abbrev wsX60 : List Cond := u_ws RX6 TX6 0
theorem nmX6 : ∀ a, a < 0 → ∀ b, b < 0 → a ≠ b → (TX6 a).2.1 ≠ (TX6 b).2.1 := by decide +kernel
theorem tyX6_ok : ∀ k, k < 0 → parseFieldDescriptor (TX6 k).2.2.1 = some (tyX6 k) := by decide +kernel
def RX7 : String := "CacheDiary$Requests"
def TX7 : u_T := fun k => match k with
  | 0 => ("CacheDiary$Requests", "line", "[I", true)
  | 1 => ("CacheDiary$Requests", "value", "[I", true)
  | _ => ("CacheDiary$Requests", "putOff", "[I", true)
def tyX7 : Nat → FieldType := fun k => match k with
  | 0 => .array .int
  | 1 => .array .int
  | _ => .array .int
abbrev wsX70 : List Cond := u_ws RX7 TX7 3
theorem nmX7 : ∀ a, a < 3 → ∀ b, b < 3 → a ≠ b → (TX7 a).2.1 ≠ (TX7 b).2.1 := by decide +kernel
theorem tyX7_ok : ∀ k, k < 3 → parseFieldDescriptor (TX7 k).2.2.1 = some (tyX7 k) := by decide +kernel
abbrev cX7_init : ByteArray := prog_9_method_1_code
def yX7_init : MethodName := ⟨RX7, "<init>", "()V"⟩
abbrev cX7_forgetAll : ByteArray := prog_9_method_2_code
def yX7_forgetAll : MethodName := ⟨RX7, "forgetAll", "()V"⟩
abbrev cX7_takeOver : ByteArray := prog_9_method_3_code
def yX7_takeOver : MethodName := ⟨RX7, "takeOver", "(LCacheDiary$Requests;)V"⟩
abbrev cX7_isPending : ByteArray := prog_9_method_4_code
def yX7_isPending : MethodName := ⟨RX7, "isPending", "(I)Z"⟩
abbrev cX7_isWrite : ByteArray := prog_9_method_5_code
def yX7_isWrite : MethodName := ⟨RX7, "isWrite", "(I)Z"⟩
abbrev cX7_ask : ByteArray := prog_9_method_6_code
def yX7_ask : MethodName := ⟨RX7, "ask", "(III)V"⟩
abbrev cX7_forget : ByteArray := prog_9_method_7_code
def yX7_forget : MethodName := ⟨RX7, "forget", "(I)V"⟩
abbrev cX7_count : ByteArray := prog_9_method_8_code
def yX7_count : MethodName := ⟨RX7, "count", "()I"⟩
abbrev cX7_fact : ByteArray := prog_9_method_9_code
def yX7_fact : MethodName := ⟨RX7, "fact", "(II)I"⟩
def RX8 : String := "CacheDiary"
def TX8 : u_T := fun k => match k with
  | 0 => ("CacheDiary", "machine", "LCacheDiary$Machine;", true)
  | 1 => ("CacheDiary", "trial", "LCacheDiary$Machine;", true)
  | 2 => ("CacheDiary", "history", "LCacheDiary$History;", true)
  | 3 => ("CacheDiary", "text", "[B", true)
  | 4 => ("CacheDiary", "textLength", "I", false)
  | _ => ("CacheDiary", "orders", "LCacheDiary$OrderReader;", true)
def tyX8 : Nat → FieldType := fun k => match k with
  | 0 => .object "CacheDiary$Machine"
  | 1 => .object "CacheDiary$Machine"
  | 2 => .object "CacheDiary$History"
  | 3 => .array .byte
  | 4 => .int
  | _ => .object "CacheDiary$OrderReader"
abbrev wsX80 : List Cond := u_ws RX8 TX8 6
theorem nmX8 : ∀ a, a < 6 → ∀ b, b < 6 → a ≠ b → (TX8 a).2.1 ≠ (TX8 b).2.1 := by decide +kernel
theorem tyX8_ok : ∀ k, k < 6 → parseFieldDescriptor (TX8 k).2.2.1 = some (tyX8 k) := by decide +kernel
abbrev cX8_init : ByteArray := prog_1_method_1_code
def yX8_init : MethodName := ⟨RX8, "<init>", "()V"⟩
abbrev cX8_begin : ByteArray := prog_1_method_2_code
def yX8_begin : MethodName := ⟨RX8, "begin", "(III)I"⟩
abbrev cX8_read : ByteArray := prog_1_method_3_code
def yX8_read : MethodName := ⟨RX8, "read", "(II)I"⟩
abbrev cX8_write : ByteArray := prog_1_method_4_code
def yX8_write : MethodName := ⟨RX8, "write", "(III)I"⟩
abbrev cX8_takeBack : ByteArray := prog_1_method_5_code
def yX8_takeBack : MethodName := ⟨RX8, "takeBack", "(I)I"⟩
abbrev cX8_pass : ByteArray := prog_1_method_6_code
def yX8_pass : MethodName := ⟨RX8, "pass", "(I)I"⟩
abbrev cX8_drop : ByteArray := prog_1_method_7_code
def yX8_drop : MethodName := ⟨RX8, "drop", "(II)I"⟩
abbrev cX8_tear : ByteArray := prog_1_method_8_code
def yX8_tear : MethodName := ⟨RX8, "tear", "(I)I"⟩
abbrev cX8_copy : ByteArray := prog_1_method_9_code
def yX8_copy : MethodName := ⟨RX8, "copy", "(III)I"⟩
abbrev cX8_line : ByteArray := prog_1_method_10_code
def yX8_line : MethodName := ⟨RX8, "line", "(II)I"⟩
abbrev cX8_pending : ByteArray := prog_1_method_11_code
def yX8_pending : MethodName := ⟨RX8, "pending", "(II)I"⟩
abbrev cX8_entry : ByteArray := prog_1_method_12_code
def yX8_entry : MethodName := ⟨RX8, "entry", "(II)I"⟩
abbrev cX8_value : ByteArray := prog_1_method_13_code
def yX8_value : MethodName := ⟨RX8, "value", "(I)I"⟩
abbrev cX8_cost : ByteArray := prog_1_method_14_code
def yX8_cost : MethodName := ⟨RX8, "cost", "(IIZ)I"⟩
abbrev cX8_nextTorn : ByteArray := prog_1_method_15_code
def yX8_nextTorn : MethodName := ⟨RX8, "nextTorn", "()I"⟩
abbrev cX8_nextDropped : ByteArray := prog_1_method_16_code
def yX8_nextDropped : MethodName := ⟨RX8, "nextDropped", "(I)I"⟩
abbrev cX8_ticksToServe : ByteArray := prog_1_method_17_code
def yX8_ticksToServe : MethodName := ⟨RX8, "ticksToServe", "()I"⟩
abbrev cX8_cheapest : ByteArray := prog_1_method_18_code
def yX8_cheapest : MethodName := ⟨RX8, "cheapest", "(IZ)I"⟩
abbrev cX8_hitRate : ByteArray := prog_1_method_19_code
def yX8_hitRate : MethodName := ⟨RX8, "hitRate", "()D"⟩
abbrev cX8_append : ByteArray := prog_1_method_20_code
def yX8_append : MethodName := ⟨RX8, "append", "(I)I"⟩
abbrev cX8_clearText : ByteArray := prog_1_method_21_code
def yX8_clearText : MethodName := ⟨RX8, "clearText", "()I"⟩
abbrev cX8_carryOut : ByteArray := prog_1_method_22_code
def yX8_carryOut : MethodName := ⟨RX8, "carryOut", "()I"⟩
abbrev cX8_undo : ByteArray := prog_1_method_23_code
def yX8_undo : MethodName := ⟨RX8, "undo", "()I"⟩
abbrev cX8_digest : ByteArray := prog_1_method_24_code
def yX8_digest : MethodName := ⟨RX8, "digest", "()J"⟩
abbrev cX8_hashLine : ByteArray := prog_1_method_25_code
def yX8_hashLine : MethodName := ⟨RX8, "hashLine", "(JI)J"⟩
abbrev cX8_isPossible : ByteArray := prog_1_method_26_code
def yX8_isPossible : MethodName := ⟨RX8, "isPossible", "(I)Z"⟩
abbrev cX8_needIndex : ByteArray := prog_1_method_27_code
def yX8_needIndex : MethodName := ⟨RX8, "needIndex", "(II)V"⟩
abbrev cX8_needRange : ByteArray := prog_1_method_28_code
def yX8_needRange : MethodName := ⟨RX8, "needRange", "(III)V"⟩
abbrev cX8_needState : ByteArray := prog_1_method_29_code
def yX8_needState : MethodName := ⟨RX8, "needState", "(Z)V"⟩
def RX9 : String := "CacheDiaryModel"
def TX9 : u_T := fun k => match k with
  | 0 => ("CacheDiaryModel", "v", "[I", true)
  | 1 => ("CacheDiaryModel", "spare", "[I", true)
  | 2 => ("CacheDiaryModel", "saved", "[I", true)
  | 3 => ("CacheDiaryModel", "saves", "I", false)
  | 4 => ("CacheDiaryModel", "text", "[I", true)
  | 5 => ("CacheDiaryModel", "length", "I", false)
  | 6 => ("CacheDiaryModel", "thrown", "I", false)
  | 7 => ("CacheDiaryModel", "place", "I", false)
  | _ => ("CacheDiaryModel", "order", "[I", true)
def tyX9 : Nat → FieldType := fun k => match k with
  | 0 => .array .int
  | 1 => .array .int
  | 2 => .array .int
  | 3 => .int
  | 4 => .array .int
  | 5 => .int
  | 6 => .int
  | 7 => .int
  | _ => .array .int
abbrev wsX90 : List Cond := u_ws RX9 TX9 9
theorem nmX9 : ∀ a, a < 9 → ∀ b, b < 9 → a ≠ b → (TX9 a).2.1 ≠ (TX9 b).2.1 := by decide +kernel
theorem tyX9_ok : ∀ k, k < 9 → parseFieldDescriptor (TX9 k).2.2.1 = some (tyX9 k) := by decide +kernel
abbrev cX9_init : ByteArray := prog_11_method_1_code
def yX9_init : MethodName := ⟨RX9, "<init>", "()V"⟩
abbrev cX9_thrown : ByteArray := prog_11_method_2_code
def yX9_thrown : MethodName := ⟨RX9, "thrown", "()I"⟩
abbrev cX9_in : ByteArray := prog_11_method_3_code
def yX9_in : MethodName := ⟨RX9, "in", "(III)Z"⟩
abbrev cX9_fails : ByteArray := prog_11_method_4_code
def yX9_fails : MethodName := ⟨RX9, "fails", "(I)I"⟩
abbrev cX9_anew : ByteArray := prog_11_method_5_code
def yX9_anew : MethodName := ⟨RX9, "anew", "(III)V"⟩
abbrev cX9_keep : ByteArray := prog_11_method_6_code
def yX9_keep : MethodName := ⟨RX9, "keep", "()V"⟩
abbrev cX9_bringBack : ByteArray := prog_11_method_7_code
def yX9_bringBack : MethodName := ⟨RX9, "bringBack", "()V"⟩
abbrev cX9_save : ByteArray := prog_11_method_8_code
def yX9_save : MethodName := ⟨RX9, "save", "()V"⟩
abbrev cX9_isCache : ByteArray := prog_11_method_9_code
def yX9_isCache : MethodName := ⟨RX9, "isCache", "(I)Z"⟩
abbrev cX9_isLine : ByteArray := prog_11_method_10_code
def yX9_isLine : MethodName := ⟨RX9, "isLine", "(I)Z"⟩
abbrev cX9_slotAt : ByteArray := prog_11_method_11_code
def yX9_slotAt : MethodName := ⟨RX9, "slotAt", "(II)I"⟩
abbrev cX9_copyOf : ByteArray := prog_11_method_12_code
def yX9_copyOf : MethodName := ⟨RX9, "copyOf", "(II)I"⟩
abbrev cX9_oldestCopy : ByteArray := prog_11_method_13_code
def yX9_oldestCopy : MethodName := ⟨RX9, "oldestCopy", "(I)I"⟩
abbrev cX9_pageOf : ByteArray := prog_11_method_14_code
def yX9_pageOf : MethodName := ⟨RX9, "pageOf", "(I)I"⟩
abbrev cX9_oldestPage : ByteArray := prog_11_method_15_code
def yX9_oldestPage : MethodName := ⟨RX9, "oldestPage", "()I"⟩
abbrev cX9_tearOut : ByteArray := prog_11_method_16_code
def yX9_tearOut : MethodName := ⟨RX9, "tearOut", "(I)V"⟩
abbrev cX9_toMemory : ByteArray := prog_11_method_17_code
def yX9_toMemory : MethodName := ⟨RX9, "toMemory", "(I)V"⟩
abbrev cX9_throwAway : ByteArray := prog_11_method_18_code
def yX9_throwAway : MethodName := ⟨RX9, "throwAway", "(II)I"⟩
abbrev cX9_ownerOf : ByteArray := prog_11_method_19_code
def yX9_ownerOf : MethodName := ⟨RX9, "ownerOf", "(I)I"⟩
abbrev cX9_sharersOf : ByteArray := prog_11_method_20_code
def yX9_sharersOf : MethodName := ⟨RX9, "sharersOf", "(I)I"⟩
abbrev cX9_isHit : ByteArray := prog_11_method_21_code
def yX9_isHit : MethodName := ⟨RX9, "isHit", "(IIZ)Z"⟩
abbrev cX9_opensPage : ByteArray := prog_11_method_22_code
def yX9_opensPage : MethodName := ⟨RX9, "opensPage", "(I)I"⟩
abbrev cX9_reachesOthers : ByteArray := prog_11_method_23_code
def yX9_reachesOthers : MethodName := ⟨RX9, "reachesOthers", "(IIZ)I"⟩
abbrev cX9_misses : ByteArray := prog_11_method_24_code
def yX9_misses : MethodName := ⟨RX9, "misses", "(III)I"⟩
abbrev cX9_serves : ByteArray := prog_11_method_25_code
def yX9_serves : MethodName := ⟨RX9, "serves", "(III)I"⟩
abbrev cX9_tick : ByteArray := prog_11_method_26_code
def yX9_tick : MethodName := ⟨RX9, "tick", "()I"⟩
abbrev cX9_ticks : ByteArray := prog_11_method_27_code
def yX9_ticks : MethodName := ⟨RX9, "ticks", "(I)I"⟩
abbrev cX9_asks : ByteArray := prog_11_method_28_code
def yX9_asks : MethodName := ⟨RX9, "asks", "(III)I"⟩
abbrev cX9_isAsking : ByteArray := prog_11_method_29_code
def yX9_isAsking : MethodName := ⟨RX9, "isAsking", "(I)Z"⟩
abbrev cX9_waiting : ByteArray := prog_11_method_30_code
def yX9_waiting : MethodName := ⟨RX9, "waiting", "()I"⟩
abbrev cX9_begin : ByteArray := prog_11_method_31_code
def yX9_begin : MethodName := ⟨RX9, "begin", "(III)I"⟩
abbrev cX9_read : ByteArray := prog_11_method_32_code
def yX9_read : MethodName := ⟨RX9, "read", "(II)I"⟩
abbrev cX9_write : ByteArray := prog_11_method_33_code
def yX9_write : MethodName := ⟨RX9, "write", "(III)I"⟩
abbrev cX9_takeBack : ByteArray := prog_11_method_34_code
def yX9_takeBack : MethodName := ⟨RX9, "takeBack", "(I)I"⟩
abbrev cX9_pass : ByteArray := prog_11_method_35_code
def yX9_pass : MethodName := ⟨RX9, "pass", "(I)I"⟩
abbrev cX9_drop : ByteArray := prog_11_method_36_code
def yX9_drop : MethodName := ⟨RX9, "drop", "(II)I"⟩
abbrev cX9_ones : ByteArray := prog_11_method_37_code
def yX9_ones : MethodName := ⟨RX9, "ones", "(I)I"⟩
abbrev cX9_tear : ByteArray := prog_11_method_38_code
def yX9_tear : MethodName := ⟨RX9, "tear", "(I)I"⟩
abbrev cX9_aboutCopy : ByteArray := prog_11_method_39_code
def yX9_aboutCopy : MethodName := ⟨RX9, "aboutCopy", "(III)I"⟩
abbrev cX9_copy : ByteArray := prog_11_method_40_code
def yX9_copy : MethodName := ⟨RX9, "copy", "(III)I"⟩
abbrev cX9_aboutLine : ByteArray := prog_11_method_41_code
def yX9_aboutLine : MethodName := ⟨RX9, "aboutLine", "(II)I"⟩
abbrev cX9_line : ByteArray := prog_11_method_42_code
def yX9_line : MethodName := ⟨RX9, "line", "(II)I"⟩
abbrev cX9_aboutPending : ByteArray := prog_11_method_43_code
def yX9_aboutPending : MethodName := ⟨RX9, "aboutPending", "(II)I"⟩
abbrev cX9_pending : ByteArray := prog_11_method_44_code
def yX9_pending : MethodName := ⟨RX9, "pending", "(II)I"⟩
abbrev cX9_entry : ByteArray := prog_11_method_45_code
def yX9_entry : MethodName := ⟨RX9, "entry", "(II)I"⟩
abbrev cX9_number : ByteArray := prog_11_method_46_code
def yX9_number : MethodName := ⟨RX9, "number", "(I)I"⟩
abbrev cX9_value : ByteArray := prog_11_method_47_code
def yX9_value : MethodName := ⟨RX9, "value", "(I)I"⟩
abbrev cX9_costOf : ByteArray := prog_11_method_48_code
def yX9_costOf : MethodName := ⟨RX9, "costOf", "(IIZ)I"⟩
abbrev cX9_cost : ByteArray := prog_11_method_49_code
def yX9_cost : MethodName := ⟨RX9, "cost", "(IIZ)I"⟩
abbrev cX9_nextTorn : ByteArray := prog_11_method_50_code
def yX9_nextTorn : MethodName := ⟨RX9, "nextTorn", "()I"⟩
abbrev cX9_nextDropped : ByteArray := prog_11_method_51_code
def yX9_nextDropped : MethodName := ⟨RX9, "nextDropped", "(I)I"⟩
abbrev cX9_ticksToServe : ByteArray := prog_11_method_52_code
def yX9_ticksToServe : MethodName := ⟨RX9, "ticksToServe", "()I"⟩
abbrev cX9_cheapest : ByteArray := prog_11_method_53_code
def yX9_cheapest : MethodName := ⟨RX9, "cheapest", "(IZ)I"⟩
abbrev cX9_hitRate : ByteArray := prog_11_method_54_code
def yX9_hitRate : MethodName := ⟨RX9, "hitRate", "()D"⟩
abbrev cX9_append : ByteArray := prog_11_method_55_code
def yX9_append : MethodName := ⟨RX9, "append", "(I)I"⟩
abbrev cX9_clearText : ByteArray := prog_11_method_56_code
def yX9_clearText : MethodName := ⟨RX9, "clearText", "()I"⟩
abbrev cX9_isDigit : ByteArray := prog_11_method_57_code
def yX9_isDigit : MethodName := ⟨RX9, "isDigit", "(I)Z"⟩
abbrev cX9_sign : ByteArray := prog_11_method_58_code
def yX9_sign : MethodName := ⟨RX9, "sign", "(I)Z"⟩
abbrev cX9_numberInto : ByteArray := prog_11_method_59_code
def yX9_numberInto : MethodName := ⟨RX9, "numberInto", "(IIII)Z"⟩
abbrev cX9_readOrder : ByteArray := prog_11_method_60_code
def yX9_readOrder : MethodName := ⟨RX9, "readOrder", "()Z"⟩
abbrev cX9_doOrder : ByteArray := prog_11_method_61_code
def yX9_doOrder : MethodName := ⟨RX9, "doOrder", "()Z"⟩
abbrev cX9_carryOut : ByteArray := prog_11_method_62_code
def yX9_carryOut : MethodName := ⟨RX9, "carryOut", "()I"⟩
abbrev cX9_undo : ByteArray := prog_11_method_63_code
def yX9_undo : MethodName := ⟨RX9, "undo", "()I"⟩
abbrev cX9_digest : ByteArray := prog_11_method_64_code
def yX9_digest : MethodName := ⟨RX9, "digest", "()J"⟩
def RJx145de : String := "java/io/Serializable"
def TJx145de : u_T := fun k => match k with
  | _ => ("", "", "", false)
def tyJx145de : Nat → FieldType := fun k => match k with
  | _ => .int
abbrev wsJx145de0 : List Cond := u_ws RJx145de TJx145de 0
theorem nmJx145de : ∀ a, a < 0 → ∀ b, b < 0 → a ≠ b → (TJx145de a).2.1 ≠ (TJx145de b).2.1 := by decide +kernel
theorem tyJx145de_ok : ∀ k, k < 0 → parseFieldDescriptor (TJx145de k).2.2.1 = some (tyJx145de k) := by decide +kernel
def RJx29ce0 : String := "java/lang/Enum"
def TJx29ce0 : u_T := fun k => match k with
  | _ => ("", "", "", false)
def tyJx29ce0 : Nat → FieldType := fun k => match k with
  | _ => .int
abbrev wsJx29ce00 : List Cond := u_ws RJx29ce0 TJx29ce0 0
theorem nmJx29ce0 : ∀ a, a < 0 → ∀ b, b < 0 → a ≠ b → (TJx29ce0 a).2.1 ≠ (TJx29ce0 b).2.1 := by decide +kernel
theorem tyJx29ce0_ok : ∀ k, k < 0 → parseFieldDescriptor (TJx29ce0 k).2.2.1 = some (tyJx29ce0 k) := by decide +kernel
def RJ6 : String := "java/lang/Integer"
def TJ6 : u_T := fun k => match k with
  | _ => ("", "", "", false)
def tyJ6 : Nat → FieldType := fun k => match k with
  | _ => .int
abbrev wsJ60 : List Cond := u_ws RJ6 TJ6 0
theorem nmJ6 : ∀ a, a < 0 → ∀ b, b < 0 → a ≠ b → (TJ6 a).2.1 ≠ (TJ6 b).2.1 := by decide +kernel
theorem tyJ6_ok : ∀ k, k < 0 → parseFieldDescriptor (TJ6 k).2.2.1 = some (tyJ6 k) := by decide +kernel
abbrev cJ6_bitCount_0f7a4 : ByteArray := prog_17_method_49_code
def yJ6_bitCount_0f7a4 : MethodName := ⟨RJ6, "bitCount", "(I)I"⟩
def RJ0 : String := "java/lang/String"
def TJ0 : u_T := fun k => match k with
  | _ => ("", "", "", false)
def tyJ0 : Nat → FieldType := fun k => match k with
  | _ => .int
abbrev wsJ00 : List Cond := u_ws RJ0 TJ0 0
theorem nmJ0 : ∀ a, a < 0 → ∀ b, b < 0 → a ≠ b → (TJ0 a).2.1 ≠ (TJ0 b).2.1 := by decide +kernel
theorem tyJ0_ok : ∀ k, k < 0 → parseFieldDescriptor (TJ0 k).2.2.1 = some (tyJ0 k) := by decide +kernel
def RJ10 : String := "java/lang/System"
def TJ10 : u_T := fun k => match k with
  | _ => ("", "", "", false)
def tyJ10 : Nat → FieldType := fun k => match k with
  | _ => .int
abbrev wsJ100 : List Cond := u_ws RJ10 TJ10 0
theorem nmJ10 : ∀ a, a < 0 → ∀ b, b < 0 → a ≠ b → (TJ10 a).2.1 ≠ (TJ10 b).2.1 := by decide +kernel
theorem tyJ10_ok : ∀ k, k < 0 → parseFieldDescriptor (TJ10 k).2.2.1 = some (tyJ10 k) := by decide +kernel
def RJ7 : String := "java/util/Arrays"
def TJ7 : u_T := fun k => match k with
  | _ => ("", "", "", false)
def tyJ7 : Nat → FieldType := fun k => match k with
  | _ => .int
abbrev wsJ70 : List Cond := u_ws RJ7 TJ7 0
theorem nmJ7 : ∀ a, a < 0 → ∀ b, b < 0 → a ≠ b → (TJ7 a).2.1 ≠ (TJ7 b).2.1 := by decide +kernel
theorem tyJ7_ok : ∀ k, k < 0 → parseFieldDescriptor (TJ7 k).2.2.1 = some (tyJ7 k) := by decide +kernel
abbrev cJ7_fill_53178 : ByteArray := prog_22_method_103_code
def yJ7_fill_53178 : MethodName := ⟨RJ7, "fill", "([II)V"⟩
def RL : String := "CacheDiaryLaw"
abbrev cL_begin : ByteArray := method_3_code
def yL_begin : MethodName := ⟨RL, "begin", "(LCacheDiary;III[J)I"⟩
abbrev cL_read : ByteArray := method_4_code
def yL_read : MethodName := ⟨RL, "read", "(LCacheDiary;II[J)I"⟩
abbrev cL_write : ByteArray := method_5_code
def yL_write : MethodName := ⟨RL, "write", "(LCacheDiary;III[J)I"⟩
abbrev cL_takeBack : ByteArray := method_6_code
def yL_takeBack : MethodName := ⟨RL, "takeBack", "(LCacheDiary;I[J)I"⟩
abbrev cL_pass : ByteArray := method_7_code
def yL_pass : MethodName := ⟨RL, "pass", "(LCacheDiary;I[J)I"⟩
abbrev cL_drop : ByteArray := method_8_code
def yL_drop : MethodName := ⟨RL, "drop", "(LCacheDiary;II[J)I"⟩
abbrev cL_tear : ByteArray := method_9_code
def yL_tear : MethodName := ⟨RL, "tear", "(LCacheDiary;I[J)I"⟩
abbrev cL_copy : ByteArray := method_10_code
def yL_copy : MethodName := ⟨RL, "copy", "(LCacheDiary;III[J)I"⟩
abbrev cL_line : ByteArray := method_11_code
def yL_line : MethodName := ⟨RL, "line", "(LCacheDiary;II[J)I"⟩
abbrev cL_pending : ByteArray := method_12_code
def yL_pending : MethodName := ⟨RL, "pending", "(LCacheDiary;II[J)I"⟩
abbrev cL_entry : ByteArray := method_13_code
def yL_entry : MethodName := ⟨RL, "entry", "(LCacheDiary;II[J)I"⟩
abbrev cL_value : ByteArray := method_14_code
def yL_value : MethodName := ⟨RL, "value", "(LCacheDiary;I[J)I"⟩
abbrev cL_cost : ByteArray := method_15_code
def yL_cost : MethodName := ⟨RL, "cost", "(LCacheDiary;IIZ[J)I"⟩
abbrev cL_nextDropped : ByteArray := method_16_code
def yL_nextDropped : MethodName := ⟨RL, "nextDropped", "(LCacheDiary;I[J)I"⟩
abbrev cL_cheapest : ByteArray := method_17_code
def yL_cheapest : MethodName := ⟨RL, "cheapest", "(LCacheDiary;IZ[J)I"⟩
abbrev cL_append : ByteArray := method_18_code
def yL_append : MethodName := ⟨RL, "append", "(LCacheDiary;I[J)I"⟩
abbrev cL_undo : ByteArray := method_19_code
def yL_undo : MethodName := ⟨RL, "undo", "(LCacheDiary;[J)I"⟩
abbrev cL_law : ByteArray := code
def yL_law : MethodName := ⟨RL, "law", "([I)Z"⟩
def wsL_begin_r1 : List Cond := [Cond.classLink RL 13 "java/lang/IllegalArgumentException", Cond.methodLink RL 7 yX8_begin, Cond.instanceMethod yX8_begin, Cond.selects RX8 yX8_begin yX8_begin, Cond.initialized RX8, Cond.code yX8_begin cX8_begin 5 (some .int), Cond.fieldLink RX8 26 "CacheDiary" "history" "LCacheDiary$History;", Cond.fieldLink RX8 12 "CacheDiary" "machine" "LCacheDiary$Machine;", Cond.fieldLink RX8 52 "CacheDiary$Machine" "time" "I", Cond.methodLink RX8 45 yX8_needRange, Cond.static yX8_needRange, Cond.code yX8_needRange cX8_needRange 3 none, Cond.classLink RX8 213 "java/lang/IllegalArgumentException", Cond.initialized "java/lang/IllegalArgumentException", Cond.methodLink RX8 48 yX2_save, Cond.instanceMethod yX2_save, Cond.selects RX2 yX2_save yX2_save, Cond.initialized RX2, Cond.code yX2_save cX2_save 2 none, Cond.fieldLink RX2 18 "CacheDiary$History" "count" "I", Cond.fieldLink RX2 11 "CacheDiary$History" "saved" "[LCacheDiary$Machine;", Cond.methodLink RX2 22 yX2_dropOldest, Cond.instanceMethod yX2_dropOldest, Cond.selects RX2 yX2_dropOldest yX2_dropOldest]
def wsL_begin_r2 : List Cond := [Cond.code yX2_dropOldest cX2_dropOldest 3 none, Cond.methodLink RX2 25 yX4_takeOver, Cond.instanceMethod yX4_takeOver, Cond.selects RX4 yX4_takeOver yX4_takeOver, Cond.initialized RX4, Cond.code yX4_takeOver cX4_takeOver 2 none, Cond.fieldLink RX4 9 "CacheDiary$Machine" "memory" "[I", Cond.methodLink RX4 90 arraycopyName, Cond.native arraycopyName, Cond.static arraycopyName, Cond.initialized "java/lang/System", Cond.fieldLink RX4 15 "CacheDiary$Machine" "lastWritten" "[I", Cond.fieldLink RX4 21 "CacheDiary$Machine" "copies" "LCacheDiary$Copies;", Cond.fieldLink RX4 28 "CacheDiary$Machine" "diary" "LCacheDiary$Diary;", Cond.fieldLink RX4 35 "CacheDiary$Machine" "requests" "LCacheDiary$Requests;", Cond.fieldLink RX4 42 "CacheDiary$Machine" "log" "LCacheDiary$Log;", Cond.fieldLink RX4 66 "CacheDiary$Machine" "caches" "I", Cond.fieldLink RX4 69 "CacheDiary$Machine" "slots" "I", Cond.fieldLink RX4 72 "CacheDiary$Machine" "time" "I", Cond.fieldLink RX4 75 "CacheDiary$Machine" "messages" "I", Cond.fieldLink RX4 78 "CacheDiary$Machine" "hits" "I", Cond.fieldLink RX4 81 "CacheDiary$Machine" "misses" "I", Cond.fieldLink RX4 84 "CacheDiary$Machine" "races" "I", Cond.fieldLink RX4 87 "CacheDiary$Machine" "broughtBack" "I"]
def wsL_begin_r3 : List Cond := [Cond.methodLink RX4 96 yX0_takeOver, Cond.instanceMethod yX0_takeOver, Cond.selects RX0 yX0_takeOver yX0_takeOver, Cond.initialized RX0, Cond.code yX0_takeOver cX0_takeOver 2 none, Cond.fieldLink RX0 9 "CacheDiary$Copies" "kind" "[I", Cond.methodLink RX0 34 arraycopyName, Cond.fieldLink RX0 15 "CacheDiary$Copies" "value" "[I", Cond.fieldLink RX0 18 "CacheDiary$Copies" "slot" "[I", Cond.fieldLink RX0 21 "CacheDiary$Copies" "lastUse" "[I", Cond.fieldLink RX0 30 "CacheDiary$Copies" "uses" "I", Cond.methodLink RX4 100 yX1_takeOver, Cond.instanceMethod yX1_takeOver, Cond.selects RX1 yX1_takeOver yX1_takeOver, Cond.initialized RX1, Cond.code yX1_takeOver cX1_takeOver 2 none, Cond.fieldLink RX1 9 "CacheDiary$Diary" "lastUse" "[I", Cond.methodLink RX1 40 arraycopyName, Cond.fieldLink RX1 21 "CacheDiary$Diary" "uses" "I", Cond.fieldLink RX1 25 "CacheDiary$Diary" "marks" "I", Cond.fieldLink RX1 28 "CacheDiary$Diary" "room" "I", Cond.fieldLink RX1 31 "CacheDiary$Diary" "pages" "I", Cond.fieldLink RX1 34 "CacheDiary$Diary" "timesAsked" "I", Cond.fieldLink RX1 37 "CacheDiary$Diary" "tornOut" "I"]
def wsL_begin_r4 : List Cond := [Cond.methodLink RX4 103 yX7_takeOver, Cond.instanceMethod yX7_takeOver, Cond.selects RX7 yX7_takeOver yX7_takeOver, Cond.initialized RX7, Cond.code yX7_takeOver cX7_takeOver 2 none, Cond.fieldLink RX7 9 "CacheDiary$Requests" "line" "[I", Cond.methodLink RX7 27 arraycopyName, Cond.fieldLink RX7 15 "CacheDiary$Requests" "value" "[I", Cond.fieldLink RX7 18 "CacheDiary$Requests" "putOff" "[I", Cond.methodLink RX4 106 yX3_takeOver, Cond.instanceMethod yX3_takeOver, Cond.selects RX3 yX3_takeOver yX3_takeOver, Cond.initialized RX3, Cond.code yX3_takeOver cX3_takeOver 2 none, Cond.fieldLink RX3 9 "CacheDiary$Log" "facts" "[I", Cond.methodLink RX3 15 arraycopyName, Cond.fieldLink RX3 21 "CacheDiary$Log" "count" "I", Cond.methodLink RX8 16 yX4_startAnew, Cond.instanceMethod yX4_startAnew, Cond.selects RX4 yX4_startAnew yX4_startAnew, Cond.code yX4_startAnew cX4_startAnew 4 none, Cond.fieldLink RX4 62 "CacheDiary$Log" "count" "I", Cond.methodLink RX4 46 yJ7_fill_53178, Cond.static yJ7_fill_53178]
def wsL_begin_r5 : List Cond := [Cond.initialized RJ7, Cond.code yJ7_fill_53178 cJ7_fill_53178 4 none, Cond.methodLink RX4 52 yX0_removeAll, Cond.instanceMethod yX0_removeAll, Cond.selects RX0 yX0_removeAll yX0_removeAll, Cond.code yX0_removeAll cX0_removeAll 1 none, Cond.methodLink RX0 24 yJ7_fill_53178, Cond.methodLink RX4 55 yX1_empty, Cond.instanceMethod yX1_empty, Cond.selects RX1 yX1_empty yX1_empty, Cond.code yX1_empty cX1_empty 2 none, Cond.methodLink RX1 15 yJ7_fill_53178, Cond.methodLink RX4 59 yX7_forgetAll, Cond.instanceMethod yX7_forgetAll, Cond.selects RX7 yX7_forgetAll yX7_forgetAll, Cond.code yX7_forgetAll cX7_forgetAll 1 none, Cond.methodLink RX7 21 yJ7_fill_53178]
def wsL_begin : List Cond := .codeWith yL_begin cL_begin 6 (some .int) [(0, 12, 15, 13)] :: ((wsL_begin_r1 ++ (wsL_begin_r2 ++ (wsL_begin_r3 ++ (wsL_begin_r4 ++ wsL_begin_r5)))) ++ wsX80 ++ wsX40 ++ wsX20 ++ wsX00 ++ wsX10 ++ wsX70 ++ wsX30 ++ (vx_atS RX8 217 "java/lang/IllegalArgumentException" ["java/lang/RuntimeException", "java/lang/Exception"]).filter goodWord)
def wsL_read_r1 : List Cond := [Cond.classLink RL 19 "java/lang/IndexOutOfBoundsException", Cond.classLink RL 21 "java/lang/IllegalStateException", Cond.methodLink RL 15 yX8_read, Cond.instanceMethod yX8_read, Cond.selects RX8 yX8_read yX8_read, Cond.initialized RX8, Cond.code yX8_read cX8_read 3 (some .int), Cond.fieldLink RX8 12 "CacheDiary" "machine" "LCacheDiary$Machine;", Cond.fieldLink RX8 55 "CacheDiary$Machine" "caches" "I", Cond.fieldLink RX8 62 "CacheDiary$Machine" "requests" "LCacheDiary$Requests;", Cond.fieldLink RX8 26 "CacheDiary" "history" "LCacheDiary$History;", Cond.methodLink RX8 58 yX8_needIndex, Cond.static yX8_needIndex, Cond.code yX8_needIndex cX8_needIndex 2 none, Cond.classLink RX8 206 "java/lang/IndexOutOfBoundsException", Cond.initialized "java/lang/IndexOutOfBoundsException", Cond.methodLink RX8 66 yX7_isPending, Cond.instanceMethod yX7_isPending, Cond.selects RX7 yX7_isPending yX7_isPending, Cond.initialized RX7, Cond.code yX7_isPending cX7_isPending 2 (some .boolean), Cond.fieldLink RX7 9 "CacheDiary$Requests" "line" "[I", Cond.methodLink RX8 72 yX8_needState, Cond.static yX8_needState]
def wsL_read_r2 : List Cond := [Cond.code yX8_needState cX8_needState 1 none, Cond.classLink RX8 218 "java/lang/IllegalStateException", Cond.initialized "java/lang/IllegalStateException", Cond.methodLink RX8 48 yX2_save, Cond.instanceMethod yX2_save, Cond.selects RX2 yX2_save yX2_save, Cond.initialized RX2, Cond.code yX2_save cX2_save 2 none, Cond.fieldLink RX2 18 "CacheDiary$History" "count" "I", Cond.fieldLink RX2 11 "CacheDiary$History" "saved" "[LCacheDiary$Machine;", Cond.methodLink RX2 22 yX2_dropOldest, Cond.instanceMethod yX2_dropOldest, Cond.selects RX2 yX2_dropOldest yX2_dropOldest, Cond.code yX2_dropOldest cX2_dropOldest 3 none, Cond.methodLink RX2 25 yX4_takeOver, Cond.instanceMethod yX4_takeOver, Cond.selects RX4 yX4_takeOver yX4_takeOver, Cond.initialized RX4, Cond.code yX4_takeOver cX4_takeOver 2 none, Cond.fieldLink RX4 9 "CacheDiary$Machine" "memory" "[I", Cond.methodLink RX4 90 arraycopyName, Cond.native arraycopyName, Cond.static arraycopyName, Cond.initialized "java/lang/System"]
def wsL_read_r3 : List Cond := [Cond.fieldLink RX4 15 "CacheDiary$Machine" "lastWritten" "[I", Cond.fieldLink RX4 21 "CacheDiary$Machine" "copies" "LCacheDiary$Copies;", Cond.fieldLink RX4 28 "CacheDiary$Machine" "diary" "LCacheDiary$Diary;", Cond.fieldLink RX4 35 "CacheDiary$Machine" "requests" "LCacheDiary$Requests;", Cond.fieldLink RX4 42 "CacheDiary$Machine" "log" "LCacheDiary$Log;", Cond.fieldLink RX4 66 "CacheDiary$Machine" "caches" "I", Cond.fieldLink RX4 69 "CacheDiary$Machine" "slots" "I", Cond.fieldLink RX4 72 "CacheDiary$Machine" "time" "I", Cond.fieldLink RX4 75 "CacheDiary$Machine" "messages" "I", Cond.fieldLink RX4 78 "CacheDiary$Machine" "hits" "I", Cond.fieldLink RX4 81 "CacheDiary$Machine" "misses" "I", Cond.fieldLink RX4 84 "CacheDiary$Machine" "races" "I", Cond.fieldLink RX4 87 "CacheDiary$Machine" "broughtBack" "I", Cond.methodLink RX4 96 yX0_takeOver, Cond.instanceMethod yX0_takeOver, Cond.selects RX0 yX0_takeOver yX0_takeOver, Cond.initialized RX0, Cond.code yX0_takeOver cX0_takeOver 2 none, Cond.fieldLink RX0 9 "CacheDiary$Copies" "kind" "[I", Cond.methodLink RX0 34 arraycopyName, Cond.fieldLink RX0 15 "CacheDiary$Copies" "value" "[I", Cond.fieldLink RX0 18 "CacheDiary$Copies" "slot" "[I", Cond.fieldLink RX0 21 "CacheDiary$Copies" "lastUse" "[I", Cond.fieldLink RX0 30 "CacheDiary$Copies" "uses" "I"]
def wsL_read_r4 : List Cond := [Cond.methodLink RX4 100 yX1_takeOver, Cond.instanceMethod yX1_takeOver, Cond.selects RX1 yX1_takeOver yX1_takeOver, Cond.initialized RX1, Cond.code yX1_takeOver cX1_takeOver 2 none, Cond.fieldLink RX1 9 "CacheDiary$Diary" "lastUse" "[I", Cond.methodLink RX1 40 arraycopyName, Cond.fieldLink RX1 21 "CacheDiary$Diary" "uses" "I", Cond.fieldLink RX1 25 "CacheDiary$Diary" "marks" "I", Cond.fieldLink RX1 28 "CacheDiary$Diary" "room" "I", Cond.fieldLink RX1 31 "CacheDiary$Diary" "pages" "I", Cond.fieldLink RX1 34 "CacheDiary$Diary" "timesAsked" "I", Cond.fieldLink RX1 37 "CacheDiary$Diary" "tornOut" "I", Cond.methodLink RX4 103 yX7_takeOver, Cond.instanceMethod yX7_takeOver, Cond.selects RX7 yX7_takeOver yX7_takeOver, Cond.code yX7_takeOver cX7_takeOver 2 none, Cond.methodLink RX7 27 arraycopyName, Cond.fieldLink RX7 15 "CacheDiary$Requests" "value" "[I", Cond.fieldLink RX7 18 "CacheDiary$Requests" "putOff" "[I", Cond.methodLink RX4 106 yX3_takeOver, Cond.instanceMethod yX3_takeOver, Cond.selects RX3 yX3_takeOver yX3_takeOver, Cond.initialized RX3]
def wsL_read_r5 : List Cond := [Cond.code yX3_takeOver cX3_takeOver 2 none, Cond.fieldLink RX3 9 "CacheDiary$Log" "facts" "[I", Cond.methodLink RX3 15 arraycopyName, Cond.fieldLink RX3 21 "CacheDiary$Log" "count" "I", Cond.methodLink RX8 76 yX7_ask, Cond.instanceMethod yX7_ask, Cond.selects RX7 yX7_ask yX7_ask, Cond.code yX7_ask cX7_ask 4 none, Cond.methodLink RX8 79 yX4_isHit, Cond.instanceMethod yX4_isHit, Cond.selects RX4 yX4_isHit yX4_isHit, Cond.code yX4_isHit cX4_isHit 5 (some .boolean), Cond.methodLink RX4 137 yX0_kindOf, Cond.instanceMethod yX0_kindOf, Cond.selects RX0 yX0_kindOf yX0_kindOf, Cond.code yX0_kindOf cX0_kindOf 3 (some .int)]
def wsL_read : List Cond := .codeWith yL_read cL_read 5 (some .int) [(0, 10, 13, 19), (0, 10, 17, 21)] :: ((wsL_read_r1 ++ (wsL_read_r2 ++ (wsL_read_r3 ++ (wsL_read_r4 ++ wsL_read_r5)))) ++ wsX80 ++ wsX40 ++ wsX70 ++ wsX20 ++ wsX00 ++ wsX10 ++ wsX30 ++ (vx_atS RX8 210 "java/lang/IndexOutOfBoundsException" ["java/lang/RuntimeException", "java/lang/Exception"]).filter goodWord ++ (vx_atS RX8 222 "java/lang/IllegalStateException" ["java/lang/RuntimeException", "java/lang/Exception"]).filter goodWord)
def wsL_write_r1 : List Cond := [Cond.classLink RL 19 "java/lang/IndexOutOfBoundsException", Cond.classLink RL 13 "java/lang/IllegalArgumentException", Cond.classLink RL 21 "java/lang/IllegalStateException", Cond.methodLink RL 23 yX8_write, Cond.instanceMethod yX8_write, Cond.selects RX8 yX8_write yX8_write, Cond.initialized RX8, Cond.code yX8_write cX8_write 4 (some .int), Cond.fieldLink RX8 12 "CacheDiary" "machine" "LCacheDiary$Machine;", Cond.fieldLink RX8 55 "CacheDiary$Machine" "caches" "I", Cond.fieldLink RX8 62 "CacheDiary$Machine" "requests" "LCacheDiary$Requests;", Cond.fieldLink RX8 26 "CacheDiary" "history" "LCacheDiary$History;", Cond.methodLink RX8 58 yX8_needIndex, Cond.static yX8_needIndex, Cond.code yX8_needIndex cX8_needIndex 2 none, Cond.classLink RX8 206 "java/lang/IndexOutOfBoundsException", Cond.initialized "java/lang/IndexOutOfBoundsException", Cond.methodLink RX8 45 yX8_needRange, Cond.static yX8_needRange, Cond.code yX8_needRange cX8_needRange 3 none, Cond.classLink RX8 213 "java/lang/IllegalArgumentException", Cond.initialized "java/lang/IllegalArgumentException", Cond.methodLink RX8 66 yX7_isPending, Cond.instanceMethod yX7_isPending]
def wsL_write_r2 : List Cond := [Cond.selects RX7 yX7_isPending yX7_isPending, Cond.initialized RX7, Cond.code yX7_isPending cX7_isPending 2 (some .boolean), Cond.fieldLink RX7 9 "CacheDiary$Requests" "line" "[I", Cond.methodLink RX8 72 yX8_needState, Cond.static yX8_needState, Cond.code yX8_needState cX8_needState 1 none, Cond.classLink RX8 218 "java/lang/IllegalStateException", Cond.initialized "java/lang/IllegalStateException", Cond.methodLink RX8 48 yX2_save, Cond.instanceMethod yX2_save, Cond.selects RX2 yX2_save yX2_save, Cond.initialized RX2, Cond.code yX2_save cX2_save 2 none, Cond.fieldLink RX2 18 "CacheDiary$History" "count" "I", Cond.fieldLink RX2 11 "CacheDiary$History" "saved" "[LCacheDiary$Machine;", Cond.methodLink RX2 22 yX2_dropOldest, Cond.instanceMethod yX2_dropOldest, Cond.selects RX2 yX2_dropOldest yX2_dropOldest, Cond.code yX2_dropOldest cX2_dropOldest 3 none, Cond.methodLink RX2 25 yX4_takeOver, Cond.instanceMethod yX4_takeOver, Cond.selects RX4 yX4_takeOver yX4_takeOver, Cond.initialized RX4]
def wsL_write_r3 : List Cond := [Cond.code yX4_takeOver cX4_takeOver 2 none, Cond.fieldLink RX4 9 "CacheDiary$Machine" "memory" "[I", Cond.methodLink RX4 90 arraycopyName, Cond.native arraycopyName, Cond.static arraycopyName, Cond.initialized "java/lang/System", Cond.fieldLink RX4 15 "CacheDiary$Machine" "lastWritten" "[I", Cond.fieldLink RX4 21 "CacheDiary$Machine" "copies" "LCacheDiary$Copies;", Cond.fieldLink RX4 28 "CacheDiary$Machine" "diary" "LCacheDiary$Diary;", Cond.fieldLink RX4 35 "CacheDiary$Machine" "requests" "LCacheDiary$Requests;", Cond.fieldLink RX4 42 "CacheDiary$Machine" "log" "LCacheDiary$Log;", Cond.fieldLink RX4 66 "CacheDiary$Machine" "caches" "I", Cond.fieldLink RX4 69 "CacheDiary$Machine" "slots" "I", Cond.fieldLink RX4 72 "CacheDiary$Machine" "time" "I", Cond.fieldLink RX4 75 "CacheDiary$Machine" "messages" "I", Cond.fieldLink RX4 78 "CacheDiary$Machine" "hits" "I", Cond.fieldLink RX4 81 "CacheDiary$Machine" "misses" "I", Cond.fieldLink RX4 84 "CacheDiary$Machine" "races" "I", Cond.fieldLink RX4 87 "CacheDiary$Machine" "broughtBack" "I", Cond.methodLink RX4 96 yX0_takeOver, Cond.instanceMethod yX0_takeOver, Cond.selects RX0 yX0_takeOver yX0_takeOver, Cond.initialized RX0, Cond.code yX0_takeOver cX0_takeOver 2 none]
def wsL_write_r4 : List Cond := [Cond.fieldLink RX0 9 "CacheDiary$Copies" "kind" "[I", Cond.methodLink RX0 34 arraycopyName, Cond.fieldLink RX0 15 "CacheDiary$Copies" "value" "[I", Cond.fieldLink RX0 18 "CacheDiary$Copies" "slot" "[I", Cond.fieldLink RX0 21 "CacheDiary$Copies" "lastUse" "[I", Cond.fieldLink RX0 30 "CacheDiary$Copies" "uses" "I", Cond.methodLink RX4 100 yX1_takeOver, Cond.instanceMethod yX1_takeOver, Cond.selects RX1 yX1_takeOver yX1_takeOver, Cond.initialized RX1, Cond.code yX1_takeOver cX1_takeOver 2 none, Cond.fieldLink RX1 9 "CacheDiary$Diary" "lastUse" "[I", Cond.methodLink RX1 40 arraycopyName, Cond.fieldLink RX1 21 "CacheDiary$Diary" "uses" "I", Cond.fieldLink RX1 25 "CacheDiary$Diary" "marks" "I", Cond.fieldLink RX1 28 "CacheDiary$Diary" "room" "I", Cond.fieldLink RX1 31 "CacheDiary$Diary" "pages" "I", Cond.fieldLink RX1 34 "CacheDiary$Diary" "timesAsked" "I", Cond.fieldLink RX1 37 "CacheDiary$Diary" "tornOut" "I", Cond.methodLink RX4 103 yX7_takeOver, Cond.instanceMethod yX7_takeOver, Cond.selects RX7 yX7_takeOver yX7_takeOver, Cond.code yX7_takeOver cX7_takeOver 2 none, Cond.methodLink RX7 27 arraycopyName]
def wsL_write_r5 : List Cond := [Cond.fieldLink RX7 15 "CacheDiary$Requests" "value" "[I", Cond.fieldLink RX7 18 "CacheDiary$Requests" "putOff" "[I", Cond.methodLink RX4 106 yX3_takeOver, Cond.instanceMethod yX3_takeOver, Cond.selects RX3 yX3_takeOver yX3_takeOver, Cond.initialized RX3, Cond.code yX3_takeOver cX3_takeOver 2 none, Cond.fieldLink RX3 9 "CacheDiary$Log" "facts" "[I", Cond.methodLink RX3 15 arraycopyName, Cond.fieldLink RX3 21 "CacheDiary$Log" "count" "I", Cond.methodLink RX8 76 yX7_ask, Cond.instanceMethod yX7_ask, Cond.selects RX7 yX7_ask yX7_ask, Cond.code yX7_ask cX7_ask 4 none, Cond.methodLink RX8 79 yX4_isHit, Cond.instanceMethod yX4_isHit, Cond.selects RX4 yX4_isHit yX4_isHit, Cond.code yX4_isHit cX4_isHit 5 (some .boolean), Cond.methodLink RX4 137 yX0_kindOf, Cond.instanceMethod yX0_kindOf, Cond.selects RX0 yX0_kindOf yX0_kindOf, Cond.code yX0_kindOf cX0_kindOf 3 (some .int)]
def wsL_write : List Cond := .codeWith yL_write cL_write 6 (some .int) [(0, 12, 15, 19), (0, 12, 19, 13), (0, 12, 23, 21)] :: ((wsL_write_r1 ++ (wsL_write_r2 ++ (wsL_write_r3 ++ (wsL_write_r4 ++ wsL_write_r5)))) ++ wsX80 ++ wsX40 ++ wsX70 ++ wsX20 ++ wsX00 ++ wsX10 ++ wsX30 ++ (vx_atS RX8 210 "java/lang/IndexOutOfBoundsException" ["java/lang/RuntimeException", "java/lang/Exception"]).filter goodWord ++ (vx_atS RX8 217 "java/lang/IllegalArgumentException" ["java/lang/RuntimeException", "java/lang/Exception"]).filter goodWord ++ (vx_atS RX8 222 "java/lang/IllegalStateException" ["java/lang/RuntimeException", "java/lang/Exception"]).filter goodWord)
def wsL_takeBack_r1 : List Cond := [Cond.classLink RL 19 "java/lang/IndexOutOfBoundsException", Cond.classLink RL 21 "java/lang/IllegalStateException", Cond.methodLink RL 26 yX8_takeBack, Cond.instanceMethod yX8_takeBack, Cond.selects RX8 yX8_takeBack yX8_takeBack, Cond.initialized RX8, Cond.code yX8_takeBack cX8_takeBack 3 (some .int), Cond.fieldLink RX8 12 "CacheDiary" "machine" "LCacheDiary$Machine;", Cond.fieldLink RX8 55 "CacheDiary$Machine" "caches" "I", Cond.fieldLink RX8 62 "CacheDiary$Machine" "requests" "LCacheDiary$Requests;", Cond.fieldLink RX8 26 "CacheDiary" "history" "LCacheDiary$History;", Cond.fieldLink RX8 83 "CacheDiary$Requests" "line" "[I", Cond.methodLink RX8 58 yX8_needIndex, Cond.static yX8_needIndex, Cond.code yX8_needIndex cX8_needIndex 2 none, Cond.classLink RX8 206 "java/lang/IndexOutOfBoundsException", Cond.initialized "java/lang/IndexOutOfBoundsException", Cond.methodLink RX8 66 yX7_isPending, Cond.instanceMethod yX7_isPending, Cond.selects RX7 yX7_isPending yX7_isPending, Cond.initialized RX7, Cond.code yX7_isPending cX7_isPending 2 (some .boolean), Cond.fieldLink RX7 9 "CacheDiary$Requests" "line" "[I", Cond.methodLink RX8 72 yX8_needState]
def wsL_takeBack_r2 : List Cond := [Cond.static yX8_needState, Cond.code yX8_needState cX8_needState 1 none, Cond.classLink RX8 218 "java/lang/IllegalStateException", Cond.initialized "java/lang/IllegalStateException", Cond.methodLink RX8 48 yX2_save, Cond.instanceMethod yX2_save, Cond.selects RX2 yX2_save yX2_save, Cond.initialized RX2, Cond.code yX2_save cX2_save 2 none, Cond.fieldLink RX2 18 "CacheDiary$History" "count" "I", Cond.fieldLink RX2 11 "CacheDiary$History" "saved" "[LCacheDiary$Machine;", Cond.methodLink RX2 22 yX2_dropOldest, Cond.instanceMethod yX2_dropOldest, Cond.selects RX2 yX2_dropOldest yX2_dropOldest, Cond.code yX2_dropOldest cX2_dropOldest 3 none, Cond.methodLink RX2 25 yX4_takeOver, Cond.instanceMethod yX4_takeOver, Cond.selects RX4 yX4_takeOver yX4_takeOver, Cond.initialized RX4, Cond.code yX4_takeOver cX4_takeOver 2 none, Cond.fieldLink RX4 9 "CacheDiary$Machine" "memory" "[I", Cond.methodLink RX4 90 arraycopyName, Cond.native arraycopyName, Cond.static arraycopyName]
def wsL_takeBack_r3 : List Cond := [Cond.initialized "java/lang/System", Cond.fieldLink RX4 15 "CacheDiary$Machine" "lastWritten" "[I", Cond.fieldLink RX4 21 "CacheDiary$Machine" "copies" "LCacheDiary$Copies;", Cond.fieldLink RX4 28 "CacheDiary$Machine" "diary" "LCacheDiary$Diary;", Cond.fieldLink RX4 35 "CacheDiary$Machine" "requests" "LCacheDiary$Requests;", Cond.fieldLink RX4 42 "CacheDiary$Machine" "log" "LCacheDiary$Log;", Cond.fieldLink RX4 66 "CacheDiary$Machine" "caches" "I", Cond.fieldLink RX4 69 "CacheDiary$Machine" "slots" "I", Cond.fieldLink RX4 72 "CacheDiary$Machine" "time" "I", Cond.fieldLink RX4 75 "CacheDiary$Machine" "messages" "I", Cond.fieldLink RX4 78 "CacheDiary$Machine" "hits" "I", Cond.fieldLink RX4 81 "CacheDiary$Machine" "misses" "I", Cond.fieldLink RX4 84 "CacheDiary$Machine" "races" "I", Cond.fieldLink RX4 87 "CacheDiary$Machine" "broughtBack" "I", Cond.methodLink RX4 96 yX0_takeOver, Cond.instanceMethod yX0_takeOver, Cond.selects RX0 yX0_takeOver yX0_takeOver, Cond.initialized RX0, Cond.code yX0_takeOver cX0_takeOver 2 none, Cond.fieldLink RX0 9 "CacheDiary$Copies" "kind" "[I", Cond.methodLink RX0 34 arraycopyName, Cond.fieldLink RX0 15 "CacheDiary$Copies" "value" "[I", Cond.fieldLink RX0 18 "CacheDiary$Copies" "slot" "[I", Cond.fieldLink RX0 21 "CacheDiary$Copies" "lastUse" "[I"]
def wsL_takeBack_r4 : List Cond := [Cond.fieldLink RX0 30 "CacheDiary$Copies" "uses" "I", Cond.methodLink RX4 100 yX1_takeOver, Cond.instanceMethod yX1_takeOver, Cond.selects RX1 yX1_takeOver yX1_takeOver, Cond.initialized RX1, Cond.code yX1_takeOver cX1_takeOver 2 none, Cond.fieldLink RX1 9 "CacheDiary$Diary" "lastUse" "[I", Cond.methodLink RX1 40 arraycopyName, Cond.fieldLink RX1 21 "CacheDiary$Diary" "uses" "I", Cond.fieldLink RX1 25 "CacheDiary$Diary" "marks" "I", Cond.fieldLink RX1 28 "CacheDiary$Diary" "room" "I", Cond.fieldLink RX1 31 "CacheDiary$Diary" "pages" "I", Cond.fieldLink RX1 34 "CacheDiary$Diary" "timesAsked" "I", Cond.fieldLink RX1 37 "CacheDiary$Diary" "tornOut" "I", Cond.methodLink RX4 103 yX7_takeOver, Cond.instanceMethod yX7_takeOver, Cond.selects RX7 yX7_takeOver yX7_takeOver, Cond.code yX7_takeOver cX7_takeOver 2 none, Cond.methodLink RX7 27 arraycopyName, Cond.fieldLink RX7 15 "CacheDiary$Requests" "value" "[I", Cond.fieldLink RX7 18 "CacheDiary$Requests" "putOff" "[I", Cond.methodLink RX4 106 yX3_takeOver, Cond.instanceMethod yX3_takeOver, Cond.selects RX3 yX3_takeOver yX3_takeOver]
def wsL_takeBack_r5 : List Cond := [Cond.initialized RX3, Cond.code yX3_takeOver cX3_takeOver 2 none, Cond.fieldLink RX3 9 "CacheDiary$Log" "facts" "[I", Cond.methodLink RX3 15 arraycopyName, Cond.fieldLink RX3 21 "CacheDiary$Log" "count" "I", Cond.methodLink RX8 87 yX7_forget, Cond.instanceMethod yX7_forget, Cond.selects RX7 yX7_forget yX7_forget, Cond.code yX7_forget cX7_forget 2 none]
def wsL_takeBack : List Cond := .codeWith yL_takeBack cL_takeBack 4 (some .int) [(0, 9, 12, 19), (0, 9, 15, 21)] :: ((wsL_takeBack_r1 ++ (wsL_takeBack_r2 ++ (wsL_takeBack_r3 ++ (wsL_takeBack_r4 ++ wsL_takeBack_r5)))) ++ wsX80 ++ wsX40 ++ wsX70 ++ wsX20 ++ wsX00 ++ wsX10 ++ wsX30 ++ (vx_atS RX8 210 "java/lang/IndexOutOfBoundsException" ["java/lang/RuntimeException", "java/lang/Exception"]).filter goodWord ++ (vx_atS RX8 222 "java/lang/IllegalStateException" ["java/lang/RuntimeException", "java/lang/Exception"]).filter goodWord)
def wsL_pass_r1 : List Cond := [Cond.classLink RL 13 "java/lang/IllegalArgumentException", Cond.classLink RL 21 "java/lang/IllegalStateException", Cond.methodLink RL 30 yX8_pass, Cond.instanceMethod yX8_pass, Cond.selects RX8 yX8_pass yX8_pass, Cond.initialized RX8, Cond.code yX8_pass cX8_pass 2 (some .int), Cond.fieldLink RX8 12 "CacheDiary" "machine" "LCacheDiary$Machine;", Cond.fieldLink RX8 26 "CacheDiary" "history" "LCacheDiary$History;", Cond.methodLink RX8 45 yX8_needRange, Cond.static yX8_needRange, Cond.code yX8_needRange cX8_needRange 3 none, Cond.classLink RX8 213 "java/lang/IllegalArgumentException", Cond.initialized "java/lang/IllegalArgumentException", Cond.methodLink RX8 91 yX4_hasTimeFor, Cond.instanceMethod yX4_hasTimeFor, Cond.selects RX4 yX4_hasTimeFor yX4_hasTimeFor, Cond.initialized RX4, Cond.code yX4_hasTimeFor cX4_hasTimeFor 2 (some .boolean), Cond.constant RX4 109 (100000), Cond.fieldLink RX4 72 "CacheDiary$Machine" "time" "I", Cond.methodLink RX8 72 yX8_needState, Cond.static yX8_needState, Cond.code yX8_needState cX8_needState 1 none]
def wsL_pass_r2 : List Cond := [Cond.classLink RX8 218 "java/lang/IllegalStateException", Cond.initialized "java/lang/IllegalStateException", Cond.methodLink RX8 48 yX2_save, Cond.instanceMethod yX2_save, Cond.selects RX2 yX2_save yX2_save, Cond.initialized RX2, Cond.code yX2_save cX2_save 2 none, Cond.fieldLink RX2 18 "CacheDiary$History" "count" "I", Cond.fieldLink RX2 11 "CacheDiary$History" "saved" "[LCacheDiary$Machine;", Cond.methodLink RX2 22 yX2_dropOldest, Cond.instanceMethod yX2_dropOldest, Cond.selects RX2 yX2_dropOldest yX2_dropOldest, Cond.code yX2_dropOldest cX2_dropOldest 3 none, Cond.methodLink RX2 25 yX4_takeOver, Cond.instanceMethod yX4_takeOver, Cond.selects RX4 yX4_takeOver yX4_takeOver, Cond.code yX4_takeOver cX4_takeOver 2 none, Cond.fieldLink RX4 9 "CacheDiary$Machine" "memory" "[I", Cond.methodLink RX4 90 arraycopyName, Cond.native arraycopyName, Cond.static arraycopyName, Cond.initialized "java/lang/System", Cond.fieldLink RX4 15 "CacheDiary$Machine" "lastWritten" "[I", Cond.fieldLink RX4 21 "CacheDiary$Machine" "copies" "LCacheDiary$Copies;"]
def wsL_pass_r3 : List Cond := [Cond.fieldLink RX4 28 "CacheDiary$Machine" "diary" "LCacheDiary$Diary;", Cond.fieldLink RX4 35 "CacheDiary$Machine" "requests" "LCacheDiary$Requests;", Cond.fieldLink RX4 42 "CacheDiary$Machine" "log" "LCacheDiary$Log;", Cond.fieldLink RX4 66 "CacheDiary$Machine" "caches" "I", Cond.fieldLink RX4 69 "CacheDiary$Machine" "slots" "I", Cond.fieldLink RX4 75 "CacheDiary$Machine" "messages" "I", Cond.fieldLink RX4 78 "CacheDiary$Machine" "hits" "I", Cond.fieldLink RX4 81 "CacheDiary$Machine" "misses" "I", Cond.fieldLink RX4 84 "CacheDiary$Machine" "races" "I", Cond.fieldLink RX4 87 "CacheDiary$Machine" "broughtBack" "I", Cond.methodLink RX4 96 yX0_takeOver, Cond.instanceMethod yX0_takeOver, Cond.selects RX0 yX0_takeOver yX0_takeOver, Cond.initialized RX0, Cond.code yX0_takeOver cX0_takeOver 2 none, Cond.fieldLink RX0 9 "CacheDiary$Copies" "kind" "[I", Cond.methodLink RX0 34 arraycopyName, Cond.fieldLink RX0 15 "CacheDiary$Copies" "value" "[I", Cond.fieldLink RX0 18 "CacheDiary$Copies" "slot" "[I", Cond.fieldLink RX0 21 "CacheDiary$Copies" "lastUse" "[I", Cond.fieldLink RX0 30 "CacheDiary$Copies" "uses" "I", Cond.methodLink RX4 100 yX1_takeOver, Cond.instanceMethod yX1_takeOver, Cond.selects RX1 yX1_takeOver yX1_takeOver]
def wsL_pass_r4 : List Cond := [Cond.initialized RX1, Cond.code yX1_takeOver cX1_takeOver 2 none, Cond.fieldLink RX1 9 "CacheDiary$Diary" "lastUse" "[I", Cond.methodLink RX1 40 arraycopyName, Cond.fieldLink RX1 21 "CacheDiary$Diary" "uses" "I", Cond.fieldLink RX1 25 "CacheDiary$Diary" "marks" "I", Cond.fieldLink RX1 28 "CacheDiary$Diary" "room" "I", Cond.fieldLink RX1 31 "CacheDiary$Diary" "pages" "I", Cond.fieldLink RX1 34 "CacheDiary$Diary" "timesAsked" "I", Cond.fieldLink RX1 37 "CacheDiary$Diary" "tornOut" "I", Cond.methodLink RX4 103 yX7_takeOver, Cond.instanceMethod yX7_takeOver, Cond.selects RX7 yX7_takeOver yX7_takeOver, Cond.initialized RX7, Cond.code yX7_takeOver cX7_takeOver 2 none, Cond.fieldLink RX7 9 "CacheDiary$Requests" "line" "[I", Cond.methodLink RX7 27 arraycopyName, Cond.fieldLink RX7 15 "CacheDiary$Requests" "value" "[I", Cond.fieldLink RX7 18 "CacheDiary$Requests" "putOff" "[I", Cond.methodLink RX4 106 yX3_takeOver, Cond.instanceMethod yX3_takeOver, Cond.selects RX3 yX3_takeOver yX3_takeOver, Cond.initialized RX3, Cond.code yX3_takeOver cX3_takeOver 2 none]
def wsL_pass_r5 : List Cond := [Cond.fieldLink RX3 9 "CacheDiary$Log" "facts" "[I", Cond.methodLink RX3 15 arraycopyName, Cond.fieldLink RX3 21 "CacheDiary$Log" "count" "I", Cond.methodLink RX8 94 yX4_letPass, Cond.instanceMethod yX4_letPass, Cond.selects RX4 yX4_letPass yX4_letPass, Cond.code yX4_letPass cX4_letPass 5 (some .int), Cond.methodLink RX4 110 yX7_count, Cond.instanceMethod yX7_count, Cond.selects RX7 yX7_count yX7_count, Cond.code yX7_count cX7_count 3 (some .int), Cond.methodLink RX4 113 yX4_tick, Cond.instanceMethod yX4_tick, Cond.selects RX4 yX4_tick yX4_tick, Cond.code yX4_tick cX4_tick 8 (some .int), Cond.fieldLink RX4 120 "CacheDiary$Requests" "line" "[I", Cond.fieldLink RX4 130 "CacheDiary$Requests" "putOff" "[I", Cond.methodLink RX4 116 yX7_isPending, Cond.instanceMethod yX7_isPending, Cond.selects RX7 yX7_isPending yX7_isPending, Cond.code yX7_isPending cX7_isPending 2 (some .boolean), Cond.methodLink RX4 123 yX7_isWrite, Cond.instanceMethod yX7_isWrite, Cond.selects RX7 yX7_isWrite yX7_isWrite]
def wsL_pass_r6 : List Cond := [Cond.code yX7_isWrite cX7_isWrite 2 (some .boolean), Cond.methodLink RX4 126 yX4_isHit, Cond.instanceMethod yX4_isHit, Cond.selects RX4 yX4_isHit yX4_isHit, Cond.code yX4_isHit cX4_isHit 5 (some .boolean), Cond.methodLink RX4 137 yX0_kindOf, Cond.instanceMethod yX0_kindOf, Cond.selects RX0 yX0_kindOf yX0_kindOf, Cond.code yX0_kindOf cX0_kindOf 3 (some .int), Cond.methodLink RX4 133 yX4_serve, Cond.instanceMethod yX4_serve, Cond.selects RX4 yX4_serve yX4_serve, Cond.code yX4_serve cX4_serve 6 none, Cond.fieldLink RX4 169 "CacheDiary$Requests" "value" "[I", Cond.methodLink RX4 162 yX4_costOf, Cond.instanceMethod yX4_costOf, Cond.selects RX4 yX4_costOf yX4_costOf, Cond.code yX4_costOf cX4_costOf 6 (some .int), Cond.methodLink RX4 141 yX1_hasPage, Cond.instanceMethod yX1_hasPage, Cond.selects RX1 yX1_hasPage yX1_hasPage, Cond.code yX1_hasPage cX1_hasPage 2 (some .boolean), Cond.methodLink RX4 144 yX1_isMarked, Cond.instanceMethod yX1_isMarked]
def wsL_pass_r7 : List Cond := [Cond.selects RX1 yX1_isMarked yX1_isMarked, Cond.code yX1_isMarked cX1_isMarked 2 (some .boolean), Cond.methodLink RX4 147 yX0_ownerOf, Cond.instanceMethod yX0_ownerOf, Cond.selects RX0 yX0_ownerOf yX0_ownerOf, Cond.code yX0_ownerOf cX0_ownerOf 3 (some .int), Cond.methodLink RX4 151 yX0_sharersOf, Cond.instanceMethod yX0_sharersOf, Cond.selects RX0 yX0_sharersOf yX0_sharersOf, Cond.code yX0_sharersOf cX0_sharersOf 4 (some .int), Cond.methodLink RX4 154 yJ6_bitCount_0f7a4, Cond.static yJ6_bitCount_0f7a4, Cond.initialized RJ6, Cond.code yJ6_bitCount_0f7a4 cJ6_bitCount_0f7a4 1 (some .int), Cond.constant RJ6 265 (1431655765), Cond.constant RJ6 266 (858993459), Cond.constant RJ6 267 (252645135), Cond.methodLink RX4 159 yX4_lineToDrop, Cond.instanceMethod yX4_lineToDrop, Cond.selects RX4 yX4_lineToDrop yX4_lineToDrop, Cond.code yX4_lineToDrop cX4_lineToDrop 2 (some .int), Cond.methodLink RX4 208 yX0_freeSlot, Cond.instanceMethod yX0_freeSlot, Cond.selects RX0 yX0_freeSlot yX0_freeSlot]
def wsL_pass_r8 : List Cond := [Cond.code yX0_freeSlot cX0_freeSlot 5 (some .int), Cond.methodLink RX4 229 yX0_leastUsed, Cond.instanceMethod yX0_leastUsed, Cond.selects RX0 yX0_leastUsed yX0_leastUsed, Cond.code yX0_leastUsed cX0_leastUsed 6 (some .int), Cond.methodLink RX4 166 yX4_fetch, Cond.instanceMethod yX4_fetch, Cond.selects RX4 yX4_fetch yX4_fetch, Cond.code yX4_fetch cX4_fetch 6 none, Cond.methodLink RX4 190 yX4_makeRoomInDiary, Cond.instanceMethod yX4_makeRoomInDiary, Cond.selects RX4 yX4_makeRoomInDiary yX4_makeRoomInDiary, Cond.code yX4_makeRoomInDiary cX4_makeRoomInDiary 2 none, Cond.methodLink RX4 216 yX1_lineToTear, Cond.instanceMethod yX1_lineToTear, Cond.selects RX1 yX1_lineToTear yX1_lineToTear, Cond.code yX1_lineToTear cX1_lineToTear 4 (some .int), Cond.methodLink RX4 219 yX0_countOf, Cond.instanceMethod yX0_countOf, Cond.selects RX0 yX0_countOf yX0_countOf, Cond.code yX0_countOf cX0_countOf 4 (some .int), Cond.methodLink RX4 222 yX1_tearOut, Cond.instanceMethod yX1_tearOut, Cond.selects RX1 yX1_tearOut yX1_tearOut]
def wsL_pass_r9 : List Cond := [Cond.code yX1_tearOut cX1_tearOut 3 none, Cond.methodLink RX4 193 yX1_makePage, Cond.instanceMethod yX1_makePage, Cond.selects RX1 yX1_makePage yX1_makePage, Cond.code yX1_makePage cX1_makePage 2 none, Cond.methodLink RX1 46 yX1_isMarked, Cond.methodLink RX1 50 yX1_use, Cond.instanceMethod yX1_use, Cond.selects RX1 yX1_use yX1_use, Cond.code yX1_use cX1_use 2 none, Cond.methodLink RX4 196 yX4_bringBack, Cond.instanceMethod yX4_bringBack, Cond.selects RX4 yX4_bringBack yX4_bringBack, Cond.code yX4_bringBack cX4_bringBack 3 none, Cond.methodLink RX4 180 yX0_valueOf, Cond.instanceMethod yX0_valueOf, Cond.selects RX0 yX0_valueOf yX0_valueOf, Cond.code yX0_valueOf cX0_valueOf 3 (some .int), Cond.methodLink RX4 199 yX0_share, Cond.instanceMethod yX0_share, Cond.selects RX0 yX0_share yX0_share, Cond.code yX0_share cX0_share 3 none, Cond.methodLink RX4 202 yX0_removeOthers, Cond.instanceMethod yX0_removeOthers]
def wsL_pass_r10 : List Cond := [Cond.selects RX0 yX0_removeOthers yX0_removeOthers, Cond.code yX0_removeOthers cX0_removeOthers 4 none, Cond.methodLink RX4 205 yX4_throwAway, Cond.instanceMethod yX4_throwAway, Cond.selects RX4 yX4_throwAway yX4_throwAway, Cond.code yX4_throwAway cX4_throwAway 3 none, Cond.methodLink RX4 226 yX0_remove, Cond.instanceMethod yX0_remove, Cond.selects RX0 yX0_remove yX0_remove, Cond.code yX0_remove cX0_remove 3 none, Cond.methodLink RX4 211 yX0_add, Cond.instanceMethod yX0_add, Cond.selects RX0 yX0_add yX0_add, Cond.code yX0_add cX0_add 6 none, Cond.methodLink RX4 214 yX1_use, Cond.methodLink RX4 172 yX0_own, Cond.instanceMethod yX0_own, Cond.selects RX0 yX0_own yX0_own, Cond.code yX0_own cX0_own 4 none, Cond.methodLink RX4 176 yX0_use, Cond.instanceMethod yX0_use, Cond.selects RX0 yX0_use yX0_use, Cond.code yX0_use cX0_use 3 none, Cond.methodLink RX4 183 yX3_add]
def wsL_pass_r11 : List Cond := [Cond.instanceMethod yX3_add, Cond.selects RX3 yX3_add yX3_add, Cond.code yX3_add cX3_add 8 none, Cond.methodLink RX4 187 yX7_forget, Cond.instanceMethod yX7_forget, Cond.selects RX7 yX7_forget yX7_forget, Cond.code yX7_forget cX7_forget 2 none]
def wsL_pass : List Cond := .codeWith yL_pass cL_pass 4 (some .int) [(0, 9, 12, 13), (0, 9, 15, 21)] :: ((wsL_pass_r1 ++ (wsL_pass_r2 ++ (wsL_pass_r3 ++ (wsL_pass_r4 ++ (wsL_pass_r5 ++ (wsL_pass_r6 ++ (wsL_pass_r7 ++ (wsL_pass_r8 ++ (wsL_pass_r9 ++ (wsL_pass_r10 ++ wsL_pass_r11)))))))))) ++ wsX80 ++ wsX40 ++ wsX20 ++ wsX00 ++ wsX10 ++ wsX70 ++ wsX30 ++ (vx_atS RX8 217 "java/lang/IllegalArgumentException" ["java/lang/RuntimeException", "java/lang/Exception"]).filter goodWord ++ (vx_atS RX8 222 "java/lang/IllegalStateException" ["java/lang/RuntimeException", "java/lang/Exception"]).filter goodWord)
def wsL_drop_r1 : List Cond := [Cond.classLink RL 19 "java/lang/IndexOutOfBoundsException", Cond.classLink RL 21 "java/lang/IllegalStateException", Cond.methodLink RL 33 yX8_drop, Cond.instanceMethod yX8_drop, Cond.selects RX8 yX8_drop yX8_drop, Cond.initialized RX8, Cond.code yX8_drop cX8_drop 4 (some .int), Cond.fieldLink RX8 12 "CacheDiary" "machine" "LCacheDiary$Machine;", Cond.fieldLink RX8 55 "CacheDiary$Machine" "caches" "I", Cond.fieldLink RX8 98 "CacheDiary$Machine" "copies" "LCacheDiary$Copies;", Cond.fieldLink RX8 26 "CacheDiary" "history" "LCacheDiary$History;", Cond.fieldLink RX8 111 "CacheDiary$Machine" "messages" "I", Cond.methodLink RX8 58 yX8_needIndex, Cond.static yX8_needIndex, Cond.code yX8_needIndex cX8_needIndex 2 none, Cond.classLink RX8 206 "java/lang/IndexOutOfBoundsException", Cond.initialized "java/lang/IndexOutOfBoundsException", Cond.methodLink RX8 102 yX0_kindOf, Cond.instanceMethod yX0_kindOf, Cond.selects RX0 yX0_kindOf yX0_kindOf, Cond.initialized RX0, Cond.code yX0_kindOf cX0_kindOf 3 (some .int), Cond.fieldLink RX0 9 "CacheDiary$Copies" "kind" "[I", Cond.methodLink RX8 72 yX8_needState]
def wsL_drop_r2 : List Cond := [Cond.static yX8_needState, Cond.code yX8_needState cX8_needState 1 none, Cond.classLink RX8 218 "java/lang/IllegalStateException", Cond.initialized "java/lang/IllegalStateException", Cond.methodLink RX8 48 yX2_save, Cond.instanceMethod yX2_save, Cond.selects RX2 yX2_save yX2_save, Cond.initialized RX2, Cond.code yX2_save cX2_save 2 none, Cond.fieldLink RX2 18 "CacheDiary$History" "count" "I", Cond.fieldLink RX2 11 "CacheDiary$History" "saved" "[LCacheDiary$Machine;", Cond.methodLink RX2 22 yX2_dropOldest, Cond.instanceMethod yX2_dropOldest, Cond.selects RX2 yX2_dropOldest yX2_dropOldest, Cond.code yX2_dropOldest cX2_dropOldest 3 none, Cond.methodLink RX2 25 yX4_takeOver, Cond.instanceMethod yX4_takeOver, Cond.selects RX4 yX4_takeOver yX4_takeOver, Cond.initialized RX4, Cond.code yX4_takeOver cX4_takeOver 2 none, Cond.fieldLink RX4 9 "CacheDiary$Machine" "memory" "[I", Cond.methodLink RX4 90 arraycopyName, Cond.native arraycopyName, Cond.static arraycopyName]
def wsL_drop_r3 : List Cond := [Cond.initialized "java/lang/System", Cond.fieldLink RX4 15 "CacheDiary$Machine" "lastWritten" "[I", Cond.fieldLink RX4 21 "CacheDiary$Machine" "copies" "LCacheDiary$Copies;", Cond.fieldLink RX4 28 "CacheDiary$Machine" "diary" "LCacheDiary$Diary;", Cond.fieldLink RX4 35 "CacheDiary$Machine" "requests" "LCacheDiary$Requests;", Cond.fieldLink RX4 42 "CacheDiary$Machine" "log" "LCacheDiary$Log;", Cond.fieldLink RX4 66 "CacheDiary$Machine" "caches" "I", Cond.fieldLink RX4 69 "CacheDiary$Machine" "slots" "I", Cond.fieldLink RX4 72 "CacheDiary$Machine" "time" "I", Cond.fieldLink RX4 75 "CacheDiary$Machine" "messages" "I", Cond.fieldLink RX4 78 "CacheDiary$Machine" "hits" "I", Cond.fieldLink RX4 81 "CacheDiary$Machine" "misses" "I", Cond.fieldLink RX4 84 "CacheDiary$Machine" "races" "I", Cond.fieldLink RX4 87 "CacheDiary$Machine" "broughtBack" "I", Cond.methodLink RX4 96 yX0_takeOver, Cond.instanceMethod yX0_takeOver, Cond.selects RX0 yX0_takeOver yX0_takeOver, Cond.code yX0_takeOver cX0_takeOver 2 none, Cond.methodLink RX0 34 arraycopyName, Cond.fieldLink RX0 15 "CacheDiary$Copies" "value" "[I", Cond.fieldLink RX0 18 "CacheDiary$Copies" "slot" "[I", Cond.fieldLink RX0 21 "CacheDiary$Copies" "lastUse" "[I", Cond.fieldLink RX0 30 "CacheDiary$Copies" "uses" "I", Cond.methodLink RX4 100 yX1_takeOver]
def wsL_drop_r4 : List Cond := [Cond.instanceMethod yX1_takeOver, Cond.selects RX1 yX1_takeOver yX1_takeOver, Cond.initialized RX1, Cond.code yX1_takeOver cX1_takeOver 2 none, Cond.fieldLink RX1 9 "CacheDiary$Diary" "lastUse" "[I", Cond.methodLink RX1 40 arraycopyName, Cond.fieldLink RX1 21 "CacheDiary$Diary" "uses" "I", Cond.fieldLink RX1 25 "CacheDiary$Diary" "marks" "I", Cond.fieldLink RX1 28 "CacheDiary$Diary" "room" "I", Cond.fieldLink RX1 31 "CacheDiary$Diary" "pages" "I", Cond.fieldLink RX1 34 "CacheDiary$Diary" "timesAsked" "I", Cond.fieldLink RX1 37 "CacheDiary$Diary" "tornOut" "I", Cond.methodLink RX4 103 yX7_takeOver, Cond.instanceMethod yX7_takeOver, Cond.selects RX7 yX7_takeOver yX7_takeOver, Cond.initialized RX7, Cond.code yX7_takeOver cX7_takeOver 2 none, Cond.fieldLink RX7 9 "CacheDiary$Requests" "line" "[I", Cond.methodLink RX7 27 arraycopyName, Cond.fieldLink RX7 15 "CacheDiary$Requests" "value" "[I", Cond.fieldLink RX7 18 "CacheDiary$Requests" "putOff" "[I", Cond.methodLink RX4 106 yX3_takeOver, Cond.instanceMethod yX3_takeOver, Cond.selects RX3 yX3_takeOver yX3_takeOver]
def wsL_drop_r5 : List Cond := [Cond.initialized RX3, Cond.code yX3_takeOver cX3_takeOver 2 none, Cond.fieldLink RX3 9 "CacheDiary$Log" "facts" "[I", Cond.methodLink RX3 15 arraycopyName, Cond.fieldLink RX3 21 "CacheDiary$Log" "count" "I", Cond.methodLink RX8 108 yX4_throwAway, Cond.instanceMethod yX4_throwAway, Cond.selects RX4 yX4_throwAway yX4_throwAway, Cond.code yX4_throwAway cX4_throwAway 3 none, Cond.methodLink RX4 137 yX0_kindOf, Cond.methodLink RX4 196 yX4_bringBack, Cond.instanceMethod yX4_bringBack, Cond.selects RX4 yX4_bringBack yX4_bringBack, Cond.code yX4_bringBack cX4_bringBack 3 none, Cond.methodLink RX4 180 yX0_valueOf, Cond.instanceMethod yX0_valueOf, Cond.selects RX0 yX0_valueOf yX0_valueOf, Cond.code yX0_valueOf cX0_valueOf 3 (some .int), Cond.methodLink RX4 226 yX0_remove, Cond.instanceMethod yX0_remove, Cond.selects RX0 yX0_remove yX0_remove, Cond.code yX0_remove cX0_remove 3 none]
def wsL_drop : List Cond := .codeWith yL_drop cL_drop 5 (some .int) [(0, 10, 13, 19), (0, 10, 17, 21)] :: ((wsL_drop_r1 ++ (wsL_drop_r2 ++ (wsL_drop_r3 ++ (wsL_drop_r4 ++ wsL_drop_r5)))) ++ wsX80 ++ wsX40 ++ wsX00 ++ wsX20 ++ wsX10 ++ wsX70 ++ wsX30 ++ (vx_atS RX8 210 "java/lang/IndexOutOfBoundsException" ["java/lang/RuntimeException", "java/lang/Exception"]).filter goodWord ++ (vx_atS RX8 222 "java/lang/IllegalStateException" ["java/lang/RuntimeException", "java/lang/Exception"]).filter goodWord)
def wsL_tear_r1 : List Cond := [Cond.classLink RL 19 "java/lang/IndexOutOfBoundsException", Cond.classLink RL 21 "java/lang/IllegalStateException", Cond.methodLink RL 36 yX8_tear, Cond.instanceMethod yX8_tear, Cond.selects RX8 yX8_tear yX8_tear, Cond.initialized RX8, Cond.code yX8_tear cX8_tear 3 (some .int), Cond.fieldLink RX8 12 "CacheDiary" "machine" "LCacheDiary$Machine;", Cond.fieldLink RX8 114 "CacheDiary$Machine" "diary" "LCacheDiary$Diary;", Cond.fieldLink RX8 26 "CacheDiary" "history" "LCacheDiary$History;", Cond.fieldLink RX8 98 "CacheDiary$Machine" "copies" "LCacheDiary$Copies;", Cond.methodLink RX8 58 yX8_needIndex, Cond.static yX8_needIndex, Cond.code yX8_needIndex cX8_needIndex 2 none, Cond.classLink RX8 206 "java/lang/IndexOutOfBoundsException", Cond.initialized "java/lang/IndexOutOfBoundsException", Cond.methodLink RX8 118 yX1_hasPage, Cond.instanceMethod yX1_hasPage, Cond.selects RX1 yX1_hasPage yX1_hasPage, Cond.initialized RX1, Cond.code yX1_hasPage cX1_hasPage 2 (some .boolean), Cond.fieldLink RX1 9 "CacheDiary$Diary" "lastUse" "[I", Cond.methodLink RX8 72 yX8_needState, Cond.static yX8_needState]
def wsL_tear_r2 : List Cond := [Cond.code yX8_needState cX8_needState 1 none, Cond.classLink RX8 218 "java/lang/IllegalStateException", Cond.initialized "java/lang/IllegalStateException", Cond.methodLink RX8 48 yX2_save, Cond.instanceMethod yX2_save, Cond.selects RX2 yX2_save yX2_save, Cond.initialized RX2, Cond.code yX2_save cX2_save 2 none, Cond.fieldLink RX2 18 "CacheDiary$History" "count" "I", Cond.fieldLink RX2 11 "CacheDiary$History" "saved" "[LCacheDiary$Machine;", Cond.methodLink RX2 22 yX2_dropOldest, Cond.instanceMethod yX2_dropOldest, Cond.selects RX2 yX2_dropOldest yX2_dropOldest, Cond.code yX2_dropOldest cX2_dropOldest 3 none, Cond.methodLink RX2 25 yX4_takeOver, Cond.instanceMethod yX4_takeOver, Cond.selects RX4 yX4_takeOver yX4_takeOver, Cond.initialized RX4, Cond.code yX4_takeOver cX4_takeOver 2 none, Cond.fieldLink RX4 9 "CacheDiary$Machine" "memory" "[I", Cond.methodLink RX4 90 arraycopyName, Cond.native arraycopyName, Cond.static arraycopyName, Cond.initialized "java/lang/System"]
def wsL_tear_r3 : List Cond := [Cond.fieldLink RX4 15 "CacheDiary$Machine" "lastWritten" "[I", Cond.fieldLink RX4 21 "CacheDiary$Machine" "copies" "LCacheDiary$Copies;", Cond.fieldLink RX4 28 "CacheDiary$Machine" "diary" "LCacheDiary$Diary;", Cond.fieldLink RX4 35 "CacheDiary$Machine" "requests" "LCacheDiary$Requests;", Cond.fieldLink RX4 42 "CacheDiary$Machine" "log" "LCacheDiary$Log;", Cond.fieldLink RX4 66 "CacheDiary$Machine" "caches" "I", Cond.fieldLink RX4 69 "CacheDiary$Machine" "slots" "I", Cond.fieldLink RX4 72 "CacheDiary$Machine" "time" "I", Cond.fieldLink RX4 75 "CacheDiary$Machine" "messages" "I", Cond.fieldLink RX4 78 "CacheDiary$Machine" "hits" "I", Cond.fieldLink RX4 81 "CacheDiary$Machine" "misses" "I", Cond.fieldLink RX4 84 "CacheDiary$Machine" "races" "I", Cond.fieldLink RX4 87 "CacheDiary$Machine" "broughtBack" "I", Cond.methodLink RX4 96 yX0_takeOver, Cond.instanceMethod yX0_takeOver, Cond.selects RX0 yX0_takeOver yX0_takeOver, Cond.initialized RX0, Cond.code yX0_takeOver cX0_takeOver 2 none, Cond.fieldLink RX0 9 "CacheDiary$Copies" "kind" "[I", Cond.methodLink RX0 34 arraycopyName, Cond.fieldLink RX0 15 "CacheDiary$Copies" "value" "[I", Cond.fieldLink RX0 18 "CacheDiary$Copies" "slot" "[I", Cond.fieldLink RX0 21 "CacheDiary$Copies" "lastUse" "[I", Cond.fieldLink RX0 30 "CacheDiary$Copies" "uses" "I"]
def wsL_tear_r4 : List Cond := [Cond.methodLink RX4 100 yX1_takeOver, Cond.instanceMethod yX1_takeOver, Cond.selects RX1 yX1_takeOver yX1_takeOver, Cond.code yX1_takeOver cX1_takeOver 2 none, Cond.methodLink RX1 40 arraycopyName, Cond.fieldLink RX1 21 "CacheDiary$Diary" "uses" "I", Cond.fieldLink RX1 25 "CacheDiary$Diary" "marks" "I", Cond.fieldLink RX1 28 "CacheDiary$Diary" "room" "I", Cond.fieldLink RX1 31 "CacheDiary$Diary" "pages" "I", Cond.fieldLink RX1 34 "CacheDiary$Diary" "timesAsked" "I", Cond.fieldLink RX1 37 "CacheDiary$Diary" "tornOut" "I", Cond.methodLink RX4 103 yX7_takeOver, Cond.instanceMethod yX7_takeOver, Cond.selects RX7 yX7_takeOver yX7_takeOver, Cond.initialized RX7, Cond.code yX7_takeOver cX7_takeOver 2 none, Cond.fieldLink RX7 9 "CacheDiary$Requests" "line" "[I", Cond.methodLink RX7 27 arraycopyName, Cond.fieldLink RX7 15 "CacheDiary$Requests" "value" "[I", Cond.fieldLink RX7 18 "CacheDiary$Requests" "putOff" "[I", Cond.methodLink RX4 106 yX3_takeOver, Cond.instanceMethod yX3_takeOver, Cond.selects RX3 yX3_takeOver yX3_takeOver, Cond.initialized RX3]
def wsL_tear_r5 : List Cond := [Cond.code yX3_takeOver cX3_takeOver 2 none, Cond.fieldLink RX3 9 "CacheDiary$Log" "facts" "[I", Cond.methodLink RX3 15 arraycopyName, Cond.fieldLink RX3 21 "CacheDiary$Log" "count" "I", Cond.methodLink RX8 123 yX0_countOf, Cond.instanceMethod yX0_countOf, Cond.selects RX0 yX0_countOf yX0_countOf, Cond.code yX0_countOf cX0_countOf 4 (some .int), Cond.methodLink RX8 126 yX1_tearOut, Cond.instanceMethod yX1_tearOut, Cond.selects RX1 yX1_tearOut yX1_tearOut, Cond.code yX1_tearOut cX1_tearOut 3 none]
def wsL_tear : List Cond := .codeWith yL_tear cL_tear 4 (some .int) [(0, 9, 12, 19), (0, 9, 15, 21)] :: ((wsL_tear_r1 ++ (wsL_tear_r2 ++ (wsL_tear_r3 ++ (wsL_tear_r4 ++ wsL_tear_r5)))) ++ wsX80 ++ wsX40 ++ wsX10 ++ wsX20 ++ wsX00 ++ wsX70 ++ wsX30 ++ (vx_atS RX8 210 "java/lang/IndexOutOfBoundsException" ["java/lang/RuntimeException", "java/lang/Exception"]).filter goodWord ++ (vx_atS RX8 222 "java/lang/IllegalStateException" ["java/lang/RuntimeException", "java/lang/Exception"]).filter goodWord)
def wsL_copy_r1 : List Cond := [Cond.classLink RL 19 "java/lang/IndexOutOfBoundsException", Cond.classLink RL 13 "java/lang/IllegalArgumentException", Cond.methodLink RL 39 yX8_copy, Cond.instanceMethod yX8_copy, Cond.selects RX8 yX8_copy yX8_copy, Cond.initialized RX8, Cond.code yX8_copy cX8_copy 4 (some .int), Cond.fieldLink RX8 12 "CacheDiary" "machine" "LCacheDiary$Machine;", Cond.fieldLink RX8 55 "CacheDiary$Machine" "caches" "I", Cond.fieldLink RX8 98 "CacheDiary$Machine" "copies" "LCacheDiary$Copies;", Cond.methodLink RX8 58 yX8_needIndex, Cond.static yX8_needIndex, Cond.code yX8_needIndex cX8_needIndex 2 none, Cond.classLink RX8 206 "java/lang/IndexOutOfBoundsException", Cond.initialized "java/lang/IndexOutOfBoundsException", Cond.methodLink RX8 45 yX8_needRange, Cond.static yX8_needRange, Cond.code yX8_needRange cX8_needRange 3 none, Cond.classLink RX8 213 "java/lang/IllegalArgumentException", Cond.initialized "java/lang/IllegalArgumentException", Cond.methodLink RX8 130 yX0_fact, Cond.instanceMethod yX0_fact, Cond.selects RX0 yX0_fact yX0_fact, Cond.initialized RX0]
def wsL_copy_r2 : List Cond := [Cond.code yX0_fact cX0_fact 5 (some .int), Cond.fieldLink RX0 9 "CacheDiary$Copies" "kind" "[I", Cond.fieldLink RX0 15 "CacheDiary$Copies" "value" "[I", Cond.fieldLink RX0 18 "CacheDiary$Copies" "slot" "[I", Cond.methodLink RX0 40 yX0_usedLater, Cond.instanceMethod yX0_usedLater, Cond.selects RX0 yX0_usedLater yX0_usedLater, Cond.code yX0_usedLater cX0_usedLater 7 (some .int), Cond.fieldLink RX0 21 "CacheDiary$Copies" "lastUse" "[I"]
def wsL_copy : List Cond := .codeWith yL_copy cL_copy 6 (some .int) [(0, 12, 15, 19), (0, 12, 19, 13)] :: ((wsL_copy_r1 ++ wsL_copy_r2) ++ wsX80 ++ wsX40 ++ wsX00 ++ (vx_atS RX8 210 "java/lang/IndexOutOfBoundsException" ["java/lang/RuntimeException", "java/lang/Exception"]).filter goodWord ++ (vx_atS RX8 217 "java/lang/IllegalArgumentException" ["java/lang/RuntimeException", "java/lang/Exception"]).filter goodWord)
def wsL_line_r1 : List Cond := [Cond.classLink RL 19 "java/lang/IndexOutOfBoundsException", Cond.classLink RL 13 "java/lang/IllegalArgumentException", Cond.methodLink RL 42 yX8_line, Cond.instanceMethod yX8_line, Cond.selects RX8 yX8_line yX8_line, Cond.initialized RX8, Cond.code yX8_line cX8_line 3 (some .int), Cond.fieldLink RX8 12 "CacheDiary" "machine" "LCacheDiary$Machine;", Cond.methodLink RX8 58 yX8_needIndex, Cond.static yX8_needIndex, Cond.code yX8_needIndex cX8_needIndex 2 none, Cond.classLink RX8 206 "java/lang/IndexOutOfBoundsException", Cond.initialized "java/lang/IndexOutOfBoundsException", Cond.methodLink RX8 45 yX8_needRange, Cond.static yX8_needRange, Cond.code yX8_needRange cX8_needRange 3 none, Cond.classLink RX8 213 "java/lang/IllegalArgumentException", Cond.initialized "java/lang/IllegalArgumentException", Cond.methodLink RX8 134 yX4_lineFact, Cond.instanceMethod yX4_lineFact, Cond.selects RX4 yX4_lineFact yX4_lineFact, Cond.initialized RX4, Cond.code yX4_lineFact cX4_lineFact 3 (some .int), Cond.fieldLink RX4 9 "CacheDiary$Machine" "memory" "[I"]
def wsL_line_r2 : List Cond := [Cond.fieldLink RX4 15 "CacheDiary$Machine" "lastWritten" "[I", Cond.fieldLink RX4 21 "CacheDiary$Machine" "copies" "LCacheDiary$Copies;", Cond.fieldLink RX4 28 "CacheDiary$Machine" "diary" "LCacheDiary$Diary;", Cond.methodLink RX4 147 yX0_ownerOf, Cond.instanceMethod yX0_ownerOf, Cond.selects RX0 yX0_ownerOf yX0_ownerOf, Cond.initialized RX0, Cond.code yX0_ownerOf cX0_ownerOf 3 (some .int), Cond.fieldLink RX0 9 "CacheDiary$Copies" "kind" "[I", Cond.methodLink RX4 151 yX0_sharersOf, Cond.instanceMethod yX0_sharersOf, Cond.selects RX0 yX0_sharersOf yX0_sharersOf, Cond.code yX0_sharersOf cX0_sharersOf 4 (some .int), Cond.methodLink RX4 141 yX1_hasPage, Cond.instanceMethod yX1_hasPage, Cond.selects RX1 yX1_hasPage yX1_hasPage, Cond.initialized RX1, Cond.code yX1_hasPage cX1_hasPage 2 (some .boolean), Cond.fieldLink RX1 9 "CacheDiary$Diary" "lastUse" "[I", Cond.methodLink RX4 144 yX1_isMarked, Cond.instanceMethod yX1_isMarked, Cond.selects RX1 yX1_isMarked yX1_isMarked, Cond.code yX1_isMarked cX1_isMarked 2 (some .boolean), Cond.fieldLink RX1 25 "CacheDiary$Diary" "marks" "I"]
def wsL_line : List Cond := .codeWith yL_line cL_line 5 (some .int) [(0, 10, 13, 19), (0, 10, 17, 13)] :: ((wsL_line_r1 ++ wsL_line_r2) ++ wsX80 ++ wsX40 ++ wsX00 ++ wsX10 ++ (vx_atS RX8 210 "java/lang/IndexOutOfBoundsException" ["java/lang/RuntimeException", "java/lang/Exception"]).filter goodWord ++ (vx_atS RX8 217 "java/lang/IllegalArgumentException" ["java/lang/RuntimeException", "java/lang/Exception"]).filter goodWord)
def wsL_pending_r1 : List Cond := [Cond.classLink RL 19 "java/lang/IndexOutOfBoundsException", Cond.classLink RL 13 "java/lang/IllegalArgumentException", Cond.methodLink RL 45 yX8_pending, Cond.instanceMethod yX8_pending, Cond.selects RX8 yX8_pending yX8_pending, Cond.initialized RX8, Cond.code yX8_pending cX8_pending 3 (some .int), Cond.fieldLink RX8 12 "CacheDiary" "machine" "LCacheDiary$Machine;", Cond.fieldLink RX8 55 "CacheDiary$Machine" "caches" "I", Cond.fieldLink RX8 62 "CacheDiary$Machine" "requests" "LCacheDiary$Requests;", Cond.methodLink RX8 58 yX8_needIndex, Cond.static yX8_needIndex, Cond.code yX8_needIndex cX8_needIndex 2 none, Cond.classLink RX8 206 "java/lang/IndexOutOfBoundsException", Cond.initialized "java/lang/IndexOutOfBoundsException", Cond.methodLink RX8 45 yX8_needRange, Cond.static yX8_needRange, Cond.code yX8_needRange cX8_needRange 3 none, Cond.classLink RX8 213 "java/lang/IllegalArgumentException", Cond.initialized "java/lang/IllegalArgumentException", Cond.methodLink RX8 137 yX7_fact, Cond.instanceMethod yX7_fact, Cond.selects RX7 yX7_fact yX7_fact, Cond.initialized RX7]
def wsL_pending_r2 : List Cond := [Cond.code yX7_fact cX7_fact 3 (some .int), Cond.fieldLink RX7 9 "CacheDiary$Requests" "line" "[I", Cond.fieldLink RX7 15 "CacheDiary$Requests" "value" "[I", Cond.fieldLink RX7 18 "CacheDiary$Requests" "putOff" "[I"]
def wsL_pending : List Cond := .codeWith yL_pending cL_pending 5 (some .int) [(0, 10, 13, 19), (0, 10, 17, 13)] :: ((wsL_pending_r1 ++ wsL_pending_r2) ++ wsX80 ++ wsX40 ++ wsX70 ++ (vx_atS RX8 210 "java/lang/IndexOutOfBoundsException" ["java/lang/RuntimeException", "java/lang/Exception"]).filter goodWord ++ (vx_atS RX8 217 "java/lang/IllegalArgumentException" ["java/lang/RuntimeException", "java/lang/Exception"]).filter goodWord)
def wsL_entry_r1 : List Cond := [Cond.classLink RL 19 "java/lang/IndexOutOfBoundsException", Cond.classLink RL 13 "java/lang/IllegalArgumentException", Cond.methodLink RL 48 yX8_entry, Cond.instanceMethod yX8_entry, Cond.selects RX8 yX8_entry yX8_entry, Cond.initialized RX8, Cond.code yX8_entry cX8_entry 3 (some .int), Cond.fieldLink RX8 12 "CacheDiary" "machine" "LCacheDiary$Machine;", Cond.fieldLink RX8 139 "CacheDiary$Machine" "log" "LCacheDiary$Log;", Cond.fieldLink RX8 143 "CacheDiary$Log" "count" "I", Cond.methodLink RX8 58 yX8_needIndex, Cond.static yX8_needIndex, Cond.code yX8_needIndex cX8_needIndex 2 none, Cond.classLink RX8 206 "java/lang/IndexOutOfBoundsException", Cond.initialized "java/lang/IndexOutOfBoundsException", Cond.methodLink RX8 45 yX8_needRange, Cond.static yX8_needRange, Cond.code yX8_needRange cX8_needRange 3 none, Cond.classLink RX8 213 "java/lang/IllegalArgumentException", Cond.initialized "java/lang/IllegalArgumentException", Cond.methodLink RX8 148 yX3_fact, Cond.instanceMethod yX3_fact, Cond.selects RX3 yX3_fact yX3_fact, Cond.initialized RX3]
def wsL_entry_r2 : List Cond := [Cond.code yX3_fact cX3_fact 3 (some .int), Cond.fieldLink RX3 9 "CacheDiary$Log" "facts" "[I"]
def wsL_entry : List Cond := .codeWith yL_entry cL_entry 5 (some .int) [(0, 10, 13, 19), (0, 10, 17, 13)] :: ((wsL_entry_r1 ++ wsL_entry_r2) ++ wsX80 ++ wsX40 ++ wsX30 ++ (vx_atS RX8 210 "java/lang/IndexOutOfBoundsException" ["java/lang/RuntimeException", "java/lang/Exception"]).filter goodWord ++ (vx_atS RX8 217 "java/lang/IllegalArgumentException" ["java/lang/RuntimeException", "java/lang/Exception"]).filter goodWord)
def wsL_value_r1 : List Cond := [Cond.classLink RL 13 "java/lang/IllegalArgumentException", Cond.methodLink RL 51 yX8_value, Cond.instanceMethod yX8_value, Cond.selects RX8 yX8_value yX8_value, Cond.initialized RX8, Cond.code yX8_value cX8_value 2 (some .int), Cond.fieldLink RX8 12 "CacheDiary" "machine" "LCacheDiary$Machine;", Cond.methodLink RX8 45 yX8_needRange, Cond.static yX8_needRange, Cond.code yX8_needRange cX8_needRange 3 none, Cond.classLink RX8 213 "java/lang/IllegalArgumentException", Cond.initialized "java/lang/IllegalArgumentException", Cond.methodLink RX8 149 yX4_number, Cond.instanceMethod yX4_number, Cond.selects RX4 yX4_number yX4_number, Cond.initialized RX4, Cond.code yX4_number cX4_number 2 (some .int), Cond.fieldLink RX4 66 "CacheDiary$Machine" "caches" "I", Cond.fieldLink RX4 69 "CacheDiary$Machine" "slots" "I", Cond.fieldLink RX4 28 "CacheDiary$Machine" "diary" "LCacheDiary$Diary;", Cond.fieldLink RX4 232 "CacheDiary$Diary" "room" "I", Cond.fieldLink RX4 235 "CacheDiary$Diary" "pages" "I", Cond.fieldLink RX4 72 "CacheDiary$Machine" "time" "I", Cond.fieldLink RX4 75 "CacheDiary$Machine" "messages" "I"]
def wsL_value_r2 : List Cond := [Cond.fieldLink RX4 78 "CacheDiary$Machine" "hits" "I", Cond.fieldLink RX4 81 "CacheDiary$Machine" "misses" "I", Cond.fieldLink RX4 84 "CacheDiary$Machine" "races" "I", Cond.fieldLink RX4 238 "CacheDiary$Diary" "timesAsked" "I", Cond.fieldLink RX4 241 "CacheDiary$Diary" "tornOut" "I", Cond.fieldLink RX4 87 "CacheDiary$Machine" "broughtBack" "I", Cond.fieldLink RX4 35 "CacheDiary$Machine" "requests" "LCacheDiary$Requests;", Cond.fieldLink RX4 42 "CacheDiary$Machine" "log" "LCacheDiary$Log;", Cond.fieldLink RX4 62 "CacheDiary$Log" "count" "I", Cond.methodLink RX4 110 yX7_count, Cond.instanceMethod yX7_count, Cond.selects RX7 yX7_count yX7_count, Cond.initialized RX7, Cond.code yX7_count cX7_count 3 (some .int), Cond.fieldLink RX7 9 "CacheDiary$Requests" "line" "[I"]
def wsL_value : List Cond := .codeWith yL_value cL_value 4 (some .int) [(0, 9, 12, 13)] :: ((wsL_value_r1 ++ wsL_value_r2) ++ wsX80 ++ wsX40 ++ wsX10 ++ wsX30 ++ wsX70 ++ (vx_atS RX8 217 "java/lang/IllegalArgumentException" ["java/lang/RuntimeException", "java/lang/Exception"]).filter goodWord)
def wsL_cost_r1 : List Cond := [Cond.classLink RL 19 "java/lang/IndexOutOfBoundsException", Cond.methodLink RL 54 yX8_cost, Cond.instanceMethod yX8_cost, Cond.selects RX8 yX8_cost yX8_cost, Cond.initialized RX8, Cond.code yX8_cost cX8_cost 4 (some .int), Cond.fieldLink RX8 12 "CacheDiary" "machine" "LCacheDiary$Machine;", Cond.fieldLink RX8 55 "CacheDiary$Machine" "caches" "I", Cond.methodLink RX8 58 yX8_needIndex, Cond.static yX8_needIndex, Cond.code yX8_needIndex cX8_needIndex 2 none, Cond.classLink RX8 206 "java/lang/IndexOutOfBoundsException", Cond.initialized "java/lang/IndexOutOfBoundsException", Cond.methodLink RX8 152 yX4_costOf, Cond.instanceMethod yX4_costOf, Cond.selects RX4 yX4_costOf yX4_costOf, Cond.initialized RX4, Cond.code yX4_costOf cX4_costOf 6 (some .int), Cond.fieldLink RX4 28 "CacheDiary$Machine" "diary" "LCacheDiary$Diary;", Cond.fieldLink RX4 66 "CacheDiary$Machine" "caches" "I", Cond.fieldLink RX4 21 "CacheDiary$Machine" "copies" "LCacheDiary$Copies;", Cond.methodLink RX4 126 yX4_isHit, Cond.instanceMethod yX4_isHit, Cond.selects RX4 yX4_isHit yX4_isHit]
def wsL_cost_r2 : List Cond := [Cond.code yX4_isHit cX4_isHit 5 (some .boolean), Cond.methodLink RX4 137 yX0_kindOf, Cond.instanceMethod yX0_kindOf, Cond.selects RX0 yX0_kindOf yX0_kindOf, Cond.initialized RX0, Cond.code yX0_kindOf cX0_kindOf 3 (some .int), Cond.fieldLink RX0 9 "CacheDiary$Copies" "kind" "[I", Cond.methodLink RX4 141 yX1_hasPage, Cond.instanceMethod yX1_hasPage, Cond.selects RX1 yX1_hasPage yX1_hasPage, Cond.initialized RX1, Cond.code yX1_hasPage cX1_hasPage 2 (some .boolean), Cond.fieldLink RX1 9 "CacheDiary$Diary" "lastUse" "[I", Cond.methodLink RX4 144 yX1_isMarked, Cond.instanceMethod yX1_isMarked, Cond.selects RX1 yX1_isMarked yX1_isMarked, Cond.code yX1_isMarked cX1_isMarked 2 (some .boolean), Cond.fieldLink RX1 25 "CacheDiary$Diary" "marks" "I", Cond.methodLink RX4 147 yX0_ownerOf, Cond.instanceMethod yX0_ownerOf, Cond.selects RX0 yX0_ownerOf yX0_ownerOf, Cond.code yX0_ownerOf cX0_ownerOf 3 (some .int), Cond.methodLink RX4 151 yX0_sharersOf, Cond.instanceMethod yX0_sharersOf]
def wsL_cost_r3 : List Cond := [Cond.selects RX0 yX0_sharersOf yX0_sharersOf, Cond.code yX0_sharersOf cX0_sharersOf 4 (some .int), Cond.methodLink RX4 154 yJ6_bitCount_0f7a4, Cond.static yJ6_bitCount_0f7a4, Cond.initialized RJ6, Cond.code yJ6_bitCount_0f7a4 cJ6_bitCount_0f7a4 1 (some .int), Cond.constant RJ6 265 (1431655765), Cond.constant RJ6 266 (858993459), Cond.constant RJ6 267 (252645135), Cond.methodLink RX4 159 yX4_lineToDrop, Cond.instanceMethod yX4_lineToDrop, Cond.selects RX4 yX4_lineToDrop yX4_lineToDrop, Cond.code yX4_lineToDrop cX4_lineToDrop 2 (some .int), Cond.fieldLink RX4 69 "CacheDiary$Machine" "slots" "I", Cond.methodLink RX4 208 yX0_freeSlot, Cond.instanceMethod yX0_freeSlot, Cond.selects RX0 yX0_freeSlot yX0_freeSlot, Cond.code yX0_freeSlot cX0_freeSlot 5 (some .int), Cond.fieldLink RX0 18 "CacheDiary$Copies" "slot" "[I", Cond.methodLink RX4 229 yX0_leastUsed, Cond.instanceMethod yX0_leastUsed, Cond.selects RX0 yX0_leastUsed yX0_leastUsed, Cond.code yX0_leastUsed cX0_leastUsed 6 (some .int), Cond.fieldLink RX0 21 "CacheDiary$Copies" "lastUse" "[I"]
def wsL_cost : List Cond := .codeWith yL_cost cL_cost 6 (some .int) [(0, 12, 15, 19)] :: ((wsL_cost_r1 ++ (wsL_cost_r2 ++ wsL_cost_r3)) ++ wsX80 ++ wsX40 ++ wsX00 ++ wsX10 ++ (vx_atS RX8 210 "java/lang/IndexOutOfBoundsException" ["java/lang/RuntimeException", "java/lang/Exception"]).filter goodWord)
def wsL_nextDropped_r1 : List Cond := [Cond.classLink RL 19 "java/lang/IndexOutOfBoundsException", Cond.methodLink RL 58 yX8_nextDropped, Cond.instanceMethod yX8_nextDropped, Cond.selects RX8 yX8_nextDropped yX8_nextDropped, Cond.initialized RX8, Cond.code yX8_nextDropped cX8_nextDropped 2 (some .int), Cond.fieldLink RX8 12 "CacheDiary" "machine" "LCacheDiary$Machine;", Cond.fieldLink RX8 55 "CacheDiary$Machine" "caches" "I", Cond.methodLink RX8 58 yX8_needIndex, Cond.static yX8_needIndex, Cond.code yX8_needIndex cX8_needIndex 2 none, Cond.classLink RX8 206 "java/lang/IndexOutOfBoundsException", Cond.initialized "java/lang/IndexOutOfBoundsException", Cond.methodLink RX8 160 yX4_lineToDrop, Cond.instanceMethod yX4_lineToDrop, Cond.selects RX4 yX4_lineToDrop yX4_lineToDrop, Cond.initialized RX4, Cond.code yX4_lineToDrop cX4_lineToDrop 2 (some .int), Cond.fieldLink RX4 21 "CacheDiary$Machine" "copies" "LCacheDiary$Copies;", Cond.fieldLink RX4 69 "CacheDiary$Machine" "slots" "I", Cond.methodLink RX4 208 yX0_freeSlot, Cond.instanceMethod yX0_freeSlot, Cond.selects RX0 yX0_freeSlot yX0_freeSlot, Cond.initialized RX0]
def wsL_nextDropped_r2 : List Cond := [Cond.code yX0_freeSlot cX0_freeSlot 5 (some .int), Cond.fieldLink RX0 9 "CacheDiary$Copies" "kind" "[I", Cond.fieldLink RX0 18 "CacheDiary$Copies" "slot" "[I", Cond.methodLink RX4 229 yX0_leastUsed, Cond.instanceMethod yX0_leastUsed, Cond.selects RX0 yX0_leastUsed yX0_leastUsed, Cond.code yX0_leastUsed cX0_leastUsed 6 (some .int), Cond.fieldLink RX0 21 "CacheDiary$Copies" "lastUse" "[I"]
def wsL_nextDropped : List Cond := .codeWith yL_nextDropped cL_nextDropped 4 (some .int) [(0, 9, 12, 19)] :: ((wsL_nextDropped_r1 ++ wsL_nextDropped_r2) ++ wsX80 ++ wsX40 ++ wsX00 ++ (vx_atS RX8 210 "java/lang/IndexOutOfBoundsException" ["java/lang/RuntimeException", "java/lang/Exception"]).filter goodWord)
def wsL_cheapest_r1 : List Cond := [Cond.classLink RL 19 "java/lang/IndexOutOfBoundsException", Cond.methodLink RL 61 yX8_cheapest, Cond.instanceMethod yX8_cheapest, Cond.selects RX8 yX8_cheapest yX8_cheapest, Cond.initialized RX8, Cond.code yX8_cheapest cX8_cheapest 7 (some .int), Cond.fieldLink RX8 12 "CacheDiary" "machine" "LCacheDiary$Machine;", Cond.fieldLink RX8 55 "CacheDiary$Machine" "caches" "I", Cond.methodLink RX8 58 yX8_needIndex, Cond.static yX8_needIndex, Cond.code yX8_needIndex cX8_needIndex 2 none, Cond.classLink RX8 206 "java/lang/IndexOutOfBoundsException", Cond.initialized "java/lang/IndexOutOfBoundsException", Cond.methodLink RX8 152 yX4_costOf, Cond.instanceMethod yX4_costOf, Cond.selects RX4 yX4_costOf yX4_costOf, Cond.initialized RX4, Cond.code yX4_costOf cX4_costOf 6 (some .int), Cond.fieldLink RX4 28 "CacheDiary$Machine" "diary" "LCacheDiary$Diary;", Cond.fieldLink RX4 66 "CacheDiary$Machine" "caches" "I", Cond.fieldLink RX4 21 "CacheDiary$Machine" "copies" "LCacheDiary$Copies;", Cond.methodLink RX4 126 yX4_isHit, Cond.instanceMethod yX4_isHit, Cond.selects RX4 yX4_isHit yX4_isHit]
def wsL_cheapest_r2 : List Cond := [Cond.code yX4_isHit cX4_isHit 5 (some .boolean), Cond.methodLink RX4 137 yX0_kindOf, Cond.instanceMethod yX0_kindOf, Cond.selects RX0 yX0_kindOf yX0_kindOf, Cond.initialized RX0, Cond.code yX0_kindOf cX0_kindOf 3 (some .int), Cond.fieldLink RX0 9 "CacheDiary$Copies" "kind" "[I", Cond.methodLink RX4 141 yX1_hasPage, Cond.instanceMethod yX1_hasPage, Cond.selects RX1 yX1_hasPage yX1_hasPage, Cond.initialized RX1, Cond.code yX1_hasPage cX1_hasPage 2 (some .boolean), Cond.fieldLink RX1 9 "CacheDiary$Diary" "lastUse" "[I", Cond.methodLink RX4 144 yX1_isMarked, Cond.instanceMethod yX1_isMarked, Cond.selects RX1 yX1_isMarked yX1_isMarked, Cond.code yX1_isMarked cX1_isMarked 2 (some .boolean), Cond.fieldLink RX1 25 "CacheDiary$Diary" "marks" "I", Cond.methodLink RX4 147 yX0_ownerOf, Cond.instanceMethod yX0_ownerOf, Cond.selects RX0 yX0_ownerOf yX0_ownerOf, Cond.code yX0_ownerOf cX0_ownerOf 3 (some .int), Cond.methodLink RX4 151 yX0_sharersOf, Cond.instanceMethod yX0_sharersOf]
def wsL_cheapest_r3 : List Cond := [Cond.selects RX0 yX0_sharersOf yX0_sharersOf, Cond.code yX0_sharersOf cX0_sharersOf 4 (some .int), Cond.methodLink RX4 154 yJ6_bitCount_0f7a4, Cond.static yJ6_bitCount_0f7a4, Cond.initialized RJ6, Cond.code yJ6_bitCount_0f7a4 cJ6_bitCount_0f7a4 1 (some .int), Cond.constant RJ6 265 (1431655765), Cond.constant RJ6 266 (858993459), Cond.constant RJ6 267 (252645135), Cond.methodLink RX4 159 yX4_lineToDrop, Cond.instanceMethod yX4_lineToDrop, Cond.selects RX4 yX4_lineToDrop yX4_lineToDrop, Cond.code yX4_lineToDrop cX4_lineToDrop 2 (some .int), Cond.fieldLink RX4 69 "CacheDiary$Machine" "slots" "I", Cond.methodLink RX4 208 yX0_freeSlot, Cond.instanceMethod yX0_freeSlot, Cond.selects RX0 yX0_freeSlot yX0_freeSlot, Cond.code yX0_freeSlot cX0_freeSlot 5 (some .int), Cond.fieldLink RX0 18 "CacheDiary$Copies" "slot" "[I", Cond.methodLink RX4 229 yX0_leastUsed, Cond.instanceMethod yX0_leastUsed, Cond.selects RX0 yX0_leastUsed yX0_leastUsed, Cond.code yX0_leastUsed cX0_leastUsed 6 (some .int), Cond.fieldLink RX0 21 "CacheDiary$Copies" "lastUse" "[I"]
def wsL_cheapest : List Cond := .codeWith yL_cheapest cL_cheapest 5 (some .int) [(0, 10, 13, 19)] :: ((wsL_cheapest_r1 ++ (wsL_cheapest_r2 ++ wsL_cheapest_r3)) ++ wsX80 ++ wsX40 ++ wsX00 ++ wsX10 ++ (vx_atS RX8 210 "java/lang/IndexOutOfBoundsException" ["java/lang/RuntimeException", "java/lang/Exception"]).filter goodWord)
def wsL_append : List Cond := .codeWith yL_append cL_append 4 (some .int) [(0, 9, 12, 13), (0, 9, 15, 21)] :: ([.classLink RL 13 "java/lang/IllegalArgumentException", .classLink RL 21 "java/lang/IllegalStateException", .methodLink RL 65 yX8_append, .instanceMethod yX8_append, .selects RX8 yX8_append yX8_append, .initialized RX8, .code yX8_append cX8_append 2 (some .int), .fieldLink RX8 34 "CacheDiary" "textLength" "I", .fieldLink RX8 30 "CacheDiary" "text" "[B", .methodLink RX8 45 yX8_needRange, .static yX8_needRange, .code yX8_needRange cX8_needRange 3 none, .classLink RX8 213 "java/lang/IllegalArgumentException", .initialized "java/lang/IllegalArgumentException", .methodLink RX8 72 yX8_needState, .static yX8_needState, .code yX8_needState cX8_needState 1 none, .classLink RX8 218 "java/lang/IllegalStateException", .initialized "java/lang/IllegalStateException"] ++ wsX80 ++ (vx_atS RX8 217 "java/lang/IllegalArgumentException" ["java/lang/RuntimeException", "java/lang/Exception"]).filter goodWord ++ (vx_atS RX8 222 "java/lang/IllegalStateException" ["java/lang/RuntimeException", "java/lang/Exception"]).filter goodWord)
def wsL_undo_r1 : List Cond := [Cond.classLink RL 21 "java/lang/IllegalStateException", Cond.methodLink RL 68 yX8_undo, Cond.instanceMethod yX8_undo, Cond.selects RX8 yX8_undo yX8_undo, Cond.initialized RX8, Cond.code yX8_undo cX8_undo 1 (some .int), Cond.fieldLink RX8 26 "CacheDiary" "history" "LCacheDiary$History;", Cond.fieldLink RX8 194 "CacheDiary$History" "count" "I", Cond.fieldLink RX8 12 "CacheDiary" "machine" "LCacheDiary$Machine;", Cond.methodLink RX8 72 yX8_needState, Cond.static yX8_needState, Cond.code yX8_needState cX8_needState 1 none, Cond.classLink RX8 218 "java/lang/IllegalStateException", Cond.initialized "java/lang/IllegalStateException", Cond.methodLink RX8 195 yX2_restore, Cond.instanceMethod yX2_restore, Cond.selects RX2 yX2_restore yX2_restore, Cond.initialized RX2, Cond.code yX2_restore cX2_restore 2 none, Cond.fieldLink RX2 18 "CacheDiary$History" "count" "I", Cond.fieldLink RX2 11 "CacheDiary$History" "saved" "[LCacheDiary$Machine;", Cond.methodLink RX2 25 yX4_takeOver, Cond.instanceMethod yX4_takeOver, Cond.selects RX4 yX4_takeOver yX4_takeOver]
def wsL_undo_r2 : List Cond := [Cond.initialized RX4, Cond.code yX4_takeOver cX4_takeOver 2 none, Cond.fieldLink RX4 9 "CacheDiary$Machine" "memory" "[I", Cond.methodLink RX4 90 arraycopyName, Cond.native arraycopyName, Cond.static arraycopyName, Cond.initialized "java/lang/System", Cond.fieldLink RX4 15 "CacheDiary$Machine" "lastWritten" "[I", Cond.fieldLink RX4 21 "CacheDiary$Machine" "copies" "LCacheDiary$Copies;", Cond.fieldLink RX4 28 "CacheDiary$Machine" "diary" "LCacheDiary$Diary;", Cond.fieldLink RX4 35 "CacheDiary$Machine" "requests" "LCacheDiary$Requests;", Cond.fieldLink RX4 42 "CacheDiary$Machine" "log" "LCacheDiary$Log;", Cond.fieldLink RX4 66 "CacheDiary$Machine" "caches" "I", Cond.fieldLink RX4 69 "CacheDiary$Machine" "slots" "I", Cond.fieldLink RX4 72 "CacheDiary$Machine" "time" "I", Cond.fieldLink RX4 75 "CacheDiary$Machine" "messages" "I", Cond.fieldLink RX4 78 "CacheDiary$Machine" "hits" "I", Cond.fieldLink RX4 81 "CacheDiary$Machine" "misses" "I", Cond.fieldLink RX4 84 "CacheDiary$Machine" "races" "I", Cond.fieldLink RX4 87 "CacheDiary$Machine" "broughtBack" "I", Cond.methodLink RX4 96 yX0_takeOver, Cond.instanceMethod yX0_takeOver, Cond.selects RX0 yX0_takeOver yX0_takeOver, Cond.initialized RX0]
def wsL_undo_r3 : List Cond := [Cond.code yX0_takeOver cX0_takeOver 2 none, Cond.fieldLink RX0 9 "CacheDiary$Copies" "kind" "[I", Cond.methodLink RX0 34 arraycopyName, Cond.fieldLink RX0 15 "CacheDiary$Copies" "value" "[I", Cond.fieldLink RX0 18 "CacheDiary$Copies" "slot" "[I", Cond.fieldLink RX0 21 "CacheDiary$Copies" "lastUse" "[I", Cond.fieldLink RX0 30 "CacheDiary$Copies" "uses" "I", Cond.methodLink RX4 100 yX1_takeOver, Cond.instanceMethod yX1_takeOver, Cond.selects RX1 yX1_takeOver yX1_takeOver, Cond.initialized RX1, Cond.code yX1_takeOver cX1_takeOver 2 none, Cond.fieldLink RX1 9 "CacheDiary$Diary" "lastUse" "[I", Cond.methodLink RX1 40 arraycopyName, Cond.fieldLink RX1 21 "CacheDiary$Diary" "uses" "I", Cond.fieldLink RX1 25 "CacheDiary$Diary" "marks" "I", Cond.fieldLink RX1 28 "CacheDiary$Diary" "room" "I", Cond.fieldLink RX1 31 "CacheDiary$Diary" "pages" "I", Cond.fieldLink RX1 34 "CacheDiary$Diary" "timesAsked" "I", Cond.fieldLink RX1 37 "CacheDiary$Diary" "tornOut" "I", Cond.methodLink RX4 103 yX7_takeOver, Cond.instanceMethod yX7_takeOver, Cond.selects RX7 yX7_takeOver yX7_takeOver, Cond.initialized RX7]
def wsL_undo_r4 : List Cond := [Cond.code yX7_takeOver cX7_takeOver 2 none, Cond.fieldLink RX7 9 "CacheDiary$Requests" "line" "[I", Cond.methodLink RX7 27 arraycopyName, Cond.fieldLink RX7 15 "CacheDiary$Requests" "value" "[I", Cond.fieldLink RX7 18 "CacheDiary$Requests" "putOff" "[I", Cond.methodLink RX4 106 yX3_takeOver, Cond.instanceMethod yX3_takeOver, Cond.selects RX3 yX3_takeOver yX3_takeOver, Cond.initialized RX3, Cond.code yX3_takeOver cX3_takeOver 2 none, Cond.fieldLink RX3 9 "CacheDiary$Log" "facts" "[I", Cond.methodLink RX3 15 arraycopyName, Cond.fieldLink RX3 21 "CacheDiary$Log" "count" "I"]
def wsL_undo : List Cond := .codeWith yL_undo cL_undo 3 (some .int) [(0, 8, 11, 21)] :: ((wsL_undo_r1 ++ (wsL_undo_r2 ++ (wsL_undo_r3 ++ wsL_undo_r4))) ++ wsX80 ++ wsX20 ++ wsX40 ++ wsX00 ++ wsX10 ++ wsX70 ++ wsX30 ++ (vx_atS RX8 222 "java/lang/IllegalStateException" ["java/lang/RuntimeException", "java/lang/Exception"]).filter goodWord)
def wsL_law0_r1 : List Cond := [Cond.classLink RL 8 RX8, Cond.instantiable RX8 6, Cond.initialized RX8, Cond.classLink RL 73 RX9, Cond.instantiable RX9 9, Cond.initialized RX9, Cond.arrayClass .long, Cond.methodLink RL 72 yX8_init, Cond.instanceMethod yX8_init, Cond.code yX8_init cX8_init 1 none, Cond.methodLink RX8 3 objectInit, Cond.instanceMethod objectInit, Cond.code objectInit ⟨#[0xb1]⟩ 1 none, Cond.classLink RX8 9 RX4, Cond.instantiable RX4 14, Cond.initialized RX4, Cond.fieldLink RX8 12 "CacheDiary" "machine" "LCacheDiary$Machine;", Cond.fieldLink RX8 20 "CacheDiary" "trial" "LCacheDiary$Machine;", Cond.classLink RX8 23 RX2, Cond.instantiable RX2 2, Cond.initialized RX2, Cond.fieldLink RX8 26 "CacheDiary" "history" "LCacheDiary$History;", Cond.arrayClass .byte, Cond.fieldLink RX8 30 "CacheDiary" "text" "[B"]
def wsL_law0_r2 : List Cond := [Cond.fieldLink RX8 34 "CacheDiary" "textLength" "I", Cond.classLink RX8 38 RX5, Cond.instantiable RX5 11, Cond.initialized RX5, Cond.fieldLink RX8 41 "CacheDiary" "orders" "LCacheDiary$OrderReader;", Cond.instanceMethod yX4_init, Cond.code yX4_init cX4_init 1 none, Cond.methodLink RX4 3 objectInit, Cond.arrayClass .int, Cond.fieldLink RX4 9 "CacheDiary$Machine" "memory" "[I", Cond.fieldLink RX4 15 "CacheDiary$Machine" "lastWritten" "[I", Cond.classLink RX4 18 RX0, Cond.instantiable RX0 5, Cond.initialized RX0, Cond.fieldLink RX4 21 "CacheDiary$Machine" "copies" "LCacheDiary$Copies;", Cond.classLink RX4 25 RX1, Cond.instantiable RX1 7, Cond.initialized RX1, Cond.fieldLink RX4 28 "CacheDiary$Machine" "diary" "LCacheDiary$Diary;", Cond.classLink RX4 32 RX7, Cond.instantiable RX7 3, Cond.initialized RX7, Cond.fieldLink RX4 35 "CacheDiary$Machine" "requests" "LCacheDiary$Requests;", Cond.classLink RX4 39 RX3]
def wsL_law0_r3 : List Cond := [Cond.instantiable RX3 2, Cond.initialized RX3, Cond.fieldLink RX4 42 "CacheDiary$Machine" "log" "LCacheDiary$Log;", Cond.instanceMethod yX0_init, Cond.code yX0_init cX0_init 1 none, Cond.methodLink RX0 3 objectInit, Cond.fieldLink RX0 9 "CacheDiary$Copies" "kind" "[I", Cond.fieldLink RX0 15 "CacheDiary$Copies" "value" "[I", Cond.fieldLink RX0 18 "CacheDiary$Copies" "slot" "[I", Cond.fieldLink RX0 21 "CacheDiary$Copies" "lastUse" "[I", Cond.instanceMethod yX1_init, Cond.code yX1_init cX1_init 1 none, Cond.methodLink RX1 3 objectInit, Cond.fieldLink RX1 9 "CacheDiary$Diary" "lastUse" "[I", Cond.instanceMethod yX7_init, Cond.code yX7_init cX7_init 1 none, Cond.methodLink RX7 3 objectInit, Cond.fieldLink RX7 9 "CacheDiary$Requests" "line" "[I", Cond.fieldLink RX7 15 "CacheDiary$Requests" "value" "[I", Cond.fieldLink RX7 18 "CacheDiary$Requests" "putOff" "[I", Cond.instanceMethod yX3_init, Cond.code yX3_init cX3_init 1 none, Cond.methodLink RX3 3 objectInit, Cond.fieldLink RX3 9 "CacheDiary$Log" "facts" "[I"]
def wsL_law0_r4 : List Cond := [Cond.methodLink RX8 16 yX4_startAnew, Cond.instanceMethod yX4_startAnew, Cond.selects RX4 yX4_startAnew yX4_startAnew, Cond.code yX4_startAnew cX4_startAnew 4 none, Cond.fieldLink RX4 62 "CacheDiary$Log" "count" "I", Cond.fieldLink RX4 66 "CacheDiary$Machine" "caches" "I", Cond.fieldLink RX4 69 "CacheDiary$Machine" "slots" "I", Cond.fieldLink RX4 72 "CacheDiary$Machine" "time" "I", Cond.fieldLink RX4 75 "CacheDiary$Machine" "messages" "I", Cond.fieldLink RX4 78 "CacheDiary$Machine" "hits" "I", Cond.fieldLink RX4 81 "CacheDiary$Machine" "misses" "I", Cond.fieldLink RX4 84 "CacheDiary$Machine" "races" "I", Cond.fieldLink RX4 87 "CacheDiary$Machine" "broughtBack" "I", Cond.methodLink RX4 46 yJ7_fill_53178, Cond.static yJ7_fill_53178, Cond.initialized RJ7, Cond.code yJ7_fill_53178 cJ7_fill_53178 4 none, Cond.methodLink RX4 52 yX0_removeAll, Cond.instanceMethod yX0_removeAll, Cond.selects RX0 yX0_removeAll yX0_removeAll, Cond.code yX0_removeAll cX0_removeAll 1 none, Cond.fieldLink RX0 30 "CacheDiary$Copies" "uses" "I", Cond.methodLink RX0 24 yJ7_fill_53178, Cond.methodLink RX4 55 yX1_empty]
def wsL_law0_r5 : List Cond := [Cond.instanceMethod yX1_empty, Cond.selects RX1 yX1_empty yX1_empty, Cond.code yX1_empty cX1_empty 2 none, Cond.fieldLink RX1 21 "CacheDiary$Diary" "uses" "I", Cond.fieldLink RX1 25 "CacheDiary$Diary" "marks" "I", Cond.fieldLink RX1 28 "CacheDiary$Diary" "room" "I", Cond.fieldLink RX1 31 "CacheDiary$Diary" "pages" "I", Cond.fieldLink RX1 34 "CacheDiary$Diary" "timesAsked" "I", Cond.fieldLink RX1 37 "CacheDiary$Diary" "tornOut" "I", Cond.methodLink RX1 15 yJ7_fill_53178, Cond.methodLink RX4 59 yX7_forgetAll, Cond.instanceMethod yX7_forgetAll, Cond.selects RX7 yX7_forgetAll yX7_forgetAll, Cond.code yX7_forgetAll cX7_forgetAll 1 none, Cond.methodLink RX7 21 yJ7_fill_53178, Cond.methodLink RX8 25 yX2_init, Cond.instanceMethod yX2_init, Cond.code yX2_init cX2_init 2 none, Cond.methodLink RX2 3 objectInit, Cond.classLink RX2 9 RX4, Cond.fieldLink RX2 11 "CacheDiary$History" "saved" "[LCacheDiary$Machine;", Cond.instanceMethod yX5_init, Cond.code yX5_init cX5_init 1 none, Cond.methodLink RX5 3 objectInit]
def wsL_law0_r6 : List Cond := [Cond.fieldLink RX5 9 "CacheDiary$OrderReader" "cache" "[I", Cond.fieldLink RX5 15 "CacheDiary$OrderReader" "line" "[I", Cond.fieldLink RX5 18 "CacheDiary$OrderReader" "number" "[I", Cond.fieldLink RX5 21 "CacheDiary$Place" "KIND" "LCacheDiary$Place;", Cond.fieldLink RX5 27 "CacheDiary$OrderReader" "place" "LCacheDiary$Place;", Cond.methodLink RL 75 yX9_init, Cond.instanceMethod yX9_init, Cond.code yX9_init cX9_init 1 none, Cond.methodLink RX9 1 objectInit, Cond.fieldLink RX9 7 "CacheDiaryModel" "v" "[I", Cond.fieldLink RX9 13 "CacheDiaryModel" "spare" "[I", Cond.fieldLink RX9 16 "CacheDiaryModel" "saved" "[I", Cond.fieldLink RX9 19 "CacheDiaryModel" "text" "[I", Cond.fieldLink RX9 22 "CacheDiaryModel" "order" "[I", Cond.methodLink RX9 25 yX9_anew, Cond.instanceMethod yX9_anew, Cond.selects RX9 yX9_anew yX9_anew, Cond.code yX9_anew cX9_anew 5 none, Cond.methodLink RL 76 yL_begin, Cond.static yL_begin, Cond.initialized RL, Cond.codeWith yL_begin cL_begin 6 (some .int) [(0, 12, 15, 13)], Cond.classLink RL 13 "java/lang/IllegalArgumentException", Cond.methodLink RL 7 yX8_begin]
def wsL_law0_r7 : List Cond := [Cond.instanceMethod yX8_begin, Cond.selects RX8 yX8_begin yX8_begin, Cond.code yX8_begin cX8_begin 5 (some .int), Cond.fieldLink RX8 52 "CacheDiary$Machine" "time" "I", Cond.methodLink RX8 45 yX8_needRange, Cond.static yX8_needRange, Cond.code yX8_needRange cX8_needRange 3 none, Cond.classLink RX8 213 "java/lang/IllegalArgumentException", Cond.initialized "java/lang/IllegalArgumentException", Cond.methodLink RX8 48 yX2_save, Cond.instanceMethod yX2_save, Cond.selects RX2 yX2_save yX2_save, Cond.code yX2_save cX2_save 2 none, Cond.fieldLink RX2 18 "CacheDiary$History" "count" "I", Cond.methodLink RX2 22 yX2_dropOldest, Cond.instanceMethod yX2_dropOldest, Cond.selects RX2 yX2_dropOldest yX2_dropOldest, Cond.code yX2_dropOldest cX2_dropOldest 3 none, Cond.methodLink RX2 25 yX4_takeOver, Cond.instanceMethod yX4_takeOver, Cond.selects RX4 yX4_takeOver yX4_takeOver, Cond.code yX4_takeOver cX4_takeOver 2 none, Cond.methodLink RX4 90 arraycopyName, Cond.native arraycopyName]
def wsL_law0_r8 : List Cond := [Cond.static arraycopyName, Cond.initialized "java/lang/System", Cond.methodLink RX4 96 yX0_takeOver, Cond.instanceMethod yX0_takeOver, Cond.selects RX0 yX0_takeOver yX0_takeOver, Cond.code yX0_takeOver cX0_takeOver 2 none, Cond.methodLink RX0 34 arraycopyName, Cond.methodLink RX4 100 yX1_takeOver, Cond.instanceMethod yX1_takeOver, Cond.selects RX1 yX1_takeOver yX1_takeOver, Cond.code yX1_takeOver cX1_takeOver 2 none, Cond.methodLink RX1 40 arraycopyName, Cond.methodLink RX4 103 yX7_takeOver, Cond.instanceMethod yX7_takeOver, Cond.selects RX7 yX7_takeOver yX7_takeOver, Cond.code yX7_takeOver cX7_takeOver 2 none, Cond.methodLink RX7 27 arraycopyName, Cond.methodLink RX4 106 yX3_takeOver, Cond.instanceMethod yX3_takeOver, Cond.selects RX3 yX3_takeOver yX3_takeOver, Cond.code yX3_takeOver cX3_takeOver 2 none, Cond.methodLink RX3 15 arraycopyName, Cond.fieldLink RX3 21 "CacheDiary$Log" "count" "I", Cond.methodLink RL 81 yX9_begin]
def wsL_law0_r9 : List Cond := [Cond.instanceMethod yX9_begin, Cond.selects RX9 yX9_begin yX9_begin, Cond.code yX9_begin cX9_begin 5 (some .int), Cond.fieldLink RX9 29 "CacheDiaryModel" "thrown" "I", Cond.methodLink RX9 36 yX9_in, Cond.static yX9_in, Cond.code yX9_in cX9_in 3 (some .boolean), Cond.methodLink RX9 99 yX9_fails, Cond.instanceMethod yX9_fails, Cond.selects RX9 yX9_fails yX9_fails, Cond.code yX9_fails cX9_fails 2 (some .int), Cond.methodLink RX9 102 yX9_save, Cond.instanceMethod yX9_save, Cond.selects RX9 yX9_save yX9_save, Cond.code yX9_save cX9_save 2 none, Cond.fieldLink RX9 33 "CacheDiaryModel" "saves" "I", Cond.methodLink RL 82 yX9_thrown, Cond.instanceMethod yX9_thrown, Cond.selects RX9 yX9_thrown yX9_thrown, Cond.code yX9_thrown cX9_thrown 1 (some .int), Cond.methodLink RL 85 yL_read, Cond.static yL_read, Cond.codeWith yL_read cL_read 5 (some .int) [(0, 10, 13, 19), (0, 10, 17, 21)], Cond.classLink RL 19 "java/lang/IndexOutOfBoundsException"]
def wsL_law0_r10 : List Cond := [Cond.classLink RL 21 "java/lang/IllegalStateException", Cond.methodLink RL 15 yX8_read, Cond.instanceMethod yX8_read, Cond.selects RX8 yX8_read yX8_read, Cond.code yX8_read cX8_read 3 (some .int), Cond.fieldLink RX8 55 "CacheDiary$Machine" "caches" "I", Cond.fieldLink RX8 62 "CacheDiary$Machine" "requests" "LCacheDiary$Requests;", Cond.methodLink RX8 58 yX8_needIndex, Cond.static yX8_needIndex, Cond.code yX8_needIndex cX8_needIndex 2 none, Cond.classLink RX8 206 "java/lang/IndexOutOfBoundsException", Cond.initialized "java/lang/IndexOutOfBoundsException", Cond.methodLink RX8 66 yX7_isPending, Cond.instanceMethod yX7_isPending, Cond.selects RX7 yX7_isPending yX7_isPending, Cond.code yX7_isPending cX7_isPending 2 (some .boolean), Cond.methodLink RX8 72 yX8_needState, Cond.static yX8_needState, Cond.code yX8_needState cX8_needState 1 none, Cond.classLink RX8 218 "java/lang/IllegalStateException", Cond.initialized "java/lang/IllegalStateException", Cond.methodLink RX8 76 yX7_ask, Cond.instanceMethod yX7_ask, Cond.selects RX7 yX7_ask yX7_ask]
def wsL_law0_r11 : List Cond := [Cond.code yX7_ask cX7_ask 4 none, Cond.methodLink RX8 79 yX4_isHit, Cond.instanceMethod yX4_isHit, Cond.selects RX4 yX4_isHit yX4_isHit, Cond.code yX4_isHit cX4_isHit 5 (some .boolean), Cond.methodLink RX4 137 yX0_kindOf, Cond.instanceMethod yX0_kindOf, Cond.selects RX0 yX0_kindOf yX0_kindOf, Cond.code yX0_kindOf cX0_kindOf 3 (some .int), Cond.methodLink RL 88 yX9_read, Cond.instanceMethod yX9_read, Cond.selects RX9 yX9_read yX9_read, Cond.code yX9_read cX9_read 3 (some .int), Cond.methodLink RX9 105 yX9_isCache, Cond.instanceMethod yX9_isCache, Cond.selects RX9 yX9_isCache yX9_isCache, Cond.code yX9_isCache cX9_isCache 2 (some .boolean), Cond.methodLink RX9 108 yX9_isLine, Cond.static yX9_isLine, Cond.code yX9_isLine cX9_isLine 1 (some .boolean), Cond.methodLink RX9 95 yX9_isAsking, Cond.instanceMethod yX9_isAsking, Cond.selects RX9 yX9_isAsking yX9_isAsking, Cond.code yX9_isAsking cX9_isAsking 2 (some .boolean)]
def wsL_law0_r12 : List Cond := [Cond.methodLink RX9 111 yX9_asks, Cond.instanceMethod yX9_asks, Cond.selects RX9 yX9_asks yX9_asks, Cond.code yX9_asks cX9_asks 4 (some .int), Cond.methodLink RX9 81 yX9_isHit, Cond.instanceMethod yX9_isHit, Cond.selects RX9 yX9_isHit yX9_isHit, Cond.code yX9_isHit cX9_isHit 5 (some .boolean), Cond.methodLink RX9 52 yX9_copyOf, Cond.instanceMethod yX9_copyOf, Cond.selects RX9 yX9_copyOf yX9_copyOf, Cond.code yX9_copyOf cX9_copyOf 4 (some .int), Cond.methodLink RX9 40 yX9_slotAt, Cond.static yX9_slotAt, Cond.code yX9_slotAt cX9_slotAt 2 (some .int), Cond.methodLink RL 89 yL_write, Cond.static yL_write, Cond.codeWith yL_write cL_write 6 (some .int) [(0, 12, 15, 19), (0, 12, 19, 13), (0, 12, 23, 21)], Cond.methodLink RL 23 yX8_write, Cond.instanceMethod yX8_write, Cond.selects RX8 yX8_write yX8_write, Cond.code yX8_write cX8_write 4 (some .int), Cond.methodLink RL 91 yX9_write, Cond.instanceMethod yX9_write]
def wsL_law0_r13 : List Cond := [Cond.selects RX9 yX9_write yX9_write, Cond.code yX9_write cX9_write 4 (some .int), Cond.methodLink RL 92 yL_takeBack, Cond.static yL_takeBack, Cond.codeWith yL_takeBack cL_takeBack 4 (some .int) [(0, 9, 12, 19), (0, 9, 15, 21)], Cond.methodLink RL 26 yX8_takeBack, Cond.instanceMethod yX8_takeBack, Cond.selects RX8 yX8_takeBack yX8_takeBack, Cond.code yX8_takeBack cX8_takeBack 3 (some .int), Cond.fieldLink RX8 83 "CacheDiary$Requests" "line" "[I", Cond.methodLink RX8 87 yX7_forget, Cond.instanceMethod yX7_forget, Cond.selects RX7 yX7_forget yX7_forget, Cond.code yX7_forget cX7_forget 2 none, Cond.methodLink RL 95 yX9_takeBack, Cond.instanceMethod yX9_takeBack, Cond.selects RX9 yX9_takeBack yX9_takeBack, Cond.code yX9_takeBack cX9_takeBack 3 (some .int), Cond.methodLink RL 96 yL_pass, Cond.static yL_pass, Cond.codeWith yL_pass cL_pass 4 (some .int) [(0, 9, 12, 13), (0, 9, 15, 21)], Cond.methodLink RL 30 yX8_pass, Cond.instanceMethod yX8_pass, Cond.selects RX8 yX8_pass yX8_pass]
def wsL_law0_r14 : List Cond := [Cond.code yX8_pass cX8_pass 2 (some .int), Cond.methodLink RX8 91 yX4_hasTimeFor, Cond.instanceMethod yX4_hasTimeFor, Cond.selects RX4 yX4_hasTimeFor yX4_hasTimeFor, Cond.code yX4_hasTimeFor cX4_hasTimeFor 2 (some .boolean), Cond.constant RX4 109 (100000), Cond.methodLink RX8 94 yX4_letPass, Cond.instanceMethod yX4_letPass, Cond.selects RX4 yX4_letPass yX4_letPass, Cond.code yX4_letPass cX4_letPass 5 (some .int), Cond.methodLink RX4 110 yX7_count, Cond.instanceMethod yX7_count, Cond.selects RX7 yX7_count yX7_count, Cond.code yX7_count cX7_count 3 (some .int), Cond.methodLink RX4 113 yX4_tick, Cond.instanceMethod yX4_tick, Cond.selects RX4 yX4_tick yX4_tick, Cond.code yX4_tick cX4_tick 8 (some .int), Cond.fieldLink RX4 120 "CacheDiary$Requests" "line" "[I", Cond.fieldLink RX4 130 "CacheDiary$Requests" "putOff" "[I", Cond.methodLink RX4 116 yX7_isPending, Cond.methodLink RX4 123 yX7_isWrite, Cond.instanceMethod yX7_isWrite, Cond.selects RX7 yX7_isWrite yX7_isWrite]
def wsL_law0_r15 : List Cond := [Cond.code yX7_isWrite cX7_isWrite 2 (some .boolean), Cond.methodLink RX4 126 yX4_isHit, Cond.methodLink RX4 133 yX4_serve, Cond.instanceMethod yX4_serve, Cond.selects RX4 yX4_serve yX4_serve, Cond.code yX4_serve cX4_serve 6 none, Cond.fieldLink RX4 169 "CacheDiary$Requests" "value" "[I", Cond.methodLink RX4 162 yX4_costOf, Cond.instanceMethod yX4_costOf, Cond.selects RX4 yX4_costOf yX4_costOf, Cond.code yX4_costOf cX4_costOf 6 (some .int), Cond.methodLink RX4 141 yX1_hasPage, Cond.instanceMethod yX1_hasPage, Cond.selects RX1 yX1_hasPage yX1_hasPage, Cond.code yX1_hasPage cX1_hasPage 2 (some .boolean), Cond.methodLink RX4 144 yX1_isMarked, Cond.instanceMethod yX1_isMarked, Cond.selects RX1 yX1_isMarked yX1_isMarked, Cond.code yX1_isMarked cX1_isMarked 2 (some .boolean), Cond.methodLink RX4 147 yX0_ownerOf, Cond.instanceMethod yX0_ownerOf, Cond.selects RX0 yX0_ownerOf yX0_ownerOf, Cond.code yX0_ownerOf cX0_ownerOf 3 (some .int), Cond.methodLink RX4 151 yX0_sharersOf]
def wsL_law0_r16 : List Cond := [Cond.instanceMethod yX0_sharersOf, Cond.selects RX0 yX0_sharersOf yX0_sharersOf, Cond.code yX0_sharersOf cX0_sharersOf 4 (some .int), Cond.methodLink RX4 154 yJ6_bitCount_0f7a4, Cond.static yJ6_bitCount_0f7a4, Cond.initialized RJ6, Cond.code yJ6_bitCount_0f7a4 cJ6_bitCount_0f7a4 1 (some .int), Cond.constant RJ6 265 (1431655765), Cond.constant RJ6 266 (858993459), Cond.constant RJ6 267 (252645135), Cond.methodLink RX4 159 yX4_lineToDrop, Cond.instanceMethod yX4_lineToDrop, Cond.selects RX4 yX4_lineToDrop yX4_lineToDrop, Cond.code yX4_lineToDrop cX4_lineToDrop 2 (some .int), Cond.methodLink RX4 208 yX0_freeSlot, Cond.instanceMethod yX0_freeSlot, Cond.selects RX0 yX0_freeSlot yX0_freeSlot, Cond.code yX0_freeSlot cX0_freeSlot 5 (some .int), Cond.methodLink RX4 229 yX0_leastUsed, Cond.instanceMethod yX0_leastUsed, Cond.selects RX0 yX0_leastUsed yX0_leastUsed, Cond.code yX0_leastUsed cX0_leastUsed 6 (some .int), Cond.methodLink RX4 166 yX4_fetch, Cond.instanceMethod yX4_fetch]
def wsL_law0_r17 : List Cond := [Cond.selects RX4 yX4_fetch yX4_fetch, Cond.code yX4_fetch cX4_fetch 6 none, Cond.methodLink RX4 190 yX4_makeRoomInDiary, Cond.instanceMethod yX4_makeRoomInDiary, Cond.selects RX4 yX4_makeRoomInDiary yX4_makeRoomInDiary, Cond.code yX4_makeRoomInDiary cX4_makeRoomInDiary 2 none, Cond.methodLink RX4 216 yX1_lineToTear, Cond.instanceMethod yX1_lineToTear, Cond.selects RX1 yX1_lineToTear yX1_lineToTear, Cond.code yX1_lineToTear cX1_lineToTear 4 (some .int), Cond.methodLink RX4 219 yX0_countOf, Cond.instanceMethod yX0_countOf, Cond.selects RX0 yX0_countOf yX0_countOf, Cond.code yX0_countOf cX0_countOf 4 (some .int), Cond.methodLink RX4 222 yX1_tearOut, Cond.instanceMethod yX1_tearOut, Cond.selects RX1 yX1_tearOut yX1_tearOut, Cond.code yX1_tearOut cX1_tearOut 3 none, Cond.methodLink RX4 193 yX1_makePage, Cond.instanceMethod yX1_makePage, Cond.selects RX1 yX1_makePage yX1_makePage, Cond.code yX1_makePage cX1_makePage 2 none, Cond.methodLink RX1 46 yX1_isMarked, Cond.methodLink RX1 50 yX1_use]
def wsL_law0_r18 : List Cond := [Cond.instanceMethod yX1_use, Cond.selects RX1 yX1_use yX1_use, Cond.code yX1_use cX1_use 2 none, Cond.methodLink RX4 196 yX4_bringBack, Cond.instanceMethod yX4_bringBack, Cond.selects RX4 yX4_bringBack yX4_bringBack, Cond.code yX4_bringBack cX4_bringBack 3 none, Cond.methodLink RX4 180 yX0_valueOf, Cond.instanceMethod yX0_valueOf, Cond.selects RX0 yX0_valueOf yX0_valueOf, Cond.code yX0_valueOf cX0_valueOf 3 (some .int), Cond.methodLink RX4 199 yX0_share, Cond.instanceMethod yX0_share, Cond.selects RX0 yX0_share yX0_share, Cond.code yX0_share cX0_share 3 none, Cond.methodLink RX4 202 yX0_removeOthers, Cond.instanceMethod yX0_removeOthers, Cond.selects RX0 yX0_removeOthers yX0_removeOthers, Cond.code yX0_removeOthers cX0_removeOthers 4 none, Cond.methodLink RX4 205 yX4_throwAway, Cond.instanceMethod yX4_throwAway, Cond.selects RX4 yX4_throwAway yX4_throwAway, Cond.code yX4_throwAway cX4_throwAway 3 none, Cond.methodLink RX4 226 yX0_remove]
def wsL_law0_r19 : List Cond := [Cond.instanceMethod yX0_remove, Cond.selects RX0 yX0_remove yX0_remove, Cond.code yX0_remove cX0_remove 3 none, Cond.methodLink RX4 211 yX0_add, Cond.instanceMethod yX0_add, Cond.selects RX0 yX0_add yX0_add, Cond.code yX0_add cX0_add 6 none, Cond.methodLink RX4 214 yX1_use, Cond.methodLink RX4 172 yX0_own, Cond.instanceMethod yX0_own, Cond.selects RX0 yX0_own yX0_own, Cond.code yX0_own cX0_own 4 none, Cond.methodLink RX4 176 yX0_use, Cond.instanceMethod yX0_use, Cond.selects RX0 yX0_use yX0_use, Cond.code yX0_use cX0_use 3 none, Cond.methodLink RX4 183 yX3_add, Cond.instanceMethod yX3_add, Cond.selects RX3 yX3_add yX3_add, Cond.code yX3_add cX3_add 8 none, Cond.methodLink RX4 187 yX7_forget, Cond.methodLink RL 98 yX9_pass, Cond.instanceMethod yX9_pass, Cond.selects RX9 yX9_pass yX9_pass]
def wsL_law0_r20 : List Cond := [Cond.code yX9_pass cX9_pass 2 (some .int), Cond.constant RX9 114 (100000), Cond.methodLink RX9 115 yX9_ticks, Cond.instanceMethod yX9_ticks, Cond.selects RX9 yX9_ticks yX9_ticks, Cond.code yX9_ticks cX9_ticks 4 (some .int), Cond.methodLink RX9 92 yX9_tick, Cond.instanceMethod yX9_tick, Cond.selects RX9 yX9_tick yX9_tick, Cond.code yX9_tick cX9_tick 8 (some .int), Cond.methodLink RX9 89 yX9_serves, Cond.instanceMethod yX9_serves, Cond.selects RX9 yX9_serves yX9_serves, Cond.code yX9_serves cX9_serves 8 (some .int), Cond.methodLink RX9 85 yX9_misses, Cond.instanceMethod yX9_misses, Cond.selects RX9 yX9_misses yX9_misses, Cond.code yX9_misses cX9_misses 8 (some .int), Cond.methodLink RX9 68 yX9_opensPage, Cond.instanceMethod yX9_opensPage, Cond.selects RX9 yX9_opensPage yX9_opensPage, Cond.code yX9_opensPage cX9_opensPage 4 (some .int), Cond.methodLink RX9 48 yX9_pageOf, Cond.instanceMethod yX9_pageOf]
def wsL_law0_r21 : List Cond := [Cond.selects RX9 yX9_pageOf yX9_pageOf, Cond.code yX9_pageOf cX9_pageOf 3 (some .int), Cond.methodLink RX9 55 yX9_oldestPage, Cond.instanceMethod yX9_oldestPage, Cond.selects RX9 yX9_oldestPage yX9_oldestPage, Cond.code yX9_oldestPage cX9_oldestPage 3 (some .int), Cond.methodLink RX9 59 yX9_tearOut, Cond.instanceMethod yX9_tearOut, Cond.selects RX9 yX9_tearOut yX9_tearOut, Cond.code yX9_tearOut cX9_tearOut 3 none, Cond.methodLink RX9 62 yX9_ownerOf, Cond.instanceMethod yX9_ownerOf, Cond.selects RX9 yX9_ownerOf yX9_ownerOf, Cond.code yX9_ownerOf cX9_ownerOf 4 (some .int), Cond.methodLink RX9 65 yX9_sharersOf, Cond.instanceMethod yX9_sharersOf, Cond.selects RX9 yX9_sharersOf yX9_sharersOf, Cond.code yX9_sharersOf cX9_sharersOf 5 (some .int), Cond.methodLink RX9 71 yX9_reachesOthers, Cond.instanceMethod yX9_reachesOthers, Cond.selects RX9 yX9_reachesOthers yX9_reachesOthers, Cond.code yX9_reachesOthers cX9_reachesOthers 7 (some .int), Cond.methodLink RX9 44 yX9_toMemory, Cond.instanceMethod yX9_toMemory]
def wsL_law0_r22 : List Cond := [Cond.selects RX9 yX9_toMemory yX9_toMemory, Cond.code yX9_toMemory cX9_toMemory 2 none, Cond.methodLink RX9 75 yX9_oldestCopy, Cond.instanceMethod yX9_oldestCopy, Cond.selects RX9 yX9_oldestCopy yX9_oldestCopy, Cond.code yX9_oldestCopy cX9_oldestCopy 4 (some .int), Cond.methodLink RX9 78 yX9_throwAway, Cond.instanceMethod yX9_throwAway, Cond.selects RX9 yX9_throwAway yX9_throwAway, Cond.code yX9_throwAway cX9_throwAway 5 (some .int), Cond.methodLink RL 99 yL_drop, Cond.static yL_drop, Cond.codeWith yL_drop cL_drop 5 (some .int) [(0, 10, 13, 19), (0, 10, 17, 21)], Cond.methodLink RL 33 yX8_drop, Cond.instanceMethod yX8_drop, Cond.selects RX8 yX8_drop yX8_drop, Cond.code yX8_drop cX8_drop 4 (some .int), Cond.fieldLink RX8 98 "CacheDiary$Machine" "copies" "LCacheDiary$Copies;", Cond.fieldLink RX8 111 "CacheDiary$Machine" "messages" "I", Cond.methodLink RX8 102 yX0_kindOf, Cond.methodLink RX8 108 yX4_throwAway, Cond.methodLink RL 101 yX9_drop, Cond.instanceMethod yX9_drop, Cond.selects RX9 yX9_drop yX9_drop]
def wsL_law0_r23 : List Cond := [Cond.code yX9_drop cX9_drop 5 (some .int), Cond.methodLink RL 102 yL_tear, Cond.static yL_tear, Cond.codeWith yL_tear cL_tear 4 (some .int) [(0, 9, 12, 19), (0, 9, 15, 21)], Cond.methodLink RL 36 yX8_tear, Cond.instanceMethod yX8_tear, Cond.selects RX8 yX8_tear yX8_tear, Cond.code yX8_tear cX8_tear 3 (some .int), Cond.fieldLink RX8 114 "CacheDiary$Machine" "diary" "LCacheDiary$Diary;", Cond.methodLink RX8 118 yX1_hasPage, Cond.methodLink RX8 123 yX0_countOf, Cond.methodLink RX8 126 yX1_tearOut, Cond.methodLink RL 104 yX9_tear, Cond.instanceMethod yX9_tear, Cond.selects RX9 yX9_tear yX9_tear, Cond.code yX9_tear cX9_tear 4 (some .int), Cond.methodLink RX9 118 yX9_ones, Cond.static yX9_ones, Cond.code yX9_ones cX9_ones 3 (some .int), Cond.methodLink RL 105 yL_copy, Cond.static yL_copy, Cond.codeWith yL_copy cL_copy 6 (some .int) [(0, 12, 15, 19), (0, 12, 19, 13)], Cond.methodLink RL 39 yX8_copy, Cond.instanceMethod yX8_copy]
def wsL_law0_r24 : List Cond := [Cond.selects RX8 yX8_copy yX8_copy, Cond.code yX8_copy cX8_copy 4 (some .int), Cond.methodLink RX8 130 yX0_fact, Cond.instanceMethod yX0_fact, Cond.selects RX0 yX0_fact yX0_fact, Cond.code yX0_fact cX0_fact 5 (some .int), Cond.methodLink RX0 40 yX0_usedLater, Cond.instanceMethod yX0_usedLater, Cond.selects RX0 yX0_usedLater yX0_usedLater, Cond.code yX0_usedLater cX0_usedLater 7 (some .int), Cond.methodLink RL 107 yX9_copy, Cond.instanceMethod yX9_copy, Cond.selects RX9 yX9_copy yX9_copy, Cond.code yX9_copy cX9_copy 4 (some .int), Cond.methodLink RX9 121 yX9_aboutCopy, Cond.instanceMethod yX9_aboutCopy, Cond.selects RX9 yX9_aboutCopy yX9_aboutCopy, Cond.code yX9_aboutCopy cX9_aboutCopy 7 (some .int), Cond.methodLink RL 108 yL_line, Cond.static yL_line, Cond.codeWith yL_line cL_line 5 (some .int) [(0, 10, 13, 19), (0, 10, 17, 13)], Cond.methodLink RL 42 yX8_line, Cond.instanceMethod yX8_line, Cond.selects RX8 yX8_line yX8_line]
def wsL_law0_r25 : List Cond := [Cond.code yX8_line cX8_line 3 (some .int), Cond.methodLink RX8 134 yX4_lineFact, Cond.instanceMethod yX4_lineFact, Cond.selects RX4 yX4_lineFact yX4_lineFact, Cond.code yX4_lineFact cX4_lineFact 3 (some .int), Cond.methodLink RL 110 yX9_line, Cond.instanceMethod yX9_line, Cond.selects RX9 yX9_line yX9_line, Cond.code yX9_line cX9_line 3 (some .int), Cond.methodLink RX9 124 yX9_aboutLine, Cond.instanceMethod yX9_aboutLine, Cond.selects RX9 yX9_aboutLine yX9_aboutLine, Cond.code yX9_aboutLine cX9_aboutLine 4 (some .int), Cond.methodLink RL 111 yL_pending, Cond.static yL_pending, Cond.codeWith yL_pending cL_pending 5 (some .int) [(0, 10, 13, 19), (0, 10, 17, 13)], Cond.methodLink RL 45 yX8_pending, Cond.instanceMethod yX8_pending, Cond.selects RX8 yX8_pending yX8_pending, Cond.code yX8_pending cX8_pending 3 (some .int), Cond.methodLink RX8 137 yX7_fact, Cond.instanceMethod yX7_fact, Cond.selects RX7 yX7_fact yX7_fact, Cond.code yX7_fact cX7_fact 3 (some .int)]
def wsL_law0_r26 : List Cond := [Cond.methodLink RL 113 yX9_pending, Cond.instanceMethod yX9_pending, Cond.selects RX9 yX9_pending yX9_pending, Cond.code yX9_pending cX9_pending 3 (some .int), Cond.methodLink RX9 127 yX9_aboutPending, Cond.instanceMethod yX9_aboutPending, Cond.selects RX9 yX9_aboutPending yX9_aboutPending, Cond.code yX9_aboutPending cX9_aboutPending 3 (some .int), Cond.methodLink RL 114 yL_entry, Cond.static yL_entry, Cond.codeWith yL_entry cL_entry 5 (some .int) [(0, 10, 13, 19), (0, 10, 17, 13)], Cond.methodLink RL 48 yX8_entry, Cond.instanceMethod yX8_entry, Cond.selects RX8 yX8_entry yX8_entry, Cond.code yX8_entry cX8_entry 3 (some .int), Cond.fieldLink RX8 139 "CacheDiary$Machine" "log" "LCacheDiary$Log;", Cond.fieldLink RX8 143 "CacheDiary$Log" "count" "I", Cond.methodLink RX8 148 yX3_fact, Cond.instanceMethod yX3_fact, Cond.selects RX3 yX3_fact yX3_fact, Cond.code yX3_fact cX3_fact 3 (some .int), Cond.methodLink RL 116 yX9_entry, Cond.instanceMethod yX9_entry, Cond.selects RX9 yX9_entry yX9_entry]
def wsL_law0_r27 : List Cond := [Cond.code yX9_entry cX9_entry 3 (some .int), Cond.methodLink RL 117 yL_value, Cond.static yL_value, Cond.codeWith yL_value cL_value 4 (some .int) [(0, 9, 12, 13)], Cond.methodLink RL 51 yX8_value, Cond.instanceMethod yX8_value, Cond.selects RX8 yX8_value yX8_value, Cond.code yX8_value cX8_value 2 (some .int), Cond.methodLink RX8 149 yX4_number, Cond.instanceMethod yX4_number, Cond.selects RX4 yX4_number yX4_number, Cond.code yX4_number cX4_number 2 (some .int), Cond.fieldLink RX4 232 "CacheDiary$Diary" "room" "I", Cond.fieldLink RX4 235 "CacheDiary$Diary" "pages" "I", Cond.fieldLink RX4 238 "CacheDiary$Diary" "timesAsked" "I", Cond.fieldLink RX4 241 "CacheDiary$Diary" "tornOut" "I", Cond.methodLink RL 119 yX9_value, Cond.instanceMethod yX9_value, Cond.selects RX9 yX9_value yX9_value, Cond.code yX9_value cX9_value 2 (some .int), Cond.methodLink RX9 133 yX9_number, Cond.instanceMethod yX9_number, Cond.selects RX9 yX9_number yX9_number, Cond.code yX9_number cX9_number 2 (some .int)]
def wsL_law0_r28 : List Cond := [Cond.methodLink RX9 130 yX9_waiting, Cond.instanceMethod yX9_waiting, Cond.selects RX9 yX9_waiting yX9_waiting, Cond.code yX9_waiting cX9_waiting 3 (some .int), Cond.methodLink RL 120 yL_cost, Cond.static yL_cost, Cond.codeWith yL_cost cL_cost 6 (some .int) [(0, 12, 15, 19)], Cond.methodLink RL 54 yX8_cost, Cond.instanceMethod yX8_cost, Cond.selects RX8 yX8_cost yX8_cost, Cond.code yX8_cost cX8_cost 4 (some .int), Cond.methodLink RX8 152 yX4_costOf, Cond.methodLink RL 123 yX9_cost, Cond.instanceMethod yX9_cost, Cond.selects RX9 yX9_cost yX9_cost, Cond.code yX9_cost cX9_cost 4 (some .int), Cond.methodLink RX9 142 yX9_costOf, Cond.instanceMethod yX9_costOf, Cond.selects RX9 yX9_costOf yX9_costOf, Cond.code yX9_costOf cX9_costOf 5 (some .int), Cond.methodLink RX9 136 yX9_keep, Cond.instanceMethod yX9_keep, Cond.selects RX9 yX9_keep yX9_keep, Cond.code yX9_keep cX9_keep 2 none]
def wsL_law0_r29 : List Cond := [Cond.methodLink RX9 139 yX9_bringBack, Cond.instanceMethod yX9_bringBack, Cond.selects RX9 yX9_bringBack yX9_bringBack, Cond.code yX9_bringBack cX9_bringBack 2 none, Cond.methodLink RL 124 yX8_nextTorn, Cond.instanceMethod yX8_nextTorn, Cond.selects RX8 yX8_nextTorn yX8_nextTorn, Cond.code yX8_nextTorn cX8_nextTorn 1 (some .int), Cond.methodLink RX8 156 yX1_lineToTear, Cond.methodLink RL 127 yX9_nextTorn, Cond.instanceMethod yX9_nextTorn, Cond.selects RX9 yX9_nextTorn yX9_nextTorn, Cond.code yX9_nextTorn cX9_nextTorn 1 (some .int), Cond.methodLink RL 128 yL_nextDropped, Cond.static yL_nextDropped, Cond.codeWith yL_nextDropped cL_nextDropped 4 (some .int) [(0, 9, 12, 19)], Cond.methodLink RL 58 yX8_nextDropped, Cond.instanceMethod yX8_nextDropped, Cond.selects RX8 yX8_nextDropped yX8_nextDropped, Cond.code yX8_nextDropped cX8_nextDropped 2 (some .int), Cond.methodLink RX8 160 yX4_lineToDrop, Cond.methodLink RL 130 yX9_nextDropped, Cond.instanceMethod yX9_nextDropped, Cond.selects RX9 yX9_nextDropped yX9_nextDropped]
def wsL_law0_r30 : List Cond := [Cond.code yX9_nextDropped cX9_nextDropped 2 (some .int), Cond.methodLink RL 131 yX8_ticksToServe, Cond.instanceMethod yX8_ticksToServe, Cond.selects RX8 yX8_ticksToServe yX8_ticksToServe, Cond.code yX8_ticksToServe cX8_ticksToServe 3 (some .int), Cond.methodLink RX8 163 yX4_takeOver, Cond.methodLink RX8 166 yX7_count, Cond.methodLink RX8 168 yX4_tick, Cond.methodLink RL 134 yX9_ticksToServe, Cond.instanceMethod yX9_ticksToServe, Cond.selects RX9 yX9_ticksToServe yX9_ticksToServe, Cond.code yX9_ticksToServe cX9_ticksToServe 2 (some .int), Cond.methodLink RL 135 yL_cheapest, Cond.static yL_cheapest, Cond.codeWith yL_cheapest cL_cheapest 5 (some .int) [(0, 10, 13, 19)], Cond.methodLink RL 61 yX8_cheapest, Cond.instanceMethod yX8_cheapest, Cond.selects RX8 yX8_cheapest yX8_cheapest, Cond.code yX8_cheapest cX8_cheapest 7 (some .int), Cond.methodLink RL 138 yX9_cheapest, Cond.instanceMethod yX9_cheapest, Cond.selects RX9 yX9_cheapest yX9_cheapest, Cond.code yX9_cheapest cX9_cheapest 7 (some .int), Cond.methodLink RL 139 yX8_hitRate]
def wsL_law0_r31 : List Cond := [Cond.instanceMethod yX8_hitRate, Cond.selects RX8 yX8_hitRate yX8_hitRate, Cond.code yX8_hitRate cX8_hitRate 2 (some .double), Cond.fieldLink RX8 171 "CacheDiary$Machine" "hits" "I", Cond.fieldLink RX8 174 "CacheDiary$Machine" "misses" "I", Cond.methodLink RL 143 yX9_hitRate, Cond.instanceMethod yX9_hitRate, Cond.selects RX9 yX9_hitRate yX9_hitRate, Cond.code yX9_hitRate cX9_hitRate 2 (some .double), Cond.methodLink RL 144 yL_append, Cond.static yL_append, Cond.codeWith yL_append cL_append 4 (some .int) [(0, 9, 12, 13), (0, 9, 15, 21)], Cond.methodLink RL 65 yX8_append, Cond.instanceMethod yX8_append, Cond.selects RX8 yX8_append yX8_append, Cond.code yX8_append cX8_append 2 (some .int), Cond.methodLink RL 146 yX9_append, Cond.instanceMethod yX9_append, Cond.selects RX9 yX9_append yX9_append, Cond.code yX9_append cX9_append 2 (some .int), Cond.fieldLink RX9 145 "CacheDiaryModel" "length" "I", Cond.methodLink RL 147 yX8_clearText, Cond.instanceMethod yX8_clearText, Cond.selects RX8 yX8_clearText yX8_clearText]
def wsL_law0_r32 : List Cond := [Cond.code yX8_clearText cX8_clearText 2 (some .int), Cond.methodLink RL 150 yX9_clearText, Cond.instanceMethod yX9_clearText, Cond.selects RX9 yX9_clearText yX9_clearText, Cond.code yX9_clearText cX9_clearText 2 (some .int), Cond.methodLink RL 151 yX8_carryOut, Cond.instanceMethod yX8_carryOut, Cond.selects RX8 yX8_carryOut yX8_carryOut, Cond.code yX8_carryOut cX8_carryOut 3 (some .int), Cond.fieldLink RX8 181 "CacheDiary$OrderReader" "count" "I", Cond.fieldLink RX8 188 "CacheDiary$OrderReader" "number" "[I", Cond.fieldLink RX8 190 "CacheDiary$OrderReader" "cache" "[I", Cond.fieldLink RX8 193 "CacheDiary$OrderReader" "line" "[I", Cond.methodLink RX8 177 yX5_readAll, Cond.instanceMethod yX5_readAll, Cond.selects RX5 yX5_readAll yX5_readAll, Cond.code yX5_readAll cX5_readAll 6 (some .int), Cond.fieldLink RX5 30 "CacheDiary$OrderReader" "count" "I", Cond.methodLink RX5 34 yX5_take, Cond.instanceMethod yX5_take, Cond.selects RX5 yX5_take yX5_take, Cond.code yX5_take cX5_take 3 (some .int), Cond.fieldLink RX5 42 "CacheDiary$Place" "CACHE" "LCacheDiary$Place;", Cond.fieldLink RX5 48 "CacheDiary$Place" "COLON" "LCacheDiary$Place;"]
def wsL_law0_r33 : List Cond := [Cond.methodLink RX5 38 yX5_takeKind, Cond.instanceMethod yX5_takeKind, Cond.selects RX5 yX5_takeKind yX5_takeKind, Cond.code yX5_takeKind cX5_takeKind 2 (some .boolean), Cond.fieldLink RX5 57 "CacheDiary$OrderReader" "readCache" "I", Cond.fieldLink RX5 60 "CacheDiary$Place" "TICKS" "LCacheDiary$Place;", Cond.fieldLink RX5 67 "CacheDiary$OrderReader" "write" "Z", Cond.methodLink RX5 63 yX5_startNumber, Cond.instanceMethod yX5_startNumber, Cond.selects RX5 yX5_startNumber yX5_startNumber, Cond.code yX5_startNumber cX5_startNumber 2 none, Cond.fieldLink RX5 74 "CacheDiary$OrderReader" "readNumber" "I", Cond.fieldLink RX5 77 "CacheDiary$OrderReader" "digits" "I", Cond.methodLink RX5 45 yX5_takeCache, Cond.instanceMethod yX5_takeCache, Cond.selects RX5 yX5_takeCache yX5_takeCache, Cond.code yX5_takeCache cX5_takeCache 2 (some .boolean), Cond.methodLink RX5 51 yX5_takeColon, Cond.instanceMethod yX5_takeColon, Cond.selects RX5 yX5_takeColon yX5_takeColon, Cond.code yX5_takeColon cX5_takeColon 2 (some .boolean), Cond.fieldLink RX5 71 "CacheDiary$Place" "LINE" "LCacheDiary$Place;", Cond.methodLink RX5 54 yX5_takeOfNumber, Cond.instanceMethod yX5_takeOfNumber]
def wsL_law0_r34 : List Cond := [Cond.selects RX5 yX5_takeOfNumber yX5_takeOfNumber, Cond.code yX5_takeOfNumber cX5_takeOfNumber 4 (some .int), Cond.fieldLink RX5 83 "CacheDiary$Place" "lowest" "I", Cond.fieldLink RX5 86 "CacheDiary$Place" "highest" "I", Cond.fieldLink RX5 89 "CacheDiary$OrderReader" "firstDigit" "I", Cond.fieldLink RX5 92 "CacheDiary$OrderReader" "readLine" "I", Cond.fieldLink RX5 95 "CacheDiary$Place" "VALUE" "LCacheDiary$Place;", Cond.methodLink RX5 80 yX5_takeDigit, Cond.instanceMethod yX5_takeDigit, Cond.selects RX5 yX5_takeDigit yX5_takeDigit, Cond.code yX5_takeDigit cX5_takeDigit 3 (some .int), Cond.fieldLink RX5 101 "CacheDiary$Place" "maxDigits" "I", Cond.methodLink RX5 98 yX5_keepOrder, Cond.instanceMethod yX5_keepOrder, Cond.selects RX5 yX5_keepOrder yX5_keepOrder, Cond.code yX5_keepOrder cX5_keepOrder 1 none, Cond.methodLink RX8 182 yX8_isPossible, Cond.instanceMethod yX8_isPossible, Cond.selects RX8 yX8_isPossible yX8_isPossible, Cond.code yX8_isPossible cX8_isPossible 3 (some .boolean), Cond.methodLink RX8 185 yX5_isTicks, Cond.instanceMethod yX5_isTicks, Cond.selects RX5 yX5_isTicks yX5_isTicks, Cond.code yX5_isTicks cX5_isTicks 2 (some .boolean)]
def wsL_law0_r35 : List Cond := [Cond.methodLink RL 154 yX9_carryOut, Cond.instanceMethod yX9_carryOut, Cond.selects RX9 yX9_carryOut yX9_carryOut, Cond.code yX9_carryOut cX9_carryOut 3 (some .int), Cond.fieldLink RX9 148 "CacheDiaryModel" "place" "I", Cond.methodLink RX9 161 yX9_readOrder, Cond.instanceMethod yX9_readOrder, Cond.selects RX9 yX9_readOrder yX9_readOrder, Cond.code yX9_readOrder cX9_readOrder 1 (some .boolean), Cond.methodLink RX9 154 yX9_sign, Cond.instanceMethod yX9_sign, Cond.selects RX9 yX9_sign yX9_sign, Cond.code yX9_sign cX9_sign 3 (some .boolean), Cond.methodLink RX9 157 yX9_numberInto, Cond.instanceMethod yX9_numberInto, Cond.selects RX9 yX9_numberInto yX9_numberInto, Cond.code yX9_numberInto cX9_numberInto 7 (some .boolean), Cond.methodLink RX9 151 yX9_isDigit, Cond.instanceMethod yX9_isDigit, Cond.selects RX9 yX9_isDigit yX9_isDigit, Cond.code yX9_isDigit cX9_isDigit 2 (some .boolean), Cond.methodLink RX9 165 yX9_doOrder, Cond.instanceMethod yX9_doOrder, Cond.selects RX9 yX9_doOrder yX9_doOrder]
def wsL_law0_r36 : List Cond := [Cond.code yX9_doOrder cX9_doOrder 2 (some .boolean), Cond.methodLink RL 155 yL_undo, Cond.static yL_undo, Cond.codeWith yL_undo cL_undo 3 (some .int) [(0, 8, 11, 21)], Cond.methodLink RL 68 yX8_undo, Cond.instanceMethod yX8_undo, Cond.selects RX8 yX8_undo yX8_undo, Cond.code yX8_undo cX8_undo 1 (some .int), Cond.fieldLink RX8 194 "CacheDiary$History" "count" "I", Cond.methodLink RX8 195 yX2_restore, Cond.instanceMethod yX2_restore, Cond.selects RX2 yX2_restore yX2_restore, Cond.code yX2_restore cX2_restore 2 none, Cond.methodLink RL 158 yX9_undo, Cond.instanceMethod yX9_undo, Cond.selects RX9 yX9_undo yX9_undo, Cond.code yX9_undo cX9_undo 2 (some .int), Cond.methodLink RL 159 yX8_digest, Cond.instanceMethod yX8_digest, Cond.selects RX8 yX8_digest yX8_digest, Cond.code yX8_digest cX8_digest 5 (some .long), Cond.constantLong RX8 198 (113987), Cond.constantLong RX8 200 (31), Cond.methodLink RX8 202 yX8_hashLine]
def wsL_law0_r37 : List Cond := [Cond.instanceMethod yX8_hashLine, Cond.selects RX8 yX8_hashLine yX8_hashLine, Cond.code yX8_hashLine cX8_hashLine 8 (some .long), Cond.methodLink RL 163 yX9_digest, Cond.instanceMethod yX9_digest, Cond.selects RX9 yX9_digest yX9_digest, Cond.code yX9_digest cX9_digest 5 (some .long), Cond.constantLong RX9 168 (113987), Cond.constantLong RX9 170 (31), Cond.methodLink RX9 172 yX9_nextTorn]
def wsL_law0 : List Cond := (wsL_law0_r1 ++ (wsL_law0_r2 ++ (wsL_law0_r3 ++ (wsL_law0_r4 ++ (wsL_law0_r5 ++ (wsL_law0_r6 ++ (wsL_law0_r7 ++ (wsL_law0_r8 ++ (wsL_law0_r9 ++ (wsL_law0_r10 ++ (wsL_law0_r11 ++ (wsL_law0_r12 ++ (wsL_law0_r13 ++ (wsL_law0_r14 ++ (wsL_law0_r15 ++ (wsL_law0_r16 ++ (wsL_law0_r17 ++ (wsL_law0_r18 ++ (wsL_law0_r19 ++ (wsL_law0_r20 ++ (wsL_law0_r21 ++ (wsL_law0_r22 ++ (wsL_law0_r23 ++ (wsL_law0_r24 ++ (wsL_law0_r25 ++ (wsL_law0_r26 ++ (wsL_law0_r27 ++ (wsL_law0_r28 ++ (wsL_law0_r29 ++ (wsL_law0_r30 ++ (wsL_law0_r31 ++ (wsL_law0_r32 ++ (wsL_law0_r33 ++ (wsL_law0_r34 ++ (wsL_law0_r35 ++ (wsL_law0_r36 ++ wsL_law0_r37)))))))))))))))))))))))))))))))))))) ++ wsX80 ++ wsX90 ++ wsX40 ++ wsX20 ++ wsX50 ++ wsX00 ++ wsX10 ++ wsX70 ++ wsX30 ++ ([] : List Cond)
def wsL_law : List Cond := wsL_law0 ++ (vx_atS RX8 217 "java/lang/IllegalArgumentException" ["java/lang/RuntimeException", "java/lang/Exception"]).filter goodWord ++ (vx_atS RX8 210 "java/lang/IndexOutOfBoundsException" ["java/lang/RuntimeException", "java/lang/Exception"]).filter goodWord ++ (vx_atS RX8 222 "java/lang/IllegalStateException" ["java/lang/RuntimeException", "java/lang/Exception"]).filter goodWord
theorem inlX0 : ∀ w ∈ wsX00, w ∈ wsL_law := fun _ h => List.mem_append_left _ (List.mem_append_left _ (List.mem_append_left _ (List.mem_append_left _ (List.mem_append_left _ (List.mem_append_left _ (List.mem_append_left _ (List.mem_append_right _ h)))))))
theorem inlX1 : ∀ w ∈ wsX10, w ∈ wsL_law := fun _ h => List.mem_append_left _ (List.mem_append_left _ (List.mem_append_left _ (List.mem_append_left _ (List.mem_append_left _ (List.mem_append_left _ (List.mem_append_right _ h))))))
theorem inlX2 : ∀ w ∈ wsX20, w ∈ wsL_law := fun _ h => List.mem_append_left _ (List.mem_append_left _ (List.mem_append_left _ (List.mem_append_left _ (List.mem_append_left _ (List.mem_append_left _ (List.mem_append_left _ (List.mem_append_left _ (List.mem_append_left _ (List.mem_append_right _ h)))))))))
theorem inlX3 : ∀ w ∈ wsX30, w ∈ wsL_law := fun _ h => List.mem_append_left _ (List.mem_append_left _ (List.mem_append_left _ (List.mem_append_left _ (List.mem_append_right _ h))))
theorem inlX4 : ∀ w ∈ wsX40, w ∈ wsL_law := fun _ h => List.mem_append_left _ (List.mem_append_left _ (List.mem_append_left _ (List.mem_append_left _ (List.mem_append_left _ (List.mem_append_left _ (List.mem_append_left _ (List.mem_append_left _ (List.mem_append_left _ (List.mem_append_left _ (List.mem_append_right _ h))))))))))
theorem inlX5 : ∀ w ∈ wsX50, w ∈ wsL_law := fun _ h => List.mem_append_left _ (List.mem_append_left _ (List.mem_append_left _ (List.mem_append_left _ (List.mem_append_left _ (List.mem_append_left _ (List.mem_append_left _ (List.mem_append_left _ (List.mem_append_right _ h))))))))
theorem inlX7 : ∀ w ∈ wsX70, w ∈ wsL_law := fun _ h => List.mem_append_left _ (List.mem_append_left _ (List.mem_append_left _ (List.mem_append_left _ (List.mem_append_left _ (List.mem_append_right _ h)))))
theorem inlX8 : ∀ w ∈ wsX80, w ∈ wsL_law := fun _ h => List.mem_append_left _ (List.mem_append_left _ (List.mem_append_left _ (List.mem_append_left _ (List.mem_append_left _ (List.mem_append_left _ (List.mem_append_left _ (List.mem_append_left _ (List.mem_append_left _ (List.mem_append_left _ (List.mem_append_left _ (List.mem_append_left _ (List.mem_append_right _ h))))))))))))
theorem inlX9 : ∀ w ∈ wsX90, w ∈ wsL_law := fun _ h => List.mem_append_left _ (List.mem_append_left _ (List.mem_append_left _ (List.mem_append_left _ (List.mem_append_left _ (List.mem_append_left _ (List.mem_append_left _ (List.mem_append_left _ (List.mem_append_left _ (List.mem_append_left _ (List.mem_append_left _ (List.mem_append_right _ h)))))))))))
abbrev vwCl : List vw_C := [(RX0, TX0, 5), (RX1, TX1, 7), (RX2, TX2, 2), (RX3, TX3, 2), (RX4, TX4, 14), (RX5, TX5, 11), (RX7, TX7, 3), (RX8, TX8, 6), (RX9, TX9, 9)]
end
section
theorem dX9_init_0 : decode cX9_init 0 = .ok (.aload_n 0, 1) := by decide +kernel
theorem dX9_init_1 : decode cX9_init 1 = .ok (.invokespecial 1, 3) := by decide +kernel
theorem dX9_init_4 : decode cX9_init 4 = .ok (.aload_n 0, 1) := by decide +kernel
theorem dX9_init_5 : decode cX9_init 5 = .ok (.sipush 456, 3) := by decide +kernel
theorem dX9_init_8 : decode cX9_init 8 = .ok (.newarray .int, 2) := by decide +kernel
theorem dX9_init_10 : decode cX9_init 10 = .ok (.putfield 7, 3) := by decide +kernel
theorem dX9_init_13 : decode cX9_init 13 = .ok (.aload_n 0, 1) := by decide +kernel
theorem dX9_init_14 : decode cX9_init 14 = .ok (.sipush 456, 3) := by decide +kernel
theorem dX9_init_17 : decode cX9_init 17 = .ok (.newarray .int, 2) := by decide +kernel
theorem dX9_init_19 : decode cX9_init 19 = .ok (.putfield 13, 3) := by decide +kernel
theorem dX9_init_22 : decode cX9_init 22 = .ok (.aload_n 0, 1) := by decide +kernel
theorem dX9_init_23 : decode cX9_init 23 = .ok (.sipush 1824, 3) := by decide +kernel
theorem dX9_init_26 : decode cX9_init 26 = .ok (.newarray .int, 2) := by decide +kernel
theorem dX9_init_28 : decode cX9_init 28 = .ok (.putfield 16, 3) := by decide +kernel
theorem dX9_init_31 : decode cX9_init 31 = .ok (.aload_n 0, 1) := by decide +kernel
theorem dX9_init_32 : decode cX9_init 32 = .ok (.bipush 100, 2) := by decide +kernel
theorem dX9_init_34 : decode cX9_init 34 = .ok (.newarray .int, 2) := by decide +kernel
theorem dX9_init_36 : decode cX9_init 36 = .ok (.putfield 19, 3) := by decide +kernel
theorem dX9_init_39 : decode cX9_init 39 = .ok (.aload_n 0, 1) := by decide +kernel
theorem dX9_init_40 : decode cX9_init 40 = .ok (.iconst 4, 1) := by decide +kernel
theorem dX9_init_41 : decode cX9_init 41 = .ok (.newarray .int, 2) := by decide +kernel
theorem dX9_init_43 : decode cX9_init 43 = .ok (.putfield 22, 3) := by decide +kernel
theorem dX9_init_46 : decode cX9_init 46 = .ok (.aload_n 0, 1) := by decide +kernel
theorem dX9_init_47 : decode cX9_init 47 = .ok (.iconst 3, 1) := by decide +kernel
theorem dX9_init_48 : decode cX9_init 48 = .ok (.iconst 4, 1) := by decide +kernel
theorem dX9_init_49 : decode cX9_init 49 = .ok (.iconst 4, 1) := by decide +kernel
theorem dX9_init_50 : decode cX9_init 50 = .ok (.invokevirtual 25, 3) := by decide +kernel
theorem dX9_init_53 : decode cX9_init 53 = .ok (.return_, 1) := by decide +kernel
theorem dX9_thrown_0 : decode cX9_thrown 0 = .ok (.aload_n 0, 1) := by decide +kernel
theorem dX9_thrown_1 : decode cX9_thrown 1 = .ok (.getfield 29, 3) := by decide +kernel
theorem dX9_thrown_4 : decode cX9_thrown 4 = .ok (.ireturn, 1) := by decide +kernel
theorem dX9_in_0 : decode cX9_in 0 = .ok (.iload_n 0, 1) := by decide +kernel
theorem dX9_in_1 : decode cX9_in 1 = .ok (.iload_n 1, 1) := by decide +kernel
theorem dX9_in_2 : decode cX9_in 2 = .ok (.if_icmp .lt 12, 3) := by decide +kernel
theorem dX9_in_5 : decode cX9_in 5 = .ok (.iload_n 0, 1) := by decide +kernel
theorem dX9_in_6 : decode cX9_in 6 = .ok (.iload_n 2, 1) := by decide +kernel
theorem dX9_in_7 : decode cX9_in 7 = .ok (.if_icmp .gt 7, 3) := by decide +kernel
theorem dX9_in_10 : decode cX9_in 10 = .ok (.iconst 1, 1) := by decide +kernel
theorem dX9_in_11 : decode cX9_in 11 = .ok (.goto 4, 3) := by decide +kernel
theorem dX9_in_14 : decode cX9_in 14 = .ok (.iconst 0, 1) := by decide +kernel
theorem dX9_in_15 : decode cX9_in 15 = .ok (.ireturn, 1) := by decide +kernel
theorem dX9_fails_0 : decode cX9_fails 0 = .ok (.aload_n 0, 1) := by decide +kernel
theorem dX9_fails_1 : decode cX9_fails 1 = .ok (.iload_n 1, 1) := by decide +kernel
theorem dX9_fails_2 : decode cX9_fails 2 = .ok (.putfield 29, 3) := by decide +kernel
theorem dX9_fails_5 : decode cX9_fails 5 = .ok (.iconst 0, 1) := by decide +kernel
theorem dX9_fails_6 : decode cX9_fails 6 = .ok (.ireturn, 1) := by decide +kernel
theorem dX9_anew_0 : decode cX9_anew 0 = .ok (.iconst 0, 1) := by decide +kernel
theorem dX9_anew_1 : decode cX9_anew 1 = .ok (.istore 4, 2) := by decide +kernel
theorem dX9_anew_3 : decode cX9_anew 3 = .ok (.iload 4, 2) := by decide +kernel
theorem dX9_anew_5 : decode cX9_anew 5 = .ok (.sipush 456, 3) := by decide +kernel
theorem dX9_anew_8 : decode cX9_anew 8 = .ok (.if_icmp .ge 17, 3) := by decide +kernel
theorem dX9_anew_11 : decode cX9_anew 11 = .ok (.aload_n 0, 1) := by decide +kernel
theorem dX9_anew_12 : decode cX9_anew 12 = .ok (.getfield 7, 3) := by decide +kernel
theorem dX9_anew_15 : decode cX9_anew 15 = .ok (.iload 4, 2) := by decide +kernel
theorem dX9_anew_17 : decode cX9_anew 17 = .ok (.iconst 0, 1) := by decide +kernel
theorem dX9_anew_18 : decode cX9_anew 18 = .ok (.iastore, 1) := by decide +kernel
theorem dX9_anew_19 : decode cX9_anew 19 = .ok (.iinc 4 1, 3) := by decide +kernel
theorem dX9_anew_22 : decode cX9_anew 22 = .ok (.goto (-19), 3) := by decide +kernel
theorem dX9_anew_25 : decode cX9_anew 25 = .ok (.aload_n 0, 1) := by decide +kernel
theorem dX9_anew_26 : decode cX9_anew 26 = .ok (.getfield 7, 3) := by decide +kernel
theorem dX9_anew_29 : decode cX9_anew 29 = .ok (.iconst 0, 1) := by decide +kernel
theorem dX9_anew_30 : decode cX9_anew 30 = .ok (.iload_n 1, 1) := by decide +kernel
theorem dX9_anew_31 : decode cX9_anew 31 = .ok (.iastore, 1) := by decide +kernel
theorem dX9_anew_32 : decode cX9_anew 32 = .ok (.aload_n 0, 1) := by decide +kernel
theorem dX9_anew_33 : decode cX9_anew 33 = .ok (.getfield 7, 3) := by decide +kernel
theorem dX9_anew_36 : decode cX9_anew 36 = .ok (.iconst 1, 1) := by decide +kernel
theorem dX9_anew_37 : decode cX9_anew 37 = .ok (.iload_n 2, 1) := by decide +kernel
theorem dX9_anew_38 : decode cX9_anew 38 = .ok (.iastore, 1) := by decide +kernel
theorem dX9_anew_39 : decode cX9_anew 39 = .ok (.aload_n 0, 1) := by decide +kernel
theorem dX9_anew_40 : decode cX9_anew 40 = .ok (.getfield 7, 3) := by decide +kernel
theorem dX9_anew_43 : decode cX9_anew 43 = .ok (.iconst 2, 1) := by decide +kernel
theorem dX9_anew_44 : decode cX9_anew 44 = .ok (.iload_n 3, 1) := by decide +kernel
theorem dX9_anew_45 : decode cX9_anew 45 = .ok (.iastore, 1) := by decide +kernel
theorem dX9_anew_46 : decode cX9_anew 46 = .ok (.iconst 0, 1) := by decide +kernel
theorem dX9_anew_47 : decode cX9_anew 47 = .ok (.istore 4, 2) := by decide +kernel
theorem dX9_anew_49 : decode cX9_anew 49 = .ok (.iload 4, 2) := by decide +kernel
theorem dX9_anew_51 : decode cX9_anew 51 = .ok (.bipush 48, 2) := by decide +kernel
theorem dX9_anew_53 : decode cX9_anew 53 = .ok (.if_icmp .ge 22, 3) := by decide +kernel
theorem dX9_anew_56 : decode cX9_anew 56 = .ok (.aload_n 0, 1) := by decide +kernel
theorem dX9_anew_57 : decode cX9_anew 57 = .ok (.getfield 7, 3) := by decide +kernel
theorem dX9_anew_60 : decode cX9_anew 60 = .ok (.bipush 110, 2) := by decide +kernel
theorem dX9_anew_62 : decode cX9_anew 62 = .ok (.iconst 4, 1) := by decide +kernel
theorem dX9_anew_63 : decode cX9_anew 63 = .ok (.iload 4, 2) := by decide +kernel
theorem dX9_anew_65 : decode cX9_anew 65 = .ok (.imul, 1) := by decide +kernel
theorem dX9_anew_66 : decode cX9_anew 66 = .ok (.iadd, 1) := by decide +kernel
theorem dX9_anew_67 : decode cX9_anew 67 = .ok (.iconst (-1), 1) := by decide +kernel
theorem dX9_anew_68 : decode cX9_anew 68 = .ok (.iastore, 1) := by decide +kernel
theorem dX9_anew_69 : decode cX9_anew 69 = .ok (.iinc 4 1, 3) := by decide +kernel
theorem dX9_anew_72 : decode cX9_anew 72 = .ok (.goto (-23), 3) := by decide +kernel
theorem dX9_anew_75 : decode cX9_anew 75 = .ok (.iconst 0, 1) := by decide +kernel
theorem dX9_anew_76 : decode cX9_anew 76 = .ok (.istore 4, 2) := by decide +kernel
theorem dX9_anew_78 : decode cX9_anew 78 = .ok (.iload 4, 2) := by decide +kernel
theorem dX9_anew_80 : decode cX9_anew 80 = .ok (.bipush 6, 2) := by decide +kernel
theorem dX9_anew_82 : decode cX9_anew 82 = .ok (.if_icmp .ge 23, 3) := by decide +kernel
theorem dX9_anew_85 : decode cX9_anew 85 = .ok (.aload_n 0, 1) := by decide +kernel
theorem dX9_anew_86 : decode cX9_anew 86 = .ok (.getfield 7, 3) := by decide +kernel
theorem dX9_anew_89 : decode cX9_anew 89 = .ok (.sipush 366, 3) := by decide +kernel
theorem dX9_anew_92 : decode cX9_anew 92 = .ok (.iconst 3, 1) := by decide +kernel
theorem dX9_anew_93 : decode cX9_anew 93 = .ok (.iload 4, 2) := by decide +kernel
theorem dX9_anew_95 : decode cX9_anew 95 = .ok (.imul, 1) := by decide +kernel
theorem dX9_anew_96 : decode cX9_anew 96 = .ok (.iadd, 1) := by decide +kernel
theorem dX9_anew_97 : decode cX9_anew 97 = .ok (.iconst (-1), 1) := by decide +kernel
theorem dX9_anew_98 : decode cX9_anew 98 = .ok (.iastore, 1) := by decide +kernel
theorem dX9_anew_99 : decode cX9_anew 99 = .ok (.iinc 4 1, 3) := by decide +kernel
theorem dX9_anew_102 : decode cX9_anew 102 = .ok (.goto (-24), 3) := by decide +kernel
theorem dX9_anew_105 : decode cX9_anew 105 = .ok (.return_, 1) := by decide +kernel
theorem dX9_keep_0 : decode cX9_keep 0 = .ok (.iconst 0, 1) := by decide +kernel
theorem dX9_keep_1 : decode cX9_keep 1 = .ok (.istore_n 1, 1) := by decide +kernel
theorem dX9_keep_2 : decode cX9_keep 2 = .ok (.iload_n 1, 1) := by decide +kernel
theorem dX9_keep_3 : decode cX9_keep 3 = .ok (.sipush 456, 3) := by decide +kernel
theorem dX9_keep_6 : decode cX9_keep 6 = .ok (.if_icmp .ge 21, 3) := by decide +kernel
theorem dX9_keep_9 : decode cX9_keep 9 = .ok (.aload_n 0, 1) := by decide +kernel
theorem dX9_keep_10 : decode cX9_keep 10 = .ok (.getfield 13, 3) := by decide +kernel
theorem dX9_keep_13 : decode cX9_keep 13 = .ok (.iload_n 1, 1) := by decide +kernel
theorem dX9_keep_14 : decode cX9_keep 14 = .ok (.aload_n 0, 1) := by decide +kernel
theorem dX9_keep_15 : decode cX9_keep 15 = .ok (.getfield 7, 3) := by decide +kernel
theorem dX9_keep_18 : decode cX9_keep 18 = .ok (.iload_n 1, 1) := by decide +kernel
theorem dX9_keep_19 : decode cX9_keep 19 = .ok (.iaload, 1) := by decide +kernel
theorem dX9_keep_20 : decode cX9_keep 20 = .ok (.iastore, 1) := by decide +kernel
theorem dX9_keep_21 : decode cX9_keep 21 = .ok (.iinc 1 1, 3) := by decide +kernel
theorem dX9_keep_24 : decode cX9_keep 24 = .ok (.goto (-22), 3) := by decide +kernel
theorem dX9_keep_27 : decode cX9_keep 27 = .ok (.return_, 1) := by decide +kernel
theorem dX9_bringBack_0 : decode cX9_bringBack 0 = .ok (.iconst 0, 1) := by decide +kernel
theorem dX9_bringBack_1 : decode cX9_bringBack 1 = .ok (.istore_n 1, 1) := by decide +kernel
theorem dX9_bringBack_2 : decode cX9_bringBack 2 = .ok (.iload_n 1, 1) := by decide +kernel
theorem dX9_bringBack_3 : decode cX9_bringBack 3 = .ok (.sipush 456, 3) := by decide +kernel
theorem dX9_bringBack_6 : decode cX9_bringBack 6 = .ok (.if_icmp .ge 21, 3) := by decide +kernel
theorem dX9_bringBack_9 : decode cX9_bringBack 9 = .ok (.aload_n 0, 1) := by decide +kernel
theorem dX9_bringBack_10 : decode cX9_bringBack 10 = .ok (.getfield 7, 3) := by decide +kernel
theorem dX9_bringBack_13 : decode cX9_bringBack 13 = .ok (.iload_n 1, 1) := by decide +kernel
theorem dX9_bringBack_14 : decode cX9_bringBack 14 = .ok (.aload_n 0, 1) := by decide +kernel
theorem dX9_bringBack_15 : decode cX9_bringBack 15 = .ok (.getfield 13, 3) := by decide +kernel
theorem dX9_bringBack_18 : decode cX9_bringBack 18 = .ok (.iload_n 1, 1) := by decide +kernel
theorem dX9_bringBack_19 : decode cX9_bringBack 19 = .ok (.iaload, 1) := by decide +kernel
theorem dX9_bringBack_20 : decode cX9_bringBack 20 = .ok (.iastore, 1) := by decide +kernel
theorem dX9_bringBack_21 : decode cX9_bringBack 21 = .ok (.iinc 1 1, 3) := by decide +kernel
theorem dX9_bringBack_24 : decode cX9_bringBack 24 = .ok (.goto (-22), 3) := by decide +kernel
theorem dX9_bringBack_27 : decode cX9_bringBack 27 = .ok (.return_, 1) := by decide +kernel
theorem dX9_save_0 : decode cX9_save 0 = .ok (.aload_n 0, 1) := by decide +kernel
theorem dX9_save_1 : decode cX9_save 1 = .ok (.getfield 33, 3) := by decide +kernel
theorem dX9_save_4 : decode cX9_save 4 = .ok (.iconst 4, 1) := by decide +kernel
theorem dX9_save_5 : decode cX9_save 5 = .ok (.if_icmp .ne 44, 3) := by decide +kernel
theorem dX9_save_8 : decode cX9_save 8 = .ok (.iconst 0, 1) := by decide +kernel
theorem dX9_save_9 : decode cX9_save 9 = .ok (.istore_n 1, 1) := by decide +kernel
theorem dX9_save_10 : decode cX9_save 10 = .ok (.iload_n 1, 1) := by decide +kernel
theorem dX9_save_11 : decode cX9_save 11 = .ok (.sipush 1368, 3) := by decide +kernel
theorem dX9_save_14 : decode cX9_save 14 = .ok (.if_icmp .ge 25, 3) := by decide +kernel
theorem dX9_save_17 : decode cX9_save 17 = .ok (.aload_n 0, 1) := by decide +kernel
theorem dX9_save_18 : decode cX9_save 18 = .ok (.getfield 16, 3) := by decide +kernel
theorem dX9_save_21 : decode cX9_save 21 = .ok (.iload_n 1, 1) := by decide +kernel
theorem dX9_save_22 : decode cX9_save 22 = .ok (.aload_n 0, 1) := by decide +kernel
theorem dX9_save_23 : decode cX9_save 23 = .ok (.getfield 16, 3) := by decide +kernel
theorem dX9_save_26 : decode cX9_save 26 = .ok (.iload_n 1, 1) := by decide +kernel
theorem dX9_save_27 : decode cX9_save 27 = .ok (.sipush 456, 3) := by decide +kernel
theorem dX9_save_30 : decode cX9_save 30 = .ok (.iadd, 1) := by decide +kernel
theorem dX9_save_31 : decode cX9_save 31 = .ok (.iaload, 1) := by decide +kernel
theorem dX9_save_32 : decode cX9_save 32 = .ok (.iastore, 1) := by decide +kernel
theorem dX9_save_33 : decode cX9_save 33 = .ok (.iinc 1 1, 3) := by decide +kernel
theorem dX9_save_36 : decode cX9_save 36 = .ok (.goto (-26), 3) := by decide +kernel
theorem dX9_save_39 : decode cX9_save 39 = .ok (.aload_n 0, 1) := by decide +kernel
theorem dX9_save_40 : decode cX9_save 40 = .ok (.dup, 1) := by decide +kernel
theorem dX9_save_41 : decode cX9_save 41 = .ok (.getfield 33, 3) := by decide +kernel
theorem dX9_save_44 : decode cX9_save 44 = .ok (.iconst 1, 1) := by decide +kernel
theorem dX9_save_45 : decode cX9_save 45 = .ok (.isub, 1) := by decide +kernel
theorem dX9_save_46 : decode cX9_save 46 = .ok (.putfield 33, 3) := by decide +kernel
theorem dX9_save_49 : decode cX9_save 49 = .ok (.iconst 0, 1) := by decide +kernel
theorem dX9_save_50 : decode cX9_save 50 = .ok (.istore_n 1, 1) := by decide +kernel
theorem dX9_save_51 : decode cX9_save 51 = .ok (.iload_n 1, 1) := by decide +kernel
theorem dX9_save_52 : decode cX9_save 52 = .ok (.sipush 456, 3) := by decide +kernel
theorem dX9_save_55 : decode cX9_save 55 = .ok (.if_icmp .ge 30, 3) := by decide +kernel
theorem dX9_save_58 : decode cX9_save 58 = .ok (.aload_n 0, 1) := by decide +kernel
theorem dX9_save_59 : decode cX9_save 59 = .ok (.getfield 16, 3) := by decide +kernel
theorem dX9_save_62 : decode cX9_save 62 = .ok (.sipush 456, 3) := by decide +kernel
theorem dX9_save_65 : decode cX9_save 65 = .ok (.aload_n 0, 1) := by decide +kernel
theorem dX9_save_66 : decode cX9_save 66 = .ok (.getfield 33, 3) := by decide +kernel
theorem dX9_save_69 : decode cX9_save 69 = .ok (.imul, 1) := by decide +kernel
theorem dX9_save_70 : decode cX9_save 70 = .ok (.iload_n 1, 1) := by decide +kernel
theorem dX9_save_71 : decode cX9_save 71 = .ok (.iadd, 1) := by decide +kernel
theorem dX9_save_72 : decode cX9_save 72 = .ok (.aload_n 0, 1) := by decide +kernel
theorem dX9_save_73 : decode cX9_save 73 = .ok (.getfield 7, 3) := by decide +kernel
theorem dX9_save_76 : decode cX9_save 76 = .ok (.iload_n 1, 1) := by decide +kernel
theorem dX9_save_77 : decode cX9_save 77 = .ok (.iaload, 1) := by decide +kernel
theorem dX9_save_78 : decode cX9_save 78 = .ok (.iastore, 1) := by decide +kernel
theorem dX9_save_79 : decode cX9_save 79 = .ok (.iinc 1 1, 3) := by decide +kernel
theorem dX9_save_82 : decode cX9_save 82 = .ok (.goto (-31), 3) := by decide +kernel
theorem dX9_save_85 : decode cX9_save 85 = .ok (.aload_n 0, 1) := by decide +kernel
theorem dX9_save_86 : decode cX9_save 86 = .ok (.dup, 1) := by decide +kernel
theorem dX9_save_87 : decode cX9_save 87 = .ok (.getfield 33, 3) := by decide +kernel
theorem dX9_save_90 : decode cX9_save 90 = .ok (.iconst 1, 1) := by decide +kernel
theorem dX9_save_91 : decode cX9_save 91 = .ok (.iadd, 1) := by decide +kernel
theorem dX9_save_92 : decode cX9_save 92 = .ok (.putfield 33, 3) := by decide +kernel
theorem dX9_save_95 : decode cX9_save 95 = .ok (.return_, 1) := by decide +kernel
theorem dX9_isCache_0 : decode cX9_isCache 0 = .ok (.iload_n 1, 1) := by decide +kernel
theorem dX9_isCache_1 : decode cX9_isCache 1 = .ok (.iconst 0, 1) := by decide +kernel
theorem dX9_isCache_2 : decode cX9_isCache 2 = .ok (.aload_n 0, 1) := by decide +kernel
theorem dX9_isCache_3 : decode cX9_isCache 3 = .ok (.getfield 7, 3) := by decide +kernel
theorem dX9_isCache_6 : decode cX9_isCache 6 = .ok (.iconst 0, 1) := by decide +kernel
theorem dX9_isCache_7 : decode cX9_isCache 7 = .ok (.iaload, 1) := by decide +kernel
theorem dX9_isCache_8 : decode cX9_isCache 8 = .ok (.iconst 1, 1) := by decide +kernel
theorem dX9_isCache_9 : decode cX9_isCache 9 = .ok (.isub, 1) := by decide +kernel
theorem dX9_isCache_10 : decode cX9_isCache 10 = .ok (.invokestatic 36, 3) := by decide +kernel
theorem dX9_isCache_13 : decode cX9_isCache 13 = .ok (.ireturn, 1) := by decide +kernel
theorem dX9_isLine_0 : decode cX9_isLine 0 = .ok (.iload_n 0, 1) := by decide +kernel
theorem dX9_isLine_1 : decode cX9_isLine 1 = .ok (.iconst 0, 1) := by decide +kernel
theorem dX9_isLine_2 : decode cX9_isLine 2 = .ok (.bipush 31, 2) := by decide +kernel
theorem dX9_isLine_4 : decode cX9_isLine 4 = .ok (.invokestatic 36, 3) := by decide +kernel
theorem dX9_isLine_7 : decode cX9_isLine 7 = .ok (.ireturn, 1) := by decide +kernel
theorem dX9_slotAt_0 : decode cX9_slotAt 0 = .ok (.bipush 110, 2) := by decide +kernel
theorem dX9_slotAt_2 : decode cX9_slotAt 2 = .ok (.iconst 4, 1) := by decide +kernel
theorem dX9_slotAt_3 : decode cX9_slotAt 3 = .ok (.bipush 8, 2) := by decide +kernel
theorem dX9_slotAt_5 : decode cX9_slotAt 5 = .ok (.iload_n 0, 1) := by decide +kernel
theorem dX9_slotAt_6 : decode cX9_slotAt 6 = .ok (.imul, 1) := by decide +kernel
theorem dX9_slotAt_7 : decode cX9_slotAt 7 = .ok (.iload_n 1, 1) := by decide +kernel
theorem dX9_slotAt_8 : decode cX9_slotAt 8 = .ok (.iadd, 1) := by decide +kernel
theorem dX9_slotAt_9 : decode cX9_slotAt 9 = .ok (.imul, 1) := by decide +kernel
theorem dX9_slotAt_10 : decode cX9_slotAt 10 = .ok (.iadd, 1) := by decide +kernel
theorem dX9_slotAt_11 : decode cX9_slotAt 11 = .ok (.ireturn, 1) := by decide +kernel
theorem dX9_copyOf_0 : decode cX9_copyOf 0 = .ok (.iconst 0, 1) := by decide +kernel
theorem dX9_copyOf_1 : decode cX9_copyOf 1 = .ok (.istore_n 3, 1) := by decide +kernel
theorem dX9_copyOf_2 : decode cX9_copyOf 2 = .ok (.iload_n 3, 1) := by decide +kernel
theorem dX9_copyOf_3 : decode cX9_copyOf 3 = .ok (.aload_n 0, 1) := by decide +kernel
theorem dX9_copyOf_4 : decode cX9_copyOf 4 = .ok (.getfield 7, 3) := by decide +kernel
theorem dX9_copyOf_7 : decode cX9_copyOf 7 = .ok (.iconst 1, 1) := by decide +kernel
theorem dX9_copyOf_8 : decode cX9_copyOf 8 = .ok (.iaload, 1) := by decide +kernel
theorem dX9_copyOf_9 : decode cX9_copyOf 9 = .ok (.if_icmp .ge 29, 3) := by decide +kernel
theorem dX9_copyOf_12 : decode cX9_copyOf 12 = .ok (.aload_n 0, 1) := by decide +kernel
theorem dX9_copyOf_13 : decode cX9_copyOf 13 = .ok (.getfield 7, 3) := by decide +kernel
theorem dX9_copyOf_16 : decode cX9_copyOf 16 = .ok (.iload_n 1, 1) := by decide +kernel
theorem dX9_copyOf_17 : decode cX9_copyOf 17 = .ok (.iload_n 3, 1) := by decide +kernel
theorem dX9_copyOf_18 : decode cX9_copyOf 18 = .ok (.invokestatic 40, 3) := by decide +kernel
theorem dX9_copyOf_21 : decode cX9_copyOf 21 = .ok (.iaload, 1) := by decide +kernel
theorem dX9_copyOf_22 : decode cX9_copyOf 22 = .ok (.iload_n 2, 1) := by decide +kernel
theorem dX9_copyOf_23 : decode cX9_copyOf 23 = .ok (.if_icmp .ne 9, 3) := by decide +kernel
theorem dX9_copyOf_26 : decode cX9_copyOf 26 = .ok (.iload_n 1, 1) := by decide +kernel
theorem dX9_copyOf_27 : decode cX9_copyOf 27 = .ok (.iload_n 3, 1) := by decide +kernel
theorem dX9_copyOf_28 : decode cX9_copyOf 28 = .ok (.invokestatic 40, 3) := by decide +kernel
theorem dX9_copyOf_31 : decode cX9_copyOf 31 = .ok (.ireturn, 1) := by decide +kernel
theorem dX9_copyOf_32 : decode cX9_copyOf 32 = .ok (.iinc 3 1, 3) := by decide +kernel
theorem dX9_copyOf_35 : decode cX9_copyOf 35 = .ok (.goto (-33), 3) := by decide +kernel
theorem dX9_copyOf_38 : decode cX9_copyOf 38 = .ok (.iconst (-1), 1) := by decide +kernel
theorem dX9_copyOf_39 : decode cX9_copyOf 39 = .ok (.ireturn, 1) := by decide +kernel
theorem dX9_oldestCopy_0 : decode cX9_oldestCopy 0 = .ok (.iload_n 1, 1) := by decide +kernel
theorem dX9_oldestCopy_1 : decode cX9_oldestCopy 1 = .ok (.iconst 0, 1) := by decide +kernel
theorem dX9_oldestCopy_2 : decode cX9_oldestCopy 2 = .ok (.invokestatic 40, 3) := by decide +kernel
theorem dX9_oldestCopy_5 : decode cX9_oldestCopy 5 = .ok (.istore_n 2, 1) := by decide +kernel
theorem dX9_oldestCopy_6 : decode cX9_oldestCopy 6 = .ok (.iconst 1, 1) := by decide +kernel
theorem dX9_oldestCopy_7 : decode cX9_oldestCopy 7 = .ok (.istore_n 3, 1) := by decide +kernel
theorem dX9_oldestCopy_8 : decode cX9_oldestCopy 8 = .ok (.iload_n 3, 1) := by decide +kernel
theorem dX9_oldestCopy_9 : decode cX9_oldestCopy 9 = .ok (.aload_n 0, 1) := by decide +kernel
theorem dX9_oldestCopy_10 : decode cX9_oldestCopy 10 = .ok (.getfield 7, 3) := by decide +kernel
theorem dX9_oldestCopy_13 : decode cX9_oldestCopy 13 = .ok (.iconst 1, 1) := by decide +kernel
theorem dX9_oldestCopy_14 : decode cX9_oldestCopy 14 = .ok (.iaload, 1) := by decide +kernel
theorem dX9_oldestCopy_15 : decode cX9_oldestCopy 15 = .ok (.if_icmp .ge 42, 3) := by decide +kernel
theorem dX9_oldestCopy_18 : decode cX9_oldestCopy 18 = .ok (.aload_n 0, 1) := by decide +kernel
theorem dX9_oldestCopy_19 : decode cX9_oldestCopy 19 = .ok (.getfield 7, 3) := by decide +kernel
theorem dX9_oldestCopy_22 : decode cX9_oldestCopy 22 = .ok (.iload_n 1, 1) := by decide +kernel
theorem dX9_oldestCopy_23 : decode cX9_oldestCopy 23 = .ok (.iload_n 3, 1) := by decide +kernel
theorem dX9_oldestCopy_24 : decode cX9_oldestCopy 24 = .ok (.invokestatic 40, 3) := by decide +kernel
theorem dX9_oldestCopy_27 : decode cX9_oldestCopy 27 = .ok (.iconst 3, 1) := by decide +kernel
theorem dX9_oldestCopy_28 : decode cX9_oldestCopy 28 = .ok (.iadd, 1) := by decide +kernel
theorem dX9_oldestCopy_29 : decode cX9_oldestCopy 29 = .ok (.iaload, 1) := by decide +kernel
theorem dX9_oldestCopy_30 : decode cX9_oldestCopy 30 = .ok (.aload_n 0, 1) := by decide +kernel
theorem dX9_oldestCopy_31 : decode cX9_oldestCopy 31 = .ok (.getfield 7, 3) := by decide +kernel
theorem dX9_oldestCopy_34 : decode cX9_oldestCopy 34 = .ok (.iload_n 2, 1) := by decide +kernel
theorem dX9_oldestCopy_35 : decode cX9_oldestCopy 35 = .ok (.iconst 3, 1) := by decide +kernel
theorem dX9_oldestCopy_36 : decode cX9_oldestCopy 36 = .ok (.iadd, 1) := by decide +kernel
theorem dX9_oldestCopy_37 : decode cX9_oldestCopy 37 = .ok (.iaload, 1) := by decide +kernel
theorem dX9_oldestCopy_38 : decode cX9_oldestCopy 38 = .ok (.if_icmp .ge 11, 3) := by decide +kernel
theorem dX9_oldestCopy_41 : decode cX9_oldestCopy 41 = .ok (.iload_n 1, 1) := by decide +kernel
theorem dX9_oldestCopy_42 : decode cX9_oldestCopy 42 = .ok (.iload_n 3, 1) := by decide +kernel
theorem dX9_oldestCopy_43 : decode cX9_oldestCopy 43 = .ok (.invokestatic 40, 3) := by decide +kernel
theorem dX9_oldestCopy_46 : decode cX9_oldestCopy 46 = .ok (.goto 4, 3) := by decide +kernel
theorem dX9_oldestCopy_49 : decode cX9_oldestCopy 49 = .ok (.iload_n 2, 1) := by decide +kernel
theorem dX9_oldestCopy_50 : decode cX9_oldestCopy 50 = .ok (.istore_n 2, 1) := by decide +kernel
theorem dX9_oldestCopy_51 : decode cX9_oldestCopy 51 = .ok (.iinc 3 1, 3) := by decide +kernel
theorem dX9_oldestCopy_54 : decode cX9_oldestCopy 54 = .ok (.goto (-46), 3) := by decide +kernel
theorem dX9_oldestCopy_57 : decode cX9_oldestCopy 57 = .ok (.iload_n 2, 1) := by decide +kernel
theorem dX9_oldestCopy_58 : decode cX9_oldestCopy 58 = .ok (.ireturn, 1) := by decide +kernel
theorem dX9_pageOf_0 : decode cX9_pageOf 0 = .ok (.iconst 0, 1) := by decide +kernel
theorem dX9_pageOf_1 : decode cX9_pageOf 1 = .ok (.istore_n 2, 1) := by decide +kernel
theorem dX9_pageOf_2 : decode cX9_pageOf 2 = .ok (.iload_n 2, 1) := by decide +kernel
theorem dX9_pageOf_3 : decode cX9_pageOf 3 = .ok (.aload_n 0, 1) := by decide +kernel
theorem dX9_pageOf_4 : decode cX9_pageOf 4 = .ok (.getfield 7, 3) := by decide +kernel
theorem dX9_pageOf_7 : decode cX9_pageOf 7 = .ok (.iconst 3, 1) := by decide +kernel
theorem dX9_pageOf_8 : decode cX9_pageOf 8 = .ok (.iaload, 1) := by decide +kernel
theorem dX9_pageOf_9 : decode cX9_pageOf 9 = .ok (.if_icmp .ge 33, 3) := by decide +kernel
theorem dX9_pageOf_12 : decode cX9_pageOf 12 = .ok (.aload_n 0, 1) := by decide +kernel
theorem dX9_pageOf_13 : decode cX9_pageOf 13 = .ok (.getfield 7, 3) := by decide +kernel
theorem dX9_pageOf_16 : decode cX9_pageOf 16 = .ok (.sipush 302, 3) := by decide +kernel
theorem dX9_pageOf_19 : decode cX9_pageOf 19 = .ok (.iconst 4, 1) := by decide +kernel
theorem dX9_pageOf_20 : decode cX9_pageOf 20 = .ok (.iload_n 2, 1) := by decide +kernel
theorem dX9_pageOf_21 : decode cX9_pageOf 21 = .ok (.imul, 1) := by decide +kernel
theorem dX9_pageOf_22 : decode cX9_pageOf 22 = .ok (.iadd, 1) := by decide +kernel
theorem dX9_pageOf_23 : decode cX9_pageOf 23 = .ok (.iaload, 1) := by decide +kernel
theorem dX9_pageOf_24 : decode cX9_pageOf 24 = .ok (.iload_n 1, 1) := by decide +kernel
theorem dX9_pageOf_25 : decode cX9_pageOf 25 = .ok (.if_icmp .ne 11, 3) := by decide +kernel
theorem dX9_pageOf_28 : decode cX9_pageOf 28 = .ok (.sipush 302, 3) := by decide +kernel
theorem dX9_pageOf_31 : decode cX9_pageOf 31 = .ok (.iconst 4, 1) := by decide +kernel
theorem dX9_pageOf_32 : decode cX9_pageOf 32 = .ok (.iload_n 2, 1) := by decide +kernel
theorem dX9_pageOf_33 : decode cX9_pageOf 33 = .ok (.imul, 1) := by decide +kernel
theorem dX9_pageOf_34 : decode cX9_pageOf 34 = .ok (.iadd, 1) := by decide +kernel
theorem dX9_pageOf_35 : decode cX9_pageOf 35 = .ok (.ireturn, 1) := by decide +kernel
theorem dX9_pageOf_36 : decode cX9_pageOf 36 = .ok (.iinc 2 1, 3) := by decide +kernel
theorem dX9_pageOf_39 : decode cX9_pageOf 39 = .ok (.goto (-37), 3) := by decide +kernel
theorem dX9_pageOf_42 : decode cX9_pageOf 42 = .ok (.iconst (-1), 1) := by decide +kernel
theorem dX9_pageOf_43 : decode cX9_pageOf 43 = .ok (.ireturn, 1) := by decide +kernel
theorem dX9_oldestPage_0 : decode cX9_oldestPage 0 = .ok (.sipush 302, 3) := by decide +kernel
theorem dX9_oldestPage_3 : decode cX9_oldestPage 3 = .ok (.istore_n 1, 1) := by decide +kernel
theorem dX9_oldestPage_4 : decode cX9_oldestPage 4 = .ok (.iconst 1, 1) := by decide +kernel
theorem dX9_oldestPage_5 : decode cX9_oldestPage 5 = .ok (.istore_n 2, 1) := by decide +kernel
theorem dX9_oldestPage_6 : decode cX9_oldestPage 6 = .ok (.iload_n 2, 1) := by decide +kernel
theorem dX9_oldestPage_7 : decode cX9_oldestPage 7 = .ok (.aload_n 0, 1) := by decide +kernel
theorem dX9_oldestPage_8 : decode cX9_oldestPage 8 = .ok (.getfield 7, 3) := by decide +kernel
theorem dX9_oldestPage_11 : decode cX9_oldestPage 11 = .ok (.iconst 3, 1) := by decide +kernel
theorem dX9_oldestPage_12 : decode cX9_oldestPage 12 = .ok (.iaload, 1) := by decide +kernel
theorem dX9_oldestPage_13 : decode cX9_oldestPage 13 = .ok (.if_icmp .ge 46, 3) := by decide +kernel
theorem dX9_oldestPage_16 : decode cX9_oldestPage 16 = .ok (.aload_n 0, 1) := by decide +kernel
theorem dX9_oldestPage_17 : decode cX9_oldestPage 17 = .ok (.getfield 7, 3) := by decide +kernel
theorem dX9_oldestPage_20 : decode cX9_oldestPage 20 = .ok (.sipush 302, 3) := by decide +kernel
theorem dX9_oldestPage_23 : decode cX9_oldestPage 23 = .ok (.iconst 4, 1) := by decide +kernel
theorem dX9_oldestPage_24 : decode cX9_oldestPage 24 = .ok (.iload_n 2, 1) := by decide +kernel
theorem dX9_oldestPage_25 : decode cX9_oldestPage 25 = .ok (.imul, 1) := by decide +kernel
theorem dX9_oldestPage_26 : decode cX9_oldestPage 26 = .ok (.iadd, 1) := by decide +kernel
theorem dX9_oldestPage_27 : decode cX9_oldestPage 27 = .ok (.iconst 3, 1) := by decide +kernel
theorem dX9_oldestPage_28 : decode cX9_oldestPage 28 = .ok (.iadd, 1) := by decide +kernel
theorem dX9_oldestPage_29 : decode cX9_oldestPage 29 = .ok (.iaload, 1) := by decide +kernel
theorem dX9_oldestPage_30 : decode cX9_oldestPage 30 = .ok (.aload_n 0, 1) := by decide +kernel
theorem dX9_oldestPage_31 : decode cX9_oldestPage 31 = .ok (.getfield 7, 3) := by decide +kernel
theorem dX9_oldestPage_34 : decode cX9_oldestPage 34 = .ok (.iload_n 1, 1) := by decide +kernel
theorem dX9_oldestPage_35 : decode cX9_oldestPage 35 = .ok (.iconst 3, 1) := by decide +kernel
theorem dX9_oldestPage_36 : decode cX9_oldestPage 36 = .ok (.iadd, 1) := by decide +kernel
theorem dX9_oldestPage_37 : decode cX9_oldestPage 37 = .ok (.iaload, 1) := by decide +kernel
theorem dX9_oldestPage_38 : decode cX9_oldestPage 38 = .ok (.if_icmp .ge 13, 3) := by decide +kernel
theorem dX9_oldestPage_41 : decode cX9_oldestPage 41 = .ok (.sipush 302, 3) := by decide +kernel
theorem dX9_oldestPage_44 : decode cX9_oldestPage 44 = .ok (.iconst 4, 1) := by decide +kernel
theorem dX9_oldestPage_45 : decode cX9_oldestPage 45 = .ok (.iload_n 2, 1) := by decide +kernel
theorem dX9_oldestPage_46 : decode cX9_oldestPage 46 = .ok (.imul, 1) := by decide +kernel
theorem dX9_oldestPage_47 : decode cX9_oldestPage 47 = .ok (.iadd, 1) := by decide +kernel
theorem dX9_oldestPage_48 : decode cX9_oldestPage 48 = .ok (.goto 4, 3) := by decide +kernel
theorem dX9_oldestPage_51 : decode cX9_oldestPage 51 = .ok (.iload_n 1, 1) := by decide +kernel
theorem dX9_oldestPage_52 : decode cX9_oldestPage 52 = .ok (.istore_n 1, 1) := by decide +kernel
theorem dX9_oldestPage_53 : decode cX9_oldestPage 53 = .ok (.iinc 2 1, 3) := by decide +kernel
theorem dX9_oldestPage_56 : decode cX9_oldestPage 56 = .ok (.goto (-50), 3) := by decide +kernel
theorem dX9_oldestPage_59 : decode cX9_oldestPage 59 = .ok (.iload_n 1, 1) := by decide +kernel
theorem dX9_oldestPage_60 : decode cX9_oldestPage 60 = .ok (.ireturn, 1) := by decide +kernel
theorem dX9_tearOut_0 : decode cX9_tearOut 0 = .ok (.aload_n 0, 1) := by decide +kernel
theorem dX9_tearOut_1 : decode cX9_tearOut 1 = .ok (.getfield 7, 3) := by decide +kernel
theorem dX9_tearOut_4 : decode cX9_tearOut 4 = .ok (.iload_n 1, 1) := by decide +kernel
theorem dX9_tearOut_5 : decode cX9_tearOut 5 = .ok (.iconst 1, 1) := by decide +kernel
theorem dX9_tearOut_6 : decode cX9_tearOut 6 = .ok (.iadd, 1) := by decide +kernel
theorem dX9_tearOut_7 : decode cX9_tearOut 7 = .ok (.iaload, 1) := by decide +kernel
theorem dX9_tearOut_8 : decode cX9_tearOut 8 = .ok (.ifCond .ge 14, 3) := by decide +kernel
theorem dX9_tearOut_11 : decode cX9_tearOut 11 = .ok (.aload_n 0, 1) := by decide +kernel
theorem dX9_tearOut_12 : decode cX9_tearOut 12 = .ok (.getfield 7, 3) := by decide +kernel
theorem dX9_tearOut_15 : decode cX9_tearOut 15 = .ok (.iload_n 1, 1) := by decide +kernel
theorem dX9_tearOut_16 : decode cX9_tearOut 16 = .ok (.iconst 2, 1) := by decide +kernel
theorem dX9_tearOut_17 : decode cX9_tearOut 17 = .ok (.iadd, 1) := by decide +kernel
theorem dX9_tearOut_18 : decode cX9_tearOut 18 = .ok (.iaload, 1) := by decide +kernel
theorem dX9_tearOut_19 : decode cX9_tearOut 19 = .ok (.ifCond .eq 18, 3) := by decide +kernel
theorem dX9_tearOut_22 : decode cX9_tearOut 22 = .ok (.aload_n 0, 1) := by decide +kernel
theorem dX9_tearOut_23 : decode cX9_tearOut 23 = .ok (.getfield 7, 3) := by decide +kernel
theorem dX9_tearOut_26 : decode cX9_tearOut 26 = .ok (.bipush 78, 2) := by decide +kernel
theorem dX9_tearOut_28 : decode cX9_tearOut 28 = .ok (.aload_n 0, 1) := by decide +kernel
theorem dX9_tearOut_29 : decode cX9_tearOut 29 = .ok (.getfield 7, 3) := by decide +kernel
theorem dX9_tearOut_32 : decode cX9_tearOut 32 = .ok (.iload_n 1, 1) := by decide +kernel
theorem dX9_tearOut_33 : decode cX9_tearOut 33 = .ok (.iaload, 1) := by decide +kernel
theorem dX9_tearOut_34 : decode cX9_tearOut 34 = .ok (.iadd, 1) := by decide +kernel
theorem dX9_tearOut_35 : decode cX9_tearOut 35 = .ok (.iconst 1, 1) := by decide +kernel
theorem dX9_tearOut_36 : decode cX9_tearOut 36 = .ok (.iastore, 1) := by decide +kernel
theorem dX9_tearOut_37 : decode cX9_tearOut 37 = .ok (.aload_n 0, 1) := by decide +kernel
theorem dX9_tearOut_38 : decode cX9_tearOut 38 = .ok (.getfield 7, 3) := by decide +kernel
theorem dX9_tearOut_41 : decode cX9_tearOut 41 = .ok (.bipush 10, 2) := by decide +kernel
theorem dX9_tearOut_43 : decode cX9_tearOut 43 = .ok (.dup2, 1) := by decide +kernel
theorem dX9_tearOut_44 : decode cX9_tearOut 44 = .ok (.iaload, 1) := by decide +kernel
theorem dX9_tearOut_45 : decode cX9_tearOut 45 = .ok (.iconst 1, 1) := by decide +kernel
theorem dX9_tearOut_46 : decode cX9_tearOut 46 = .ok (.iadd, 1) := by decide +kernel
theorem dX9_tearOut_47 : decode cX9_tearOut 47 = .ok (.iastore, 1) := by decide +kernel
theorem dX9_tearOut_48 : decode cX9_tearOut 48 = .ok (.aload_n 0, 1) := by decide +kernel
theorem dX9_tearOut_49 : decode cX9_tearOut 49 = .ok (.getfield 7, 3) := by decide +kernel
theorem dX9_tearOut_52 : decode cX9_tearOut 52 = .ok (.iconst 3, 1) := by decide +kernel
theorem dX9_tearOut_53 : decode cX9_tearOut 53 = .ok (.dup2, 1) := by decide +kernel
theorem dX9_tearOut_54 : decode cX9_tearOut 54 = .ok (.iaload, 1) := by decide +kernel
theorem dX9_tearOut_55 : decode cX9_tearOut 55 = .ok (.iconst 1, 1) := by decide +kernel
theorem dX9_tearOut_56 : decode cX9_tearOut 56 = .ok (.isub, 1) := by decide +kernel
theorem dX9_tearOut_57 : decode cX9_tearOut 57 = .ok (.iastore, 1) := by decide +kernel
theorem dX9_tearOut_58 : decode cX9_tearOut 58 = .ok (.iconst 0, 1) := by decide +kernel
theorem dX9_tearOut_59 : decode cX9_tearOut 59 = .ok (.istore_n 2, 1) := by decide +kernel
theorem dX9_tearOut_60 : decode cX9_tearOut 60 = .ok (.iload_n 2, 1) := by decide +kernel
theorem dX9_tearOut_61 : decode cX9_tearOut 61 = .ok (.iconst 4, 1) := by decide +kernel
theorem dX9_tearOut_62 : decode cX9_tearOut 62 = .ok (.if_icmp .ge 36, 3) := by decide +kernel
theorem dX9_tearOut_65 : decode cX9_tearOut 65 = .ok (.aload_n 0, 1) := by decide +kernel
theorem dX9_tearOut_66 : decode cX9_tearOut 66 = .ok (.getfield 7, 3) := by decide +kernel
theorem dX9_tearOut_69 : decode cX9_tearOut 69 = .ok (.iload_n 1, 1) := by decide +kernel
theorem dX9_tearOut_70 : decode cX9_tearOut 70 = .ok (.iload_n 2, 1) := by decide +kernel
theorem dX9_tearOut_71 : decode cX9_tearOut 71 = .ok (.iadd, 1) := by decide +kernel
theorem dX9_tearOut_72 : decode cX9_tearOut 72 = .ok (.aload_n 0, 1) := by decide +kernel
theorem dX9_tearOut_73 : decode cX9_tearOut 73 = .ok (.getfield 7, 3) := by decide +kernel
theorem dX9_tearOut_76 : decode cX9_tearOut 76 = .ok (.sipush 302, 3) := by decide +kernel
theorem dX9_tearOut_79 : decode cX9_tearOut 79 = .ok (.iconst 4, 1) := by decide +kernel
theorem dX9_tearOut_80 : decode cX9_tearOut 80 = .ok (.aload_n 0, 1) := by decide +kernel
theorem dX9_tearOut_81 : decode cX9_tearOut 81 = .ok (.getfield 7, 3) := by decide +kernel
theorem dX9_tearOut_84 : decode cX9_tearOut 84 = .ok (.iconst 3, 1) := by decide +kernel
theorem dX9_tearOut_85 : decode cX9_tearOut 85 = .ok (.iaload, 1) := by decide +kernel
theorem dX9_tearOut_86 : decode cX9_tearOut 86 = .ok (.imul, 1) := by decide +kernel
theorem dX9_tearOut_87 : decode cX9_tearOut 87 = .ok (.iadd, 1) := by decide +kernel
theorem dX9_tearOut_88 : decode cX9_tearOut 88 = .ok (.iload_n 2, 1) := by decide +kernel
theorem dX9_tearOut_89 : decode cX9_tearOut 89 = .ok (.iadd, 1) := by decide +kernel
theorem dX9_tearOut_90 : decode cX9_tearOut 90 = .ok (.iaload, 1) := by decide +kernel
theorem dX9_tearOut_91 : decode cX9_tearOut 91 = .ok (.iastore, 1) := by decide +kernel
theorem dX9_tearOut_92 : decode cX9_tearOut 92 = .ok (.iinc 2 1, 3) := by decide +kernel
theorem dX9_tearOut_95 : decode cX9_tearOut 95 = .ok (.goto (-35), 3) := by decide +kernel
theorem dX9_tearOut_98 : decode cX9_tearOut 98 = .ok (.return_, 1) := by decide +kernel
theorem dX9_toMemory_0 : decode cX9_toMemory 0 = .ok (.aload_n 0, 1) := by decide +kernel
theorem dX9_toMemory_1 : decode cX9_toMemory 1 = .ok (.getfield 7, 3) := by decide +kernel
theorem dX9_toMemory_4 : decode cX9_toMemory 4 = .ok (.bipush 14, 2) := by decide +kernel
theorem dX9_toMemory_6 : decode cX9_toMemory 6 = .ok (.aload_n 0, 1) := by decide +kernel
theorem dX9_toMemory_7 : decode cX9_toMemory 7 = .ok (.getfield 7, 3) := by decide +kernel
theorem dX9_toMemory_10 : decode cX9_toMemory 10 = .ok (.iload_n 1, 1) := by decide +kernel
theorem dX9_toMemory_11 : decode cX9_toMemory 11 = .ok (.iaload, 1) := by decide +kernel
theorem dX9_toMemory_12 : decode cX9_toMemory 12 = .ok (.iadd, 1) := by decide +kernel
theorem dX9_toMemory_13 : decode cX9_toMemory 13 = .ok (.aload_n 0, 1) := by decide +kernel
theorem dX9_toMemory_14 : decode cX9_toMemory 14 = .ok (.getfield 7, 3) := by decide +kernel
theorem dX9_toMemory_17 : decode cX9_toMemory 17 = .ok (.iload_n 1, 1) := by decide +kernel
theorem dX9_toMemory_18 : decode cX9_toMemory 18 = .ok (.iconst 2, 1) := by decide +kernel
theorem dX9_toMemory_19 : decode cX9_toMemory 19 = .ok (.iadd, 1) := by decide +kernel
theorem dX9_toMemory_20 : decode cX9_toMemory 20 = .ok (.iaload, 1) := by decide +kernel
theorem dX9_toMemory_21 : decode cX9_toMemory 21 = .ok (.iastore, 1) := by decide +kernel
theorem dX9_toMemory_22 : decode cX9_toMemory 22 = .ok (.aload_n 0, 1) := by decide +kernel
theorem dX9_toMemory_23 : decode cX9_toMemory 23 = .ok (.getfield 7, 3) := by decide +kernel
theorem dX9_toMemory_26 : decode cX9_toMemory 26 = .ok (.bipush 11, 2) := by decide +kernel
theorem dX9_toMemory_28 : decode cX9_toMemory 28 = .ok (.dup2, 1) := by decide +kernel
theorem dX9_toMemory_29 : decode cX9_toMemory 29 = .ok (.iaload, 1) := by decide +kernel
theorem dX9_toMemory_30 : decode cX9_toMemory 30 = .ok (.iconst 1, 1) := by decide +kernel
theorem dX9_toMemory_31 : decode cX9_toMemory 31 = .ok (.iadd, 1) := by decide +kernel
theorem dX9_toMemory_32 : decode cX9_toMemory 32 = .ok (.iastore, 1) := by decide +kernel
theorem dX9_toMemory_33 : decode cX9_toMemory 33 = .ok (.return_, 1) := by decide +kernel
theorem dX9_throwAway_0 : decode cX9_throwAway 0 = .ok (.aload_n 0, 1) := by decide +kernel
theorem dX9_throwAway_1 : decode cX9_throwAway 1 = .ok (.getfield 7, 3) := by decide +kernel
theorem dX9_throwAway_4 : decode cX9_throwAway 4 = .ok (.iload_n 2, 1) := by decide +kernel
theorem dX9_throwAway_5 : decode cX9_throwAway 5 = .ok (.iconst 1, 1) := by decide +kernel
theorem dX9_throwAway_6 : decode cX9_throwAway 6 = .ok (.iadd, 1) := by decide +kernel
theorem dX9_throwAway_7 : decode cX9_throwAway 7 = .ok (.iaload, 1) := by decide +kernel
theorem dX9_throwAway_8 : decode cX9_throwAway 8 = .ok (.iconst 2, 1) := by decide +kernel
theorem dX9_throwAway_9 : decode cX9_throwAway 9 = .ok (.if_icmp .ne 7, 3) := by decide +kernel
theorem dX9_throwAway_12 : decode cX9_throwAway 12 = .ok (.iconst 1, 1) := by decide +kernel
theorem dX9_throwAway_13 : decode cX9_throwAway 13 = .ok (.goto 4, 3) := by decide +kernel
theorem dX9_throwAway_16 : decode cX9_throwAway 16 = .ok (.iconst 0, 1) := by decide +kernel
theorem dX9_throwAway_17 : decode cX9_throwAway 17 = .ok (.istore_n 3, 1) := by decide +kernel
theorem dX9_throwAway_18 : decode cX9_throwAway 18 = .ok (.iload_n 3, 1) := by decide +kernel
theorem dX9_throwAway_19 : decode cX9_throwAway 19 = .ok (.ifCond .eq 8, 3) := by decide +kernel
theorem dX9_throwAway_22 : decode cX9_throwAway 22 = .ok (.aload_n 0, 1) := by decide +kernel
theorem dX9_throwAway_23 : decode cX9_throwAway 23 = .ok (.iload_n 2, 1) := by decide +kernel
theorem dX9_throwAway_24 : decode cX9_throwAway 24 = .ok (.invokevirtual 44, 3) := by decide +kernel
theorem dX9_throwAway_27 : decode cX9_throwAway 27 = .ok (.aload_n 0, 1) := by decide +kernel
theorem dX9_throwAway_28 : decode cX9_throwAway 28 = .ok (.aload_n 0, 1) := by decide +kernel
theorem dX9_throwAway_29 : decode cX9_throwAway 29 = .ok (.getfield 7, 3) := by decide +kernel
theorem dX9_throwAway_32 : decode cX9_throwAway 32 = .ok (.iload_n 2, 1) := by decide +kernel
theorem dX9_throwAway_33 : decode cX9_throwAway 33 = .ok (.iaload, 1) := by decide +kernel
theorem dX9_throwAway_34 : decode cX9_throwAway 34 = .ok (.invokevirtual 48, 3) := by decide +kernel
theorem dX9_throwAway_37 : decode cX9_throwAway 37 = .ok (.istore 4, 2) := by decide +kernel
theorem dX9_throwAway_39 : decode cX9_throwAway 39 = .ok (.iload 4, 2) := by decide +kernel
theorem dX9_throwAway_41 : decode cX9_throwAway 41 = .ok (.ifCond .lt 55, 3) := by decide +kernel
theorem dX9_throwAway_44 : decode cX9_throwAway 44 = .ok (.aload_n 0, 1) := by decide +kernel
theorem dX9_throwAway_45 : decode cX9_throwAway 45 = .ok (.getfield 7, 3) := by decide +kernel
theorem dX9_throwAway_48 : decode cX9_throwAway 48 = .ok (.iload 4, 2) := by decide +kernel
theorem dX9_throwAway_50 : decode cX9_throwAway 50 = .ok (.iconst 1, 1) := by decide +kernel
theorem dX9_throwAway_51 : decode cX9_throwAway 51 = .ok (.iadd, 1) := by decide +kernel
theorem dX9_throwAway_52 : decode cX9_throwAway 52 = .ok (.aload_n 0, 1) := by decide +kernel
theorem dX9_throwAway_53 : decode cX9_throwAway 53 = .ok (.getfield 7, 3) := by decide +kernel
theorem dX9_throwAway_56 : decode cX9_throwAway 56 = .ok (.iload 4, 2) := by decide +kernel
theorem dX9_throwAway_58 : decode cX9_throwAway 58 = .ok (.iconst 1, 1) := by decide +kernel
theorem dX9_throwAway_59 : decode cX9_throwAway 59 = .ok (.iadd, 1) := by decide +kernel
theorem dX9_throwAway_60 : decode cX9_throwAway 60 = .ok (.iaload, 1) := by decide +kernel
theorem dX9_throwAway_61 : decode cX9_throwAway 61 = .ok (.iload_n 1, 1) := by decide +kernel
theorem dX9_throwAway_62 : decode cX9_throwAway 62 = .ok (.if_icmp .ne 7, 3) := by decide +kernel
theorem dX9_throwAway_65 : decode cX9_throwAway 65 = .ok (.iconst (-1), 1) := by decide +kernel
theorem dX9_throwAway_66 : decode cX9_throwAway 66 = .ok (.goto 12, 3) := by decide +kernel
theorem dX9_throwAway_69 : decode cX9_throwAway 69 = .ok (.aload_n 0, 1) := by decide +kernel
theorem dX9_throwAway_70 : decode cX9_throwAway 70 = .ok (.getfield 7, 3) := by decide +kernel
theorem dX9_throwAway_73 : decode cX9_throwAway 73 = .ok (.iload 4, 2) := by decide +kernel
theorem dX9_throwAway_75 : decode cX9_throwAway 75 = .ok (.iconst 1, 1) := by decide +kernel
theorem dX9_throwAway_76 : decode cX9_throwAway 76 = .ok (.iadd, 1) := by decide +kernel
theorem dX9_throwAway_77 : decode cX9_throwAway 77 = .ok (.iaload, 1) := by decide +kernel
theorem dX9_throwAway_78 : decode cX9_throwAway 78 = .ok (.iastore, 1) := by decide +kernel
theorem dX9_throwAway_79 : decode cX9_throwAway 79 = .ok (.aload_n 0, 1) := by decide +kernel
theorem dX9_throwAway_80 : decode cX9_throwAway 80 = .ok (.getfield 7, 3) := by decide +kernel
theorem dX9_throwAway_83 : decode cX9_throwAway 83 = .ok (.iload 4, 2) := by decide +kernel
theorem dX9_throwAway_85 : decode cX9_throwAway 85 = .ok (.iconst 2, 1) := by decide +kernel
theorem dX9_throwAway_86 : decode cX9_throwAway 86 = .ok (.iadd, 1) := by decide +kernel
theorem dX9_throwAway_87 : decode cX9_throwAway 87 = .ok (.dup2, 1) := by decide +kernel
theorem dX9_throwAway_88 : decode cX9_throwAway 88 = .ok (.iaload, 1) := by decide +kernel
theorem dX9_throwAway_89 : decode cX9_throwAway 89 = .ok (.iconst 1, 1) := by decide +kernel
theorem dX9_throwAway_90 : decode cX9_throwAway 90 = .ok (.iload_n 1, 1) := by decide +kernel
theorem dX9_throwAway_91 : decode cX9_throwAway 91 = .ok (.ishl, 1) := by decide +kernel
theorem dX9_throwAway_92 : decode cX9_throwAway 92 = .ok (.iconst (-1), 1) := by decide +kernel
theorem dX9_throwAway_93 : decode cX9_throwAway 93 = .ok (.ixor, 1) := by decide +kernel
theorem dX9_throwAway_94 : decode cX9_throwAway 94 = .ok (.iand, 1) := by decide +kernel
theorem dX9_throwAway_95 : decode cX9_throwAway 95 = .ok (.iastore, 1) := by decide +kernel
theorem dX9_throwAway_96 : decode cX9_throwAway 96 = .ok (.aload_n 0, 1) := by decide +kernel
theorem dX9_throwAway_97 : decode cX9_throwAway 97 = .ok (.getfield 7, 3) := by decide +kernel
theorem dX9_throwAway_100 : decode cX9_throwAway 100 = .ok (.iload_n 2, 1) := by decide +kernel
theorem dX9_throwAway_101 : decode cX9_throwAway 101 = .ok (.iconst (-1), 1) := by decide +kernel
theorem dX9_throwAway_102 : decode cX9_throwAway 102 = .ok (.iastore, 1) := by decide +kernel
theorem dX9_throwAway_103 : decode cX9_throwAway 103 = .ok (.iload_n 3, 1) := by decide +kernel
theorem dX9_throwAway_104 : decode cX9_throwAway 104 = .ok (.ifCond .eq 7, 3) := by decide +kernel
theorem dX9_throwAway_107 : decode cX9_throwAway 107 = .ok (.iconst 1, 1) := by decide +kernel
theorem dX9_throwAway_108 : decode cX9_throwAway 108 = .ok (.goto 4, 3) := by decide +kernel
theorem dX9_throwAway_111 : decode cX9_throwAway 111 = .ok (.iconst 0, 1) := by decide +kernel
theorem dX9_throwAway_112 : decode cX9_throwAway 112 = .ok (.ireturn, 1) := by decide +kernel
theorem dX9_ownerOf_0 : decode cX9_ownerOf 0 = .ok (.iconst 0, 1) := by decide +kernel
theorem dX9_ownerOf_1 : decode cX9_ownerOf 1 = .ok (.istore_n 2, 1) := by decide +kernel
theorem dX9_ownerOf_2 : decode cX9_ownerOf 2 = .ok (.iload_n 2, 1) := by decide +kernel
theorem dX9_ownerOf_3 : decode cX9_ownerOf 3 = .ok (.aload_n 0, 1) := by decide +kernel
theorem dX9_ownerOf_4 : decode cX9_ownerOf 4 = .ok (.getfield 7, 3) := by decide +kernel
theorem dX9_ownerOf_7 : decode cX9_ownerOf 7 = .ok (.iconst 0, 1) := by decide +kernel
theorem dX9_ownerOf_8 : decode cX9_ownerOf 8 = .ok (.iaload, 1) := by decide +kernel
theorem dX9_ownerOf_9 : decode cX9_ownerOf 9 = .ok (.if_icmp .ge 34, 3) := by decide +kernel
theorem dX9_ownerOf_12 : decode cX9_ownerOf 12 = .ok (.aload_n 0, 1) := by decide +kernel
theorem dX9_ownerOf_13 : decode cX9_ownerOf 13 = .ok (.iload_n 2, 1) := by decide +kernel
theorem dX9_ownerOf_14 : decode cX9_ownerOf 14 = .ok (.iload_n 1, 1) := by decide +kernel
theorem dX9_ownerOf_15 : decode cX9_ownerOf 15 = .ok (.invokevirtual 52, 3) := by decide +kernel
theorem dX9_ownerOf_18 : decode cX9_ownerOf 18 = .ok (.istore_n 3, 1) := by decide +kernel
theorem dX9_ownerOf_19 : decode cX9_ownerOf 19 = .ok (.iload_n 3, 1) := by decide +kernel
theorem dX9_ownerOf_20 : decode cX9_ownerOf 20 = .ok (.ifCond .lt 17, 3) := by decide +kernel
theorem dX9_ownerOf_23 : decode cX9_ownerOf 23 = .ok (.aload_n 0, 1) := by decide +kernel
theorem dX9_ownerOf_24 : decode cX9_ownerOf 24 = .ok (.getfield 7, 3) := by decide +kernel
theorem dX9_ownerOf_27 : decode cX9_ownerOf 27 = .ok (.iload_n 3, 1) := by decide +kernel
theorem dX9_ownerOf_28 : decode cX9_ownerOf 28 = .ok (.iconst 1, 1) := by decide +kernel
theorem dX9_ownerOf_29 : decode cX9_ownerOf 29 = .ok (.iadd, 1) := by decide +kernel
theorem dX9_ownerOf_30 : decode cX9_ownerOf 30 = .ok (.iaload, 1) := by decide +kernel
theorem dX9_ownerOf_31 : decode cX9_ownerOf 31 = .ok (.iconst 2, 1) := by decide +kernel
theorem dX9_ownerOf_32 : decode cX9_ownerOf 32 = .ok (.if_icmp .ne 5, 3) := by decide +kernel
theorem dX9_ownerOf_35 : decode cX9_ownerOf 35 = .ok (.iload_n 2, 1) := by decide +kernel
theorem dX9_ownerOf_36 : decode cX9_ownerOf 36 = .ok (.ireturn, 1) := by decide +kernel
theorem dX9_ownerOf_37 : decode cX9_ownerOf 37 = .ok (.iinc 2 1, 3) := by decide +kernel
theorem dX9_ownerOf_40 : decode cX9_ownerOf 40 = .ok (.goto (-38), 3) := by decide +kernel
theorem dX9_ownerOf_43 : decode cX9_ownerOf 43 = .ok (.iconst (-1), 1) := by decide +kernel
theorem dX9_ownerOf_44 : decode cX9_ownerOf 44 = .ok (.ireturn, 1) := by decide +kernel
theorem dX9_sharersOf_0 : decode cX9_sharersOf 0 = .ok (.iconst 0, 1) := by decide +kernel
theorem dX9_sharersOf_1 : decode cX9_sharersOf 1 = .ok (.istore_n 2, 1) := by decide +kernel
theorem dX9_sharersOf_2 : decode cX9_sharersOf 2 = .ok (.iconst 0, 1) := by decide +kernel
theorem dX9_sharersOf_3 : decode cX9_sharersOf 3 = .ok (.istore_n 3, 1) := by decide +kernel
theorem dX9_sharersOf_4 : decode cX9_sharersOf 4 = .ok (.iload_n 3, 1) := by decide +kernel
theorem dX9_sharersOf_5 : decode cX9_sharersOf 5 = .ok (.aload_n 0, 1) := by decide +kernel
theorem dX9_sharersOf_6 : decode cX9_sharersOf 6 = .ok (.getfield 7, 3) := by decide +kernel
theorem dX9_sharersOf_9 : decode cX9_sharersOf 9 = .ok (.iconst 0, 1) := by decide +kernel
theorem dX9_sharersOf_10 : decode cX9_sharersOf 10 = .ok (.iaload, 1) := by decide +kernel
theorem dX9_sharersOf_11 : decode cX9_sharersOf 11 = .ok (.if_icmp .ge 45, 3) := by decide +kernel
theorem dX9_sharersOf_14 : decode cX9_sharersOf 14 = .ok (.aload_n 0, 1) := by decide +kernel
theorem dX9_sharersOf_15 : decode cX9_sharersOf 15 = .ok (.iload_n 3, 1) := by decide +kernel
theorem dX9_sharersOf_16 : decode cX9_sharersOf 16 = .ok (.iload_n 1, 1) := by decide +kernel
theorem dX9_sharersOf_17 : decode cX9_sharersOf 17 = .ok (.invokevirtual 52, 3) := by decide +kernel
theorem dX9_sharersOf_20 : decode cX9_sharersOf 20 = .ok (.istore 4, 2) := by decide +kernel
theorem dX9_sharersOf_22 : decode cX9_sharersOf 22 = .ok (.iload_n 2, 1) := by decide +kernel
theorem dX9_sharersOf_23 : decode cX9_sharersOf 23 = .ok (.iload 4, 2) := by decide +kernel
theorem dX9_sharersOf_25 : decode cX9_sharersOf 25 = .ok (.ifCond .lt 22, 3) := by decide +kernel
theorem dX9_sharersOf_28 : decode cX9_sharersOf 28 = .ok (.aload_n 0, 1) := by decide +kernel
theorem dX9_sharersOf_29 : decode cX9_sharersOf 29 = .ok (.getfield 7, 3) := by decide +kernel
theorem dX9_sharersOf_32 : decode cX9_sharersOf 32 = .ok (.iload 4, 2) := by decide +kernel
theorem dX9_sharersOf_34 : decode cX9_sharersOf 34 = .ok (.iconst 1, 1) := by decide +kernel
theorem dX9_sharersOf_35 : decode cX9_sharersOf 35 = .ok (.iadd, 1) := by decide +kernel
theorem dX9_sharersOf_36 : decode cX9_sharersOf 36 = .ok (.iaload, 1) := by decide +kernel
theorem dX9_sharersOf_37 : decode cX9_sharersOf 37 = .ok (.iconst 1, 1) := by decide +kernel
theorem dX9_sharersOf_38 : decode cX9_sharersOf 38 = .ok (.if_icmp .ne 9, 3) := by decide +kernel
theorem dX9_sharersOf_41 : decode cX9_sharersOf 41 = .ok (.iconst 1, 1) := by decide +kernel
theorem dX9_sharersOf_42 : decode cX9_sharersOf 42 = .ok (.iload_n 3, 1) := by decide +kernel
theorem dX9_sharersOf_43 : decode cX9_sharersOf 43 = .ok (.ishl, 1) := by decide +kernel
theorem dX9_sharersOf_44 : decode cX9_sharersOf 44 = .ok (.goto 4, 3) := by decide +kernel
theorem dX9_sharersOf_47 : decode cX9_sharersOf 47 = .ok (.iconst 0, 1) := by decide +kernel
theorem dX9_sharersOf_48 : decode cX9_sharersOf 48 = .ok (.ior, 1) := by decide +kernel
theorem dX9_sharersOf_49 : decode cX9_sharersOf 49 = .ok (.istore_n 2, 1) := by decide +kernel
theorem dX9_sharersOf_50 : decode cX9_sharersOf 50 = .ok (.iinc 3 1, 3) := by decide +kernel
theorem dX9_sharersOf_53 : decode cX9_sharersOf 53 = .ok (.goto (-49), 3) := by decide +kernel
theorem dX9_sharersOf_56 : decode cX9_sharersOf 56 = .ok (.iload_n 2, 1) := by decide +kernel
theorem dX9_sharersOf_57 : decode cX9_sharersOf 57 = .ok (.ireturn, 1) := by decide +kernel
theorem dX9_isHit_0 : decode cX9_isHit 0 = .ok (.aload_n 0, 1) := by decide +kernel
theorem dX9_isHit_1 : decode cX9_isHit 1 = .ok (.iload_n 1, 1) := by decide +kernel
theorem dX9_isHit_2 : decode cX9_isHit 2 = .ok (.iload_n 2, 1) := by decide +kernel
theorem dX9_isHit_3 : decode cX9_isHit 3 = .ok (.invokevirtual 52, 3) := by decide +kernel
theorem dX9_isHit_6 : decode cX9_isHit 6 = .ok (.istore 4, 2) := by decide +kernel
theorem dX9_isHit_8 : decode cX9_isHit 8 = .ok (.iload 4, 2) := by decide +kernel
theorem dX9_isHit_10 : decode cX9_isHit 10 = .ok (.ifCond .lt 24, 3) := by decide +kernel
theorem dX9_isHit_13 : decode cX9_isHit 13 = .ok (.iload_n 3, 1) := by decide +kernel
theorem dX9_isHit_14 : decode cX9_isHit 14 = .ok (.ifCond .eq 16, 3) := by decide +kernel
theorem dX9_isHit_17 : decode cX9_isHit 17 = .ok (.aload_n 0, 1) := by decide +kernel
theorem dX9_isHit_18 : decode cX9_isHit 18 = .ok (.getfield 7, 3) := by decide +kernel
theorem dX9_isHit_21 : decode cX9_isHit 21 = .ok (.iload 4, 2) := by decide +kernel
theorem dX9_isHit_23 : decode cX9_isHit 23 = .ok (.iconst 1, 1) := by decide +kernel
theorem dX9_isHit_24 : decode cX9_isHit 24 = .ok (.iadd, 1) := by decide +kernel
theorem dX9_isHit_25 : decode cX9_isHit 25 = .ok (.iaload, 1) := by decide +kernel
theorem dX9_isHit_26 : decode cX9_isHit 26 = .ok (.iconst 2, 1) := by decide +kernel
theorem dX9_isHit_27 : decode cX9_isHit 27 = .ok (.if_icmp .ne 7, 3) := by decide +kernel
theorem dX9_isHit_30 : decode cX9_isHit 30 = .ok (.iconst 1, 1) := by decide +kernel
theorem dX9_isHit_31 : decode cX9_isHit 31 = .ok (.goto 4, 3) := by decide +kernel
theorem dX9_isHit_34 : decode cX9_isHit 34 = .ok (.iconst 0, 1) := by decide +kernel
theorem dX9_isHit_35 : decode cX9_isHit 35 = .ok (.ireturn, 1) := by decide +kernel
theorem dX9_opensPage_0 : decode cX9_opensPage 0 = .ok (.aload_n 0, 1) := by decide +kernel
theorem dX9_opensPage_1 : decode cX9_opensPage 1 = .ok (.iload_n 1, 1) := by decide +kernel
theorem dX9_opensPage_2 : decode cX9_opensPage 2 = .ok (.invokevirtual 48, 3) := by decide +kernel
theorem dX9_opensPage_5 : decode cX9_opensPage 5 = .ok (.ifCond .lt 5, 3) := by decide +kernel
theorem dX9_opensPage_8 : decode cX9_opensPage 8 = .ok (.iconst 1, 1) := by decide +kernel
theorem dX9_opensPage_9 : decode cX9_opensPage 9 = .ok (.ireturn, 1) := by decide +kernel
theorem dX9_opensPage_10 : decode cX9_opensPage 10 = .ok (.aload_n 0, 1) := by decide +kernel
theorem dX9_opensPage_11 : decode cX9_opensPage 11 = .ok (.getfield 7, 3) := by decide +kernel
theorem dX9_opensPage_14 : decode cX9_opensPage 14 = .ok (.iconst 3, 1) := by decide +kernel
theorem dX9_opensPage_15 : decode cX9_opensPage 15 = .ok (.iaload, 1) := by decide +kernel
theorem dX9_opensPage_16 : decode cX9_opensPage 16 = .ok (.aload_n 0, 1) := by decide +kernel
theorem dX9_opensPage_17 : decode cX9_opensPage 17 = .ok (.getfield 7, 3) := by decide +kernel
theorem dX9_opensPage_20 : decode cX9_opensPage 20 = .ok (.iconst 2, 1) := by decide +kernel
theorem dX9_opensPage_21 : decode cX9_opensPage 21 = .ok (.iaload, 1) := by decide +kernel
theorem dX9_opensPage_22 : decode cX9_opensPage 22 = .ok (.if_icmp .ne 11, 3) := by decide +kernel
theorem dX9_opensPage_25 : decode cX9_opensPage 25 = .ok (.aload_n 0, 1) := by decide +kernel
theorem dX9_opensPage_26 : decode cX9_opensPage 26 = .ok (.aload_n 0, 1) := by decide +kernel
theorem dX9_opensPage_27 : decode cX9_opensPage 27 = .ok (.invokevirtual 55, 3) := by decide +kernel
theorem dX9_opensPage_30 : decode cX9_opensPage 30 = .ok (.invokevirtual 59, 3) := by decide +kernel
theorem dX9_opensPage_33 : decode cX9_opensPage 33 = .ok (.aload_n 0, 1) := by decide +kernel
theorem dX9_opensPage_34 : decode cX9_opensPage 34 = .ok (.getfield 7, 3) := by decide +kernel
theorem dX9_opensPage_37 : decode cX9_opensPage 37 = .ok (.bipush 78, 2) := by decide +kernel
theorem dX9_opensPage_39 : decode cX9_opensPage 39 = .ok (.iload_n 1, 1) := by decide +kernel
theorem dX9_opensPage_40 : decode cX9_opensPage 40 = .ok (.iadd, 1) := by decide +kernel
theorem dX9_opensPage_41 : decode cX9_opensPage 41 = .ok (.iaload, 1) := by decide +kernel
theorem dX9_opensPage_42 : decode cX9_opensPage 42 = .ok (.iconst 1, 1) := by decide +kernel
theorem dX9_opensPage_43 : decode cX9_opensPage 43 = .ok (.if_icmp .ne 7, 3) := by decide +kernel
theorem dX9_opensPage_46 : decode cX9_opensPage 46 = .ok (.iconst 1, 1) := by decide +kernel
theorem dX9_opensPage_47 : decode cX9_opensPage 47 = .ok (.goto 4, 3) := by decide +kernel
theorem dX9_opensPage_50 : decode cX9_opensPage 50 = .ok (.iconst 0, 1) := by decide +kernel
theorem dX9_opensPage_51 : decode cX9_opensPage 51 = .ok (.istore_n 2, 1) := by decide +kernel
theorem dX9_opensPage_52 : decode cX9_opensPage 52 = .ok (.sipush 302, 3) := by decide +kernel
theorem dX9_opensPage_55 : decode cX9_opensPage 55 = .ok (.iconst 4, 1) := by decide +kernel
theorem dX9_opensPage_56 : decode cX9_opensPage 56 = .ok (.aload_n 0, 1) := by decide +kernel
theorem dX9_opensPage_57 : decode cX9_opensPage 57 = .ok (.getfield 7, 3) := by decide +kernel
theorem dX9_opensPage_60 : decode cX9_opensPage 60 = .ok (.iconst 3, 1) := by decide +kernel
theorem dX9_opensPage_61 : decode cX9_opensPage 61 = .ok (.iaload, 1) := by decide +kernel
theorem dX9_opensPage_62 : decode cX9_opensPage 62 = .ok (.imul, 1) := by decide +kernel
theorem dX9_opensPage_63 : decode cX9_opensPage 63 = .ok (.iadd, 1) := by decide +kernel
theorem dX9_opensPage_64 : decode cX9_opensPage 64 = .ok (.istore_n 3, 1) := by decide +kernel
theorem dX9_opensPage_65 : decode cX9_opensPage 65 = .ok (.aload_n 0, 1) := by decide +kernel
theorem dX9_opensPage_66 : decode cX9_opensPage 66 = .ok (.getfield 7, 3) := by decide +kernel
theorem dX9_opensPage_69 : decode cX9_opensPage 69 = .ok (.iload_n 3, 1) := by decide +kernel
theorem dX9_opensPage_70 : decode cX9_opensPage 70 = .ok (.iload_n 1, 1) := by decide +kernel
theorem dX9_opensPage_71 : decode cX9_opensPage 71 = .ok (.iastore, 1) := by decide +kernel
theorem dX9_opensPage_72 : decode cX9_opensPage 72 = .ok (.aload_n 0, 1) := by decide +kernel
theorem dX9_opensPage_73 : decode cX9_opensPage 73 = .ok (.getfield 7, 3) := by decide +kernel
theorem dX9_opensPage_76 : decode cX9_opensPage 76 = .ok (.iload_n 3, 1) := by decide +kernel
theorem dX9_opensPage_77 : decode cX9_opensPage 77 = .ok (.iconst 1, 1) := by decide +kernel
theorem dX9_opensPage_78 : decode cX9_opensPage 78 = .ok (.iadd, 1) := by decide +kernel
theorem dX9_opensPage_79 : decode cX9_opensPage 79 = .ok (.iload_n 2, 1) := by decide +kernel
theorem dX9_opensPage_80 : decode cX9_opensPage 80 = .ok (.ifCond .eq 11, 3) := by decide +kernel
theorem dX9_opensPage_83 : decode cX9_opensPage 83 = .ok (.aload_n 0, 1) := by decide +kernel
theorem dX9_opensPage_84 : decode cX9_opensPage 84 = .ok (.iload_n 1, 1) := by decide +kernel
theorem dX9_opensPage_85 : decode cX9_opensPage 85 = .ok (.invokevirtual 62, 3) := by decide +kernel
theorem dX9_opensPage_88 : decode cX9_opensPage 88 = .ok (.goto 4, 3) := by decide +kernel
theorem dX9_opensPage_91 : decode cX9_opensPage 91 = .ok (.iconst (-1), 1) := by decide +kernel
theorem dX9_opensPage_92 : decode cX9_opensPage 92 = .ok (.iastore, 1) := by decide +kernel
theorem dX9_opensPage_93 : decode cX9_opensPage 93 = .ok (.aload_n 0, 1) := by decide +kernel
theorem dX9_opensPage_94 : decode cX9_opensPage 94 = .ok (.getfield 7, 3) := by decide +kernel
theorem dX9_opensPage_97 : decode cX9_opensPage 97 = .ok (.iload_n 3, 1) := by decide +kernel
theorem dX9_opensPage_98 : decode cX9_opensPage 98 = .ok (.iconst 2, 1) := by decide +kernel
theorem dX9_opensPage_99 : decode cX9_opensPage 99 = .ok (.iadd, 1) := by decide +kernel
theorem dX9_opensPage_100 : decode cX9_opensPage 100 = .ok (.iload_n 2, 1) := by decide +kernel
theorem dX9_opensPage_101 : decode cX9_opensPage 101 = .ok (.ifCond .eq 11, 3) := by decide +kernel
theorem dX9_opensPage_104 : decode cX9_opensPage 104 = .ok (.aload_n 0, 1) := by decide +kernel
theorem dX9_opensPage_105 : decode cX9_opensPage 105 = .ok (.iload_n 1, 1) := by decide +kernel
theorem dX9_opensPage_106 : decode cX9_opensPage 106 = .ok (.invokevirtual 65, 3) := by decide +kernel
theorem dX9_opensPage_109 : decode cX9_opensPage 109 = .ok (.goto 4, 3) := by decide +kernel
theorem dX9_opensPage_112 : decode cX9_opensPage 112 = .ok (.iconst 0, 1) := by decide +kernel
theorem dX9_opensPage_113 : decode cX9_opensPage 113 = .ok (.iastore, 1) := by decide +kernel
theorem dX9_opensPage_114 : decode cX9_opensPage 114 = .ok (.aload_n 0, 1) := by decide +kernel
theorem dX9_opensPage_115 : decode cX9_opensPage 115 = .ok (.getfield 7, 3) := by decide +kernel
theorem dX9_opensPage_118 : decode cX9_opensPage 118 = .ok (.iconst 3, 1) := by decide +kernel
theorem dX9_opensPage_119 : decode cX9_opensPage 119 = .ok (.dup2, 1) := by decide +kernel
theorem dX9_opensPage_120 : decode cX9_opensPage 120 = .ok (.iaload, 1) := by decide +kernel
theorem dX9_opensPage_121 : decode cX9_opensPage 121 = .ok (.iconst 1, 1) := by decide +kernel
theorem dX9_opensPage_122 : decode cX9_opensPage 122 = .ok (.iadd, 1) := by decide +kernel
theorem dX9_opensPage_123 : decode cX9_opensPage 123 = .ok (.iastore, 1) := by decide +kernel
theorem dX9_opensPage_124 : decode cX9_opensPage 124 = .ok (.aload_n 0, 1) := by decide +kernel
theorem dX9_opensPage_125 : decode cX9_opensPage 125 = .ok (.getfield 7, 3) := by decide +kernel
theorem dX9_opensPage_128 : decode cX9_opensPage 128 = .ok (.bipush 78, 2) := by decide +kernel
theorem dX9_opensPage_130 : decode cX9_opensPage 130 = .ok (.iload_n 1, 1) := by decide +kernel
theorem dX9_opensPage_131 : decode cX9_opensPage 131 = .ok (.iadd, 1) := by decide +kernel
theorem dX9_opensPage_132 : decode cX9_opensPage 132 = .ok (.iconst 0, 1) := by decide +kernel
theorem dX9_opensPage_133 : decode cX9_opensPage 133 = .ok (.iastore, 1) := by decide +kernel
theorem dX9_opensPage_134 : decode cX9_opensPage 134 = .ok (.aload_n 0, 1) := by decide +kernel
theorem dX9_opensPage_135 : decode cX9_opensPage 135 = .ok (.getfield 7, 3) := by decide +kernel
theorem dX9_opensPage_138 : decode cX9_opensPage 138 = .ok (.bipush 9, 2) := by decide +kernel
theorem dX9_opensPage_140 : decode cX9_opensPage 140 = .ok (.dup2, 1) := by decide +kernel
theorem dX9_opensPage_141 : decode cX9_opensPage 141 = .ok (.iaload, 1) := by decide +kernel
theorem dX9_opensPage_142 : decode cX9_opensPage 142 = .ok (.iload_n 2, 1) := by decide +kernel
theorem dX9_opensPage_143 : decode cX9_opensPage 143 = .ok (.ifCond .eq 7, 3) := by decide +kernel
theorem dX9_opensPage_146 : decode cX9_opensPage 146 = .ok (.iconst 1, 1) := by decide +kernel
theorem dX9_opensPage_147 : decode cX9_opensPage 147 = .ok (.goto 4, 3) := by decide +kernel
theorem dX9_opensPage_150 : decode cX9_opensPage 150 = .ok (.iconst 0, 1) := by decide +kernel
theorem dX9_opensPage_151 : decode cX9_opensPage 151 = .ok (.iadd, 1) := by decide +kernel
theorem dX9_opensPage_152 : decode cX9_opensPage 152 = .ok (.iastore, 1) := by decide +kernel
theorem dX9_opensPage_153 : decode cX9_opensPage 153 = .ok (.iload_n 2, 1) := by decide +kernel
theorem dX9_opensPage_154 : decode cX9_opensPage 154 = .ok (.ifCond .eq 14, 3) := by decide +kernel
theorem dX9_opensPage_157 : decode cX9_opensPage 157 = .ok (.aload_n 0, 1) := by decide +kernel
theorem dX9_opensPage_158 : decode cX9_opensPage 158 = .ok (.getfield 7, 3) := by decide +kernel
theorem dX9_opensPage_161 : decode cX9_opensPage 161 = .ok (.iconst 0, 1) := by decide +kernel
theorem dX9_opensPage_162 : decode cX9_opensPage 162 = .ok (.iaload, 1) := by decide +kernel
theorem dX9_opensPage_163 : decode cX9_opensPage 163 = .ok (.iconst 1, 1) := by decide +kernel
theorem dX9_opensPage_164 : decode cX9_opensPage 164 = .ok (.isub, 1) := by decide +kernel
theorem dX9_opensPage_165 : decode cX9_opensPage 165 = .ok (.goto 4, 3) := by decide +kernel
theorem dX9_opensPage_168 : decode cX9_opensPage 168 = .ok (.iconst 1, 1) := by decide +kernel
theorem dX9_opensPage_169 : decode cX9_opensPage 169 = .ok (.ireturn, 1) := by decide +kernel
theorem dX9_reachesOthers_0 : decode cX9_reachesOthers 0 = .ok (.iconst 0, 1) := by decide +kernel
theorem dX9_reachesOthers_1 : decode cX9_reachesOthers 1 = .ok (.istore 4, 2) := by decide +kernel
theorem dX9_reachesOthers_3 : decode cX9_reachesOthers 3 = .ok (.iconst 0, 1) := by decide +kernel
theorem dX9_reachesOthers_4 : decode cX9_reachesOthers 4 = .ok (.istore 5, 2) := by decide +kernel
theorem dX9_reachesOthers_6 : decode cX9_reachesOthers 6 = .ok (.iload 5, 2) := by decide +kernel
theorem dX9_reachesOthers_8 : decode cX9_reachesOthers 8 = .ok (.aload_n 0, 1) := by decide +kernel
theorem dX9_reachesOthers_9 : decode cX9_reachesOthers 9 = .ok (.getfield 7, 3) := by decide +kernel
theorem dX9_reachesOthers_12 : decode cX9_reachesOthers 12 = .ok (.iconst 0, 1) := by decide +kernel
theorem dX9_reachesOthers_13 : decode cX9_reachesOthers 13 = .ok (.iaload, 1) := by decide +kernel
theorem dX9_reachesOthers_14 : decode cX9_reachesOthers 14 = .ok (.if_icmp .ge 101, 3) := by decide +kernel
theorem dX9_reachesOthers_17 : decode cX9_reachesOthers 17 = .ok (.iload 5, 2) := by decide +kernel
theorem dX9_reachesOthers_19 : decode cX9_reachesOthers 19 = .ok (.iload_n 1, 1) := by decide +kernel
theorem dX9_reachesOthers_20 : decode cX9_reachesOthers 20 = .ok (.if_icmp .ne 7, 3) := by decide +kernel
theorem dX9_reachesOthers_23 : decode cX9_reachesOthers 23 = .ok (.iconst (-1), 1) := by decide +kernel
theorem dX9_reachesOthers_24 : decode cX9_reachesOthers 24 = .ok (.goto 10, 3) := by decide +kernel
theorem dX9_reachesOthers_27 : decode cX9_reachesOthers 27 = .ok (.aload_n 0, 1) := by decide +kernel
theorem dX9_reachesOthers_28 : decode cX9_reachesOthers 28 = .ok (.iload 5, 2) := by decide +kernel
theorem dX9_reachesOthers_30 : decode cX9_reachesOthers 30 = .ok (.iload_n 2, 1) := by decide +kernel
theorem dX9_reachesOthers_31 : decode cX9_reachesOthers 31 = .ok (.invokevirtual 52, 3) := by decide +kernel
theorem dX9_reachesOthers_34 : decode cX9_reachesOthers 34 = .ok (.istore 6, 2) := by decide +kernel
theorem dX9_reachesOthers_36 : decode cX9_reachesOthers 36 = .ok (.iload 6, 2) := by decide +kernel
theorem dX9_reachesOthers_38 : decode cX9_reachesOthers 38 = .ok (.ifCond .lt 28, 3) := by decide +kernel
theorem dX9_reachesOthers_41 : decode cX9_reachesOthers 41 = .ok (.aload_n 0, 1) := by decide +kernel
theorem dX9_reachesOthers_42 : decode cX9_reachesOthers 42 = .ok (.getfield 7, 3) := by decide +kernel
theorem dX9_reachesOthers_45 : decode cX9_reachesOthers 45 = .ok (.iload 6, 2) := by decide +kernel
theorem dX9_reachesOthers_47 : decode cX9_reachesOthers 47 = .ok (.iconst 1, 1) := by decide +kernel
theorem dX9_reachesOthers_48 : decode cX9_reachesOthers 48 = .ok (.iadd, 1) := by decide +kernel
theorem dX9_reachesOthers_49 : decode cX9_reachesOthers 49 = .ok (.iaload, 1) := by decide +kernel
theorem dX9_reachesOthers_50 : decode cX9_reachesOthers 50 = .ok (.iconst 2, 1) := by decide +kernel
theorem dX9_reachesOthers_51 : decode cX9_reachesOthers 51 = .ok (.if_icmp .ne 15, 3) := by decide +kernel
theorem dX9_reachesOthers_54 : decode cX9_reachesOthers 54 = .ok (.aload_n 0, 1) := by decide +kernel
theorem dX9_reachesOthers_55 : decode cX9_reachesOthers 55 = .ok (.iload 6, 2) := by decide +kernel
theorem dX9_reachesOthers_57 : decode cX9_reachesOthers 57 = .ok (.invokevirtual 44, 3) := by decide +kernel
theorem dX9_reachesOthers_60 : decode cX9_reachesOthers 60 = .ok (.iinc 4 2, 3) := by decide +kernel
theorem dX9_reachesOthers_63 : decode cX9_reachesOthers 63 = .ok (.goto 15, 3) := by decide +kernel
theorem dX9_reachesOthers_66 : decode cX9_reachesOthers 66 = .ok (.iload 6, 2) := by decide +kernel
theorem dX9_reachesOthers_68 : decode cX9_reachesOthers 68 = .ok (.ifCond .lt 10, 3) := by decide +kernel
theorem dX9_reachesOthers_71 : decode cX9_reachesOthers 71 = .ok (.iload_n 3, 1) := by decide +kernel
theorem dX9_reachesOthers_72 : decode cX9_reachesOthers 72 = .ok (.ifCond .eq 6, 3) := by decide +kernel
theorem dX9_reachesOthers_75 : decode cX9_reachesOthers 75 = .ok (.iinc 4 1, 3) := by decide +kernel
theorem dX9_reachesOthers_78 : decode cX9_reachesOthers 78 = .ok (.iload 6, 2) := by decide +kernel
theorem dX9_reachesOthers_80 : decode cX9_reachesOthers 80 = .ok (.ifCond .lt 29, 3) := by decide +kernel
theorem dX9_reachesOthers_83 : decode cX9_reachesOthers 83 = .ok (.aload_n 0, 1) := by decide +kernel
theorem dX9_reachesOthers_84 : decode cX9_reachesOthers 84 = .ok (.getfield 7, 3) := by decide +kernel
theorem dX9_reachesOthers_87 : decode cX9_reachesOthers 87 = .ok (.iload 6, 2) := by decide +kernel
theorem dX9_reachesOthers_89 : decode cX9_reachesOthers 89 = .ok (.iconst 1, 1) := by decide +kernel
theorem dX9_reachesOthers_90 : decode cX9_reachesOthers 90 = .ok (.iadd, 1) := by decide +kernel
theorem dX9_reachesOthers_91 : decode cX9_reachesOthers 91 = .ok (.iconst 1, 1) := by decide +kernel
theorem dX9_reachesOthers_92 : decode cX9_reachesOthers 92 = .ok (.iastore, 1) := by decide +kernel
theorem dX9_reachesOthers_93 : decode cX9_reachesOthers 93 = .ok (.aload_n 0, 1) := by decide +kernel
theorem dX9_reachesOthers_94 : decode cX9_reachesOthers 94 = .ok (.getfield 7, 3) := by decide +kernel
theorem dX9_reachesOthers_97 : decode cX9_reachesOthers 97 = .ok (.iload 6, 2) := by decide +kernel
theorem dX9_reachesOthers_99 : decode cX9_reachesOthers 99 = .ok (.iload_n 3, 1) := by decide +kernel
theorem dX9_reachesOthers_100 : decode cX9_reachesOthers 100 = .ok (.ifCond .eq 7, 3) := by decide +kernel
theorem dX9_reachesOthers_103 : decode cX9_reachesOthers 103 = .ok (.iconst (-1), 1) := by decide +kernel
theorem dX9_reachesOthers_104 : decode cX9_reachesOthers 104 = .ok (.goto 4, 3) := by decide +kernel
theorem dX9_reachesOthers_107 : decode cX9_reachesOthers 107 = .ok (.iload_n 2, 1) := by decide +kernel
theorem dX9_reachesOthers_108 : decode cX9_reachesOthers 108 = .ok (.iastore, 1) := by decide +kernel
theorem dX9_reachesOthers_109 : decode cX9_reachesOthers 109 = .ok (.iinc 5 1, 3) := by decide +kernel
theorem dX9_reachesOthers_112 : decode cX9_reachesOthers 112 = .ok (.goto (-106), 3) := by decide +kernel
theorem dX9_reachesOthers_115 : decode cX9_reachesOthers 115 = .ok (.iload 4, 2) := by decide +kernel
theorem dX9_reachesOthers_117 : decode cX9_reachesOthers 117 = .ok (.ireturn, 1) := by decide +kernel
theorem dX9_misses_0 : decode cX9_misses 0 = .ok (.iload_n 3, 1) := by decide +kernel
theorem dX9_misses_1 : decode cX9_misses 1 = .ok (.ifCond .lt 7, 3) := by decide +kernel
theorem dX9_misses_4 : decode cX9_misses 4 = .ok (.iconst 1, 1) := by decide +kernel
theorem dX9_misses_5 : decode cX9_misses 5 = .ok (.goto 4, 3) := by decide +kernel
theorem dX9_misses_8 : decode cX9_misses 8 = .ok (.iconst 0, 1) := by decide +kernel
theorem dX9_misses_9 : decode cX9_misses 9 = .ok (.istore 4, 2) := by decide +kernel
theorem dX9_misses_11 : decode cX9_misses 11 = .ok (.aload_n 0, 1) := by decide +kernel
theorem dX9_misses_12 : decode cX9_misses 12 = .ok (.iload_n 2, 1) := by decide +kernel
theorem dX9_misses_13 : decode cX9_misses 13 = .ok (.invokevirtual 68, 3) := by decide +kernel
theorem dX9_misses_16 : decode cX9_misses 16 = .ok (.aload_n 0, 1) := by decide +kernel
theorem dX9_misses_17 : decode cX9_misses 17 = .ok (.iload_n 1, 1) := by decide +kernel
theorem dX9_misses_18 : decode cX9_misses 18 = .ok (.iload_n 2, 1) := by decide +kernel
theorem dX9_misses_19 : decode cX9_misses 19 = .ok (.iload 4, 2) := by decide +kernel
theorem dX9_misses_21 : decode cX9_misses 21 = .ok (.invokevirtual 71, 3) := by decide +kernel
theorem dX9_misses_24 : decode cX9_misses 24 = .ok (.iadd, 1) := by decide +kernel
theorem dX9_misses_25 : decode cX9_misses 25 = .ok (.istore 5, 2) := by decide +kernel
theorem dX9_misses_27 : decode cX9_misses 27 = .ok (.aload_n 0, 1) := by decide +kernel
theorem dX9_misses_28 : decode cX9_misses 28 = .ok (.iload_n 1, 1) := by decide +kernel
theorem dX9_misses_29 : decode cX9_misses 29 = .ok (.iload_n 2, 1) := by decide +kernel
theorem dX9_misses_30 : decode cX9_misses 30 = .ok (.invokevirtual 52, 3) := by decide +kernel
theorem dX9_misses_33 : decode cX9_misses 33 = .ok (.istore 6, 2) := by decide +kernel
theorem dX9_misses_35 : decode cX9_misses 35 = .ok (.iload 6, 2) := by decide +kernel
theorem dX9_misses_37 : decode cX9_misses 37 = .ok (.ifCond .ge 11, 3) := by decide +kernel
theorem dX9_misses_40 : decode cX9_misses 40 = .ok (.aload_n 0, 1) := by decide +kernel
theorem dX9_misses_41 : decode cX9_misses 41 = .ok (.iload_n 1, 1) := by decide +kernel
theorem dX9_misses_42 : decode cX9_misses 42 = .ok (.iconst (-1), 1) := by decide +kernel
theorem dX9_misses_43 : decode cX9_misses 43 = .ok (.invokevirtual 52, 3) := by decide +kernel
theorem dX9_misses_46 : decode cX9_misses 46 = .ok (.istore 6, 2) := by decide +kernel
theorem dX9_misses_48 : decode cX9_misses 48 = .ok (.iload 6, 2) := by decide +kernel
theorem dX9_misses_50 : decode cX9_misses 50 = .ok (.ifCond .ge 22, 3) := by decide +kernel
theorem dX9_misses_53 : decode cX9_misses 53 = .ok (.aload_n 0, 1) := by decide +kernel
theorem dX9_misses_54 : decode cX9_misses 54 = .ok (.iload_n 1, 1) := by decide +kernel
theorem dX9_misses_55 : decode cX9_misses 55 = .ok (.invokevirtual 75, 3) := by decide +kernel
theorem dX9_misses_58 : decode cX9_misses 58 = .ok (.istore 6, 2) := by decide +kernel
theorem dX9_misses_60 : decode cX9_misses 60 = .ok (.iload 5, 2) := by decide +kernel
theorem dX9_misses_62 : decode cX9_misses 62 = .ok (.aload_n 0, 1) := by decide +kernel
theorem dX9_misses_63 : decode cX9_misses 63 = .ok (.iload_n 1, 1) := by decide +kernel
theorem dX9_misses_64 : decode cX9_misses 64 = .ok (.iload 6, 2) := by decide +kernel
theorem dX9_misses_66 : decode cX9_misses 66 = .ok (.invokevirtual 78, 3) := by decide +kernel
theorem dX9_misses_69 : decode cX9_misses 69 = .ok (.iadd, 1) := by decide +kernel
theorem dX9_misses_70 : decode cX9_misses 70 = .ok (.istore 5, 2) := by decide +kernel
theorem dX9_misses_72 : decode cX9_misses 72 = .ok (.aload_n 0, 1) := by decide +kernel
theorem dX9_misses_73 : decode cX9_misses 73 = .ok (.getfield 7, 3) := by decide +kernel
theorem dX9_misses_76 : decode cX9_misses 76 = .ok (.iload 6, 2) := by decide +kernel
theorem dX9_misses_78 : decode cX9_misses 78 = .ok (.iload_n 2, 1) := by decide +kernel
theorem dX9_misses_79 : decode cX9_misses 79 = .ok (.iastore, 1) := by decide +kernel
theorem dX9_misses_80 : decode cX9_misses 80 = .ok (.aload_n 0, 1) := by decide +kernel
theorem dX9_misses_81 : decode cX9_misses 81 = .ok (.getfield 7, 3) := by decide +kernel
theorem dX9_misses_84 : decode cX9_misses 84 = .ok (.iload 6, 2) := by decide +kernel
theorem dX9_misses_86 : decode cX9_misses 86 = .ok (.iconst 1, 1) := by decide +kernel
theorem dX9_misses_87 : decode cX9_misses 87 = .ok (.iadd, 1) := by decide +kernel
theorem dX9_misses_88 : decode cX9_misses 88 = .ok (.iload 4, 2) := by decide +kernel
theorem dX9_misses_90 : decode cX9_misses 90 = .ok (.ifCond .eq 7, 3) := by decide +kernel
theorem dX9_misses_93 : decode cX9_misses 93 = .ok (.iconst 2, 1) := by decide +kernel
theorem dX9_misses_94 : decode cX9_misses 94 = .ok (.goto 4, 3) := by decide +kernel
theorem dX9_misses_97 : decode cX9_misses 97 = .ok (.iconst 1, 1) := by decide +kernel
theorem dX9_misses_98 : decode cX9_misses 98 = .ok (.iastore, 1) := by decide +kernel
theorem dX9_misses_99 : decode cX9_misses 99 = .ok (.aload_n 0, 1) := by decide +kernel
theorem dX9_misses_100 : decode cX9_misses 100 = .ok (.getfield 7, 3) := by decide +kernel
theorem dX9_misses_103 : decode cX9_misses 103 = .ok (.iload 6, 2) := by decide +kernel
theorem dX9_misses_105 : decode cX9_misses 105 = .ok (.iconst 2, 1) := by decide +kernel
theorem dX9_misses_106 : decode cX9_misses 106 = .ok (.iadd, 1) := by decide +kernel
theorem dX9_misses_107 : decode cX9_misses 107 = .ok (.aload_n 0, 1) := by decide +kernel
theorem dX9_misses_108 : decode cX9_misses 108 = .ok (.getfield 7, 3) := by decide +kernel
theorem dX9_misses_111 : decode cX9_misses 111 = .ok (.bipush 14, 2) := by decide +kernel
theorem dX9_misses_113 : decode cX9_misses 113 = .ok (.iload_n 2, 1) := by decide +kernel
theorem dX9_misses_114 : decode cX9_misses 114 = .ok (.iadd, 1) := by decide +kernel
theorem dX9_misses_115 : decode cX9_misses 115 = .ok (.iaload, 1) := by decide +kernel
theorem dX9_misses_116 : decode cX9_misses 116 = .ok (.iastore, 1) := by decide +kernel
theorem dX9_misses_117 : decode cX9_misses 117 = .ok (.aload_n 0, 1) := by decide +kernel
theorem dX9_misses_118 : decode cX9_misses 118 = .ok (.iload_n 2, 1) := by decide +kernel
theorem dX9_misses_119 : decode cX9_misses 119 = .ok (.invokevirtual 48, 3) := by decide +kernel
theorem dX9_misses_122 : decode cX9_misses 122 = .ok (.istore 7, 2) := by decide +kernel
theorem dX9_misses_124 : decode cX9_misses 124 = .ok (.aload_n 0, 1) := by decide +kernel
theorem dX9_misses_125 : decode cX9_misses 125 = .ok (.getfield 7, 3) := by decide +kernel
theorem dX9_misses_128 : decode cX9_misses 128 = .ok (.iload 7, 2) := by decide +kernel
theorem dX9_misses_130 : decode cX9_misses 130 = .ok (.iconst 1, 1) := by decide +kernel
theorem dX9_misses_131 : decode cX9_misses 131 = .ok (.iadd, 1) := by decide +kernel
theorem dX9_misses_132 : decode cX9_misses 132 = .ok (.iload 4, 2) := by decide +kernel
theorem dX9_misses_134 : decode cX9_misses 134 = .ok (.ifCond .eq 7, 3) := by decide +kernel
theorem dX9_misses_137 : decode cX9_misses 137 = .ok (.iload_n 1, 1) := by decide +kernel
theorem dX9_misses_138 : decode cX9_misses 138 = .ok (.goto 4, 3) := by decide +kernel
theorem dX9_misses_141 : decode cX9_misses 141 = .ok (.iconst (-1), 1) := by decide +kernel
theorem dX9_misses_142 : decode cX9_misses 142 = .ok (.iastore, 1) := by decide +kernel
theorem dX9_misses_143 : decode cX9_misses 143 = .ok (.aload_n 0, 1) := by decide +kernel
theorem dX9_misses_144 : decode cX9_misses 144 = .ok (.getfield 7, 3) := by decide +kernel
theorem dX9_misses_147 : decode cX9_misses 147 = .ok (.iload 7, 2) := by decide +kernel
theorem dX9_misses_149 : decode cX9_misses 149 = .ok (.iconst 2, 1) := by decide +kernel
theorem dX9_misses_150 : decode cX9_misses 150 = .ok (.iadd, 1) := by decide +kernel
theorem dX9_misses_151 : decode cX9_misses 151 = .ok (.iload 4, 2) := by decide +kernel
theorem dX9_misses_153 : decode cX9_misses 153 = .ok (.ifCond .eq 7, 3) := by decide +kernel
theorem dX9_misses_156 : decode cX9_misses 156 = .ok (.iconst 0, 1) := by decide +kernel
theorem dX9_misses_157 : decode cX9_misses 157 = .ok (.goto 8, 3) := by decide +kernel
theorem dX9_misses_160 : decode cX9_misses 160 = .ok (.aload_n 0, 1) := by decide +kernel
theorem dX9_misses_161 : decode cX9_misses 161 = .ok (.iload_n 2, 1) := by decide +kernel
theorem dX9_misses_162 : decode cX9_misses 162 = .ok (.invokevirtual 65, 3) := by decide +kernel
theorem dX9_misses_165 : decode cX9_misses 165 = .ok (.iastore, 1) := by decide +kernel
theorem dX9_misses_166 : decode cX9_misses 166 = .ok (.aload_n 0, 1) := by decide +kernel
theorem dX9_misses_167 : decode cX9_misses 167 = .ok (.getfield 7, 3) := by decide +kernel
theorem dX9_misses_170 : decode cX9_misses 170 = .ok (.iload 7, 2) := by decide +kernel
theorem dX9_misses_172 : decode cX9_misses 172 = .ok (.iconst 3, 1) := by decide +kernel
theorem dX9_misses_173 : decode cX9_misses 173 = .ok (.iadd, 1) := by decide +kernel
theorem dX9_misses_174 : decode cX9_misses 174 = .ok (.aload_n 0, 1) := by decide +kernel
theorem dX9_misses_175 : decode cX9_misses 175 = .ok (.getfield 7, 3) := by decide +kernel
theorem dX9_misses_178 : decode cX9_misses 178 = .ok (.bipush 13, 2) := by decide +kernel
theorem dX9_misses_180 : decode cX9_misses 180 = .ok (.iaload, 1) := by decide +kernel
theorem dX9_misses_181 : decode cX9_misses 181 = .ok (.iconst 1, 1) := by decide +kernel
theorem dX9_misses_182 : decode cX9_misses 182 = .ok (.iadd, 1) := by decide +kernel
theorem dX9_misses_183 : decode cX9_misses 183 = .ok (.iastore, 1) := by decide +kernel
theorem dX9_misses_184 : decode cX9_misses 184 = .ok (.iload 5, 2) := by decide +kernel
theorem dX9_misses_186 : decode cX9_misses 186 = .ok (.ireturn, 1) := by decide +kernel
theorem dX9_serves_0 : decode cX9_serves 0 = .ok (.aload_n 0, 1) := by decide +kernel
theorem dX9_serves_1 : decode cX9_serves 1 = .ok (.iload_n 1, 1) := by decide +kernel
theorem dX9_serves_2 : decode cX9_serves 2 = .ok (.iload_n 2, 1) := by decide +kernel
theorem dX9_serves_3 : decode cX9_serves 3 = .ok (.iload_n 3, 1) := by decide +kernel
theorem dX9_serves_4 : decode cX9_serves 4 = .ok (.ifCond .lt 7, 3) := by decide +kernel
theorem dX9_serves_7 : decode cX9_serves 7 = .ok (.iconst 1, 1) := by decide +kernel
theorem dX9_serves_8 : decode cX9_serves 8 = .ok (.goto 4, 3) := by decide +kernel
theorem dX9_serves_11 : decode cX9_serves 11 = .ok (.iconst 0, 1) := by decide +kernel
theorem dX9_serves_12 : decode cX9_serves 12 = .ok (.invokevirtual 81, 3) := by decide +kernel
theorem dX9_serves_15 : decode cX9_serves 15 = .ok (.istore 4, 2) := by decide +kernel
theorem dX9_serves_17 : decode cX9_serves 17 = .ok (.iload 4, 2) := by decide +kernel
theorem dX9_serves_19 : decode cX9_serves 19 = .ok (.ifCond .eq 7, 3) := by decide +kernel
theorem dX9_serves_22 : decode cX9_serves 22 = .ok (.iconst 0, 1) := by decide +kernel
theorem dX9_serves_23 : decode cX9_serves 23 = .ok (.goto 10, 3) := by decide +kernel
theorem dX9_serves_26 : decode cX9_serves 26 = .ok (.aload_n 0, 1) := by decide +kernel
theorem dX9_serves_27 : decode cX9_serves 27 = .ok (.iload_n 1, 1) := by decide +kernel
theorem dX9_serves_28 : decode cX9_serves 28 = .ok (.iload_n 2, 1) := by decide +kernel
theorem dX9_serves_29 : decode cX9_serves 29 = .ok (.iload_n 3, 1) := by decide +kernel
theorem dX9_serves_30 : decode cX9_serves 30 = .ok (.invokevirtual 85, 3) := by decide +kernel
theorem dX9_serves_33 : decode cX9_serves 33 = .ok (.istore 5, 2) := by decide +kernel
theorem dX9_serves_35 : decode cX9_serves 35 = .ok (.aload_n 0, 1) := by decide +kernel
theorem dX9_serves_36 : decode cX9_serves 36 = .ok (.iload_n 1, 1) := by decide +kernel
end
section
theorem dX9_serves_37 : decode cX9_serves 37 = .ok (.iload_n 2, 1) := by decide +kernel
theorem dX9_serves_38 : decode cX9_serves 38 = .ok (.invokevirtual 52, 3) := by decide +kernel
theorem dX9_serves_41 : decode cX9_serves 41 = .ok (.istore 6, 2) := by decide +kernel
theorem dX9_serves_43 : decode cX9_serves 43 = .ok (.iload_n 3, 1) := by decide +kernel
theorem dX9_serves_44 : decode cX9_serves 44 = .ok (.ifCond .lt 23, 3) := by decide +kernel
theorem dX9_serves_47 : decode cX9_serves 47 = .ok (.aload_n 0, 1) := by decide +kernel
theorem dX9_serves_48 : decode cX9_serves 48 = .ok (.getfield 7, 3) := by decide +kernel
theorem dX9_serves_51 : decode cX9_serves 51 = .ok (.iload 6, 2) := by decide +kernel
theorem dX9_serves_53 : decode cX9_serves 53 = .ok (.iconst 2, 1) := by decide +kernel
theorem dX9_serves_54 : decode cX9_serves 54 = .ok (.iadd, 1) := by decide +kernel
theorem dX9_serves_55 : decode cX9_serves 55 = .ok (.iload_n 3, 1) := by decide +kernel
theorem dX9_serves_56 : decode cX9_serves 56 = .ok (.iastore, 1) := by decide +kernel
theorem dX9_serves_57 : decode cX9_serves 57 = .ok (.aload_n 0, 1) := by decide +kernel
theorem dX9_serves_58 : decode cX9_serves 58 = .ok (.getfield 7, 3) := by decide +kernel
theorem dX9_serves_61 : decode cX9_serves 61 = .ok (.bipush 46, 2) := by decide +kernel
theorem dX9_serves_63 : decode cX9_serves 63 = .ok (.iload_n 2, 1) := by decide +kernel
theorem dX9_serves_64 : decode cX9_serves 64 = .ok (.iadd, 1) := by decide +kernel
theorem dX9_serves_65 : decode cX9_serves 65 = .ok (.iload_n 3, 1) := by decide +kernel
theorem dX9_serves_66 : decode cX9_serves 66 = .ok (.iastore, 1) := by decide +kernel
theorem dX9_serves_67 : decode cX9_serves 67 = .ok (.aload_n 0, 1) := by decide +kernel
theorem dX9_serves_68 : decode cX9_serves 68 = .ok (.getfield 7, 3) := by decide +kernel
theorem dX9_serves_71 : decode cX9_serves 71 = .ok (.bipush 13, 2) := by decide +kernel
theorem dX9_serves_73 : decode cX9_serves 73 = .ok (.dup2, 1) := by decide +kernel
theorem dX9_serves_74 : decode cX9_serves 74 = .ok (.iaload, 1) := by decide +kernel
theorem dX9_serves_75 : decode cX9_serves 75 = .ok (.iconst 1, 1) := by decide +kernel
theorem dX9_serves_76 : decode cX9_serves 76 = .ok (.iadd, 1) := by decide +kernel
theorem dX9_serves_77 : decode cX9_serves 77 = .ok (.iastore, 1) := by decide +kernel
theorem dX9_serves_78 : decode cX9_serves 78 = .ok (.aload_n 0, 1) := by decide +kernel
theorem dX9_serves_79 : decode cX9_serves 79 = .ok (.getfield 7, 3) := by decide +kernel
theorem dX9_serves_82 : decode cX9_serves 82 = .ok (.iload 6, 2) := by decide +kernel
theorem dX9_serves_84 : decode cX9_serves 84 = .ok (.iconst 3, 1) := by decide +kernel
theorem dX9_serves_85 : decode cX9_serves 85 = .ok (.iadd, 1) := by decide +kernel
theorem dX9_serves_86 : decode cX9_serves 86 = .ok (.aload_n 0, 1) := by decide +kernel
theorem dX9_serves_87 : decode cX9_serves 87 = .ok (.getfield 7, 3) := by decide +kernel
theorem dX9_serves_90 : decode cX9_serves 90 = .ok (.bipush 13, 2) := by decide +kernel
theorem dX9_serves_92 : decode cX9_serves 92 = .ok (.iaload, 1) := by decide +kernel
theorem dX9_serves_93 : decode cX9_serves 93 = .ok (.iastore, 1) := by decide +kernel
theorem dX9_serves_94 : decode cX9_serves 94 = .ok (.aload_n 0, 1) := by decide +kernel
theorem dX9_serves_95 : decode cX9_serves 95 = .ok (.getfield 7, 3) := by decide +kernel
theorem dX9_serves_98 : decode cX9_serves 98 = .ok (.bipush 6, 2) := by decide +kernel
theorem dX9_serves_100 : decode cX9_serves 100 = .ok (.dup2, 1) := by decide +kernel
theorem dX9_serves_101 : decode cX9_serves 101 = .ok (.iaload, 1) := by decide +kernel
theorem dX9_serves_102 : decode cX9_serves 102 = .ok (.iload 4, 2) := by decide +kernel
theorem dX9_serves_104 : decode cX9_serves 104 = .ok (.ifCond .eq 7, 3) := by decide +kernel
theorem dX9_serves_107 : decode cX9_serves 107 = .ok (.iconst 1, 1) := by decide +kernel
theorem dX9_serves_108 : decode cX9_serves 108 = .ok (.goto 4, 3) := by decide +kernel
theorem dX9_serves_111 : decode cX9_serves 111 = .ok (.iconst 0, 1) := by decide +kernel
theorem dX9_serves_112 : decode cX9_serves 112 = .ok (.iadd, 1) := by decide +kernel
theorem dX9_serves_113 : decode cX9_serves 113 = .ok (.iastore, 1) := by decide +kernel
theorem dX9_serves_114 : decode cX9_serves 114 = .ok (.aload_n 0, 1) := by decide +kernel
theorem dX9_serves_115 : decode cX9_serves 115 = .ok (.getfield 7, 3) := by decide +kernel
theorem dX9_serves_118 : decode cX9_serves 118 = .ok (.bipush 7, 2) := by decide +kernel
theorem dX9_serves_120 : decode cX9_serves 120 = .ok (.dup2, 1) := by decide +kernel
theorem dX9_serves_121 : decode cX9_serves 121 = .ok (.iaload, 1) := by decide +kernel
theorem dX9_serves_122 : decode cX9_serves 122 = .ok (.iload 4, 2) := by decide +kernel
theorem dX9_serves_124 : decode cX9_serves 124 = .ok (.ifCond .eq 7, 3) := by decide +kernel
theorem dX9_serves_127 : decode cX9_serves 127 = .ok (.iconst 0, 1) := by decide +kernel
theorem dX9_serves_128 : decode cX9_serves 128 = .ok (.goto 4, 3) := by decide +kernel
theorem dX9_serves_131 : decode cX9_serves 131 = .ok (.iconst 1, 1) := by decide +kernel
theorem dX9_serves_132 : decode cX9_serves 132 = .ok (.iadd, 1) := by decide +kernel
theorem dX9_serves_133 : decode cX9_serves 133 = .ok (.iastore, 1) := by decide +kernel
theorem dX9_serves_134 : decode cX9_serves 134 = .ok (.aload_n 0, 1) := by decide +kernel
theorem dX9_serves_135 : decode cX9_serves 135 = .ok (.getfield 7, 3) := by decide +kernel
theorem dX9_serves_138 : decode cX9_serves 138 = .ok (.iconst 5, 1) := by decide +kernel
theorem dX9_serves_139 : decode cX9_serves 139 = .ok (.dup2, 1) := by decide +kernel
theorem dX9_serves_140 : decode cX9_serves 140 = .ok (.iaload, 1) := by decide +kernel
theorem dX9_serves_141 : decode cX9_serves 141 = .ok (.iload 5, 2) := by decide +kernel
theorem dX9_serves_143 : decode cX9_serves 143 = .ok (.iadd, 1) := by decide +kernel
theorem dX9_serves_144 : decode cX9_serves 144 = .ok (.iastore, 1) := by decide +kernel
theorem dX9_serves_145 : decode cX9_serves 145 = .ok (.bipush 71, 2) := by decide +kernel
theorem dX9_serves_147 : decode cX9_serves 147 = .ok (.istore 7, 2) := by decide +kernel
theorem dX9_serves_149 : decode cX9_serves 149 = .ok (.iload 7, 2) := by decide +kernel
theorem dX9_serves_151 : decode cX9_serves 151 = .ok (.iconst 5, 1) := by decide +kernel
theorem dX9_serves_152 : decode cX9_serves 152 = .ok (.if_icmp .le 34, 3) := by decide +kernel
theorem dX9_serves_155 : decode cX9_serves 155 = .ok (.aload_n 0, 1) := by decide +kernel
theorem dX9_serves_156 : decode cX9_serves 156 = .ok (.getfield 7, 3) := by decide +kernel
theorem dX9_serves_159 : decode cX9_serves 159 = .ok (.sipush 384, 3) := by decide +kernel
theorem dX9_serves_162 : decode cX9_serves 162 = .ok (.iload 7, 2) := by decide +kernel
theorem dX9_serves_164 : decode cX9_serves 164 = .ok (.iadd, 1) := by decide +kernel
theorem dX9_serves_165 : decode cX9_serves 165 = .ok (.aload_n 0, 1) := by decide +kernel
theorem dX9_serves_166 : decode cX9_serves 166 = .ok (.getfield 7, 3) := by decide +kernel
theorem dX9_serves_169 : decode cX9_serves 169 = .ok (.sipush 384, 3) := by decide +kernel
theorem dX9_serves_172 : decode cX9_serves 172 = .ok (.iload 7, 2) := by decide +kernel
theorem dX9_serves_174 : decode cX9_serves 174 = .ok (.iadd, 1) := by decide +kernel
theorem dX9_serves_175 : decode cX9_serves 175 = .ok (.bipush 6, 2) := by decide +kernel
theorem dX9_serves_177 : decode cX9_serves 177 = .ok (.isub, 1) := by decide +kernel
theorem dX9_serves_178 : decode cX9_serves 178 = .ok (.iaload, 1) := by decide +kernel
theorem dX9_serves_179 : decode cX9_serves 179 = .ok (.iastore, 1) := by decide +kernel
theorem dX9_serves_180 : decode cX9_serves 180 = .ok (.iinc 7 (-1), 3) := by decide +kernel
theorem dX9_serves_183 : decode cX9_serves 183 = .ok (.goto (-34), 3) := by decide +kernel
theorem dX9_serves_186 : decode cX9_serves 186 = .ok (.aload_n 0, 1) := by decide +kernel
theorem dX9_serves_187 : decode cX9_serves 187 = .ok (.getfield 7, 3) := by decide +kernel
theorem dX9_serves_190 : decode cX9_serves 190 = .ok (.sipush 384, 3) := by decide +kernel
theorem dX9_serves_193 : decode cX9_serves 193 = .ok (.iload_n 1, 1) := by decide +kernel
theorem dX9_serves_194 : decode cX9_serves 194 = .ok (.iastore, 1) := by decide +kernel
theorem dX9_serves_195 : decode cX9_serves 195 = .ok (.aload_n 0, 1) := by decide +kernel
theorem dX9_serves_196 : decode cX9_serves 196 = .ok (.getfield 7, 3) := by decide +kernel
theorem dX9_serves_199 : decode cX9_serves 199 = .ok (.sipush 385, 3) := by decide +kernel
theorem dX9_serves_202 : decode cX9_serves 202 = .ok (.iload_n 2, 1) := by decide +kernel
theorem dX9_serves_203 : decode cX9_serves 203 = .ok (.iastore, 1) := by decide +kernel
theorem dX9_serves_204 : decode cX9_serves 204 = .ok (.aload_n 0, 1) := by decide +kernel
theorem dX9_serves_205 : decode cX9_serves 205 = .ok (.getfield 7, 3) := by decide +kernel
theorem dX9_serves_208 : decode cX9_serves 208 = .ok (.sipush 386, 3) := by decide +kernel
theorem dX9_serves_211 : decode cX9_serves 211 = .ok (.iload_n 3, 1) := by decide +kernel
theorem dX9_serves_212 : decode cX9_serves 212 = .ok (.ifCond .lt 7, 3) := by decide +kernel
theorem dX9_serves_215 : decode cX9_serves 215 = .ok (.iconst 1, 1) := by decide +kernel
theorem dX9_serves_216 : decode cX9_serves 216 = .ok (.goto 4, 3) := by decide +kernel
theorem dX9_serves_219 : decode cX9_serves 219 = .ok (.iconst 0, 1) := by decide +kernel
theorem dX9_serves_220 : decode cX9_serves 220 = .ok (.iastore, 1) := by decide +kernel
theorem dX9_serves_221 : decode cX9_serves 221 = .ok (.aload_n 0, 1) := by decide +kernel
theorem dX9_serves_222 : decode cX9_serves 222 = .ok (.getfield 7, 3) := by decide +kernel
theorem dX9_serves_225 : decode cX9_serves 225 = .ok (.sipush 387, 3) := by decide +kernel
theorem dX9_serves_228 : decode cX9_serves 228 = .ok (.aload_n 0, 1) := by decide +kernel
theorem dX9_serves_229 : decode cX9_serves 229 = .ok (.getfield 7, 3) := by decide +kernel
theorem dX9_serves_232 : decode cX9_serves 232 = .ok (.iload 6, 2) := by decide +kernel
theorem dX9_serves_234 : decode cX9_serves 234 = .ok (.iconst 2, 1) := by decide +kernel
theorem dX9_serves_235 : decode cX9_serves 235 = .ok (.iadd, 1) := by decide +kernel
theorem dX9_serves_236 : decode cX9_serves 236 = .ok (.iaload, 1) := by decide +kernel
theorem dX9_serves_237 : decode cX9_serves 237 = .ok (.iastore, 1) := by decide +kernel
theorem dX9_serves_238 : decode cX9_serves 238 = .ok (.aload_n 0, 1) := by decide +kernel
theorem dX9_serves_239 : decode cX9_serves 239 = .ok (.getfield 7, 3) := by decide +kernel
theorem dX9_serves_242 : decode cX9_serves 242 = .ok (.sipush 388, 3) := by decide +kernel
theorem dX9_serves_245 : decode cX9_serves 245 = .ok (.iload 5, 2) := by decide +kernel
theorem dX9_serves_247 : decode cX9_serves 247 = .ok (.iastore, 1) := by decide +kernel
theorem dX9_serves_248 : decode cX9_serves 248 = .ok (.aload_n 0, 1) := by decide +kernel
theorem dX9_serves_249 : decode cX9_serves 249 = .ok (.getfield 7, 3) := by decide +kernel
theorem dX9_serves_252 : decode cX9_serves 252 = .ok (.sipush 389, 3) := by decide +kernel
theorem dX9_serves_255 : decode cX9_serves 255 = .ok (.aload_n 0, 1) := by decide +kernel
theorem dX9_serves_256 : decode cX9_serves 256 = .ok (.getfield 7, 3) := by decide +kernel
theorem dX9_serves_259 : decode cX9_serves 259 = .ok (.iconst 4, 1) := by decide +kernel
theorem dX9_serves_260 : decode cX9_serves 260 = .ok (.iaload, 1) := by decide +kernel
theorem dX9_serves_261 : decode cX9_serves 261 = .ok (.iastore, 1) := by decide +kernel
theorem dX9_serves_262 : decode cX9_serves 262 = .ok (.aload_n 0, 1) := by decide +kernel
theorem dX9_serves_263 : decode cX9_serves 263 = .ok (.getfield 7, 3) := by decide +kernel
theorem dX9_serves_266 : decode cX9_serves 266 = .ok (.bipush 12, 2) := by decide +kernel
theorem dX9_serves_268 : decode cX9_serves 268 = .ok (.dup2, 1) := by decide +kernel
theorem dX9_serves_269 : decode cX9_serves 269 = .ok (.iaload, 1) := by decide +kernel
theorem dX9_serves_270 : decode cX9_serves 270 = .ok (.aload_n 0, 1) := by decide +kernel
theorem dX9_serves_271 : decode cX9_serves 271 = .ok (.getfield 7, 3) := by decide +kernel
theorem dX9_serves_274 : decode cX9_serves 274 = .ok (.bipush 12, 2) := by decide +kernel
theorem dX9_serves_276 : decode cX9_serves 276 = .ok (.iaload, 1) := by decide +kernel
theorem dX9_serves_277 : decode cX9_serves 277 = .ok (.bipush 12, 2) := by decide +kernel
theorem dX9_serves_279 : decode cX9_serves 279 = .ok (.if_icmp .ge 7, 3) := by decide +kernel
theorem dX9_serves_282 : decode cX9_serves 282 = .ok (.iconst 1, 1) := by decide +kernel
theorem dX9_serves_283 : decode cX9_serves 283 = .ok (.goto 4, 3) := by decide +kernel
theorem dX9_serves_286 : decode cX9_serves 286 = .ok (.iconst 0, 1) := by decide +kernel
theorem dX9_serves_287 : decode cX9_serves 287 = .ok (.iadd, 1) := by decide +kernel
theorem dX9_serves_288 : decode cX9_serves 288 = .ok (.iastore, 1) := by decide +kernel
theorem dX9_serves_289 : decode cX9_serves 289 = .ok (.iload 5, 2) := by decide +kernel
theorem dX9_serves_291 : decode cX9_serves 291 = .ok (.ireturn, 1) := by decide +kernel
theorem dX9_tick_0 : decode cX9_tick 0 = .ok (.iconst 0, 1) := by decide +kernel
theorem dX9_tick_1 : decode cX9_tick 1 = .ok (.istore_n 1, 1) := by decide +kernel
theorem dX9_tick_2 : decode cX9_tick 2 = .ok (.iconst 0, 1) := by decide +kernel
theorem dX9_tick_3 : decode cX9_tick 3 = .ok (.istore_n 2, 1) := by decide +kernel
theorem dX9_tick_4 : decode cX9_tick 4 = .ok (.iconst 0, 1) := by decide +kernel
theorem dX9_tick_5 : decode cX9_tick 5 = .ok (.istore_n 3, 1) := by decide +kernel
theorem dX9_tick_6 : decode cX9_tick 6 = .ok (.iload_n 3, 1) := by decide +kernel
theorem dX9_tick_7 : decode cX9_tick 7 = .ok (.aload_n 0, 1) := by decide +kernel
theorem dX9_tick_8 : decode cX9_tick 8 = .ok (.getfield 7, 3) := by decide +kernel
theorem dX9_tick_11 : decode cX9_tick 11 = .ok (.iconst 0, 1) := by decide +kernel
theorem dX9_tick_12 : decode cX9_tick 12 = .ok (.iaload, 1) := by decide +kernel
theorem dX9_tick_13 : decode cX9_tick 13 = .ok (.if_icmp .ge 163, 3) := by decide +kernel
theorem dX9_tick_16 : decode cX9_tick 16 = .ok (.aload_n 0, 1) := by decide +kernel
theorem dX9_tick_17 : decode cX9_tick 17 = .ok (.getfield 7, 3) := by decide +kernel
theorem dX9_tick_20 : decode cX9_tick 20 = .ok (.iconst 4, 1) := by decide +kernel
theorem dX9_tick_21 : decode cX9_tick 21 = .ok (.iaload, 1) := by decide +kernel
theorem dX9_tick_22 : decode cX9_tick 22 = .ok (.iload_n 3, 1) := by decide +kernel
theorem dX9_tick_23 : decode cX9_tick 23 = .ok (.iadd, 1) := by decide +kernel
theorem dX9_tick_24 : decode cX9_tick 24 = .ok (.aload_n 0, 1) := by decide +kernel
theorem dX9_tick_25 : decode cX9_tick 25 = .ok (.getfield 7, 3) := by decide +kernel
theorem dX9_tick_28 : decode cX9_tick 28 = .ok (.iconst 0, 1) := by decide +kernel
theorem dX9_tick_29 : decode cX9_tick 29 = .ok (.iaload, 1) := by decide +kernel
theorem dX9_tick_30 : decode cX9_tick 30 = .ok (.irem, 1) := by decide +kernel
theorem dX9_tick_31 : decode cX9_tick 31 = .ok (.istore 4, 2) := by decide +kernel
theorem dX9_tick_33 : decode cX9_tick 33 = .ok (.sipush 366, 3) := by decide +kernel
theorem dX9_tick_36 : decode cX9_tick 36 = .ok (.iconst 3, 1) := by decide +kernel
theorem dX9_tick_37 : decode cX9_tick 37 = .ok (.iload 4, 2) := by decide +kernel
theorem dX9_tick_39 : decode cX9_tick 39 = .ok (.imul, 1) := by decide +kernel
theorem dX9_tick_40 : decode cX9_tick 40 = .ok (.iadd, 1) := by decide +kernel
theorem dX9_tick_41 : decode cX9_tick 41 = .ok (.istore 5, 2) := by decide +kernel
theorem dX9_tick_43 : decode cX9_tick 43 = .ok (.aload_n 0, 1) := by decide +kernel
theorem dX9_tick_44 : decode cX9_tick 44 = .ok (.getfield 7, 3) := by decide +kernel
theorem dX9_tick_47 : decode cX9_tick 47 = .ok (.iload 5, 2) := by decide +kernel
theorem dX9_tick_49 : decode cX9_tick 49 = .ok (.iaload, 1) := by decide +kernel
theorem dX9_tick_50 : decode cX9_tick 50 = .ok (.istore 6, 2) := by decide +kernel
theorem dX9_tick_52 : decode cX9_tick 52 = .ok (.iload 6, 2) := by decide +kernel
theorem dX9_tick_54 : decode cX9_tick 54 = .ok (.ifCond .lt 116, 3) := by decide +kernel
theorem dX9_tick_57 : decode cX9_tick 57 = .ok (.aload_n 0, 1) := by decide +kernel
theorem dX9_tick_58 : decode cX9_tick 58 = .ok (.iload 4, 2) := by decide +kernel
theorem dX9_tick_60 : decode cX9_tick 60 = .ok (.iload 6, 2) := by decide +kernel
theorem dX9_tick_62 : decode cX9_tick 62 = .ok (.aload_n 0, 1) := by decide +kernel
theorem dX9_tick_63 : decode cX9_tick 63 = .ok (.getfield 7, 3) := by decide +kernel
theorem dX9_tick_66 : decode cX9_tick 66 = .ok (.iload 5, 2) := by decide +kernel
theorem dX9_tick_68 : decode cX9_tick 68 = .ok (.iconst 1, 1) := by decide +kernel
theorem dX9_tick_69 : decode cX9_tick 69 = .ok (.iadd, 1) := by decide +kernel
theorem dX9_tick_70 : decode cX9_tick 70 = .ok (.iaload, 1) := by decide +kernel
theorem dX9_tick_71 : decode cX9_tick 71 = .ok (.ifCond .lt 7, 3) := by decide +kernel
theorem dX9_tick_74 : decode cX9_tick 74 = .ok (.iconst 1, 1) := by decide +kernel
theorem dX9_tick_75 : decode cX9_tick 75 = .ok (.goto 4, 3) := by decide +kernel
theorem dX9_tick_78 : decode cX9_tick 78 = .ok (.iconst 0, 1) := by decide +kernel
theorem dX9_tick_79 : decode cX9_tick 79 = .ok (.invokevirtual 81, 3) := by decide +kernel
theorem dX9_tick_82 : decode cX9_tick 82 = .ok (.istore 7, 2) := by decide +kernel
theorem dX9_tick_84 : decode cX9_tick 84 = .ok (.iload 7, 2) := by decide +kernel
theorem dX9_tick_86 : decode cX9_tick 86 = .ok (.ifCond .ne 12, 3) := by decide +kernel
theorem dX9_tick_89 : decode cX9_tick 89 = .ok (.iload_n 1, 1) := by decide +kernel
theorem dX9_tick_90 : decode cX9_tick 90 = .ok (.iload 6, 2) := by decide +kernel
theorem dX9_tick_92 : decode cX9_tick 92 = .ok (.iushr, 1) := by decide +kernel
theorem dX9_tick_93 : decode cX9_tick 93 = .ok (.iconst 1, 1) := by decide +kernel
theorem dX9_tick_94 : decode cX9_tick 94 = .ok (.iand, 1) := by decide +kernel
theorem dX9_tick_95 : decode cX9_tick 95 = .ok (.ifCond .ne 51, 3) := by decide +kernel
theorem dX9_tick_98 : decode cX9_tick 98 = .ok (.iload_n 1, 1) := by decide +kernel
theorem dX9_tick_99 : decode cX9_tick 99 = .ok (.iload 7, 2) := by decide +kernel
theorem dX9_tick_101 : decode cX9_tick 101 = .ok (.ifCond .eq 7, 3) := by decide +kernel
theorem dX9_tick_104 : decode cX9_tick 104 = .ok (.iconst 0, 1) := by decide +kernel
theorem dX9_tick_105 : decode cX9_tick 105 = .ok (.goto 7, 3) := by decide +kernel
theorem dX9_tick_108 : decode cX9_tick 108 = .ok (.iconst 1, 1) := by decide +kernel
theorem dX9_tick_109 : decode cX9_tick 109 = .ok (.iload 6, 2) := by decide +kernel
theorem dX9_tick_111 : decode cX9_tick 111 = .ok (.ishl, 1) := by decide +kernel
theorem dX9_tick_112 : decode cX9_tick 112 = .ok (.ior, 1) := by decide +kernel
theorem dX9_tick_113 : decode cX9_tick 113 = .ok (.istore_n 1, 1) := by decide +kernel
theorem dX9_tick_114 : decode cX9_tick 114 = .ok (.aload_n 0, 1) := by decide +kernel
theorem dX9_tick_115 : decode cX9_tick 115 = .ok (.iload 4, 2) := by decide +kernel
theorem dX9_tick_117 : decode cX9_tick 117 = .ok (.iload 6, 2) := by decide +kernel
theorem dX9_tick_119 : decode cX9_tick 119 = .ok (.aload_n 0, 1) := by decide +kernel
theorem dX9_tick_120 : decode cX9_tick 120 = .ok (.getfield 7, 3) := by decide +kernel
theorem dX9_tick_123 : decode cX9_tick 123 = .ok (.iload 5, 2) := by decide +kernel
theorem dX9_tick_125 : decode cX9_tick 125 = .ok (.iconst 1, 1) := by decide +kernel
theorem dX9_tick_126 : decode cX9_tick 126 = .ok (.iadd, 1) := by decide +kernel
theorem dX9_tick_127 : decode cX9_tick 127 = .ok (.iaload, 1) := by decide +kernel
theorem dX9_tick_128 : decode cX9_tick 128 = .ok (.invokevirtual 89, 3) := by decide +kernel
theorem dX9_tick_131 : decode cX9_tick 131 = .ok (.pop, 1) := by decide +kernel
theorem dX9_tick_132 : decode cX9_tick 132 = .ok (.aload_n 0, 1) := by decide +kernel
theorem dX9_tick_133 : decode cX9_tick 133 = .ok (.getfield 7, 3) := by decide +kernel
theorem dX9_tick_136 : decode cX9_tick 136 = .ok (.iload 5, 2) := by decide +kernel
theorem dX9_tick_138 : decode cX9_tick 138 = .ok (.iconst (-1), 1) := by decide +kernel
theorem dX9_tick_139 : decode cX9_tick 139 = .ok (.iastore, 1) := by decide +kernel
theorem dX9_tick_140 : decode cX9_tick 140 = .ok (.iinc 2 1, 3) := by decide +kernel
theorem dX9_tick_143 : decode cX9_tick 143 = .ok (.goto 27, 3) := by decide +kernel
theorem dX9_tick_146 : decode cX9_tick 146 = .ok (.aload_n 0, 1) := by decide +kernel
theorem dX9_tick_147 : decode cX9_tick 147 = .ok (.getfield 7, 3) := by decide +kernel
theorem dX9_tick_150 : decode cX9_tick 150 = .ok (.iload 5, 2) := by decide +kernel
theorem dX9_tick_152 : decode cX9_tick 152 = .ok (.iconst 2, 1) := by decide +kernel
theorem dX9_tick_153 : decode cX9_tick 153 = .ok (.iadd, 1) := by decide +kernel
theorem dX9_tick_154 : decode cX9_tick 154 = .ok (.dup2, 1) := by decide +kernel
theorem dX9_tick_155 : decode cX9_tick 155 = .ok (.iaload, 1) := by decide +kernel
theorem dX9_tick_156 : decode cX9_tick 156 = .ok (.iconst 1, 1) := by decide +kernel
theorem dX9_tick_157 : decode cX9_tick 157 = .ok (.iadd, 1) := by decide +kernel
theorem dX9_tick_158 : decode cX9_tick 158 = .ok (.iastore, 1) := by decide +kernel
theorem dX9_tick_159 : decode cX9_tick 159 = .ok (.aload_n 0, 1) := by decide +kernel
theorem dX9_tick_160 : decode cX9_tick 160 = .ok (.getfield 7, 3) := by decide +kernel
theorem dX9_tick_163 : decode cX9_tick 163 = .ok (.bipush 8, 2) := by decide +kernel
theorem dX9_tick_165 : decode cX9_tick 165 = .ok (.dup2, 1) := by decide +kernel
theorem dX9_tick_166 : decode cX9_tick 166 = .ok (.iaload, 1) := by decide +kernel
theorem dX9_tick_167 : decode cX9_tick 167 = .ok (.iconst 1, 1) := by decide +kernel
theorem dX9_tick_168 : decode cX9_tick 168 = .ok (.iadd, 1) := by decide +kernel
theorem dX9_tick_169 : decode cX9_tick 169 = .ok (.iastore, 1) := by decide +kernel
theorem dX9_tick_170 : decode cX9_tick 170 = .ok (.iinc 3 1, 3) := by decide +kernel
theorem dX9_tick_173 : decode cX9_tick 173 = .ok (.goto (-167), 3) := by decide +kernel
theorem dX9_tick_176 : decode cX9_tick 176 = .ok (.aload_n 0, 1) := by decide +kernel
theorem dX9_tick_177 : decode cX9_tick 177 = .ok (.getfield 7, 3) := by decide +kernel
theorem dX9_tick_180 : decode cX9_tick 180 = .ok (.iconst 4, 1) := by decide +kernel
theorem dX9_tick_181 : decode cX9_tick 181 = .ok (.dup2, 1) := by decide +kernel
theorem dX9_tick_182 : decode cX9_tick 182 = .ok (.iaload, 1) := by decide +kernel
theorem dX9_tick_183 : decode cX9_tick 183 = .ok (.iconst 1, 1) := by decide +kernel
theorem dX9_tick_184 : decode cX9_tick 184 = .ok (.iadd, 1) := by decide +kernel
theorem dX9_tick_185 : decode cX9_tick 185 = .ok (.iastore, 1) := by decide +kernel
theorem dX9_tick_186 : decode cX9_tick 186 = .ok (.iload_n 2, 1) := by decide +kernel
theorem dX9_tick_187 : decode cX9_tick 187 = .ok (.ireturn, 1) := by decide +kernel
theorem dX9_ticks_0 : decode cX9_ticks 0 = .ok (.iconst 0, 1) := by decide +kernel
theorem dX9_ticks_1 : decode cX9_ticks 1 = .ok (.istore_n 2, 1) := by decide +kernel
theorem dX9_ticks_2 : decode cX9_ticks 2 = .ok (.iconst 0, 1) := by decide +kernel
theorem dX9_ticks_3 : decode cX9_ticks 3 = .ok (.istore_n 3, 1) := by decide +kernel
theorem dX9_ticks_4 : decode cX9_ticks 4 = .ok (.iload_n 3, 1) := by decide +kernel
theorem dX9_ticks_5 : decode cX9_ticks 5 = .ok (.iload_n 1, 1) := by decide +kernel
theorem dX9_ticks_6 : decode cX9_ticks 6 = .ok (.if_icmp .ge 16, 3) := by decide +kernel
theorem dX9_ticks_9 : decode cX9_ticks 9 = .ok (.iload_n 2, 1) := by decide +kernel
theorem dX9_ticks_10 : decode cX9_ticks 10 = .ok (.aload_n 0, 1) := by decide +kernel
theorem dX9_ticks_11 : decode cX9_ticks 11 = .ok (.invokevirtual 92, 3) := by decide +kernel
theorem dX9_ticks_14 : decode cX9_ticks 14 = .ok (.iadd, 1) := by decide +kernel
theorem dX9_ticks_15 : decode cX9_ticks 15 = .ok (.istore_n 2, 1) := by decide +kernel
theorem dX9_ticks_16 : decode cX9_ticks 16 = .ok (.iinc 3 1, 3) := by decide +kernel
theorem dX9_ticks_19 : decode cX9_ticks 19 = .ok (.goto (-15), 3) := by decide +kernel
theorem dX9_ticks_22 : decode cX9_ticks 22 = .ok (.iload_n 2, 1) := by decide +kernel
theorem dX9_ticks_23 : decode cX9_ticks 23 = .ok (.ireturn, 1) := by decide +kernel
theorem dX9_asks_0 : decode cX9_asks 0 = .ok (.aload_n 0, 1) := by decide +kernel
theorem dX9_asks_1 : decode cX9_asks 1 = .ok (.getfield 7, 3) := by decide +kernel
theorem dX9_asks_4 : decode cX9_asks 4 = .ok (.sipush 366, 3) := by decide +kernel
theorem dX9_asks_7 : decode cX9_asks 7 = .ok (.iconst 3, 1) := by decide +kernel
theorem dX9_asks_8 : decode cX9_asks 8 = .ok (.iload_n 1, 1) := by decide +kernel
theorem dX9_asks_9 : decode cX9_asks 9 = .ok (.imul, 1) := by decide +kernel
theorem dX9_asks_10 : decode cX9_asks 10 = .ok (.iadd, 1) := by decide +kernel
theorem dX9_asks_11 : decode cX9_asks 11 = .ok (.iload_n 2, 1) := by decide +kernel
theorem dX9_asks_12 : decode cX9_asks 12 = .ok (.iastore, 1) := by decide +kernel
theorem dX9_asks_13 : decode cX9_asks 13 = .ok (.aload_n 0, 1) := by decide +kernel
theorem dX9_asks_14 : decode cX9_asks 14 = .ok (.getfield 7, 3) := by decide +kernel
theorem dX9_asks_17 : decode cX9_asks 17 = .ok (.sipush 366, 3) := by decide +kernel
theorem dX9_asks_20 : decode cX9_asks 20 = .ok (.iconst 3, 1) := by decide +kernel
theorem dX9_asks_21 : decode cX9_asks 21 = .ok (.iload_n 1, 1) := by decide +kernel
theorem dX9_asks_22 : decode cX9_asks 22 = .ok (.imul, 1) := by decide +kernel
theorem dX9_asks_23 : decode cX9_asks 23 = .ok (.iadd, 1) := by decide +kernel
theorem dX9_asks_24 : decode cX9_asks 24 = .ok (.iconst 1, 1) := by decide +kernel
theorem dX9_asks_25 : decode cX9_asks 25 = .ok (.iadd, 1) := by decide +kernel
theorem dX9_asks_26 : decode cX9_asks 26 = .ok (.iload_n 3, 1) := by decide +kernel
theorem dX9_asks_27 : decode cX9_asks 27 = .ok (.iastore, 1) := by decide +kernel
theorem dX9_asks_28 : decode cX9_asks 28 = .ok (.aload_n 0, 1) := by decide +kernel
theorem dX9_asks_29 : decode cX9_asks 29 = .ok (.getfield 7, 3) := by decide +kernel
theorem dX9_asks_32 : decode cX9_asks 32 = .ok (.sipush 366, 3) := by decide +kernel
theorem dX9_asks_35 : decode cX9_asks 35 = .ok (.iconst 3, 1) := by decide +kernel
theorem dX9_asks_36 : decode cX9_asks 36 = .ok (.iload_n 1, 1) := by decide +kernel
theorem dX9_asks_37 : decode cX9_asks 37 = .ok (.imul, 1) := by decide +kernel
theorem dX9_asks_38 : decode cX9_asks 38 = .ok (.iadd, 1) := by decide +kernel
theorem dX9_asks_39 : decode cX9_asks 39 = .ok (.iconst 2, 1) := by decide +kernel
theorem dX9_asks_40 : decode cX9_asks 40 = .ok (.iadd, 1) := by decide +kernel
theorem dX9_asks_41 : decode cX9_asks 41 = .ok (.iconst 0, 1) := by decide +kernel
theorem dX9_asks_42 : decode cX9_asks 42 = .ok (.iastore, 1) := by decide +kernel
theorem dX9_asks_43 : decode cX9_asks 43 = .ok (.aload_n 0, 1) := by decide +kernel
theorem dX9_asks_44 : decode cX9_asks 44 = .ok (.iload_n 1, 1) := by decide +kernel
theorem dX9_asks_45 : decode cX9_asks 45 = .ok (.iload_n 2, 1) := by decide +kernel
theorem dX9_asks_46 : decode cX9_asks 46 = .ok (.iload_n 3, 1) := by decide +kernel
theorem dX9_asks_47 : decode cX9_asks 47 = .ok (.ifCond .lt 7, 3) := by decide +kernel
theorem dX9_asks_50 : decode cX9_asks 50 = .ok (.iconst 1, 1) := by decide +kernel
theorem dX9_asks_51 : decode cX9_asks 51 = .ok (.goto 4, 3) := by decide +kernel
theorem dX9_asks_54 : decode cX9_asks 54 = .ok (.iconst 0, 1) := by decide +kernel
theorem dX9_asks_55 : decode cX9_asks 55 = .ok (.invokevirtual 81, 3) := by decide +kernel
theorem dX9_asks_58 : decode cX9_asks 58 = .ok (.ifCond .eq 7, 3) := by decide +kernel
theorem dX9_asks_61 : decode cX9_asks 61 = .ok (.iconst 1, 1) := by decide +kernel
theorem dX9_asks_62 : decode cX9_asks 62 = .ok (.goto 4, 3) := by decide +kernel
theorem dX9_asks_65 : decode cX9_asks 65 = .ok (.iconst 0, 1) := by decide +kernel
theorem dX9_asks_66 : decode cX9_asks 66 = .ok (.ireturn, 1) := by decide +kernel
theorem dX9_isAsking_0 : decode cX9_isAsking 0 = .ok (.aload_n 0, 1) := by decide +kernel
theorem dX9_isAsking_1 : decode cX9_isAsking 1 = .ok (.getfield 7, 3) := by decide +kernel
theorem dX9_isAsking_4 : decode cX9_isAsking 4 = .ok (.sipush 366, 3) := by decide +kernel
theorem dX9_isAsking_7 : decode cX9_isAsking 7 = .ok (.iconst 3, 1) := by decide +kernel
theorem dX9_isAsking_8 : decode cX9_isAsking 8 = .ok (.iload_n 1, 1) := by decide +kernel
theorem dX9_isAsking_9 : decode cX9_isAsking 9 = .ok (.imul, 1) := by decide +kernel
theorem dX9_isAsking_10 : decode cX9_isAsking 10 = .ok (.iadd, 1) := by decide +kernel
theorem dX9_isAsking_11 : decode cX9_isAsking 11 = .ok (.iaload, 1) := by decide +kernel
theorem dX9_isAsking_12 : decode cX9_isAsking 12 = .ok (.ifCond .lt 7, 3) := by decide +kernel
theorem dX9_isAsking_15 : decode cX9_isAsking 15 = .ok (.iconst 1, 1) := by decide +kernel
theorem dX9_isAsking_16 : decode cX9_isAsking 16 = .ok (.goto 4, 3) := by decide +kernel
theorem dX9_isAsking_19 : decode cX9_isAsking 19 = .ok (.iconst 0, 1) := by decide +kernel
theorem dX9_isAsking_20 : decode cX9_isAsking 20 = .ok (.ireturn, 1) := by decide +kernel
theorem dX9_waiting_0 : decode cX9_waiting 0 = .ok (.iconst 0, 1) := by decide +kernel
theorem dX9_waiting_1 : decode cX9_waiting 1 = .ok (.istore_n 1, 1) := by decide +kernel
theorem dX9_waiting_2 : decode cX9_waiting 2 = .ok (.iconst 0, 1) := by decide +kernel
theorem dX9_waiting_3 : decode cX9_waiting 3 = .ok (.istore_n 2, 1) := by decide +kernel
theorem dX9_waiting_4 : decode cX9_waiting 4 = .ok (.iload_n 2, 1) := by decide +kernel
theorem dX9_waiting_5 : decode cX9_waiting 5 = .ok (.aload_n 0, 1) := by decide +kernel
theorem dX9_waiting_6 : decode cX9_waiting 6 = .ok (.getfield 7, 3) := by decide +kernel
theorem dX9_waiting_9 : decode cX9_waiting 9 = .ok (.iconst 0, 1) := by decide +kernel
theorem dX9_waiting_10 : decode cX9_waiting 10 = .ok (.iaload, 1) := by decide +kernel
theorem dX9_waiting_11 : decode cX9_waiting 11 = .ok (.if_icmp .ge 25, 3) := by decide +kernel
theorem dX9_waiting_14 : decode cX9_waiting 14 = .ok (.iload_n 1, 1) := by decide +kernel
theorem dX9_waiting_15 : decode cX9_waiting 15 = .ok (.aload_n 0, 1) := by decide +kernel
theorem dX9_waiting_16 : decode cX9_waiting 16 = .ok (.iload_n 2, 1) := by decide +kernel
theorem dX9_waiting_17 : decode cX9_waiting 17 = .ok (.invokevirtual 95, 3) := by decide +kernel
theorem dX9_waiting_20 : decode cX9_waiting 20 = .ok (.ifCond .eq 7, 3) := by decide +kernel
theorem dX9_waiting_23 : decode cX9_waiting 23 = .ok (.iconst 1, 1) := by decide +kernel
theorem dX9_waiting_24 : decode cX9_waiting 24 = .ok (.goto 4, 3) := by decide +kernel
theorem dX9_waiting_27 : decode cX9_waiting 27 = .ok (.iconst 0, 1) := by decide +kernel
theorem dX9_waiting_28 : decode cX9_waiting 28 = .ok (.iadd, 1) := by decide +kernel
theorem dX9_waiting_29 : decode cX9_waiting 29 = .ok (.istore_n 1, 1) := by decide +kernel
theorem dX9_waiting_30 : decode cX9_waiting 30 = .ok (.iinc 2 1, 3) := by decide +kernel
theorem dX9_waiting_33 : decode cX9_waiting 33 = .ok (.goto (-29), 3) := by decide +kernel
theorem dX9_waiting_36 : decode cX9_waiting 36 = .ok (.iload_n 1, 1) := by decide +kernel
theorem dX9_waiting_37 : decode cX9_waiting 37 = .ok (.ireturn, 1) := by decide +kernel
theorem dX9_begin_0 : decode cX9_begin 0 = .ok (.aload_n 0, 1) := by decide +kernel
theorem dX9_begin_1 : decode cX9_begin 1 = .ok (.iconst 0, 1) := by decide +kernel
theorem dX9_begin_2 : decode cX9_begin 2 = .ok (.putfield 29, 3) := by decide +kernel
theorem dX9_begin_5 : decode cX9_begin 5 = .ok (.iload_n 1, 1) := by decide +kernel
theorem dX9_begin_6 : decode cX9_begin 6 = .ok (.iconst 2, 1) := by decide +kernel
theorem dX9_begin_7 : decode cX9_begin 7 = .ok (.bipush 6, 2) := by decide +kernel
theorem dX9_begin_9 : decode cX9_begin 9 = .ok (.invokestatic 36, 3) := by decide +kernel
theorem dX9_begin_12 : decode cX9_begin 12 = .ok (.ifCond .eq 23, 3) := by decide +kernel
theorem dX9_begin_15 : decode cX9_begin 15 = .ok (.iload_n 2, 1) := by decide +kernel
theorem dX9_begin_16 : decode cX9_begin 16 = .ok (.iconst 1, 1) := by decide +kernel
theorem dX9_begin_17 : decode cX9_begin 17 = .ok (.bipush 8, 2) := by decide +kernel
theorem dX9_begin_19 : decode cX9_begin 19 = .ok (.invokestatic 36, 3) := by decide +kernel
theorem dX9_begin_22 : decode cX9_begin 22 = .ok (.ifCond .eq 13, 3) := by decide +kernel
theorem dX9_begin_25 : decode cX9_begin 25 = .ok (.iload_n 3, 1) := by decide +kernel
theorem dX9_begin_26 : decode cX9_begin 26 = .ok (.iconst 1, 1) := by decide +kernel
theorem dX9_begin_27 : decode cX9_begin 27 = .ok (.bipush 16, 2) := by decide +kernel
theorem dX9_begin_29 : decode cX9_begin 29 = .ok (.invokestatic 36, 3) := by decide +kernel
theorem dX9_begin_32 : decode cX9_begin 32 = .ok (.ifCond .ne 9, 3) := by decide +kernel
theorem dX9_begin_35 : decode cX9_begin 35 = .ok (.aload_n 0, 1) := by decide +kernel
theorem dX9_begin_36 : decode cX9_begin 36 = .ok (.iconst 1, 1) := by decide +kernel
theorem dX9_begin_37 : decode cX9_begin 37 = .ok (.invokevirtual 99, 3) := by decide +kernel
theorem dX9_begin_40 : decode cX9_begin 40 = .ok (.ireturn, 1) := by decide +kernel
theorem dX9_begin_41 : decode cX9_begin 41 = .ok (.aload_n 0, 1) := by decide +kernel
theorem dX9_begin_42 : decode cX9_begin 42 = .ok (.invokevirtual 102, 3) := by decide +kernel
theorem dX9_begin_45 : decode cX9_begin 45 = .ok (.aload_n 0, 1) := by decide +kernel
theorem dX9_begin_46 : decode cX9_begin 46 = .ok (.getfield 7, 3) := by decide +kernel
theorem dX9_begin_49 : decode cX9_begin 49 = .ok (.iconst 4, 1) := by decide +kernel
theorem dX9_begin_50 : decode cX9_begin 50 = .ok (.iaload, 1) := by decide +kernel
theorem dX9_begin_51 : decode cX9_begin 51 = .ok (.istore 4, 2) := by decide +kernel
theorem dX9_begin_53 : decode cX9_begin 53 = .ok (.aload_n 0, 1) := by decide +kernel
theorem dX9_begin_54 : decode cX9_begin 54 = .ok (.iload_n 1, 1) := by decide +kernel
theorem dX9_begin_55 : decode cX9_begin 55 = .ok (.iload_n 2, 1) := by decide +kernel
theorem dX9_begin_56 : decode cX9_begin 56 = .ok (.iload_n 3, 1) := by decide +kernel
theorem dX9_begin_57 : decode cX9_begin 57 = .ok (.invokevirtual 25, 3) := by decide +kernel
theorem dX9_begin_60 : decode cX9_begin 60 = .ok (.iload 4, 2) := by decide +kernel
theorem dX9_begin_62 : decode cX9_begin 62 = .ok (.ireturn, 1) := by decide +kernel
theorem dX9_read_0 : decode cX9_read 0 = .ok (.aload_n 0, 1) := by decide +kernel
theorem dX9_read_1 : decode cX9_read 1 = .ok (.iconst 0, 1) := by decide +kernel
theorem dX9_read_2 : decode cX9_read 2 = .ok (.putfield 29, 3) := by decide +kernel
theorem dX9_read_5 : decode cX9_read 5 = .ok (.aload_n 0, 1) := by decide +kernel
theorem dX9_read_6 : decode cX9_read 6 = .ok (.iload_n 1, 1) := by decide +kernel
theorem dX9_read_7 : decode cX9_read 7 = .ok (.invokevirtual 105, 3) := by decide +kernel
theorem dX9_read_10 : decode cX9_read 10 = .ok (.ifCond .eq 10, 3) := by decide +kernel
theorem dX9_read_13 : decode cX9_read 13 = .ok (.iload_n 2, 1) := by decide +kernel
theorem dX9_read_14 : decode cX9_read 14 = .ok (.invokestatic 108, 3) := by decide +kernel
theorem dX9_read_17 : decode cX9_read 17 = .ok (.ifCond .ne 9, 3) := by decide +kernel
theorem dX9_read_20 : decode cX9_read 20 = .ok (.aload_n 0, 1) := by decide +kernel
theorem dX9_read_21 : decode cX9_read 21 = .ok (.iconst 1, 1) := by decide +kernel
theorem dX9_read_22 : decode cX9_read 22 = .ok (.invokevirtual 99, 3) := by decide +kernel
theorem dX9_read_25 : decode cX9_read 25 = .ok (.ireturn, 1) := by decide +kernel
theorem dX9_read_26 : decode cX9_read 26 = .ok (.aload_n 0, 1) := by decide +kernel
theorem dX9_read_27 : decode cX9_read 27 = .ok (.iload_n 1, 1) := by decide +kernel
theorem dX9_read_28 : decode cX9_read 28 = .ok (.invokevirtual 95, 3) := by decide +kernel
theorem dX9_read_31 : decode cX9_read 31 = .ok (.ifCond .eq 9, 3) := by decide +kernel
theorem dX9_read_34 : decode cX9_read 34 = .ok (.aload_n 0, 1) := by decide +kernel
theorem dX9_read_35 : decode cX9_read 35 = .ok (.iconst 2, 1) := by decide +kernel
theorem dX9_read_36 : decode cX9_read 36 = .ok (.invokevirtual 99, 3) := by decide +kernel
theorem dX9_read_39 : decode cX9_read 39 = .ok (.ireturn, 1) := by decide +kernel
theorem dX9_read_40 : decode cX9_read 40 = .ok (.aload_n 0, 1) := by decide +kernel
theorem dX9_read_41 : decode cX9_read 41 = .ok (.invokevirtual 102, 3) := by decide +kernel
theorem dX9_read_44 : decode cX9_read 44 = .ok (.aload_n 0, 1) := by decide +kernel
theorem dX9_read_45 : decode cX9_read 45 = .ok (.iload_n 1, 1) := by decide +kernel
theorem dX9_read_46 : decode cX9_read 46 = .ok (.iload_n 2, 1) := by decide +kernel
theorem dX9_read_47 : decode cX9_read 47 = .ok (.iconst (-1), 1) := by decide +kernel
theorem dX9_read_48 : decode cX9_read 48 = .ok (.invokevirtual 111, 3) := by decide +kernel
theorem dX9_read_51 : decode cX9_read 51 = .ok (.ireturn, 1) := by decide +kernel
theorem dX9_write_0 : decode cX9_write 0 = .ok (.aload_n 0, 1) := by decide +kernel
theorem dX9_write_1 : decode cX9_write 1 = .ok (.iconst 0, 1) := by decide +kernel
theorem dX9_write_2 : decode cX9_write 2 = .ok (.putfield 29, 3) := by decide +kernel
theorem dX9_write_5 : decode cX9_write 5 = .ok (.aload_n 0, 1) := by decide +kernel
theorem dX9_write_6 : decode cX9_write 6 = .ok (.iload_n 1, 1) := by decide +kernel
theorem dX9_write_7 : decode cX9_write 7 = .ok (.invokevirtual 105, 3) := by decide +kernel
theorem dX9_write_10 : decode cX9_write 10 = .ok (.ifCond .eq 10, 3) := by decide +kernel
theorem dX9_write_13 : decode cX9_write 13 = .ok (.iload_n 2, 1) := by decide +kernel
theorem dX9_write_14 : decode cX9_write 14 = .ok (.invokestatic 108, 3) := by decide +kernel
theorem dX9_write_17 : decode cX9_write 17 = .ok (.ifCond .ne 9, 3) := by decide +kernel
theorem dX9_write_20 : decode cX9_write 20 = .ok (.aload_n 0, 1) := by decide +kernel
theorem dX9_write_21 : decode cX9_write 21 = .ok (.iconst 1, 1) := by decide +kernel
theorem dX9_write_22 : decode cX9_write 22 = .ok (.invokevirtual 99, 3) := by decide +kernel
theorem dX9_write_25 : decode cX9_write 25 = .ok (.ireturn, 1) := by decide +kernel
theorem dX9_write_26 : decode cX9_write 26 = .ok (.iload_n 3, 1) := by decide +kernel
theorem dX9_write_27 : decode cX9_write 27 = .ok (.iconst 0, 1) := by decide +kernel
theorem dX9_write_28 : decode cX9_write 28 = .ok (.sipush 999, 3) := by decide +kernel
theorem dX9_write_31 : decode cX9_write 31 = .ok (.invokestatic 36, 3) := by decide +kernel
theorem dX9_write_34 : decode cX9_write 34 = .ok (.ifCond .ne 9, 3) := by decide +kernel
theorem dX9_write_37 : decode cX9_write 37 = .ok (.aload_n 0, 1) := by decide +kernel
theorem dX9_write_38 : decode cX9_write 38 = .ok (.iconst 2, 1) := by decide +kernel
theorem dX9_write_39 : decode cX9_write 39 = .ok (.invokevirtual 99, 3) := by decide +kernel
theorem dX9_write_42 : decode cX9_write 42 = .ok (.ireturn, 1) := by decide +kernel
theorem dX9_write_43 : decode cX9_write 43 = .ok (.aload_n 0, 1) := by decide +kernel
theorem dX9_write_44 : decode cX9_write 44 = .ok (.iload_n 1, 1) := by decide +kernel
theorem dX9_write_45 : decode cX9_write 45 = .ok (.invokevirtual 95, 3) := by decide +kernel
theorem dX9_write_48 : decode cX9_write 48 = .ok (.ifCond .eq 9, 3) := by decide +kernel
theorem dX9_write_51 : decode cX9_write 51 = .ok (.aload_n 0, 1) := by decide +kernel
theorem dX9_write_52 : decode cX9_write 52 = .ok (.iconst 3, 1) := by decide +kernel
theorem dX9_write_53 : decode cX9_write 53 = .ok (.invokevirtual 99, 3) := by decide +kernel
theorem dX9_write_56 : decode cX9_write 56 = .ok (.ireturn, 1) := by decide +kernel
theorem dX9_write_57 : decode cX9_write 57 = .ok (.aload_n 0, 1) := by decide +kernel
theorem dX9_write_58 : decode cX9_write 58 = .ok (.invokevirtual 102, 3) := by decide +kernel
theorem dX9_write_61 : decode cX9_write 61 = .ok (.aload_n 0, 1) := by decide +kernel
theorem dX9_write_62 : decode cX9_write 62 = .ok (.iload_n 1, 1) := by decide +kernel
theorem dX9_write_63 : decode cX9_write 63 = .ok (.iload_n 2, 1) := by decide +kernel
theorem dX9_write_64 : decode cX9_write 64 = .ok (.iload_n 3, 1) := by decide +kernel
theorem dX9_write_65 : decode cX9_write 65 = .ok (.invokevirtual 111, 3) := by decide +kernel
theorem dX9_write_68 : decode cX9_write 68 = .ok (.ireturn, 1) := by decide +kernel
theorem dX9_takeBack_0 : decode cX9_takeBack 0 = .ok (.aload_n 0, 1) := by decide +kernel
theorem dX9_takeBack_1 : decode cX9_takeBack 1 = .ok (.iconst 0, 1) := by decide +kernel
theorem dX9_takeBack_2 : decode cX9_takeBack 2 = .ok (.putfield 29, 3) := by decide +kernel
theorem dX9_takeBack_5 : decode cX9_takeBack 5 = .ok (.aload_n 0, 1) := by decide +kernel
theorem dX9_takeBack_6 : decode cX9_takeBack 6 = .ok (.iload_n 1, 1) := by decide +kernel
theorem dX9_takeBack_7 : decode cX9_takeBack 7 = .ok (.invokevirtual 105, 3) := by decide +kernel
theorem dX9_takeBack_10 : decode cX9_takeBack 10 = .ok (.ifCond .ne 9, 3) := by decide +kernel
theorem dX9_takeBack_13 : decode cX9_takeBack 13 = .ok (.aload_n 0, 1) := by decide +kernel
theorem dX9_takeBack_14 : decode cX9_takeBack 14 = .ok (.iconst 1, 1) := by decide +kernel
theorem dX9_takeBack_15 : decode cX9_takeBack 15 = .ok (.invokevirtual 99, 3) := by decide +kernel
theorem dX9_takeBack_18 : decode cX9_takeBack 18 = .ok (.ireturn, 1) := by decide +kernel
theorem dX9_takeBack_19 : decode cX9_takeBack 19 = .ok (.aload_n 0, 1) := by decide +kernel
theorem dX9_takeBack_20 : decode cX9_takeBack 20 = .ok (.iload_n 1, 1) := by decide +kernel
theorem dX9_takeBack_21 : decode cX9_takeBack 21 = .ok (.invokevirtual 95, 3) := by decide +kernel
theorem dX9_takeBack_24 : decode cX9_takeBack 24 = .ok (.ifCond .ne 9, 3) := by decide +kernel
theorem dX9_takeBack_27 : decode cX9_takeBack 27 = .ok (.aload_n 0, 1) := by decide +kernel
theorem dX9_takeBack_28 : decode cX9_takeBack 28 = .ok (.iconst 2, 1) := by decide +kernel
theorem dX9_takeBack_29 : decode cX9_takeBack 29 = .ok (.invokevirtual 99, 3) := by decide +kernel
theorem dX9_takeBack_32 : decode cX9_takeBack 32 = .ok (.ireturn, 1) := by decide +kernel
theorem dX9_takeBack_33 : decode cX9_takeBack 33 = .ok (.aload_n 0, 1) := by decide +kernel
theorem dX9_takeBack_34 : decode cX9_takeBack 34 = .ok (.invokevirtual 102, 3) := by decide +kernel
theorem dX9_takeBack_37 : decode cX9_takeBack 37 = .ok (.aload_n 0, 1) := by decide +kernel
theorem dX9_takeBack_38 : decode cX9_takeBack 38 = .ok (.getfield 7, 3) := by decide +kernel
theorem dX9_takeBack_41 : decode cX9_takeBack 41 = .ok (.sipush 366, 3) := by decide +kernel
theorem dX9_takeBack_44 : decode cX9_takeBack 44 = .ok (.iconst 3, 1) := by decide +kernel
theorem dX9_takeBack_45 : decode cX9_takeBack 45 = .ok (.iload_n 1, 1) := by decide +kernel
theorem dX9_takeBack_46 : decode cX9_takeBack 46 = .ok (.imul, 1) := by decide +kernel
theorem dX9_takeBack_47 : decode cX9_takeBack 47 = .ok (.iadd, 1) := by decide +kernel
theorem dX9_takeBack_48 : decode cX9_takeBack 48 = .ok (.iaload, 1) := by decide +kernel
theorem dX9_takeBack_49 : decode cX9_takeBack 49 = .ok (.istore_n 2, 1) := by decide +kernel
theorem dX9_takeBack_50 : decode cX9_takeBack 50 = .ok (.aload_n 0, 1) := by decide +kernel
theorem dX9_takeBack_51 : decode cX9_takeBack 51 = .ok (.getfield 7, 3) := by decide +kernel
theorem dX9_takeBack_54 : decode cX9_takeBack 54 = .ok (.sipush 366, 3) := by decide +kernel
theorem dX9_takeBack_57 : decode cX9_takeBack 57 = .ok (.iconst 3, 1) := by decide +kernel
theorem dX9_takeBack_58 : decode cX9_takeBack 58 = .ok (.iload_n 1, 1) := by decide +kernel
theorem dX9_takeBack_59 : decode cX9_takeBack 59 = .ok (.imul, 1) := by decide +kernel
theorem dX9_takeBack_60 : decode cX9_takeBack 60 = .ok (.iadd, 1) := by decide +kernel
theorem dX9_takeBack_61 : decode cX9_takeBack 61 = .ok (.iconst (-1), 1) := by decide +kernel
theorem dX9_takeBack_62 : decode cX9_takeBack 62 = .ok (.iastore, 1) := by decide +kernel
theorem dX9_takeBack_63 : decode cX9_takeBack 63 = .ok (.iload_n 2, 1) := by decide +kernel
theorem dX9_takeBack_64 : decode cX9_takeBack 64 = .ok (.ireturn, 1) := by decide +kernel
theorem dX9_pass_0 : decode cX9_pass 0 = .ok (.aload_n 0, 1) := by decide +kernel
theorem dX9_pass_1 : decode cX9_pass 1 = .ok (.iconst 0, 1) := by decide +kernel
theorem dX9_pass_2 : decode cX9_pass 2 = .ok (.putfield 29, 3) := by decide +kernel
theorem dX9_pass_5 : decode cX9_pass 5 = .ok (.iload_n 1, 1) := by decide +kernel
theorem dX9_pass_6 : decode cX9_pass 6 = .ok (.iconst 1, 1) := by decide +kernel
theorem dX9_pass_7 : decode cX9_pass 7 = .ok (.bipush 100, 2) := by decide +kernel
theorem dX9_pass_9 : decode cX9_pass 9 = .ok (.invokestatic 36, 3) := by decide +kernel
theorem dX9_pass_12 : decode cX9_pass 12 = .ok (.ifCond .ne 9, 3) := by decide +kernel
theorem dX9_pass_15 : decode cX9_pass 15 = .ok (.aload_n 0, 1) := by decide +kernel
theorem dX9_pass_16 : decode cX9_pass 16 = .ok (.iconst 1, 1) := by decide +kernel
theorem dX9_pass_17 : decode cX9_pass 17 = .ok (.invokevirtual 99, 3) := by decide +kernel
theorem dX9_pass_20 : decode cX9_pass 20 = .ok (.ireturn, 1) := by decide +kernel
theorem dX9_pass_21 : decode cX9_pass 21 = .ok (.aload_n 0, 1) := by decide +kernel
theorem dX9_pass_22 : decode cX9_pass 22 = .ok (.getfield 7, 3) := by decide +kernel
theorem dX9_pass_25 : decode cX9_pass 25 = .ok (.iconst 4, 1) := by decide +kernel
theorem dX9_pass_26 : decode cX9_pass 26 = .ok (.iaload, 1) := by decide +kernel
theorem dX9_pass_27 : decode cX9_pass 27 = .ok (.iload_n 1, 1) := by decide +kernel
theorem dX9_pass_28 : decode cX9_pass 28 = .ok (.iadd, 1) := by decide +kernel
theorem dX9_pass_29 : decode cX9_pass 29 = .ok (.ldc 114, 2) := by decide +kernel
theorem dX9_pass_31 : decode cX9_pass 31 = .ok (.if_icmp .le 9, 3) := by decide +kernel
theorem dX9_pass_34 : decode cX9_pass 34 = .ok (.aload_n 0, 1) := by decide +kernel
theorem dX9_pass_35 : decode cX9_pass 35 = .ok (.iconst 2, 1) := by decide +kernel
theorem dX9_pass_36 : decode cX9_pass 36 = .ok (.invokevirtual 99, 3) := by decide +kernel
theorem dX9_pass_39 : decode cX9_pass 39 = .ok (.ireturn, 1) := by decide +kernel
theorem dX9_pass_40 : decode cX9_pass 40 = .ok (.aload_n 0, 1) := by decide +kernel
theorem dX9_pass_41 : decode cX9_pass 41 = .ok (.invokevirtual 102, 3) := by decide +kernel
theorem dX9_pass_44 : decode cX9_pass 44 = .ok (.aload_n 0, 1) := by decide +kernel
theorem dX9_pass_45 : decode cX9_pass 45 = .ok (.iload_n 1, 1) := by decide +kernel
theorem dX9_pass_46 : decode cX9_pass 46 = .ok (.invokevirtual 115, 3) := by decide +kernel
theorem dX9_pass_49 : decode cX9_pass 49 = .ok (.ireturn, 1) := by decide +kernel
theorem dX9_drop_0 : decode cX9_drop 0 = .ok (.aload_n 0, 1) := by decide +kernel
theorem dX9_drop_1 : decode cX9_drop 1 = .ok (.iconst 0, 1) := by decide +kernel
theorem dX9_drop_2 : decode cX9_drop 2 = .ok (.putfield 29, 3) := by decide +kernel
theorem dX9_drop_5 : decode cX9_drop 5 = .ok (.aload_n 0, 1) := by decide +kernel
theorem dX9_drop_6 : decode cX9_drop 6 = .ok (.iload_n 1, 1) := by decide +kernel
theorem dX9_drop_7 : decode cX9_drop 7 = .ok (.invokevirtual 105, 3) := by decide +kernel
theorem dX9_drop_10 : decode cX9_drop 10 = .ok (.ifCond .eq 10, 3) := by decide +kernel
theorem dX9_drop_13 : decode cX9_drop 13 = .ok (.iload_n 2, 1) := by decide +kernel
theorem dX9_drop_14 : decode cX9_drop 14 = .ok (.invokestatic 108, 3) := by decide +kernel
theorem dX9_drop_17 : decode cX9_drop 17 = .ok (.ifCond .ne 9, 3) := by decide +kernel
theorem dX9_drop_20 : decode cX9_drop 20 = .ok (.aload_n 0, 1) := by decide +kernel
theorem dX9_drop_21 : decode cX9_drop 21 = .ok (.iconst 1, 1) := by decide +kernel
theorem dX9_drop_22 : decode cX9_drop 22 = .ok (.invokevirtual 99, 3) := by decide +kernel
theorem dX9_drop_25 : decode cX9_drop 25 = .ok (.ireturn, 1) := by decide +kernel
theorem dX9_drop_26 : decode cX9_drop 26 = .ok (.aload_n 0, 1) := by decide +kernel
theorem dX9_drop_27 : decode cX9_drop 27 = .ok (.iload_n 1, 1) := by decide +kernel
theorem dX9_drop_28 : decode cX9_drop 28 = .ok (.iload_n 2, 1) := by decide +kernel
theorem dX9_drop_29 : decode cX9_drop 29 = .ok (.invokevirtual 52, 3) := by decide +kernel
theorem dX9_drop_32 : decode cX9_drop 32 = .ok (.istore_n 3, 1) := by decide +kernel
theorem dX9_drop_33 : decode cX9_drop 33 = .ok (.iload_n 3, 1) := by decide +kernel
theorem dX9_drop_34 : decode cX9_drop 34 = .ok (.ifCond .ge 9, 3) := by decide +kernel
theorem dX9_drop_37 : decode cX9_drop 37 = .ok (.aload_n 0, 1) := by decide +kernel
theorem dX9_drop_38 : decode cX9_drop 38 = .ok (.iconst 2, 1) := by decide +kernel
theorem dX9_drop_39 : decode cX9_drop 39 = .ok (.invokevirtual 99, 3) := by decide +kernel
theorem dX9_drop_42 : decode cX9_drop 42 = .ok (.ireturn, 1) := by decide +kernel
theorem dX9_drop_43 : decode cX9_drop 43 = .ok (.aload_n 0, 1) := by decide +kernel
theorem dX9_drop_44 : decode cX9_drop 44 = .ok (.invokevirtual 102, 3) := by decide +kernel
theorem dX9_drop_47 : decode cX9_drop 47 = .ok (.aload_n 0, 1) := by decide +kernel
theorem dX9_drop_48 : decode cX9_drop 48 = .ok (.iload_n 1, 1) := by decide +kernel
theorem dX9_drop_49 : decode cX9_drop 49 = .ok (.iload_n 3, 1) := by decide +kernel
theorem dX9_drop_50 : decode cX9_drop 50 = .ok (.invokevirtual 78, 3) := by decide +kernel
theorem dX9_drop_53 : decode cX9_drop 53 = .ok (.istore 4, 2) := by decide +kernel
theorem dX9_drop_55 : decode cX9_drop 55 = .ok (.aload_n 0, 1) := by decide +kernel
theorem dX9_drop_56 : decode cX9_drop 56 = .ok (.getfield 7, 3) := by decide +kernel
theorem dX9_drop_59 : decode cX9_drop 59 = .ok (.iconst 5, 1) := by decide +kernel
theorem dX9_drop_60 : decode cX9_drop 60 = .ok (.dup2, 1) := by decide +kernel
theorem dX9_drop_61 : decode cX9_drop 61 = .ok (.iaload, 1) := by decide +kernel
theorem dX9_drop_62 : decode cX9_drop 62 = .ok (.iload 4, 2) := by decide +kernel
theorem dX9_drop_64 : decode cX9_drop 64 = .ok (.iadd, 1) := by decide +kernel
theorem dX9_drop_65 : decode cX9_drop 65 = .ok (.iastore, 1) := by decide +kernel
theorem dX9_drop_66 : decode cX9_drop 66 = .ok (.iload 4, 2) := by decide +kernel
theorem dX9_drop_68 : decode cX9_drop 68 = .ok (.ireturn, 1) := by decide +kernel
theorem dX9_ones_0 : decode cX9_ones 0 = .ok (.iconst 0, 1) := by decide +kernel
theorem dX9_ones_1 : decode cX9_ones 1 = .ok (.istore_n 1, 1) := by decide +kernel
theorem dX9_ones_2 : decode cX9_ones 2 = .ok (.iload_n 0, 1) := by decide +kernel
theorem dX9_ones_3 : decode cX9_ones 3 = .ok (.istore_n 2, 1) := by decide +kernel
theorem dX9_ones_4 : decode cX9_ones 4 = .ok (.iload_n 2, 1) := by decide +kernel
theorem dX9_ones_5 : decode cX9_ones 5 = .ok (.ifCond .eq 15, 3) := by decide +kernel
theorem dX9_ones_8 : decode cX9_ones 8 = .ok (.iinc 1 1, 3) := by decide +kernel
theorem dX9_ones_11 : decode cX9_ones 11 = .ok (.iload_n 2, 1) := by decide +kernel
theorem dX9_ones_12 : decode cX9_ones 12 = .ok (.iload_n 2, 1) := by decide +kernel
theorem dX9_ones_13 : decode cX9_ones 13 = .ok (.iconst 1, 1) := by decide +kernel
theorem dX9_ones_14 : decode cX9_ones 14 = .ok (.isub, 1) := by decide +kernel
theorem dX9_ones_15 : decode cX9_ones 15 = .ok (.iand, 1) := by decide +kernel
theorem dX9_ones_16 : decode cX9_ones 16 = .ok (.istore_n 2, 1) := by decide +kernel
theorem dX9_ones_17 : decode cX9_ones 17 = .ok (.goto (-13), 3) := by decide +kernel
theorem dX9_ones_20 : decode cX9_ones 20 = .ok (.iload_n 1, 1) := by decide +kernel
theorem dX9_ones_21 : decode cX9_ones 21 = .ok (.ireturn, 1) := by decide +kernel
theorem dX9_tear_0 : decode cX9_tear 0 = .ok (.aload_n 0, 1) := by decide +kernel
theorem dX9_tear_1 : decode cX9_tear 1 = .ok (.iconst 0, 1) := by decide +kernel
theorem dX9_tear_2 : decode cX9_tear 2 = .ok (.putfield 29, 3) := by decide +kernel
theorem dX9_tear_5 : decode cX9_tear 5 = .ok (.iload_n 1, 1) := by decide +kernel
theorem dX9_tear_6 : decode cX9_tear 6 = .ok (.invokestatic 108, 3) := by decide +kernel
theorem dX9_tear_9 : decode cX9_tear 9 = .ok (.ifCond .ne 9, 3) := by decide +kernel
theorem dX9_tear_12 : decode cX9_tear 12 = .ok (.aload_n 0, 1) := by decide +kernel
theorem dX9_tear_13 : decode cX9_tear 13 = .ok (.iconst 1, 1) := by decide +kernel
theorem dX9_tear_14 : decode cX9_tear 14 = .ok (.invokevirtual 99, 3) := by decide +kernel
theorem dX9_tear_17 : decode cX9_tear 17 = .ok (.ireturn, 1) := by decide +kernel
theorem dX9_tear_18 : decode cX9_tear 18 = .ok (.aload_n 0, 1) := by decide +kernel
theorem dX9_tear_19 : decode cX9_tear 19 = .ok (.iload_n 1, 1) := by decide +kernel
theorem dX9_tear_20 : decode cX9_tear 20 = .ok (.invokevirtual 48, 3) := by decide +kernel
theorem dX9_tear_23 : decode cX9_tear 23 = .ok (.istore_n 2, 1) := by decide +kernel
theorem dX9_tear_24 : decode cX9_tear 24 = .ok (.iload_n 2, 1) := by decide +kernel
theorem dX9_tear_25 : decode cX9_tear 25 = .ok (.ifCond .ge 9, 3) := by decide +kernel
theorem dX9_tear_28 : decode cX9_tear 28 = .ok (.aload_n 0, 1) := by decide +kernel
theorem dX9_tear_29 : decode cX9_tear 29 = .ok (.iconst 2, 1) := by decide +kernel
theorem dX9_tear_30 : decode cX9_tear 30 = .ok (.invokevirtual 99, 3) := by decide +kernel
theorem dX9_tear_33 : decode cX9_tear 33 = .ok (.ireturn, 1) := by decide +kernel
theorem dX9_tear_34 : decode cX9_tear 34 = .ok (.aload_n 0, 1) := by decide +kernel
theorem dX9_tear_35 : decode cX9_tear 35 = .ok (.invokevirtual 102, 3) := by decide +kernel
theorem dX9_tear_38 : decode cX9_tear 38 = .ok (.aload_n 0, 1) := by decide +kernel
theorem dX9_tear_39 : decode cX9_tear 39 = .ok (.getfield 7, 3) := by decide +kernel
theorem dX9_tear_42 : decode cX9_tear 42 = .ok (.iload_n 2, 1) := by decide +kernel
theorem dX9_tear_43 : decode cX9_tear 43 = .ok (.iconst 2, 1) := by decide +kernel
theorem dX9_tear_44 : decode cX9_tear 44 = .ok (.iadd, 1) := by decide +kernel
theorem dX9_tear_45 : decode cX9_tear 45 = .ok (.iaload, 1) := by decide +kernel
theorem dX9_tear_46 : decode cX9_tear 46 = .ok (.invokestatic 118, 3) := by decide +kernel
theorem dX9_tear_49 : decode cX9_tear 49 = .ok (.aload_n 0, 1) := by decide +kernel
theorem dX9_tear_50 : decode cX9_tear 50 = .ok (.getfield 7, 3) := by decide +kernel
theorem dX9_tear_53 : decode cX9_tear 53 = .ok (.iload_n 2, 1) := by decide +kernel
theorem dX9_tear_54 : decode cX9_tear 54 = .ok (.iconst 1, 1) := by decide +kernel
theorem dX9_tear_55 : decode cX9_tear 55 = .ok (.iadd, 1) := by decide +kernel
theorem dX9_tear_56 : decode cX9_tear 56 = .ok (.iaload, 1) := by decide +kernel
theorem dX9_tear_57 : decode cX9_tear 57 = .ok (.ifCond .lt 7, 3) := by decide +kernel
theorem dX9_tear_60 : decode cX9_tear 60 = .ok (.iconst 1, 1) := by decide +kernel
theorem dX9_tear_61 : decode cX9_tear 61 = .ok (.goto 4, 3) := by decide +kernel
theorem dX9_tear_64 : decode cX9_tear 64 = .ok (.iconst 0, 1) := by decide +kernel
theorem dX9_tear_65 : decode cX9_tear 65 = .ok (.iadd, 1) := by decide +kernel
theorem dX9_tear_66 : decode cX9_tear 66 = .ok (.istore_n 3, 1) := by decide +kernel
theorem dX9_tear_67 : decode cX9_tear 67 = .ok (.aload_n 0, 1) := by decide +kernel
theorem dX9_tear_68 : decode cX9_tear 68 = .ok (.iload_n 2, 1) := by decide +kernel
theorem dX9_tear_69 : decode cX9_tear 69 = .ok (.invokevirtual 59, 3) := by decide +kernel
theorem dX9_tear_72 : decode cX9_tear 72 = .ok (.iload_n 3, 1) := by decide +kernel
theorem dX9_tear_73 : decode cX9_tear 73 = .ok (.ireturn, 1) := by decide +kernel
theorem dX9_aboutCopy_0 : decode cX9_aboutCopy 0 = .ok (.aload_n 0, 1) := by decide +kernel
theorem dX9_aboutCopy_1 : decode cX9_aboutCopy 1 = .ok (.iload_n 1, 1) := by decide +kernel
theorem dX9_aboutCopy_2 : decode cX9_aboutCopy 2 = .ok (.iload_n 2, 1) := by decide +kernel
theorem dX9_aboutCopy_3 : decode cX9_aboutCopy 3 = .ok (.invokevirtual 52, 3) := by decide +kernel
theorem dX9_aboutCopy_6 : decode cX9_aboutCopy 6 = .ok (.istore 4, 2) := by decide +kernel
theorem dX9_aboutCopy_8 : decode cX9_aboutCopy 8 = .ok (.iload 4, 2) := by decide +kernel
theorem dX9_aboutCopy_10 : decode cX9_aboutCopy 10 = .ok (.ifCond .ge 13, 3) := by decide +kernel
theorem dX9_aboutCopy_13 : decode cX9_aboutCopy 13 = .ok (.iload_n 3, 1) := by decide +kernel
theorem dX9_aboutCopy_14 : decode cX9_aboutCopy 14 = .ok (.ifCond .ne 7, 3) := by decide +kernel
theorem dX9_aboutCopy_17 : decode cX9_aboutCopy 17 = .ok (.iconst 0, 1) := by decide +kernel
theorem dX9_aboutCopy_18 : decode cX9_aboutCopy 18 = .ok (.goto 4, 3) := by decide +kernel
theorem dX9_aboutCopy_21 : decode cX9_aboutCopy 21 = .ok (.iconst (-1), 1) := by decide +kernel
theorem dX9_aboutCopy_22 : decode cX9_aboutCopy 22 = .ok (.ireturn, 1) := by decide +kernel
theorem dX9_aboutCopy_23 : decode cX9_aboutCopy 23 = .ok (.iload_n 3, 1) := by decide +kernel
theorem dX9_aboutCopy_24 : decode cX9_aboutCopy 24 = .ok (.iconst 2, 1) := by decide +kernel
theorem dX9_aboutCopy_25 : decode cX9_aboutCopy 25 = .ok (.if_icmp .ne 14, 3) := by decide +kernel
theorem dX9_aboutCopy_28 : decode cX9_aboutCopy 28 = .ok (.iload 4, 2) := by decide +kernel
theorem dX9_aboutCopy_30 : decode cX9_aboutCopy 30 = .ok (.iload_n 1, 1) := by decide +kernel
theorem dX9_aboutCopy_31 : decode cX9_aboutCopy 31 = .ok (.iconst 0, 1) := by decide +kernel
theorem dX9_aboutCopy_32 : decode cX9_aboutCopy 32 = .ok (.invokestatic 40, 3) := by decide +kernel
theorem dX9_aboutCopy_35 : decode cX9_aboutCopy 35 = .ok (.isub, 1) := by decide +kernel
theorem dX9_aboutCopy_36 : decode cX9_aboutCopy 36 = .ok (.iconst 4, 1) := by decide +kernel
theorem dX9_aboutCopy_37 : decode cX9_aboutCopy 37 = .ok (.idiv, 1) := by decide +kernel
theorem dX9_aboutCopy_38 : decode cX9_aboutCopy 38 = .ok (.ireturn, 1) := by decide +kernel
theorem dX9_aboutCopy_39 : decode cX9_aboutCopy 39 = .ok (.iconst 0, 1) := by decide +kernel
theorem dX9_aboutCopy_40 : decode cX9_aboutCopy 40 = .ok (.istore 5, 2) := by decide +kernel
theorem dX9_aboutCopy_42 : decode cX9_aboutCopy 42 = .ok (.iconst 0, 1) := by decide +kernel
theorem dX9_aboutCopy_43 : decode cX9_aboutCopy 43 = .ok (.istore 6, 2) := by decide +kernel
theorem dX9_aboutCopy_45 : decode cX9_aboutCopy 45 = .ok (.iload 6, 2) := by decide +kernel
theorem dX9_aboutCopy_47 : decode cX9_aboutCopy 47 = .ok (.aload_n 0, 1) := by decide +kernel
theorem dX9_aboutCopy_48 : decode cX9_aboutCopy 48 = .ok (.getfield 7, 3) := by decide +kernel
theorem dX9_aboutCopy_51 : decode cX9_aboutCopy 51 = .ok (.iconst 1, 1) := by decide +kernel
theorem dX9_aboutCopy_52 : decode cX9_aboutCopy 52 = .ok (.iaload, 1) := by decide +kernel
theorem dX9_aboutCopy_53 : decode cX9_aboutCopy 53 = .ok (.if_icmp .ge 58, 3) := by decide +kernel
theorem dX9_aboutCopy_56 : decode cX9_aboutCopy 56 = .ok (.iload 5, 2) := by decide +kernel
theorem dX9_aboutCopy_58 : decode cX9_aboutCopy 58 = .ok (.aload_n 0, 1) := by decide +kernel
theorem dX9_aboutCopy_59 : decode cX9_aboutCopy 59 = .ok (.getfield 7, 3) := by decide +kernel
theorem dX9_aboutCopy_62 : decode cX9_aboutCopy 62 = .ok (.iload_n 1, 1) := by decide +kernel
theorem dX9_aboutCopy_63 : decode cX9_aboutCopy 63 = .ok (.iload 6, 2) := by decide +kernel
theorem dX9_aboutCopy_65 : decode cX9_aboutCopy 65 = .ok (.invokestatic 40, 3) := by decide +kernel
theorem dX9_aboutCopy_68 : decode cX9_aboutCopy 68 = .ok (.iaload, 1) := by decide +kernel
theorem dX9_aboutCopy_69 : decode cX9_aboutCopy 69 = .ok (.ifCond .lt 32, 3) := by decide +kernel
theorem dX9_aboutCopy_72 : decode cX9_aboutCopy 72 = .ok (.aload_n 0, 1) := by decide +kernel
theorem dX9_aboutCopy_73 : decode cX9_aboutCopy 73 = .ok (.getfield 7, 3) := by decide +kernel
theorem dX9_aboutCopy_76 : decode cX9_aboutCopy 76 = .ok (.iload_n 1, 1) := by decide +kernel
theorem dX9_aboutCopy_77 : decode cX9_aboutCopy 77 = .ok (.iload 6, 2) := by decide +kernel
theorem dX9_aboutCopy_79 : decode cX9_aboutCopy 79 = .ok (.invokestatic 40, 3) := by decide +kernel
theorem dX9_aboutCopy_82 : decode cX9_aboutCopy 82 = .ok (.iconst 3, 1) := by decide +kernel
theorem dX9_aboutCopy_83 : decode cX9_aboutCopy 83 = .ok (.iadd, 1) := by decide +kernel
theorem dX9_aboutCopy_84 : decode cX9_aboutCopy 84 = .ok (.iaload, 1) := by decide +kernel
theorem dX9_aboutCopy_85 : decode cX9_aboutCopy 85 = .ok (.aload_n 0, 1) := by decide +kernel
theorem dX9_aboutCopy_86 : decode cX9_aboutCopy 86 = .ok (.getfield 7, 3) := by decide +kernel
theorem dX9_aboutCopy_89 : decode cX9_aboutCopy 89 = .ok (.iload 4, 2) := by decide +kernel
theorem dX9_aboutCopy_91 : decode cX9_aboutCopy 91 = .ok (.iconst 3, 1) := by decide +kernel
theorem dX9_aboutCopy_92 : decode cX9_aboutCopy 92 = .ok (.iadd, 1) := by decide +kernel
theorem dX9_aboutCopy_93 : decode cX9_aboutCopy 93 = .ok (.iaload, 1) := by decide +kernel
theorem dX9_aboutCopy_94 : decode cX9_aboutCopy 94 = .ok (.if_icmp .le 7, 3) := by decide +kernel
theorem dX9_aboutCopy_97 : decode cX9_aboutCopy 97 = .ok (.iconst 1, 1) := by decide +kernel
theorem dX9_aboutCopy_98 : decode cX9_aboutCopy 98 = .ok (.goto 4, 3) := by decide +kernel
theorem dX9_aboutCopy_101 : decode cX9_aboutCopy 101 = .ok (.iconst 0, 1) := by decide +kernel
theorem dX9_aboutCopy_102 : decode cX9_aboutCopy 102 = .ok (.iadd, 1) := by decide +kernel
theorem dX9_aboutCopy_103 : decode cX9_aboutCopy 103 = .ok (.istore 5, 2) := by decide +kernel
theorem dX9_aboutCopy_105 : decode cX9_aboutCopy 105 = .ok (.iinc 6 1, 3) := by decide +kernel
theorem dX9_aboutCopy_108 : decode cX9_aboutCopy 108 = .ok (.goto (-63), 3) := by decide +kernel
theorem dX9_aboutCopy_111 : decode cX9_aboutCopy 111 = .ok (.iload_n 3, 1) := by decide +kernel
theorem dX9_aboutCopy_112 : decode cX9_aboutCopy 112 = .ok (.ifCond .ne 15, 3) := by decide +kernel
theorem dX9_aboutCopy_115 : decode cX9_aboutCopy 115 = .ok (.aload_n 0, 1) := by decide +kernel
theorem dX9_aboutCopy_116 : decode cX9_aboutCopy 116 = .ok (.getfield 7, 3) := by decide +kernel
theorem dX9_aboutCopy_119 : decode cX9_aboutCopy 119 = .ok (.iload 4, 2) := by decide +kernel
theorem dX9_aboutCopy_121 : decode cX9_aboutCopy 121 = .ok (.iconst 1, 1) := by decide +kernel
theorem dX9_aboutCopy_122 : decode cX9_aboutCopy 122 = .ok (.iadd, 1) := by decide +kernel
theorem dX9_aboutCopy_123 : decode cX9_aboutCopy 123 = .ok (.iaload, 1) := by decide +kernel
theorem dX9_aboutCopy_124 : decode cX9_aboutCopy 124 = .ok (.goto 22, 3) := by decide +kernel
theorem dX9_aboutCopy_127 : decode cX9_aboutCopy 127 = .ok (.iload_n 3, 1) := by decide +kernel
theorem dX9_aboutCopy_128 : decode cX9_aboutCopy 128 = .ok (.iconst 1, 1) := by decide +kernel
theorem dX9_aboutCopy_129 : decode cX9_aboutCopy 129 = .ok (.if_icmp .ne 15, 3) := by decide +kernel
theorem dX9_aboutCopy_132 : decode cX9_aboutCopy 132 = .ok (.aload_n 0, 1) := by decide +kernel
theorem dX9_aboutCopy_133 : decode cX9_aboutCopy 133 = .ok (.getfield 7, 3) := by decide +kernel
theorem dX9_aboutCopy_136 : decode cX9_aboutCopy 136 = .ok (.iload 4, 2) := by decide +kernel
theorem dX9_aboutCopy_138 : decode cX9_aboutCopy 138 = .ok (.iconst 2, 1) := by decide +kernel
theorem dX9_aboutCopy_139 : decode cX9_aboutCopy 139 = .ok (.iadd, 1) := by decide +kernel
theorem dX9_aboutCopy_140 : decode cX9_aboutCopy 140 = .ok (.iaload, 1) := by decide +kernel
theorem dX9_aboutCopy_141 : decode cX9_aboutCopy 141 = .ok (.goto 5, 3) := by decide +kernel
theorem dX9_aboutCopy_144 : decode cX9_aboutCopy 144 = .ok (.iload 5, 2) := by decide +kernel
theorem dX9_aboutCopy_146 : decode cX9_aboutCopy 146 = .ok (.ireturn, 1) := by decide +kernel
theorem dX9_copy_0 : decode cX9_copy 0 = .ok (.aload_n 0, 1) := by decide +kernel
theorem dX9_copy_1 : decode cX9_copy 1 = .ok (.iconst 0, 1) := by decide +kernel
theorem dX9_copy_2 : decode cX9_copy 2 = .ok (.putfield 29, 3) := by decide +kernel
theorem dX9_copy_5 : decode cX9_copy 5 = .ok (.aload_n 0, 1) := by decide +kernel
theorem dX9_copy_6 : decode cX9_copy 6 = .ok (.iload_n 1, 1) := by decide +kernel
theorem dX9_copy_7 : decode cX9_copy 7 = .ok (.invokevirtual 105, 3) := by decide +kernel
theorem dX9_copy_10 : decode cX9_copy 10 = .ok (.ifCond .eq 10, 3) := by decide +kernel
theorem dX9_copy_13 : decode cX9_copy 13 = .ok (.iload_n 2, 1) := by decide +kernel
theorem dX9_copy_14 : decode cX9_copy 14 = .ok (.invokestatic 108, 3) := by decide +kernel
theorem dX9_copy_17 : decode cX9_copy 17 = .ok (.ifCond .ne 9, 3) := by decide +kernel
theorem dX9_copy_20 : decode cX9_copy 20 = .ok (.aload_n 0, 1) := by decide +kernel
theorem dX9_copy_21 : decode cX9_copy 21 = .ok (.iconst 1, 1) := by decide +kernel
theorem dX9_copy_22 : decode cX9_copy 22 = .ok (.invokevirtual 99, 3) := by decide +kernel
theorem dX9_copy_25 : decode cX9_copy 25 = .ok (.ireturn, 1) := by decide +kernel
theorem dX9_copy_26 : decode cX9_copy 26 = .ok (.iload_n 3, 1) := by decide +kernel
theorem dX9_copy_27 : decode cX9_copy 27 = .ok (.iconst 0, 1) := by decide +kernel
theorem dX9_copy_28 : decode cX9_copy 28 = .ok (.iconst 3, 1) := by decide +kernel
theorem dX9_copy_29 : decode cX9_copy 29 = .ok (.invokestatic 36, 3) := by decide +kernel
theorem dX9_copy_32 : decode cX9_copy 32 = .ok (.ifCond .eq 13, 3) := by decide +kernel
theorem dX9_copy_35 : decode cX9_copy 35 = .ok (.aload_n 0, 1) := by decide +kernel
theorem dX9_copy_36 : decode cX9_copy 36 = .ok (.iload_n 1, 1) := by decide +kernel
theorem dX9_copy_37 : decode cX9_copy 37 = .ok (.iload_n 2, 1) := by decide +kernel
theorem dX9_copy_38 : decode cX9_copy 38 = .ok (.iload_n 3, 1) := by decide +kernel
theorem dX9_copy_39 : decode cX9_copy 39 = .ok (.invokevirtual 121, 3) := by decide +kernel
theorem dX9_copy_42 : decode cX9_copy 42 = .ok (.goto 8, 3) := by decide +kernel
theorem dX9_copy_45 : decode cX9_copy 45 = .ok (.aload_n 0, 1) := by decide +kernel
theorem dX9_copy_46 : decode cX9_copy 46 = .ok (.iconst 2, 1) := by decide +kernel
theorem dX9_copy_47 : decode cX9_copy 47 = .ok (.invokevirtual 99, 3) := by decide +kernel
theorem dX9_copy_50 : decode cX9_copy 50 = .ok (.ireturn, 1) := by decide +kernel
theorem dX9_aboutLine_0 : decode cX9_aboutLine 0 = .ok (.aload_n 0, 1) := by decide +kernel
theorem dX9_aboutLine_1 : decode cX9_aboutLine 1 = .ok (.iload_n 1, 1) := by decide +kernel
theorem dX9_aboutLine_2 : decode cX9_aboutLine 2 = .ok (.invokevirtual 48, 3) := by decide +kernel
theorem dX9_aboutLine_5 : decode cX9_aboutLine 5 = .ok (.istore_n 3, 1) := by decide +kernel
theorem dX9_aboutLine_6 : decode cX9_aboutLine 6 = .ok (.iload_n 2, 1) := by decide +kernel
theorem dX9_aboutLine_7 : decode cX9_aboutLine 7 = .ok (.tableswitch 117 0 6 #[41, 51, 61, 67, 73, 83, 100], 41) := by decide +kernel
theorem dX9_aboutLine_48 : decode cX9_aboutLine 48 = .ok (.aload_n 0, 1) := by decide +kernel
theorem dX9_aboutLine_49 : decode cX9_aboutLine 49 = .ok (.getfield 7, 3) := by decide +kernel
theorem dX9_aboutLine_52 : decode cX9_aboutLine 52 = .ok (.bipush 14, 2) := by decide +kernel
theorem dX9_aboutLine_54 : decode cX9_aboutLine 54 = .ok (.iload_n 1, 1) := by decide +kernel
theorem dX9_aboutLine_55 : decode cX9_aboutLine 55 = .ok (.iadd, 1) := by decide +kernel
theorem dX9_aboutLine_56 : decode cX9_aboutLine 56 = .ok (.iaload, 1) := by decide +kernel
theorem dX9_aboutLine_57 : decode cX9_aboutLine 57 = .ok (.ireturn, 1) := by decide +kernel
theorem dX9_aboutLine_58 : decode cX9_aboutLine 58 = .ok (.aload_n 0, 1) := by decide +kernel
theorem dX9_aboutLine_59 : decode cX9_aboutLine 59 = .ok (.getfield 7, 3) := by decide +kernel
theorem dX9_aboutLine_62 : decode cX9_aboutLine 62 = .ok (.bipush 46, 2) := by decide +kernel
theorem dX9_aboutLine_64 : decode cX9_aboutLine 64 = .ok (.iload_n 1, 1) := by decide +kernel
theorem dX9_aboutLine_65 : decode cX9_aboutLine 65 = .ok (.iadd, 1) := by decide +kernel
theorem dX9_aboutLine_66 : decode cX9_aboutLine 66 = .ok (.iaload, 1) := by decide +kernel
theorem dX9_aboutLine_67 : decode cX9_aboutLine 67 = .ok (.ireturn, 1) := by decide +kernel
theorem dX9_aboutLine_68 : decode cX9_aboutLine 68 = .ok (.aload_n 0, 1) := by decide +kernel
theorem dX9_aboutLine_69 : decode cX9_aboutLine 69 = .ok (.iload_n 1, 1) := by decide +kernel
theorem dX9_aboutLine_70 : decode cX9_aboutLine 70 = .ok (.invokevirtual 62, 3) := by decide +kernel
theorem dX9_aboutLine_73 : decode cX9_aboutLine 73 = .ok (.ireturn, 1) := by decide +kernel
theorem dX9_aboutLine_74 : decode cX9_aboutLine 74 = .ok (.aload_n 0, 1) := by decide +kernel
theorem dX9_aboutLine_75 : decode cX9_aboutLine 75 = .ok (.iload_n 1, 1) := by decide +kernel
theorem dX9_aboutLine_76 : decode cX9_aboutLine 76 = .ok (.invokevirtual 65, 3) := by decide +kernel
theorem dX9_aboutLine_79 : decode cX9_aboutLine 79 = .ok (.ireturn, 1) := by decide +kernel
theorem dX9_aboutLine_80 : decode cX9_aboutLine 80 = .ok (.iload_n 3, 1) := by decide +kernel
theorem dX9_aboutLine_81 : decode cX9_aboutLine 81 = .ok (.ifCond .lt 7, 3) := by decide +kernel
theorem dX9_aboutLine_84 : decode cX9_aboutLine 84 = .ok (.iconst 1, 1) := by decide +kernel
theorem dX9_aboutLine_85 : decode cX9_aboutLine 85 = .ok (.goto 4, 3) := by decide +kernel
theorem dX9_aboutLine_88 : decode cX9_aboutLine 88 = .ok (.iconst 0, 1) := by decide +kernel
theorem dX9_aboutLine_89 : decode cX9_aboutLine 89 = .ok (.ireturn, 1) := by decide +kernel
theorem dX9_aboutLine_90 : decode cX9_aboutLine 90 = .ok (.iload_n 3, 1) := by decide +kernel
theorem dX9_aboutLine_91 : decode cX9_aboutLine 91 = .ok (.ifCond .lt 14, 3) := by decide +kernel
theorem dX9_aboutLine_94 : decode cX9_aboutLine 94 = .ok (.aload_n 0, 1) := by decide +kernel
theorem dX9_aboutLine_95 : decode cX9_aboutLine 95 = .ok (.getfield 7, 3) := by decide +kernel
theorem dX9_aboutLine_98 : decode cX9_aboutLine 98 = .ok (.iload_n 3, 1) := by decide +kernel
theorem dX9_aboutLine_99 : decode cX9_aboutLine 99 = .ok (.iconst 1, 1) := by decide +kernel
theorem dX9_aboutLine_100 : decode cX9_aboutLine 100 = .ok (.iadd, 1) := by decide +kernel
theorem dX9_aboutLine_101 : decode cX9_aboutLine 101 = .ok (.iaload, 1) := by decide +kernel
theorem dX9_aboutLine_102 : decode cX9_aboutLine 102 = .ok (.goto 4, 3) := by decide +kernel
theorem dX9_aboutLine_105 : decode cX9_aboutLine 105 = .ok (.iconst (-1), 1) := by decide +kernel
theorem dX9_aboutLine_106 : decode cX9_aboutLine 106 = .ok (.ireturn, 1) := by decide +kernel
theorem dX9_aboutLine_107 : decode cX9_aboutLine 107 = .ok (.iload_n 3, 1) := by decide +kernel
theorem dX9_aboutLine_108 : decode cX9_aboutLine 108 = .ok (.ifCond .lt 14, 3) := by decide +kernel
theorem dX9_aboutLine_111 : decode cX9_aboutLine 111 = .ok (.aload_n 0, 1) := by decide +kernel
theorem dX9_aboutLine_112 : decode cX9_aboutLine 112 = .ok (.getfield 7, 3) := by decide +kernel
theorem dX9_aboutLine_115 : decode cX9_aboutLine 115 = .ok (.iload_n 3, 1) := by decide +kernel
theorem dX9_aboutLine_116 : decode cX9_aboutLine 116 = .ok (.iconst 2, 1) := by decide +kernel
theorem dX9_aboutLine_117 : decode cX9_aboutLine 117 = .ok (.iadd, 1) := by decide +kernel
theorem dX9_aboutLine_118 : decode cX9_aboutLine 118 = .ok (.iaload, 1) := by decide +kernel
theorem dX9_aboutLine_119 : decode cX9_aboutLine 119 = .ok (.goto 4, 3) := by decide +kernel
theorem dX9_aboutLine_122 : decode cX9_aboutLine 122 = .ok (.iconst (-1), 1) := by decide +kernel
theorem dX9_aboutLine_123 : decode cX9_aboutLine 123 = .ok (.ireturn, 1) := by decide +kernel
theorem dX9_aboutLine_124 : decode cX9_aboutLine 124 = .ok (.aload_n 0, 1) := by decide +kernel
theorem dX9_aboutLine_125 : decode cX9_aboutLine 125 = .ok (.getfield 7, 3) := by decide +kernel
theorem dX9_aboutLine_128 : decode cX9_aboutLine 128 = .ok (.bipush 78, 2) := by decide +kernel
theorem dX9_aboutLine_130 : decode cX9_aboutLine 130 = .ok (.iload_n 1, 1) := by decide +kernel
theorem dX9_aboutLine_131 : decode cX9_aboutLine 131 = .ok (.iadd, 1) := by decide +kernel
theorem dX9_aboutLine_132 : decode cX9_aboutLine 132 = .ok (.iaload, 1) := by decide +kernel
theorem dX9_aboutLine_133 : decode cX9_aboutLine 133 = .ok (.ireturn, 1) := by decide +kernel
theorem dX9_line_0 : decode cX9_line 0 = .ok (.aload_n 0, 1) := by decide +kernel
theorem dX9_line_1 : decode cX9_line 1 = .ok (.iconst 0, 1) := by decide +kernel
theorem dX9_line_2 : decode cX9_line 2 = .ok (.putfield 29, 3) := by decide +kernel
theorem dX9_line_5 : decode cX9_line 5 = .ok (.iload_n 1, 1) := by decide +kernel
theorem dX9_line_6 : decode cX9_line 6 = .ok (.invokestatic 108, 3) := by decide +kernel
theorem dX9_line_9 : decode cX9_line 9 = .ok (.ifCond .ne 9, 3) := by decide +kernel
theorem dX9_line_12 : decode cX9_line 12 = .ok (.aload_n 0, 1) := by decide +kernel
theorem dX9_line_13 : decode cX9_line 13 = .ok (.iconst 1, 1) := by decide +kernel
theorem dX9_line_14 : decode cX9_line 14 = .ok (.invokevirtual 99, 3) := by decide +kernel
theorem dX9_line_17 : decode cX9_line 17 = .ok (.ireturn, 1) := by decide +kernel
theorem dX9_line_18 : decode cX9_line 18 = .ok (.iload_n 2, 1) := by decide +kernel
theorem dX9_line_19 : decode cX9_line 19 = .ok (.iconst 0, 1) := by decide +kernel
theorem dX9_line_20 : decode cX9_line 20 = .ok (.bipush 7, 2) := by decide +kernel
theorem dX9_line_22 : decode cX9_line 22 = .ok (.invokestatic 36, 3) := by decide +kernel
theorem dX9_line_25 : decode cX9_line 25 = .ok (.ifCond .eq 12, 3) := by decide +kernel
theorem dX9_line_28 : decode cX9_line 28 = .ok (.aload_n 0, 1) := by decide +kernel
theorem dX9_line_29 : decode cX9_line 29 = .ok (.iload_n 1, 1) := by decide +kernel
theorem dX9_line_30 : decode cX9_line 30 = .ok (.iload_n 2, 1) := by decide +kernel
theorem dX9_line_31 : decode cX9_line 31 = .ok (.invokevirtual 124, 3) := by decide +kernel
theorem dX9_line_34 : decode cX9_line 34 = .ok (.goto 8, 3) := by decide +kernel
theorem dX9_line_37 : decode cX9_line 37 = .ok (.aload_n 0, 1) := by decide +kernel
theorem dX9_line_38 : decode cX9_line 38 = .ok (.iconst 2, 1) := by decide +kernel
theorem dX9_line_39 : decode cX9_line 39 = .ok (.invokevirtual 99, 3) := by decide +kernel
theorem dX9_line_42 : decode cX9_line 42 = .ok (.ireturn, 1) := by decide +kernel
theorem dX9_aboutPending_0 : decode cX9_aboutPending 0 = .ok (.aload_n 0, 1) := by decide +kernel
theorem dX9_aboutPending_1 : decode cX9_aboutPending 1 = .ok (.iload_n 1, 1) := by decide +kernel
theorem dX9_aboutPending_2 : decode cX9_aboutPending 2 = .ok (.invokevirtual 95, 3) := by decide +kernel
theorem dX9_aboutPending_5 : decode cX9_aboutPending 5 = .ok (.ifCond .eq 20, 3) := by decide +kernel
theorem dX9_aboutPending_8 : decode cX9_aboutPending 8 = .ok (.aload_n 0, 1) := by decide +kernel
theorem dX9_aboutPending_9 : decode cX9_aboutPending 9 = .ok (.getfield 7, 3) := by decide +kernel
theorem dX9_aboutPending_12 : decode cX9_aboutPending 12 = .ok (.sipush 366, 3) := by decide +kernel
theorem dX9_aboutPending_15 : decode cX9_aboutPending 15 = .ok (.iconst 3, 1) := by decide +kernel
theorem dX9_aboutPending_16 : decode cX9_aboutPending 16 = .ok (.iload_n 1, 1) := by decide +kernel
theorem dX9_aboutPending_17 : decode cX9_aboutPending 17 = .ok (.imul, 1) := by decide +kernel
theorem dX9_aboutPending_18 : decode cX9_aboutPending 18 = .ok (.iadd, 1) := by decide +kernel
theorem dX9_aboutPending_19 : decode cX9_aboutPending 19 = .ok (.iload_n 2, 1) := by decide +kernel
theorem dX9_aboutPending_20 : decode cX9_aboutPending 20 = .ok (.iadd, 1) := by decide +kernel
theorem dX9_aboutPending_21 : decode cX9_aboutPending 21 = .ok (.iaload, 1) := by decide +kernel
theorem dX9_aboutPending_22 : decode cX9_aboutPending 22 = .ok (.goto 4, 3) := by decide +kernel
theorem dX9_aboutPending_25 : decode cX9_aboutPending 25 = .ok (.iconst (-1), 1) := by decide +kernel
theorem dX9_aboutPending_26 : decode cX9_aboutPending 26 = .ok (.ireturn, 1) := by decide +kernel
theorem dX9_pending_0 : decode cX9_pending 0 = .ok (.aload_n 0, 1) := by decide +kernel
theorem dX9_pending_1 : decode cX9_pending 1 = .ok (.iconst 0, 1) := by decide +kernel
theorem dX9_pending_2 : decode cX9_pending 2 = .ok (.putfield 29, 3) := by decide +kernel
theorem dX9_pending_5 : decode cX9_pending 5 = .ok (.aload_n 0, 1) := by decide +kernel
theorem dX9_pending_6 : decode cX9_pending 6 = .ok (.iload_n 1, 1) := by decide +kernel
theorem dX9_pending_7 : decode cX9_pending 7 = .ok (.invokevirtual 105, 3) := by decide +kernel
theorem dX9_pending_10 : decode cX9_pending 10 = .ok (.ifCond .ne 9, 3) := by decide +kernel
theorem dX9_pending_13 : decode cX9_pending 13 = .ok (.aload_n 0, 1) := by decide +kernel
theorem dX9_pending_14 : decode cX9_pending 14 = .ok (.iconst 1, 1) := by decide +kernel
theorem dX9_pending_15 : decode cX9_pending 15 = .ok (.invokevirtual 99, 3) := by decide +kernel
theorem dX9_pending_18 : decode cX9_pending 18 = .ok (.ireturn, 1) := by decide +kernel
theorem dX9_pending_19 : decode cX9_pending 19 = .ok (.iload_n 2, 1) := by decide +kernel
theorem dX9_pending_20 : decode cX9_pending 20 = .ok (.iconst 0, 1) := by decide +kernel
theorem dX9_pending_21 : decode cX9_pending 21 = .ok (.iconst 2, 1) := by decide +kernel
theorem dX9_pending_22 : decode cX9_pending 22 = .ok (.invokestatic 36, 3) := by decide +kernel
theorem dX9_pending_25 : decode cX9_pending 25 = .ok (.ifCond .eq 12, 3) := by decide +kernel
theorem dX9_pending_28 : decode cX9_pending 28 = .ok (.aload_n 0, 1) := by decide +kernel
theorem dX9_pending_29 : decode cX9_pending 29 = .ok (.iload_n 1, 1) := by decide +kernel
theorem dX9_pending_30 : decode cX9_pending 30 = .ok (.iload_n 2, 1) := by decide +kernel
theorem dX9_pending_31 : decode cX9_pending 31 = .ok (.invokevirtual 127, 3) := by decide +kernel
theorem dX9_pending_34 : decode cX9_pending 34 = .ok (.goto 8, 3) := by decide +kernel
theorem dX9_pending_37 : decode cX9_pending 37 = .ok (.aload_n 0, 1) := by decide +kernel
theorem dX9_pending_38 : decode cX9_pending 38 = .ok (.iconst 2, 1) := by decide +kernel
theorem dX9_pending_39 : decode cX9_pending 39 = .ok (.invokevirtual 99, 3) := by decide +kernel
theorem dX9_pending_42 : decode cX9_pending 42 = .ok (.ireturn, 1) := by decide +kernel
theorem dX9_entry_0 : decode cX9_entry 0 = .ok (.aload_n 0, 1) := by decide +kernel
theorem dX9_entry_1 : decode cX9_entry 1 = .ok (.iconst 0, 1) := by decide +kernel
theorem dX9_entry_2 : decode cX9_entry 2 = .ok (.putfield 29, 3) := by decide +kernel
theorem dX9_entry_5 : decode cX9_entry 5 = .ok (.iload_n 1, 1) := by decide +kernel
theorem dX9_entry_6 : decode cX9_entry 6 = .ok (.iconst 0, 1) := by decide +kernel
theorem dX9_entry_7 : decode cX9_entry 7 = .ok (.aload_n 0, 1) := by decide +kernel
theorem dX9_entry_8 : decode cX9_entry 8 = .ok (.getfield 7, 3) := by decide +kernel
theorem dX9_entry_11 : decode cX9_entry 11 = .ok (.bipush 12, 2) := by decide +kernel
theorem dX9_entry_13 : decode cX9_entry 13 = .ok (.iaload, 1) := by decide +kernel
theorem dX9_entry_14 : decode cX9_entry 14 = .ok (.iconst 1, 1) := by decide +kernel
theorem dX9_entry_15 : decode cX9_entry 15 = .ok (.isub, 1) := by decide +kernel
end
section
theorem dX9_entry_16 : decode cX9_entry 16 = .ok (.invokestatic 36, 3) := by decide +kernel
theorem dX9_entry_19 : decode cX9_entry 19 = .ok (.ifCond .ne 9, 3) := by decide +kernel
theorem dX9_entry_22 : decode cX9_entry 22 = .ok (.aload_n 0, 1) := by decide +kernel
theorem dX9_entry_23 : decode cX9_entry 23 = .ok (.iconst 1, 1) := by decide +kernel
theorem dX9_entry_24 : decode cX9_entry 24 = .ok (.invokevirtual 99, 3) := by decide +kernel
theorem dX9_entry_27 : decode cX9_entry 27 = .ok (.ireturn, 1) := by decide +kernel
theorem dX9_entry_28 : decode cX9_entry 28 = .ok (.iload_n 2, 1) := by decide +kernel
theorem dX9_entry_29 : decode cX9_entry 29 = .ok (.iconst 0, 1) := by decide +kernel
theorem dX9_entry_30 : decode cX9_entry 30 = .ok (.iconst 5, 1) := by decide +kernel
theorem dX9_entry_31 : decode cX9_entry 31 = .ok (.invokestatic 36, 3) := by decide +kernel
theorem dX9_entry_34 : decode cX9_entry 34 = .ok (.ifCond .eq 21, 3) := by decide +kernel
theorem dX9_entry_37 : decode cX9_entry 37 = .ok (.aload_n 0, 1) := by decide +kernel
theorem dX9_entry_38 : decode cX9_entry 38 = .ok (.getfield 7, 3) := by decide +kernel
theorem dX9_entry_41 : decode cX9_entry 41 = .ok (.sipush 384, 3) := by decide +kernel
theorem dX9_entry_44 : decode cX9_entry 44 = .ok (.bipush 6, 2) := by decide +kernel
theorem dX9_entry_46 : decode cX9_entry 46 = .ok (.iload_n 1, 1) := by decide +kernel
theorem dX9_entry_47 : decode cX9_entry 47 = .ok (.imul, 1) := by decide +kernel
theorem dX9_entry_48 : decode cX9_entry 48 = .ok (.iadd, 1) := by decide +kernel
theorem dX9_entry_49 : decode cX9_entry 49 = .ok (.iload_n 2, 1) := by decide +kernel
theorem dX9_entry_50 : decode cX9_entry 50 = .ok (.iadd, 1) := by decide +kernel
theorem dX9_entry_51 : decode cX9_entry 51 = .ok (.iaload, 1) := by decide +kernel
theorem dX9_entry_52 : decode cX9_entry 52 = .ok (.goto 8, 3) := by decide +kernel
theorem dX9_entry_55 : decode cX9_entry 55 = .ok (.aload_n 0, 1) := by decide +kernel
theorem dX9_entry_56 : decode cX9_entry 56 = .ok (.iconst 2, 1) := by decide +kernel
theorem dX9_entry_57 : decode cX9_entry 57 = .ok (.invokevirtual 99, 3) := by decide +kernel
theorem dX9_entry_60 : decode cX9_entry 60 = .ok (.ireturn, 1) := by decide +kernel
theorem dX9_number_0 : decode cX9_number 0 = .ok (.iload_n 1, 1) := by decide +kernel
theorem dX9_number_1 : decode cX9_number 1 = .ok (.bipush 12, 2) := by decide +kernel
theorem dX9_number_3 : decode cX9_number 3 = .ok (.if_icmp .ne 10, 3) := by decide +kernel
theorem dX9_number_6 : decode cX9_number 6 = .ok (.aload_n 0, 1) := by decide +kernel
theorem dX9_number_7 : decode cX9_number 7 = .ok (.invokevirtual 130, 3) := by decide +kernel
theorem dX9_number_10 : decode cX9_number 10 = .ok (.goto 25, 3) := by decide +kernel
theorem dX9_number_13 : decode cX9_number 13 = .ok (.iload_n 1, 1) := by decide +kernel
theorem dX9_number_14 : decode cX9_number 14 = .ok (.bipush 13, 2) := by decide +kernel
theorem dX9_number_16 : decode cX9_number 16 = .ok (.if_icmp .ne 13, 3) := by decide +kernel
theorem dX9_number_19 : decode cX9_number 19 = .ok (.aload_n 0, 1) := by decide +kernel
theorem dX9_number_20 : decode cX9_number 20 = .ok (.getfield 7, 3) := by decide +kernel
theorem dX9_number_23 : decode cX9_number 23 = .ok (.bipush 12, 2) := by decide +kernel
theorem dX9_number_25 : decode cX9_number 25 = .ok (.iaload, 1) := by decide +kernel
theorem dX9_number_26 : decode cX9_number 26 = .ok (.goto 9, 3) := by decide +kernel
theorem dX9_number_29 : decode cX9_number 29 = .ok (.aload_n 0, 1) := by decide +kernel
theorem dX9_number_30 : decode cX9_number 30 = .ok (.getfield 7, 3) := by decide +kernel
theorem dX9_number_33 : decode cX9_number 33 = .ok (.iload_n 1, 1) := by decide +kernel
theorem dX9_number_34 : decode cX9_number 34 = .ok (.iaload, 1) := by decide +kernel
theorem dX9_number_35 : decode cX9_number 35 = .ok (.ireturn, 1) := by decide +kernel
theorem dX9_value_0 : decode cX9_value 0 = .ok (.aload_n 0, 1) := by decide +kernel
theorem dX9_value_1 : decode cX9_value 1 = .ok (.iconst 0, 1) := by decide +kernel
theorem dX9_value_2 : decode cX9_value 2 = .ok (.putfield 29, 3) := by decide +kernel
theorem dX9_value_5 : decode cX9_value 5 = .ok (.iload_n 1, 1) := by decide +kernel
theorem dX9_value_6 : decode cX9_value 6 = .ok (.iconst 0, 1) := by decide +kernel
theorem dX9_value_7 : decode cX9_value 7 = .ok (.bipush 13, 2) := by decide +kernel
theorem dX9_value_9 : decode cX9_value 9 = .ok (.invokestatic 36, 3) := by decide +kernel
theorem dX9_value_12 : decode cX9_value 12 = .ok (.ifCond .eq 11, 3) := by decide +kernel
theorem dX9_value_15 : decode cX9_value 15 = .ok (.aload_n 0, 1) := by decide +kernel
theorem dX9_value_16 : decode cX9_value 16 = .ok (.iload_n 1, 1) := by decide +kernel
theorem dX9_value_17 : decode cX9_value 17 = .ok (.invokevirtual 133, 3) := by decide +kernel
theorem dX9_value_20 : decode cX9_value 20 = .ok (.goto 8, 3) := by decide +kernel
theorem dX9_value_23 : decode cX9_value 23 = .ok (.aload_n 0, 1) := by decide +kernel
theorem dX9_value_24 : decode cX9_value 24 = .ok (.iconst 1, 1) := by decide +kernel
theorem dX9_value_25 : decode cX9_value 25 = .ok (.invokevirtual 99, 3) := by decide +kernel
theorem dX9_value_28 : decode cX9_value 28 = .ok (.ireturn, 1) := by decide +kernel
theorem dX9_costOf_0 : decode cX9_costOf 0 = .ok (.aload_n 0, 1) := by decide +kernel
theorem dX9_costOf_1 : decode cX9_costOf 1 = .ok (.invokevirtual 136, 3) := by decide +kernel
theorem dX9_costOf_4 : decode cX9_costOf 4 = .ok (.aload_n 0, 1) := by decide +kernel
theorem dX9_costOf_5 : decode cX9_costOf 5 = .ok (.iload_n 1, 1) := by decide +kernel
theorem dX9_costOf_6 : decode cX9_costOf 6 = .ok (.iload_n 2, 1) := by decide +kernel
theorem dX9_costOf_7 : decode cX9_costOf 7 = .ok (.iload_n 3, 1) := by decide +kernel
theorem dX9_costOf_8 : decode cX9_costOf 8 = .ok (.ifCond .eq 7, 3) := by decide +kernel
theorem dX9_costOf_11 : decode cX9_costOf 11 = .ok (.iconst 0, 1) := by decide +kernel
theorem dX9_costOf_12 : decode cX9_costOf 12 = .ok (.goto 4, 3) := by decide +kernel
theorem dX9_costOf_15 : decode cX9_costOf 15 = .ok (.iconst (-1), 1) := by decide +kernel
theorem dX9_costOf_16 : decode cX9_costOf 16 = .ok (.invokevirtual 89, 3) := by decide +kernel
theorem dX9_costOf_19 : decode cX9_costOf 19 = .ok (.istore 4, 2) := by decide +kernel
theorem dX9_costOf_21 : decode cX9_costOf 21 = .ok (.aload_n 0, 1) := by decide +kernel
theorem dX9_costOf_22 : decode cX9_costOf 22 = .ok (.invokevirtual 139, 3) := by decide +kernel
theorem dX9_costOf_25 : decode cX9_costOf 25 = .ok (.iload 4, 2) := by decide +kernel
theorem dX9_costOf_27 : decode cX9_costOf 27 = .ok (.ireturn, 1) := by decide +kernel
theorem dX9_cost_0 : decode cX9_cost 0 = .ok (.aload_n 0, 1) := by decide +kernel
theorem dX9_cost_1 : decode cX9_cost 1 = .ok (.iconst 0, 1) := by decide +kernel
theorem dX9_cost_2 : decode cX9_cost 2 = .ok (.putfield 29, 3) := by decide +kernel
theorem dX9_cost_5 : decode cX9_cost 5 = .ok (.aload_n 0, 1) := by decide +kernel
theorem dX9_cost_6 : decode cX9_cost 6 = .ok (.iload_n 1, 1) := by decide +kernel
theorem dX9_cost_7 : decode cX9_cost 7 = .ok (.invokevirtual 105, 3) := by decide +kernel
theorem dX9_cost_10 : decode cX9_cost 10 = .ok (.ifCond .eq 20, 3) := by decide +kernel
theorem dX9_cost_13 : decode cX9_cost 13 = .ok (.iload_n 2, 1) := by decide +kernel
theorem dX9_cost_14 : decode cX9_cost 14 = .ok (.invokestatic 108, 3) := by decide +kernel
theorem dX9_cost_17 : decode cX9_cost 17 = .ok (.ifCond .eq 13, 3) := by decide +kernel
theorem dX9_cost_20 : decode cX9_cost 20 = .ok (.aload_n 0, 1) := by decide +kernel
theorem dX9_cost_21 : decode cX9_cost 21 = .ok (.iload_n 1, 1) := by decide +kernel
theorem dX9_cost_22 : decode cX9_cost 22 = .ok (.iload_n 2, 1) := by decide +kernel
theorem dX9_cost_23 : decode cX9_cost 23 = .ok (.iload_n 3, 1) := by decide +kernel
theorem dX9_cost_24 : decode cX9_cost 24 = .ok (.invokevirtual 142, 3) := by decide +kernel
theorem dX9_cost_27 : decode cX9_cost 27 = .ok (.goto 8, 3) := by decide +kernel
theorem dX9_cost_30 : decode cX9_cost 30 = .ok (.aload_n 0, 1) := by decide +kernel
theorem dX9_cost_31 : decode cX9_cost 31 = .ok (.iconst 1, 1) := by decide +kernel
theorem dX9_cost_32 : decode cX9_cost 32 = .ok (.invokevirtual 99, 3) := by decide +kernel
theorem dX9_cost_35 : decode cX9_cost 35 = .ok (.ireturn, 1) := by decide +kernel
theorem dX9_nextTorn_0 : decode cX9_nextTorn 0 = .ok (.aload_n 0, 1) := by decide +kernel
theorem dX9_nextTorn_1 : decode cX9_nextTorn 1 = .ok (.iconst 0, 1) := by decide +kernel
theorem dX9_nextTorn_2 : decode cX9_nextTorn 2 = .ok (.putfield 29, 3) := by decide +kernel
theorem dX9_nextTorn_5 : decode cX9_nextTorn 5 = .ok (.aload_n 0, 1) := by decide +kernel
theorem dX9_nextTorn_6 : decode cX9_nextTorn 6 = .ok (.getfield 7, 3) := by decide +kernel
theorem dX9_nextTorn_9 : decode cX9_nextTorn 9 = .ok (.iconst 3, 1) := by decide +kernel
theorem dX9_nextTorn_10 : decode cX9_nextTorn 10 = .ok (.iaload, 1) := by decide +kernel
theorem dX9_nextTorn_11 : decode cX9_nextTorn 11 = .ok (.aload_n 0, 1) := by decide +kernel
theorem dX9_nextTorn_12 : decode cX9_nextTorn 12 = .ok (.getfield 7, 3) := by decide +kernel
theorem dX9_nextTorn_15 : decode cX9_nextTorn 15 = .ok (.iconst 2, 1) := by decide +kernel
theorem dX9_nextTorn_16 : decode cX9_nextTorn 16 = .ok (.iaload, 1) := by decide +kernel
theorem dX9_nextTorn_17 : decode cX9_nextTorn 17 = .ok (.if_icmp .ne 15, 3) := by decide +kernel
theorem dX9_nextTorn_20 : decode cX9_nextTorn 20 = .ok (.aload_n 0, 1) := by decide +kernel
theorem dX9_nextTorn_21 : decode cX9_nextTorn 21 = .ok (.getfield 7, 3) := by decide +kernel
theorem dX9_nextTorn_24 : decode cX9_nextTorn 24 = .ok (.aload_n 0, 1) := by decide +kernel
theorem dX9_nextTorn_25 : decode cX9_nextTorn 25 = .ok (.invokevirtual 55, 3) := by decide +kernel
theorem dX9_nextTorn_28 : decode cX9_nextTorn 28 = .ok (.iaload, 1) := by decide +kernel
theorem dX9_nextTorn_29 : decode cX9_nextTorn 29 = .ok (.goto 4, 3) := by decide +kernel
theorem dX9_nextTorn_32 : decode cX9_nextTorn 32 = .ok (.iconst (-1), 1) := by decide +kernel
theorem dX9_nextTorn_33 : decode cX9_nextTorn 33 = .ok (.ireturn, 1) := by decide +kernel
theorem dX9_nextDropped_0 : decode cX9_nextDropped 0 = .ok (.aload_n 0, 1) := by decide +kernel
theorem dX9_nextDropped_1 : decode cX9_nextDropped 1 = .ok (.iconst 0, 1) := by decide +kernel
theorem dX9_nextDropped_2 : decode cX9_nextDropped 2 = .ok (.putfield 29, 3) := by decide +kernel
theorem dX9_nextDropped_5 : decode cX9_nextDropped 5 = .ok (.aload_n 0, 1) := by decide +kernel
theorem dX9_nextDropped_6 : decode cX9_nextDropped 6 = .ok (.iload_n 1, 1) := by decide +kernel
theorem dX9_nextDropped_7 : decode cX9_nextDropped 7 = .ok (.invokevirtual 105, 3) := by decide +kernel
theorem dX9_nextDropped_10 : decode cX9_nextDropped 10 = .ok (.ifCond .ne 9, 3) := by decide +kernel
theorem dX9_nextDropped_13 : decode cX9_nextDropped 13 = .ok (.aload_n 0, 1) := by decide +kernel
theorem dX9_nextDropped_14 : decode cX9_nextDropped 14 = .ok (.iconst 1, 1) := by decide +kernel
theorem dX9_nextDropped_15 : decode cX9_nextDropped 15 = .ok (.invokevirtual 99, 3) := by decide +kernel
theorem dX9_nextDropped_18 : decode cX9_nextDropped 18 = .ok (.ireturn, 1) := by decide +kernel
theorem dX9_nextDropped_19 : decode cX9_nextDropped 19 = .ok (.aload_n 0, 1) := by decide +kernel
theorem dX9_nextDropped_20 : decode cX9_nextDropped 20 = .ok (.iload_n 1, 1) := by decide +kernel
theorem dX9_nextDropped_21 : decode cX9_nextDropped 21 = .ok (.iconst (-1), 1) := by decide +kernel
theorem dX9_nextDropped_22 : decode cX9_nextDropped 22 = .ok (.invokevirtual 52, 3) := by decide +kernel
theorem dX9_nextDropped_25 : decode cX9_nextDropped 25 = .ok (.ifCond .lt 7, 3) := by decide +kernel
theorem dX9_nextDropped_28 : decode cX9_nextDropped 28 = .ok (.iconst (-1), 1) := by decide +kernel
theorem dX9_nextDropped_29 : decode cX9_nextDropped 29 = .ok (.goto 13, 3) := by decide +kernel
theorem dX9_nextDropped_32 : decode cX9_nextDropped 32 = .ok (.aload_n 0, 1) := by decide +kernel
theorem dX9_nextDropped_33 : decode cX9_nextDropped 33 = .ok (.getfield 7, 3) := by decide +kernel
theorem dX9_nextDropped_36 : decode cX9_nextDropped 36 = .ok (.aload_n 0, 1) := by decide +kernel
theorem dX9_nextDropped_37 : decode cX9_nextDropped 37 = .ok (.iload_n 1, 1) := by decide +kernel
theorem dX9_nextDropped_38 : decode cX9_nextDropped 38 = .ok (.invokevirtual 75, 3) := by decide +kernel
theorem dX9_nextDropped_41 : decode cX9_nextDropped 41 = .ok (.iaload, 1) := by decide +kernel
theorem dX9_nextDropped_42 : decode cX9_nextDropped 42 = .ok (.ireturn, 1) := by decide +kernel
theorem dX9_ticksToServe_0 : decode cX9_ticksToServe 0 = .ok (.aload_n 0, 1) := by decide +kernel
theorem dX9_ticksToServe_1 : decode cX9_ticksToServe 1 = .ok (.iconst 0, 1) := by decide +kernel
theorem dX9_ticksToServe_2 : decode cX9_ticksToServe 2 = .ok (.putfield 29, 3) := by decide +kernel
theorem dX9_ticksToServe_5 : decode cX9_ticksToServe 5 = .ok (.aload_n 0, 1) := by decide +kernel
theorem dX9_ticksToServe_6 : decode cX9_ticksToServe 6 = .ok (.invokevirtual 136, 3) := by decide +kernel
theorem dX9_ticksToServe_9 : decode cX9_ticksToServe 9 = .ok (.iconst 0, 1) := by decide +kernel
theorem dX9_ticksToServe_10 : decode cX9_ticksToServe 10 = .ok (.istore_n 1, 1) := by decide +kernel
theorem dX9_ticksToServe_11 : decode cX9_ticksToServe 11 = .ok (.aload_n 0, 1) := by decide +kernel
theorem dX9_ticksToServe_12 : decode cX9_ticksToServe 12 = .ok (.invokevirtual 130, 3) := by decide +kernel
theorem dX9_ticksToServe_15 : decode cX9_ticksToServe 15 = .ok (.ifCond .le 20, 3) := by decide +kernel
theorem dX9_ticksToServe_18 : decode cX9_ticksToServe 18 = .ok (.iload_n 1, 1) := by decide +kernel
theorem dX9_ticksToServe_19 : decode cX9_ticksToServe 19 = .ok (.bipush 6, 2) := by decide +kernel
theorem dX9_ticksToServe_21 : decode cX9_ticksToServe 21 = .ok (.if_icmp .ge 14, 3) := by decide +kernel
theorem dX9_ticksToServe_24 : decode cX9_ticksToServe 24 = .ok (.aload_n 0, 1) := by decide +kernel
theorem dX9_ticksToServe_25 : decode cX9_ticksToServe 25 = .ok (.invokevirtual 92, 3) := by decide +kernel
theorem dX9_ticksToServe_28 : decode cX9_ticksToServe 28 = .ok (.pop, 1) := by decide +kernel
theorem dX9_ticksToServe_29 : decode cX9_ticksToServe 29 = .ok (.iinc 1 1, 3) := by decide +kernel
theorem dX9_ticksToServe_32 : decode cX9_ticksToServe 32 = .ok (.goto (-21), 3) := by decide +kernel
theorem dX9_ticksToServe_35 : decode cX9_ticksToServe 35 = .ok (.aload_n 0, 1) := by decide +kernel
theorem dX9_ticksToServe_36 : decode cX9_ticksToServe 36 = .ok (.invokevirtual 139, 3) := by decide +kernel
theorem dX9_ticksToServe_39 : decode cX9_ticksToServe 39 = .ok (.iload_n 1, 1) := by decide +kernel
theorem dX9_ticksToServe_40 : decode cX9_ticksToServe 40 = .ok (.ireturn, 1) := by decide +kernel
theorem dX9_cheapest_0 : decode cX9_cheapest 0 = .ok (.aload_n 0, 1) := by decide +kernel
theorem dX9_cheapest_1 : decode cX9_cheapest 1 = .ok (.iconst 0, 1) := by decide +kernel
theorem dX9_cheapest_2 : decode cX9_cheapest 2 = .ok (.putfield 29, 3) := by decide +kernel
theorem dX9_cheapest_5 : decode cX9_cheapest 5 = .ok (.iload_n 1, 1) := by decide +kernel
theorem dX9_cheapest_6 : decode cX9_cheapest 6 = .ok (.invokestatic 108, 3) := by decide +kernel
theorem dX9_cheapest_9 : decode cX9_cheapest 9 = .ok (.ifCond .ne 9, 3) := by decide +kernel
theorem dX9_cheapest_12 : decode cX9_cheapest 12 = .ok (.aload_n 0, 1) := by decide +kernel
theorem dX9_cheapest_13 : decode cX9_cheapest 13 = .ok (.iconst 1, 1) := by decide +kernel
theorem dX9_cheapest_14 : decode cX9_cheapest 14 = .ok (.invokevirtual 99, 3) := by decide +kernel
theorem dX9_cheapest_17 : decode cX9_cheapest 17 = .ok (.ireturn, 1) := by decide +kernel
theorem dX9_cheapest_18 : decode cX9_cheapest 18 = .ok (.iconst 0, 1) := by decide +kernel
theorem dX9_cheapest_19 : decode cX9_cheapest 19 = .ok (.istore_n 3, 1) := by decide +kernel
theorem dX9_cheapest_20 : decode cX9_cheapest 20 = .ok (.aload_n 0, 1) := by decide +kernel
theorem dX9_cheapest_21 : decode cX9_cheapest 21 = .ok (.iconst 0, 1) := by decide +kernel
theorem dX9_cheapest_22 : decode cX9_cheapest 22 = .ok (.iload_n 1, 1) := by decide +kernel
theorem dX9_cheapest_23 : decode cX9_cheapest 23 = .ok (.iload_n 2, 1) := by decide +kernel
theorem dX9_cheapest_24 : decode cX9_cheapest 24 = .ok (.invokevirtual 142, 3) := by decide +kernel
theorem dX9_cheapest_27 : decode cX9_cheapest 27 = .ok (.istore 4, 2) := by decide +kernel
theorem dX9_cheapest_29 : decode cX9_cheapest 29 = .ok (.iconst 1, 1) := by decide +kernel
theorem dX9_cheapest_30 : decode cX9_cheapest 30 = .ok (.istore 5, 2) := by decide +kernel
theorem dX9_cheapest_32 : decode cX9_cheapest 32 = .ok (.iload 5, 2) := by decide +kernel
theorem dX9_cheapest_34 : decode cX9_cheapest 34 = .ok (.aload_n 0, 1) := by decide +kernel
theorem dX9_cheapest_35 : decode cX9_cheapest 35 = .ok (.getfield 7, 3) := by decide +kernel
theorem dX9_cheapest_38 : decode cX9_cheapest 38 = .ok (.iconst 0, 1) := by decide +kernel
theorem dX9_cheapest_39 : decode cX9_cheapest 39 = .ok (.iaload, 1) := by decide +kernel
theorem dX9_cheapest_40 : decode cX9_cheapest 40 = .ok (.if_icmp .ge 49, 3) := by decide +kernel
theorem dX9_cheapest_43 : decode cX9_cheapest 43 = .ok (.aload_n 0, 1) := by decide +kernel
theorem dX9_cheapest_44 : decode cX9_cheapest 44 = .ok (.iload 5, 2) := by decide +kernel
theorem dX9_cheapest_46 : decode cX9_cheapest 46 = .ok (.iload_n 1, 1) := by decide +kernel
theorem dX9_cheapest_47 : decode cX9_cheapest 47 = .ok (.iload_n 2, 1) := by decide +kernel
theorem dX9_cheapest_48 : decode cX9_cheapest 48 = .ok (.invokevirtual 142, 3) := by decide +kernel
theorem dX9_cheapest_51 : decode cX9_cheapest 51 = .ok (.istore 6, 2) := by decide +kernel
theorem dX9_cheapest_53 : decode cX9_cheapest 53 = .ok (.iload 6, 2) := by decide +kernel
theorem dX9_cheapest_55 : decode cX9_cheapest 55 = .ok (.iload 4, 2) := by decide +kernel
theorem dX9_cheapest_57 : decode cX9_cheapest 57 = .ok (.if_icmp .ge 8, 3) := by decide +kernel
theorem dX9_cheapest_60 : decode cX9_cheapest 60 = .ok (.iload 5, 2) := by decide +kernel
theorem dX9_cheapest_62 : decode cX9_cheapest 62 = .ok (.goto 4, 3) := by decide +kernel
theorem dX9_cheapest_65 : decode cX9_cheapest 65 = .ok (.iload_n 3, 1) := by decide +kernel
theorem dX9_cheapest_66 : decode cX9_cheapest 66 = .ok (.istore_n 3, 1) := by decide +kernel
theorem dX9_cheapest_67 : decode cX9_cheapest 67 = .ok (.iload 6, 2) := by decide +kernel
theorem dX9_cheapest_69 : decode cX9_cheapest 69 = .ok (.iload 4, 2) := by decide +kernel
theorem dX9_cheapest_71 : decode cX9_cheapest 71 = .ok (.if_icmp .ge 8, 3) := by decide +kernel
theorem dX9_cheapest_74 : decode cX9_cheapest 74 = .ok (.iload 6, 2) := by decide +kernel
theorem dX9_cheapest_76 : decode cX9_cheapest 76 = .ok (.goto 5, 3) := by decide +kernel
theorem dX9_cheapest_79 : decode cX9_cheapest 79 = .ok (.iload 4, 2) := by decide +kernel
theorem dX9_cheapest_81 : decode cX9_cheapest 81 = .ok (.istore 4, 2) := by decide +kernel
theorem dX9_cheapest_83 : decode cX9_cheapest 83 = .ok (.iinc 5 1, 3) := by decide +kernel
theorem dX9_cheapest_86 : decode cX9_cheapest 86 = .ok (.goto (-54), 3) := by decide +kernel
theorem dX9_cheapest_89 : decode cX9_cheapest 89 = .ok (.iload_n 3, 1) := by decide +kernel
theorem dX9_cheapest_90 : decode cX9_cheapest 90 = .ok (.ireturn, 1) := by decide +kernel
theorem dX9_hitRate_0 : decode cX9_hitRate 0 = .ok (.aload_n 0, 1) := by decide +kernel
theorem dX9_hitRate_1 : decode cX9_hitRate 1 = .ok (.iconst 0, 1) := by decide +kernel
theorem dX9_hitRate_2 : decode cX9_hitRate 2 = .ok (.putfield 29, 3) := by decide +kernel
theorem dX9_hitRate_5 : decode cX9_hitRate 5 = .ok (.aload_n 0, 1) := by decide +kernel
theorem dX9_hitRate_6 : decode cX9_hitRate 6 = .ok (.getfield 7, 3) := by decide +kernel
theorem dX9_hitRate_9 : decode cX9_hitRate 9 = .ok (.bipush 6, 2) := by decide +kernel
theorem dX9_hitRate_11 : decode cX9_hitRate 11 = .ok (.iaload, 1) := by decide +kernel
theorem dX9_hitRate_12 : decode cX9_hitRate 12 = .ok (.aload_n 0, 1) := by decide +kernel
theorem dX9_hitRate_13 : decode cX9_hitRate 13 = .ok (.getfield 7, 3) := by decide +kernel
theorem dX9_hitRate_16 : decode cX9_hitRate 16 = .ok (.bipush 7, 2) := by decide +kernel
theorem dX9_hitRate_18 : decode cX9_hitRate 18 = .ok (.iaload, 1) := by decide +kernel
theorem dX9_hitRate_19 : decode cX9_hitRate 19 = .ok (.iadd, 1) := by decide +kernel
theorem dX9_hitRate_20 : decode cX9_hitRate 20 = .ok (.istore_n 1, 1) := by decide +kernel
theorem dX9_hitRate_21 : decode cX9_hitRate 21 = .ok (.iload_n 1, 1) := by decide +kernel
theorem dX9_hitRate_22 : decode cX9_hitRate 22 = .ok (.ifCond .ne 7, 3) := by decide +kernel
theorem dX9_hitRate_25 : decode cX9_hitRate 25 = .ok (.dconst 0, 1) := by decide +kernel
theorem dX9_hitRate_26 : decode cX9_hitRate 26 = .ok (.goto 14, 3) := by decide +kernel
theorem dX9_hitRate_29 : decode cX9_hitRate 29 = .ok (.aload_n 0, 1) := by decide +kernel
theorem dX9_hitRate_30 : decode cX9_hitRate 30 = .ok (.getfield 7, 3) := by decide +kernel
theorem dX9_hitRate_33 : decode cX9_hitRate 33 = .ok (.bipush 6, 2) := by decide +kernel
theorem dX9_hitRate_35 : decode cX9_hitRate 35 = .ok (.iaload, 1) := by decide +kernel
theorem dX9_hitRate_36 : decode cX9_hitRate 36 = .ok (.i2d, 1) := by decide +kernel
theorem dX9_hitRate_37 : decode cX9_hitRate 37 = .ok (.iload_n 1, 1) := by decide +kernel
theorem dX9_hitRate_38 : decode cX9_hitRate 38 = .ok (.i2d, 1) := by decide +kernel
theorem dX9_hitRate_39 : decode cX9_hitRate 39 = .ok (.ddiv, 1) := by decide +kernel
theorem dX9_hitRate_40 : decode cX9_hitRate 40 = .ok (.dreturn, 1) := by decide +kernel
theorem dX9_append_0 : decode cX9_append 0 = .ok (.aload_n 0, 1) := by decide +kernel
theorem dX9_append_1 : decode cX9_append 1 = .ok (.iconst 0, 1) := by decide +kernel
theorem dX9_append_2 : decode cX9_append 2 = .ok (.putfield 29, 3) := by decide +kernel
theorem dX9_append_5 : decode cX9_append 5 = .ok (.iload_n 1, 1) := by decide +kernel
theorem dX9_append_6 : decode cX9_append 6 = .ok (.iconst 0, 1) := by decide +kernel
theorem dX9_append_7 : decode cX9_append 7 = .ok (.bipush 127, 2) := by decide +kernel
theorem dX9_append_9 : decode cX9_append 9 = .ok (.invokestatic 36, 3) := by decide +kernel
theorem dX9_append_12 : decode cX9_append 12 = .ok (.ifCond .ne 9, 3) := by decide +kernel
theorem dX9_append_15 : decode cX9_append 15 = .ok (.aload_n 0, 1) := by decide +kernel
theorem dX9_append_16 : decode cX9_append 16 = .ok (.iconst 1, 1) := by decide +kernel
theorem dX9_append_17 : decode cX9_append 17 = .ok (.invokevirtual 99, 3) := by decide +kernel
theorem dX9_append_20 : decode cX9_append 20 = .ok (.ireturn, 1) := by decide +kernel
theorem dX9_append_21 : decode cX9_append 21 = .ok (.aload_n 0, 1) := by decide +kernel
theorem dX9_append_22 : decode cX9_append 22 = .ok (.getfield 145, 3) := by decide +kernel
theorem dX9_append_25 : decode cX9_append 25 = .ok (.bipush 100, 2) := by decide +kernel
theorem dX9_append_27 : decode cX9_append 27 = .ok (.if_icmp .ne 9, 3) := by decide +kernel
theorem dX9_append_30 : decode cX9_append 30 = .ok (.aload_n 0, 1) := by decide +kernel
theorem dX9_append_31 : decode cX9_append 31 = .ok (.iconst 2, 1) := by decide +kernel
theorem dX9_append_32 : decode cX9_append 32 = .ok (.invokevirtual 99, 3) := by decide +kernel
theorem dX9_append_35 : decode cX9_append 35 = .ok (.ireturn, 1) := by decide +kernel
theorem dX9_append_36 : decode cX9_append 36 = .ok (.aload_n 0, 1) := by decide +kernel
theorem dX9_append_37 : decode cX9_append 37 = .ok (.getfield 19, 3) := by decide +kernel
theorem dX9_append_40 : decode cX9_append 40 = .ok (.aload_n 0, 1) := by decide +kernel
theorem dX9_append_41 : decode cX9_append 41 = .ok (.getfield 145, 3) := by decide +kernel
theorem dX9_append_44 : decode cX9_append 44 = .ok (.iload_n 1, 1) := by decide +kernel
theorem dX9_append_45 : decode cX9_append 45 = .ok (.iastore, 1) := by decide +kernel
theorem dX9_append_46 : decode cX9_append 46 = .ok (.aload_n 0, 1) := by decide +kernel
theorem dX9_append_47 : decode cX9_append 47 = .ok (.dup, 1) := by decide +kernel
theorem dX9_append_48 : decode cX9_append 48 = .ok (.getfield 145, 3) := by decide +kernel
theorem dX9_append_51 : decode cX9_append 51 = .ok (.iconst 1, 1) := by decide +kernel
theorem dX9_append_52 : decode cX9_append 52 = .ok (.iadd, 1) := by decide +kernel
theorem dX9_append_53 : decode cX9_append 53 = .ok (.putfield 145, 3) := by decide +kernel
theorem dX9_append_56 : decode cX9_append 56 = .ok (.aload_n 0, 1) := by decide +kernel
theorem dX9_append_57 : decode cX9_append 57 = .ok (.getfield 145, 3) := by decide +kernel
theorem dX9_append_60 : decode cX9_append 60 = .ok (.ireturn, 1) := by decide +kernel
theorem dX9_clearText_0 : decode cX9_clearText 0 = .ok (.aload_n 0, 1) := by decide +kernel
theorem dX9_clearText_1 : decode cX9_clearText 1 = .ok (.iconst 0, 1) := by decide +kernel
theorem dX9_clearText_2 : decode cX9_clearText 2 = .ok (.putfield 29, 3) := by decide +kernel
theorem dX9_clearText_5 : decode cX9_clearText 5 = .ok (.aload_n 0, 1) := by decide +kernel
theorem dX9_clearText_6 : decode cX9_clearText 6 = .ok (.getfield 145, 3) := by decide +kernel
theorem dX9_clearText_9 : decode cX9_clearText 9 = .ok (.istore_n 1, 1) := by decide +kernel
theorem dX9_clearText_10 : decode cX9_clearText 10 = .ok (.aload_n 0, 1) := by decide +kernel
theorem dX9_clearText_11 : decode cX9_clearText 11 = .ok (.iconst 0, 1) := by decide +kernel
theorem dX9_clearText_12 : decode cX9_clearText 12 = .ok (.putfield 145, 3) := by decide +kernel
theorem dX9_clearText_15 : decode cX9_clearText 15 = .ok (.iload_n 1, 1) := by decide +kernel
theorem dX9_clearText_16 : decode cX9_clearText 16 = .ok (.ireturn, 1) := by decide +kernel
theorem dX9_isDigit_0 : decode cX9_isDigit 0 = .ok (.aload_n 0, 1) := by decide +kernel
theorem dX9_isDigit_1 : decode cX9_isDigit 1 = .ok (.getfield 148, 3) := by decide +kernel
theorem dX9_isDigit_4 : decode cX9_isDigit 4 = .ok (.aload_n 0, 1) := by decide +kernel
theorem dX9_isDigit_5 : decode cX9_isDigit 5 = .ok (.getfield 145, 3) := by decide +kernel
theorem dX9_isDigit_8 : decode cX9_isDigit 8 = .ok (.if_icmp .ge 25, 3) := by decide +kernel
theorem dX9_isDigit_11 : decode cX9_isDigit 11 = .ok (.aload_n 0, 1) := by decide +kernel
theorem dX9_isDigit_12 : decode cX9_isDigit 12 = .ok (.getfield 19, 3) := by decide +kernel
theorem dX9_isDigit_15 : decode cX9_isDigit 15 = .ok (.aload_n 0, 1) := by decide +kernel
theorem dX9_isDigit_16 : decode cX9_isDigit 16 = .ok (.getfield 148, 3) := by decide +kernel
theorem dX9_isDigit_19 : decode cX9_isDigit 19 = .ok (.iaload, 1) := by decide +kernel
theorem dX9_isDigit_20 : decode cX9_isDigit 20 = .ok (.bipush 48, 2) := by decide +kernel
theorem dX9_isDigit_22 : decode cX9_isDigit 22 = .ok (.iload_n 1, 1) := by decide +kernel
theorem dX9_isDigit_23 : decode cX9_isDigit 23 = .ok (.invokestatic 36, 3) := by decide +kernel
theorem dX9_isDigit_26 : decode cX9_isDigit 26 = .ok (.ifCond .eq 7, 3) := by decide +kernel
theorem dX9_isDigit_29 : decode cX9_isDigit 29 = .ok (.iconst 1, 1) := by decide +kernel
theorem dX9_isDigit_30 : decode cX9_isDigit 30 = .ok (.goto 4, 3) := by decide +kernel
theorem dX9_isDigit_33 : decode cX9_isDigit 33 = .ok (.iconst 0, 1) := by decide +kernel
theorem dX9_isDigit_34 : decode cX9_isDigit 34 = .ok (.ireturn, 1) := by decide +kernel
theorem dX9_sign_0 : decode cX9_sign 0 = .ok (.aload_n 0, 1) := by decide +kernel
theorem dX9_sign_1 : decode cX9_sign 1 = .ok (.getfield 148, 3) := by decide +kernel
theorem dX9_sign_4 : decode cX9_sign 4 = .ok (.aload_n 0, 1) := by decide +kernel
theorem dX9_sign_5 : decode cX9_sign 5 = .ok (.getfield 145, 3) := by decide +kernel
theorem dX9_sign_8 : decode cX9_sign 8 = .ok (.if_icmp .ge 20, 3) := by decide +kernel
theorem dX9_sign_11 : decode cX9_sign 11 = .ok (.aload_n 0, 1) := by decide +kernel
theorem dX9_sign_12 : decode cX9_sign 12 = .ok (.getfield 19, 3) := by decide +kernel
theorem dX9_sign_15 : decode cX9_sign 15 = .ok (.aload_n 0, 1) := by decide +kernel
theorem dX9_sign_16 : decode cX9_sign 16 = .ok (.getfield 148, 3) := by decide +kernel
theorem dX9_sign_19 : decode cX9_sign 19 = .ok (.iaload, 1) := by decide +kernel
theorem dX9_sign_20 : decode cX9_sign 20 = .ok (.iload_n 1, 1) := by decide +kernel
theorem dX9_sign_21 : decode cX9_sign 21 = .ok (.if_icmp .ne 7, 3) := by decide +kernel
theorem dX9_sign_24 : decode cX9_sign 24 = .ok (.iconst 1, 1) := by decide +kernel
theorem dX9_sign_25 : decode cX9_sign 25 = .ok (.goto 4, 3) := by decide +kernel
theorem dX9_sign_28 : decode cX9_sign 28 = .ok (.iconst 0, 1) := by decide +kernel
theorem dX9_sign_29 : decode cX9_sign 29 = .ok (.istore_n 2, 1) := by decide +kernel
theorem dX9_sign_30 : decode cX9_sign 30 = .ok (.aload_n 0, 1) := by decide +kernel
theorem dX9_sign_31 : decode cX9_sign 31 = .ok (.dup, 1) := by decide +kernel
theorem dX9_sign_32 : decode cX9_sign 32 = .ok (.getfield 148, 3) := by decide +kernel
theorem dX9_sign_35 : decode cX9_sign 35 = .ok (.iload_n 2, 1) := by decide +kernel
theorem dX9_sign_36 : decode cX9_sign 36 = .ok (.ifCond .eq 7, 3) := by decide +kernel
theorem dX9_sign_39 : decode cX9_sign 39 = .ok (.iconst 1, 1) := by decide +kernel
theorem dX9_sign_40 : decode cX9_sign 40 = .ok (.goto 4, 3) := by decide +kernel
theorem dX9_sign_43 : decode cX9_sign 43 = .ok (.iconst 0, 1) := by decide +kernel
theorem dX9_sign_44 : decode cX9_sign 44 = .ok (.iadd, 1) := by decide +kernel
theorem dX9_sign_45 : decode cX9_sign 45 = .ok (.putfield 148, 3) := by decide +kernel
theorem dX9_sign_48 : decode cX9_sign 48 = .ok (.iload_n 2, 1) := by decide +kernel
theorem dX9_sign_49 : decode cX9_sign 49 = .ok (.ireturn, 1) := by decide +kernel
theorem dX9_numberInto_0 : decode cX9_numberInto 0 = .ok (.aload_n 0, 1) := by decide +kernel
theorem dX9_numberInto_1 : decode cX9_numberInto 1 = .ok (.getfield 148, 3) := by decide +kernel
theorem dX9_numberInto_4 : decode cX9_numberInto 4 = .ok (.istore 5, 2) := by decide +kernel
theorem dX9_numberInto_6 : decode cX9_numberInto 6 = .ok (.iconst 0, 1) := by decide +kernel
theorem dX9_numberInto_7 : decode cX9_numberInto 7 = .ok (.istore 6, 2) := by decide +kernel
theorem dX9_numberInto_9 : decode cX9_numberInto 9 = .ok (.aload_n 0, 1) := by decide +kernel
theorem dX9_numberInto_10 : decode cX9_numberInto 10 = .ok (.bipush 57, 2) := by decide +kernel
theorem dX9_numberInto_12 : decode cX9_numberInto 12 = .ok (.invokevirtual 151, 3) := by decide +kernel
theorem dX9_numberInto_15 : decode cX9_numberInto 15 = .ok (.ifCond .eq 47, 3) := by decide +kernel
theorem dX9_numberInto_18 : decode cX9_numberInto 18 = .ok (.aload_n 0, 1) := by decide +kernel
theorem dX9_numberInto_19 : decode cX9_numberInto 19 = .ok (.getfield 148, 3) := by decide +kernel
theorem dX9_numberInto_22 : decode cX9_numberInto 22 = .ok (.iload 5, 2) := by decide +kernel
theorem dX9_numberInto_24 : decode cX9_numberInto 24 = .ok (.iload_n 2, 1) := by decide +kernel
theorem dX9_numberInto_25 : decode cX9_numberInto 25 = .ok (.iadd, 1) := by decide +kernel
theorem dX9_numberInto_26 : decode cX9_numberInto 26 = .ok (.if_icmp .ge 36, 3) := by decide +kernel
theorem dX9_numberInto_29 : decode cX9_numberInto 29 = .ok (.bipush 10, 2) := by decide +kernel
theorem dX9_numberInto_31 : decode cX9_numberInto 31 = .ok (.iload 6, 2) := by decide +kernel
theorem dX9_numberInto_33 : decode cX9_numberInto 33 = .ok (.imul, 1) := by decide +kernel
theorem dX9_numberInto_34 : decode cX9_numberInto 34 = .ok (.aload_n 0, 1) := by decide +kernel
theorem dX9_numberInto_35 : decode cX9_numberInto 35 = .ok (.getfield 19, 3) := by decide +kernel
theorem dX9_numberInto_38 : decode cX9_numberInto 38 = .ok (.aload_n 0, 1) := by decide +kernel
theorem dX9_numberInto_39 : decode cX9_numberInto 39 = .ok (.getfield 148, 3) := by decide +kernel
theorem dX9_numberInto_42 : decode cX9_numberInto 42 = .ok (.iaload, 1) := by decide +kernel
theorem dX9_numberInto_43 : decode cX9_numberInto 43 = .ok (.iadd, 1) := by decide +kernel
theorem dX9_numberInto_44 : decode cX9_numberInto 44 = .ok (.bipush 48, 2) := by decide +kernel
theorem dX9_numberInto_46 : decode cX9_numberInto 46 = .ok (.isub, 1) := by decide +kernel
theorem dX9_numberInto_47 : decode cX9_numberInto 47 = .ok (.istore 6, 2) := by decide +kernel
theorem dX9_numberInto_49 : decode cX9_numberInto 49 = .ok (.aload_n 0, 1) := by decide +kernel
theorem dX9_numberInto_50 : decode cX9_numberInto 50 = .ok (.dup, 1) := by decide +kernel
theorem dX9_numberInto_51 : decode cX9_numberInto 51 = .ok (.getfield 148, 3) := by decide +kernel
theorem dX9_numberInto_54 : decode cX9_numberInto 54 = .ok (.iconst 1, 1) := by decide +kernel
theorem dX9_numberInto_55 : decode cX9_numberInto 55 = .ok (.iadd, 1) := by decide +kernel
theorem dX9_numberInto_56 : decode cX9_numberInto 56 = .ok (.putfield 148, 3) := by decide +kernel
theorem dX9_numberInto_59 : decode cX9_numberInto 59 = .ok (.goto (-50), 3) := by decide +kernel
theorem dX9_numberInto_62 : decode cX9_numberInto 62 = .ok (.aload_n 0, 1) := by decide +kernel
theorem dX9_numberInto_63 : decode cX9_numberInto 63 = .ok (.getfield 148, 3) := by decide +kernel
theorem dX9_numberInto_66 : decode cX9_numberInto 66 = .ok (.iload 5, 2) := by decide +kernel
theorem dX9_numberInto_68 : decode cX9_numberInto 68 = .ok (.if_icmp .eq 12, 3) := by decide +kernel
theorem dX9_numberInto_71 : decode cX9_numberInto 71 = .ok (.aload_n 0, 1) := by decide +kernel
theorem dX9_numberInto_72 : decode cX9_numberInto 72 = .ok (.bipush 57, 2) := by decide +kernel
theorem dX9_numberInto_74 : decode cX9_numberInto 74 = .ok (.invokevirtual 151, 3) := by decide +kernel
theorem dX9_numberInto_77 : decode cX9_numberInto 77 = .ok (.ifCond .eq 5, 3) := by decide +kernel
theorem dX9_numberInto_80 : decode cX9_numberInto 80 = .ok (.iconst 0, 1) := by decide +kernel
theorem dX9_numberInto_81 : decode cX9_numberInto 81 = .ok (.ireturn, 1) := by decide +kernel
theorem dX9_numberInto_82 : decode cX9_numberInto 82 = .ok (.iload 6, 2) := by decide +kernel
theorem dX9_numberInto_84 : decode cX9_numberInto 84 = .ok (.iload_n 3, 1) := by decide +kernel
theorem dX9_numberInto_85 : decode cX9_numberInto 85 = .ok (.iload 4, 2) := by decide +kernel
theorem dX9_numberInto_87 : decode cX9_numberInto 87 = .ok (.invokestatic 36, 3) := by decide +kernel
theorem dX9_numberInto_90 : decode cX9_numberInto 90 = .ok (.ifCond .ne 11, 3) := by decide +kernel
theorem dX9_numberInto_93 : decode cX9_numberInto 93 = .ok (.aload_n 0, 1) := by decide +kernel
theorem dX9_numberInto_94 : decode cX9_numberInto 94 = .ok (.iload 5, 2) := by decide +kernel
theorem dX9_numberInto_96 : decode cX9_numberInto 96 = .ok (.putfield 148, 3) := by decide +kernel
theorem dX9_numberInto_99 : decode cX9_numberInto 99 = .ok (.iconst 0, 1) := by decide +kernel
theorem dX9_numberInto_100 : decode cX9_numberInto 100 = .ok (.ireturn, 1) := by decide +kernel
theorem dX9_numberInto_101 : decode cX9_numberInto 101 = .ok (.aload_n 0, 1) := by decide +kernel
theorem dX9_numberInto_102 : decode cX9_numberInto 102 = .ok (.getfield 22, 3) := by decide +kernel
theorem dX9_numberInto_105 : decode cX9_numberInto 105 = .ok (.iload_n 1, 1) := by decide +kernel
theorem dX9_numberInto_106 : decode cX9_numberInto 106 = .ok (.iload 6, 2) := by decide +kernel
theorem dX9_numberInto_108 : decode cX9_numberInto 108 = .ok (.iastore, 1) := by decide +kernel
theorem dX9_numberInto_109 : decode cX9_numberInto 109 = .ok (.iconst 1, 1) := by decide +kernel
theorem dX9_numberInto_110 : decode cX9_numberInto 110 = .ok (.ireturn, 1) := by decide +kernel
theorem dX9_readOrder_0 : decode cX9_readOrder 0 = .ok (.aload_n 0, 1) := by decide +kernel
theorem dX9_readOrder_1 : decode cX9_readOrder 1 = .ok (.bipush 116, 2) := by decide +kernel
theorem dX9_readOrder_3 : decode cX9_readOrder 3 = .ok (.invokevirtual 154, 3) := by decide +kernel
theorem dX9_readOrder_6 : decode cX9_readOrder 6 = .ok (.ifCond .eq 37, 3) := by decide +kernel
theorem dX9_readOrder_9 : decode cX9_readOrder 9 = .ok (.aload_n 0, 1) := by decide +kernel
theorem dX9_readOrder_10 : decode cX9_readOrder 10 = .ok (.getfield 22, 3) := by decide +kernel
theorem dX9_readOrder_13 : decode cX9_readOrder 13 = .ok (.iconst 0, 1) := by decide +kernel
theorem dX9_readOrder_14 : decode cX9_readOrder 14 = .ok (.iconst 2, 1) := by decide +kernel
theorem dX9_readOrder_15 : decode cX9_readOrder 15 = .ok (.iastore, 1) := by decide +kernel
theorem dX9_readOrder_16 : decode cX9_readOrder 16 = .ok (.aload_n 0, 1) := by decide +kernel
theorem dX9_readOrder_17 : decode cX9_readOrder 17 = .ok (.iconst 3, 1) := by decide +kernel
theorem dX9_readOrder_18 : decode cX9_readOrder 18 = .ok (.iconst 2, 1) := by decide +kernel
theorem dX9_readOrder_19 : decode cX9_readOrder 19 = .ok (.iconst 1, 1) := by decide +kernel
theorem dX9_readOrder_20 : decode cX9_readOrder 20 = .ok (.bipush 50, 2) := by decide +kernel
theorem dX9_readOrder_22 : decode cX9_readOrder 22 = .ok (.invokevirtual 157, 3) := by decide +kernel
theorem dX9_readOrder_25 : decode cX9_readOrder 25 = .ok (.ifCond .eq 16, 3) := by decide +kernel
theorem dX9_readOrder_28 : decode cX9_readOrder 28 = .ok (.aload_n 0, 1) := by decide +kernel
theorem dX9_readOrder_29 : decode cX9_readOrder 29 = .ok (.bipush 59, 2) := by decide +kernel
theorem dX9_readOrder_31 : decode cX9_readOrder 31 = .ok (.invokevirtual 154, 3) := by decide +kernel
theorem dX9_readOrder_34 : decode cX9_readOrder 34 = .ok (.ifCond .eq 7, 3) := by decide +kernel
theorem dX9_readOrder_37 : decode cX9_readOrder 37 = .ok (.iconst 1, 1) := by decide +kernel
theorem dX9_readOrder_38 : decode cX9_readOrder 38 = .ok (.goto 4, 3) := by decide +kernel
theorem dX9_readOrder_41 : decode cX9_readOrder 41 = .ok (.iconst 0, 1) := by decide +kernel
theorem dX9_readOrder_42 : decode cX9_readOrder 42 = .ok (.ireturn, 1) := by decide +kernel
theorem dX9_readOrder_43 : decode cX9_readOrder 43 = .ok (.aload_n 0, 1) := by decide +kernel
theorem dX9_readOrder_44 : decode cX9_readOrder 44 = .ok (.getfield 22, 3) := by decide +kernel
theorem dX9_readOrder_47 : decode cX9_readOrder 47 = .ok (.iconst 0, 1) := by decide +kernel
theorem dX9_readOrder_48 : decode cX9_readOrder 48 = .ok (.aload_n 0, 1) := by decide +kernel
theorem dX9_readOrder_49 : decode cX9_readOrder 49 = .ok (.bipush 114, 2) := by decide +kernel
theorem dX9_readOrder_51 : decode cX9_readOrder 51 = .ok (.invokevirtual 154, 3) := by decide +kernel
theorem dX9_readOrder_54 : decode cX9_readOrder 54 = .ok (.ifCond .eq 7, 3) := by decide +kernel
theorem dX9_readOrder_57 : decode cX9_readOrder 57 = .ok (.iconst 0, 1) := by decide +kernel
theorem dX9_readOrder_58 : decode cX9_readOrder 58 = .ok (.goto 4, 3) := by decide +kernel
theorem dX9_readOrder_61 : decode cX9_readOrder 61 = .ok (.iconst 1, 1) := by decide +kernel
theorem dX9_readOrder_62 : decode cX9_readOrder 62 = .ok (.iastore, 1) := by decide +kernel
theorem dX9_readOrder_63 : decode cX9_readOrder 63 = .ok (.aload_n 0, 1) := by decide +kernel
theorem dX9_readOrder_64 : decode cX9_readOrder 64 = .ok (.getfield 22, 3) := by decide +kernel
theorem dX9_readOrder_67 : decode cX9_readOrder 67 = .ok (.iconst 3, 1) := by decide +kernel
theorem dX9_readOrder_68 : decode cX9_readOrder 68 = .ok (.iconst (-1), 1) := by decide +kernel
theorem dX9_readOrder_69 : decode cX9_readOrder 69 = .ok (.iastore, 1) := by decide +kernel
theorem dX9_readOrder_70 : decode cX9_readOrder 70 = .ok (.aload_n 0, 1) := by decide +kernel
theorem dX9_readOrder_71 : decode cX9_readOrder 71 = .ok (.getfield 22, 3) := by decide +kernel
theorem dX9_readOrder_74 : decode cX9_readOrder 74 = .ok (.iconst 0, 1) := by decide +kernel
theorem dX9_readOrder_75 : decode cX9_readOrder 75 = .ok (.iaload, 1) := by decide +kernel
theorem dX9_readOrder_76 : decode cX9_readOrder 76 = .ok (.iconst 1, 1) := by decide +kernel
theorem dX9_readOrder_77 : decode cX9_readOrder 77 = .ok (.if_icmp .ne 12, 3) := by decide +kernel
theorem dX9_readOrder_80 : decode cX9_readOrder 80 = .ok (.aload_n 0, 1) := by decide +kernel
theorem dX9_readOrder_81 : decode cX9_readOrder 81 = .ok (.bipush 119, 2) := by decide +kernel
theorem dX9_readOrder_83 : decode cX9_readOrder 83 = .ok (.invokevirtual 154, 3) := by decide +kernel
theorem dX9_readOrder_86 : decode cX9_readOrder 86 = .ok (.ifCond .eq 12, 3) := by decide +kernel
theorem dX9_readOrder_89 : decode cX9_readOrder 89 = .ok (.aload_n 0, 1) := by decide +kernel
theorem dX9_readOrder_90 : decode cX9_readOrder 90 = .ok (.bipush 53, 2) := by decide +kernel
theorem dX9_readOrder_92 : decode cX9_readOrder 92 = .ok (.invokevirtual 151, 3) := by decide +kernel
theorem dX9_readOrder_95 : decode cX9_readOrder 95 = .ok (.ifCond .ne 5, 3) := by decide +kernel
theorem dX9_readOrder_98 : decode cX9_readOrder 98 = .ok (.iconst 0, 1) := by decide +kernel
theorem dX9_readOrder_99 : decode cX9_readOrder 99 = .ok (.ireturn, 1) := by decide +kernel
theorem dX9_readOrder_100 : decode cX9_readOrder 100 = .ok (.aload_n 0, 1) := by decide +kernel
theorem dX9_readOrder_101 : decode cX9_readOrder 101 = .ok (.getfield 22, 3) := by decide +kernel
theorem dX9_readOrder_104 : decode cX9_readOrder 104 = .ok (.iconst 1, 1) := by decide +kernel
theorem dX9_readOrder_105 : decode cX9_readOrder 105 = .ok (.aload_n 0, 1) := by decide +kernel
theorem dX9_readOrder_106 : decode cX9_readOrder 106 = .ok (.getfield 19, 3) := by decide +kernel
theorem dX9_readOrder_109 : decode cX9_readOrder 109 = .ok (.aload_n 0, 1) := by decide +kernel
theorem dX9_readOrder_110 : decode cX9_readOrder 110 = .ok (.getfield 148, 3) := by decide +kernel
theorem dX9_readOrder_113 : decode cX9_readOrder 113 = .ok (.iaload, 1) := by decide +kernel
theorem dX9_readOrder_114 : decode cX9_readOrder 114 = .ok (.bipush 48, 2) := by decide +kernel
theorem dX9_readOrder_116 : decode cX9_readOrder 116 = .ok (.isub, 1) := by decide +kernel
theorem dX9_readOrder_117 : decode cX9_readOrder 117 = .ok (.iastore, 1) := by decide +kernel
theorem dX9_readOrder_118 : decode cX9_readOrder 118 = .ok (.aload_n 0, 1) := by decide +kernel
theorem dX9_readOrder_119 : decode cX9_readOrder 119 = .ok (.dup, 1) := by decide +kernel
theorem dX9_readOrder_120 : decode cX9_readOrder 120 = .ok (.getfield 148, 3) := by decide +kernel
theorem dX9_readOrder_123 : decode cX9_readOrder 123 = .ok (.iconst 1, 1) := by decide +kernel
theorem dX9_readOrder_124 : decode cX9_readOrder 124 = .ok (.iadd, 1) := by decide +kernel
theorem dX9_readOrder_125 : decode cX9_readOrder 125 = .ok (.putfield 148, 3) := by decide +kernel
theorem dX9_readOrder_128 : decode cX9_readOrder 128 = .ok (.aload_n 0, 1) := by decide +kernel
theorem dX9_readOrder_129 : decode cX9_readOrder 129 = .ok (.bipush 58, 2) := by decide +kernel
theorem dX9_readOrder_131 : decode cX9_readOrder 131 = .ok (.invokevirtual 154, 3) := by decide +kernel
theorem dX9_readOrder_134 : decode cX9_readOrder 134 = .ok (.ifCond .eq 15, 3) := by decide +kernel
theorem dX9_readOrder_137 : decode cX9_readOrder 137 = .ok (.aload_n 0, 1) := by decide +kernel
theorem dX9_readOrder_138 : decode cX9_readOrder 138 = .ok (.iconst 2, 1) := by decide +kernel
theorem dX9_readOrder_139 : decode cX9_readOrder 139 = .ok (.iconst 2, 1) := by decide +kernel
theorem dX9_readOrder_140 : decode cX9_readOrder 140 = .ok (.iconst 0, 1) := by decide +kernel
theorem dX9_readOrder_141 : decode cX9_readOrder 141 = .ok (.bipush 31, 2) := by decide +kernel
theorem dX9_readOrder_143 : decode cX9_readOrder 143 = .ok (.invokevirtual 157, 3) := by decide +kernel
theorem dX9_readOrder_146 : decode cX9_readOrder 146 = .ok (.ifCond .ne 5, 3) := by decide +kernel
theorem dX9_readOrder_149 : decode cX9_readOrder 149 = .ok (.iconst 0, 1) := by decide +kernel
theorem dX9_readOrder_150 : decode cX9_readOrder 150 = .ok (.ireturn, 1) := by decide +kernel
theorem dX9_readOrder_151 : decode cX9_readOrder 151 = .ok (.aload_n 0, 1) := by decide +kernel
theorem dX9_readOrder_152 : decode cX9_readOrder 152 = .ok (.getfield 22, 3) := by decide +kernel
theorem dX9_readOrder_155 : decode cX9_readOrder 155 = .ok (.iconst 0, 1) := by decide +kernel
theorem dX9_readOrder_156 : decode cX9_readOrder 156 = .ok (.iaload, 1) := by decide +kernel
theorem dX9_readOrder_157 : decode cX9_readOrder 157 = .ok (.ifCond .eq 25, 3) := by decide +kernel
theorem dX9_readOrder_160 : decode cX9_readOrder 160 = .ok (.aload_n 0, 1) := by decide +kernel
theorem dX9_readOrder_161 : decode cX9_readOrder 161 = .ok (.bipush 61, 2) := by decide +kernel
theorem dX9_readOrder_163 : decode cX9_readOrder 163 = .ok (.invokevirtual 154, 3) := by decide +kernel
theorem dX9_readOrder_166 : decode cX9_readOrder 166 = .ok (.ifCond .eq 29, 3) := by decide +kernel
theorem dX9_readOrder_169 : decode cX9_readOrder 169 = .ok (.aload_n 0, 1) := by decide +kernel
theorem dX9_readOrder_170 : decode cX9_readOrder 170 = .ok (.iconst 3, 1) := by decide +kernel
theorem dX9_readOrder_171 : decode cX9_readOrder 171 = .ok (.iconst 3, 1) := by decide +kernel
theorem dX9_readOrder_172 : decode cX9_readOrder 172 = .ok (.iconst 0, 1) := by decide +kernel
theorem dX9_readOrder_173 : decode cX9_readOrder 173 = .ok (.sipush 999, 3) := by decide +kernel
theorem dX9_readOrder_176 : decode cX9_readOrder 176 = .ok (.invokevirtual 157, 3) := by decide +kernel
theorem dX9_readOrder_179 : decode cX9_readOrder 179 = .ok (.ifCond .eq 16, 3) := by decide +kernel
theorem dX9_readOrder_182 : decode cX9_readOrder 182 = .ok (.aload_n 0, 1) := by decide +kernel
theorem dX9_readOrder_183 : decode cX9_readOrder 183 = .ok (.bipush 59, 2) := by decide +kernel
theorem dX9_readOrder_185 : decode cX9_readOrder 185 = .ok (.invokevirtual 154, 3) := by decide +kernel
theorem dX9_readOrder_188 : decode cX9_readOrder 188 = .ok (.ifCond .eq 7, 3) := by decide +kernel
theorem dX9_readOrder_191 : decode cX9_readOrder 191 = .ok (.iconst 1, 1) := by decide +kernel
theorem dX9_readOrder_192 : decode cX9_readOrder 192 = .ok (.goto 4, 3) := by decide +kernel
theorem dX9_readOrder_195 : decode cX9_readOrder 195 = .ok (.iconst 0, 1) := by decide +kernel
theorem dX9_readOrder_196 : decode cX9_readOrder 196 = .ok (.ireturn, 1) := by decide +kernel
theorem dX9_doOrder_0 : decode cX9_doOrder 0 = .ok (.aload_n 0, 1) := by decide +kernel
theorem dX9_doOrder_1 : decode cX9_doOrder 1 = .ok (.getfield 22, 3) := by decide +kernel
theorem dX9_doOrder_4 : decode cX9_doOrder 4 = .ok (.iconst 0, 1) := by decide +kernel
theorem dX9_doOrder_5 : decode cX9_doOrder 5 = .ok (.iaload, 1) := by decide +kernel
theorem dX9_doOrder_6 : decode cX9_doOrder 6 = .ok (.iconst 2, 1) := by decide +kernel
theorem dX9_doOrder_7 : decode cX9_doOrder 7 = .ok (.if_icmp .ne 48, 3) := by decide +kernel
theorem dX9_doOrder_10 : decode cX9_doOrder 10 = .ok (.aload_n 0, 1) := by decide +kernel
theorem dX9_doOrder_11 : decode cX9_doOrder 11 = .ok (.getfield 7, 3) := by decide +kernel
theorem dX9_doOrder_14 : decode cX9_doOrder 14 = .ok (.iconst 4, 1) := by decide +kernel
theorem dX9_doOrder_15 : decode cX9_doOrder 15 = .ok (.iaload, 1) := by decide +kernel
theorem dX9_doOrder_16 : decode cX9_doOrder 16 = .ok (.aload_n 0, 1) := by decide +kernel
theorem dX9_doOrder_17 : decode cX9_doOrder 17 = .ok (.getfield 22, 3) := by decide +kernel
theorem dX9_doOrder_20 : decode cX9_doOrder 20 = .ok (.iconst 3, 1) := by decide +kernel
theorem dX9_doOrder_21 : decode cX9_doOrder 21 = .ok (.iaload, 1) := by decide +kernel
theorem dX9_doOrder_22 : decode cX9_doOrder 22 = .ok (.iadd, 1) := by decide +kernel
theorem dX9_doOrder_23 : decode cX9_doOrder 23 = .ok (.ldc 114, 2) := by decide +kernel
theorem dX9_doOrder_25 : decode cX9_doOrder 25 = .ok (.if_icmp .gt 7, 3) := by decide +kernel
theorem dX9_doOrder_28 : decode cX9_doOrder 28 = .ok (.iconst 1, 1) := by decide +kernel
theorem dX9_doOrder_29 : decode cX9_doOrder 29 = .ok (.goto 4, 3) := by decide +kernel
theorem dX9_doOrder_32 : decode cX9_doOrder 32 = .ok (.iconst 0, 1) := by decide +kernel
theorem dX9_doOrder_33 : decode cX9_doOrder 33 = .ok (.istore_n 1, 1) := by decide +kernel
theorem dX9_doOrder_34 : decode cX9_doOrder 34 = .ok (.aload_n 0, 1) := by decide +kernel
theorem dX9_doOrder_35 : decode cX9_doOrder 35 = .ok (.iload_n 1, 1) := by decide +kernel
theorem dX9_doOrder_36 : decode cX9_doOrder 36 = .ok (.ifCond .eq 12, 3) := by decide +kernel
theorem dX9_doOrder_39 : decode cX9_doOrder 39 = .ok (.aload_n 0, 1) := by decide +kernel
theorem dX9_doOrder_40 : decode cX9_doOrder 40 = .ok (.getfield 22, 3) := by decide +kernel
theorem dX9_doOrder_43 : decode cX9_doOrder 43 = .ok (.iconst 3, 1) := by decide +kernel
theorem dX9_doOrder_44 : decode cX9_doOrder 44 = .ok (.iaload, 1) := by decide +kernel
theorem dX9_doOrder_45 : decode cX9_doOrder 45 = .ok (.goto 4, 3) := by decide +kernel
theorem dX9_doOrder_48 : decode cX9_doOrder 48 = .ok (.iconst 0, 1) := by decide +kernel
theorem dX9_doOrder_49 : decode cX9_doOrder 49 = .ok (.invokevirtual 115, 3) := by decide +kernel
theorem dX9_doOrder_52 : decode cX9_doOrder 52 = .ok (.pop, 1) := by decide +kernel
theorem dX9_doOrder_53 : decode cX9_doOrder 53 = .ok (.iload_n 1, 1) := by decide +kernel
theorem dX9_doOrder_54 : decode cX9_doOrder 54 = .ok (.ireturn, 1) := by decide +kernel
theorem dX9_doOrder_55 : decode cX9_doOrder 55 = .ok (.aload_n 0, 1) := by decide +kernel
theorem dX9_doOrder_56 : decode cX9_doOrder 56 = .ok (.aload_n 0, 1) := by decide +kernel
theorem dX9_doOrder_57 : decode cX9_doOrder 57 = .ok (.getfield 22, 3) := by decide +kernel
theorem dX9_doOrder_60 : decode cX9_doOrder 60 = .ok (.iconst 1, 1) := by decide +kernel
theorem dX9_doOrder_61 : decode cX9_doOrder 61 = .ok (.iaload, 1) := by decide +kernel
theorem dX9_doOrder_62 : decode cX9_doOrder 62 = .ok (.invokevirtual 105, 3) := by decide +kernel
theorem dX9_doOrder_65 : decode cX9_doOrder 65 = .ok (.ifCond .eq 20, 3) := by decide +kernel
theorem dX9_doOrder_68 : decode cX9_doOrder 68 = .ok (.aload_n 0, 1) := by decide +kernel
theorem dX9_doOrder_69 : decode cX9_doOrder 69 = .ok (.aload_n 0, 1) := by decide +kernel
theorem dX9_doOrder_70 : decode cX9_doOrder 70 = .ok (.getfield 22, 3) := by decide +kernel
theorem dX9_doOrder_73 : decode cX9_doOrder 73 = .ok (.iconst 1, 1) := by decide +kernel
theorem dX9_doOrder_74 : decode cX9_doOrder 74 = .ok (.iaload, 1) := by decide +kernel
theorem dX9_doOrder_75 : decode cX9_doOrder 75 = .ok (.invokevirtual 95, 3) := by decide +kernel
theorem dX9_doOrder_78 : decode cX9_doOrder 78 = .ok (.ifCond .ne 7, 3) := by decide +kernel
theorem dX9_doOrder_81 : decode cX9_doOrder 81 = .ok (.iconst 1, 1) := by decide +kernel
theorem dX9_doOrder_82 : decode cX9_doOrder 82 = .ok (.goto 4, 3) := by decide +kernel
theorem dX9_doOrder_85 : decode cX9_doOrder 85 = .ok (.iconst 0, 1) := by decide +kernel
theorem dX9_doOrder_86 : decode cX9_doOrder 86 = .ok (.istore_n 1, 1) := by decide +kernel
theorem dX9_doOrder_87 : decode cX9_doOrder 87 = .ok (.iload_n 1, 1) := by decide +kernel
theorem dX9_doOrder_88 : decode cX9_doOrder 88 = .ok (.ifCond .eq 26, 3) := by decide +kernel
theorem dX9_doOrder_91 : decode cX9_doOrder 91 = .ok (.aload_n 0, 1) := by decide +kernel
theorem dX9_doOrder_92 : decode cX9_doOrder 92 = .ok (.aload_n 0, 1) := by decide +kernel
theorem dX9_doOrder_93 : decode cX9_doOrder 93 = .ok (.getfield 22, 3) := by decide +kernel
theorem dX9_doOrder_96 : decode cX9_doOrder 96 = .ok (.iconst 1, 1) := by decide +kernel
theorem dX9_doOrder_97 : decode cX9_doOrder 97 = .ok (.iaload, 1) := by decide +kernel
theorem dX9_doOrder_98 : decode cX9_doOrder 98 = .ok (.aload_n 0, 1) := by decide +kernel
theorem dX9_doOrder_99 : decode cX9_doOrder 99 = .ok (.getfield 22, 3) := by decide +kernel
theorem dX9_doOrder_102 : decode cX9_doOrder 102 = .ok (.iconst 2, 1) := by decide +kernel
theorem dX9_doOrder_103 : decode cX9_doOrder 103 = .ok (.iaload, 1) := by decide +kernel
theorem dX9_doOrder_104 : decode cX9_doOrder 104 = .ok (.aload_n 0, 1) := by decide +kernel
theorem dX9_doOrder_105 : decode cX9_doOrder 105 = .ok (.getfield 22, 3) := by decide +kernel
theorem dX9_doOrder_108 : decode cX9_doOrder 108 = .ok (.iconst 3, 1) := by decide +kernel
theorem dX9_doOrder_109 : decode cX9_doOrder 109 = .ok (.iaload, 1) := by decide +kernel
theorem dX9_doOrder_110 : decode cX9_doOrder 110 = .ok (.invokevirtual 111, 3) := by decide +kernel
theorem dX9_doOrder_113 : decode cX9_doOrder 113 = .ok (.pop, 1) := by decide +kernel
theorem dX9_doOrder_114 : decode cX9_doOrder 114 = .ok (.iload_n 1, 1) := by decide +kernel
theorem dX9_doOrder_115 : decode cX9_doOrder 115 = .ok (.ireturn, 1) := by decide +kernel
theorem dX9_carryOut_0 : decode cX9_carryOut 0 = .ok (.aload_n 0, 1) := by decide +kernel
theorem dX9_carryOut_1 : decode cX9_carryOut 1 = .ok (.iconst 0, 1) := by decide +kernel
theorem dX9_carryOut_2 : decode cX9_carryOut 2 = .ok (.putfield 29, 3) := by decide +kernel
theorem dX9_carryOut_5 : decode cX9_carryOut 5 = .ok (.aload_n 0, 1) := by decide +kernel
theorem dX9_carryOut_6 : decode cX9_carryOut 6 = .ok (.iconst 0, 1) := by decide +kernel
theorem dX9_carryOut_7 : decode cX9_carryOut 7 = .ok (.putfield 148, 3) := by decide +kernel
theorem dX9_carryOut_10 : decode cX9_carryOut 10 = .ok (.iconst 1, 1) := by decide +kernel
theorem dX9_carryOut_11 : decode cX9_carryOut 11 = .ok (.istore_n 1, 1) := by decide +kernel
theorem dX9_carryOut_12 : decode cX9_carryOut 12 = .ok (.iload_n 1, 1) := by decide +kernel
theorem dX9_carryOut_13 : decode cX9_carryOut 13 = .ok (.ifCond .eq 22, 3) := by decide +kernel
theorem dX9_carryOut_16 : decode cX9_carryOut 16 = .ok (.aload_n 0, 1) := by decide +kernel
theorem dX9_carryOut_17 : decode cX9_carryOut 17 = .ok (.getfield 148, 3) := by decide +kernel
theorem dX9_carryOut_20 : decode cX9_carryOut 20 = .ok (.aload_n 0, 1) := by decide +kernel
theorem dX9_carryOut_21 : decode cX9_carryOut 21 = .ok (.getfield 145, 3) := by decide +kernel
theorem dX9_carryOut_24 : decode cX9_carryOut 24 = .ok (.if_icmp .ge 11, 3) := by decide +kernel
theorem dX9_carryOut_27 : decode cX9_carryOut 27 = .ok (.aload_n 0, 1) := by decide +kernel
theorem dX9_carryOut_28 : decode cX9_carryOut 28 = .ok (.invokevirtual 161, 3) := by decide +kernel
theorem dX9_carryOut_31 : decode cX9_carryOut 31 = .ok (.istore_n 1, 1) := by decide +kernel
theorem dX9_carryOut_32 : decode cX9_carryOut 32 = .ok (.goto (-20), 3) := by decide +kernel
theorem dX9_carryOut_35 : decode cX9_carryOut 35 = .ok (.iload_n 1, 1) := by decide +kernel
theorem dX9_carryOut_36 : decode cX9_carryOut 36 = .ok (.ifCond .ne 11, 3) := by decide +kernel
theorem dX9_carryOut_39 : decode cX9_carryOut 39 = .ok (.bipush (-10), 2) := by decide +kernel
theorem dX9_carryOut_41 : decode cX9_carryOut 41 = .ok (.aload_n 0, 1) := by decide +kernel
theorem dX9_carryOut_42 : decode cX9_carryOut 42 = .ok (.getfield 148, 3) := by decide +kernel
theorem dX9_carryOut_45 : decode cX9_carryOut 45 = .ok (.isub, 1) := by decide +kernel
theorem dX9_carryOut_46 : decode cX9_carryOut 46 = .ok (.ireturn, 1) := by decide +kernel
theorem dX9_carryOut_47 : decode cX9_carryOut 47 = .ok (.aload_n 0, 1) := by decide +kernel
theorem dX9_carryOut_48 : decode cX9_carryOut 48 = .ok (.invokevirtual 102, 3) := by decide +kernel
theorem dX9_carryOut_51 : decode cX9_carryOut 51 = .ok (.aload_n 0, 1) := by decide +kernel
theorem dX9_carryOut_52 : decode cX9_carryOut 52 = .ok (.iconst 0, 1) := by decide +kernel
theorem dX9_carryOut_53 : decode cX9_carryOut 53 = .ok (.putfield 148, 3) := by decide +kernel
theorem dX9_carryOut_56 : decode cX9_carryOut 56 = .ok (.iconst 0, 1) := by decide +kernel
theorem dX9_carryOut_57 : decode cX9_carryOut 57 = .ok (.istore_n 2, 1) := by decide +kernel
theorem dX9_carryOut_58 : decode cX9_carryOut 58 = .ok (.iload_n 1, 1) := by decide +kernel
theorem dX9_carryOut_59 : decode cX9_carryOut 59 = .ok (.ifCond .eq 39, 3) := by decide +kernel
theorem dX9_carryOut_62 : decode cX9_carryOut 62 = .ok (.aload_n 0, 1) := by decide +kernel
theorem dX9_carryOut_63 : decode cX9_carryOut 63 = .ok (.getfield 148, 3) := by decide +kernel
theorem dX9_carryOut_66 : decode cX9_carryOut 66 = .ok (.aload_n 0, 1) := by decide +kernel
theorem dX9_carryOut_67 : decode cX9_carryOut 67 = .ok (.getfield 145, 3) := by decide +kernel
theorem dX9_carryOut_70 : decode cX9_carryOut 70 = .ok (.if_icmp .ge 28, 3) := by decide +kernel
theorem dX9_carryOut_73 : decode cX9_carryOut 73 = .ok (.aload_n 0, 1) := by decide +kernel
theorem dX9_carryOut_74 : decode cX9_carryOut 74 = .ok (.invokevirtual 161, 3) := by decide +kernel
theorem dX9_carryOut_77 : decode cX9_carryOut 77 = .ok (.pop, 1) := by decide +kernel
theorem dX9_carryOut_78 : decode cX9_carryOut 78 = .ok (.aload_n 0, 1) := by decide +kernel
theorem dX9_carryOut_79 : decode cX9_carryOut 79 = .ok (.invokevirtual 165, 3) := by decide +kernel
theorem dX9_carryOut_82 : decode cX9_carryOut 82 = .ok (.istore_n 1, 1) := by decide +kernel
theorem dX9_carryOut_83 : decode cX9_carryOut 83 = .ok (.iload_n 2, 1) := by decide +kernel
theorem dX9_carryOut_84 : decode cX9_carryOut 84 = .ok (.iload_n 1, 1) := by decide +kernel
theorem dX9_carryOut_85 : decode cX9_carryOut 85 = .ok (.ifCond .eq 7, 3) := by decide +kernel
theorem dX9_carryOut_88 : decode cX9_carryOut 88 = .ok (.iconst 1, 1) := by decide +kernel
theorem dX9_carryOut_89 : decode cX9_carryOut 89 = .ok (.goto 4, 3) := by decide +kernel
theorem dX9_carryOut_92 : decode cX9_carryOut 92 = .ok (.iconst 0, 1) := by decide +kernel
theorem dX9_carryOut_93 : decode cX9_carryOut 93 = .ok (.iadd, 1) := by decide +kernel
theorem dX9_carryOut_94 : decode cX9_carryOut 94 = .ok (.istore_n 2, 1) := by decide +kernel
theorem dX9_carryOut_95 : decode cX9_carryOut 95 = .ok (.goto (-37), 3) := by decide +kernel
theorem dX9_carryOut_98 : decode cX9_carryOut 98 = .ok (.iload_n 2, 1) := by decide +kernel
theorem dX9_carryOut_99 : decode cX9_carryOut 99 = .ok (.ireturn, 1) := by decide +kernel
theorem dX9_undo_0 : decode cX9_undo 0 = .ok (.aload_n 0, 1) := by decide +kernel
theorem dX9_undo_1 : decode cX9_undo 1 = .ok (.iconst 0, 1) := by decide +kernel
theorem dX9_undo_2 : decode cX9_undo 2 = .ok (.putfield 29, 3) := by decide +kernel
theorem dX9_undo_5 : decode cX9_undo 5 = .ok (.aload_n 0, 1) := by decide +kernel
theorem dX9_undo_6 : decode cX9_undo 6 = .ok (.getfield 33, 3) := by decide +kernel
theorem dX9_undo_9 : decode cX9_undo 9 = .ok (.ifCond .ne 9, 3) := by decide +kernel
theorem dX9_undo_12 : decode cX9_undo 12 = .ok (.aload_n 0, 1) := by decide +kernel
theorem dX9_undo_13 : decode cX9_undo 13 = .ok (.iconst 1, 1) := by decide +kernel
theorem dX9_undo_14 : decode cX9_undo 14 = .ok (.invokevirtual 99, 3) := by decide +kernel
theorem dX9_undo_17 : decode cX9_undo 17 = .ok (.ireturn, 1) := by decide +kernel
theorem dX9_undo_18 : decode cX9_undo 18 = .ok (.aload_n 0, 1) := by decide +kernel
theorem dX9_undo_19 : decode cX9_undo 19 = .ok (.dup, 1) := by decide +kernel
theorem dX9_undo_20 : decode cX9_undo 20 = .ok (.getfield 33, 3) := by decide +kernel
theorem dX9_undo_23 : decode cX9_undo 23 = .ok (.iconst 1, 1) := by decide +kernel
theorem dX9_undo_24 : decode cX9_undo 24 = .ok (.isub, 1) := by decide +kernel
theorem dX9_undo_25 : decode cX9_undo 25 = .ok (.putfield 33, 3) := by decide +kernel
theorem dX9_undo_28 : decode cX9_undo 28 = .ok (.iconst 0, 1) := by decide +kernel
theorem dX9_undo_29 : decode cX9_undo 29 = .ok (.istore_n 1, 1) := by decide +kernel
theorem dX9_undo_30 : decode cX9_undo 30 = .ok (.iload_n 1, 1) := by decide +kernel
theorem dX9_undo_31 : decode cX9_undo 31 = .ok (.sipush 456, 3) := by decide +kernel
theorem dX9_undo_34 : decode cX9_undo 34 = .ok (.if_icmp .ge 30, 3) := by decide +kernel
theorem dX9_undo_37 : decode cX9_undo 37 = .ok (.aload_n 0, 1) := by decide +kernel
theorem dX9_undo_38 : decode cX9_undo 38 = .ok (.getfield 7, 3) := by decide +kernel
theorem dX9_undo_41 : decode cX9_undo 41 = .ok (.iload_n 1, 1) := by decide +kernel
theorem dX9_undo_42 : decode cX9_undo 42 = .ok (.aload_n 0, 1) := by decide +kernel
theorem dX9_undo_43 : decode cX9_undo 43 = .ok (.getfield 16, 3) := by decide +kernel
theorem dX9_undo_46 : decode cX9_undo 46 = .ok (.sipush 456, 3) := by decide +kernel
theorem dX9_undo_49 : decode cX9_undo 49 = .ok (.aload_n 0, 1) := by decide +kernel
theorem dX9_undo_50 : decode cX9_undo 50 = .ok (.getfield 33, 3) := by decide +kernel
theorem dX9_undo_53 : decode cX9_undo 53 = .ok (.imul, 1) := by decide +kernel
theorem dX9_undo_54 : decode cX9_undo 54 = .ok (.iload_n 1, 1) := by decide +kernel
theorem dX9_undo_55 : decode cX9_undo 55 = .ok (.iadd, 1) := by decide +kernel
theorem dX9_undo_56 : decode cX9_undo 56 = .ok (.iaload, 1) := by decide +kernel
theorem dX9_undo_57 : decode cX9_undo 57 = .ok (.iastore, 1) := by decide +kernel
theorem dX9_undo_58 : decode cX9_undo 58 = .ok (.iinc 1 1, 3) := by decide +kernel
theorem dX9_undo_61 : decode cX9_undo 61 = .ok (.goto (-31), 3) := by decide +kernel
theorem dX9_undo_64 : decode cX9_undo 64 = .ok (.aload_n 0, 1) := by decide +kernel
theorem dX9_undo_65 : decode cX9_undo 65 = .ok (.getfield 33, 3) := by decide +kernel
theorem dX9_undo_68 : decode cX9_undo 68 = .ok (.ireturn, 1) := by decide +kernel
theorem dX9_digest_0 : decode cX9_digest 0 = .ok (.aload_n 0, 1) := by decide +kernel
theorem dX9_digest_1 : decode cX9_digest 1 = .ok (.iconst 0, 1) := by decide +kernel
theorem dX9_digest_2 : decode cX9_digest 2 = .ok (.putfield 29, 3) := by decide +kernel
theorem dX9_digest_5 : decode cX9_digest 5 = .ok (.ldc2_w 168, 3) := by decide +kernel
theorem dX9_digest_8 : decode cX9_digest 8 = .ok (.aload_n 0, 1) := by decide +kernel
theorem dX9_digest_9 : decode cX9_digest 9 = .ok (.getfield 145, 3) := by decide +kernel
theorem dX9_digest_12 : decode cX9_digest 12 = .ok (.i2l, 1) := by decide +kernel
theorem dX9_digest_13 : decode cX9_digest 13 = .ok (.ladd, 1) := by decide +kernel
theorem dX9_digest_14 : decode cX9_digest 14 = .ok (.lstore_n 1, 1) := by decide +kernel
theorem dX9_digest_15 : decode cX9_digest 15 = .ok (.iconst 0, 1) := by decide +kernel
theorem dX9_digest_16 : decode cX9_digest 16 = .ok (.istore_n 3, 1) := by decide +kernel
theorem dX9_digest_17 : decode cX9_digest 17 = .ok (.iload_n 3, 1) := by decide +kernel
theorem dX9_digest_18 : decode cX9_digest 18 = .ok (.bipush 14, 2) := by decide +kernel
theorem dX9_digest_20 : decode cX9_digest 20 = .ok (.if_icmp .ge 22, 3) := by decide +kernel
theorem dX9_digest_23 : decode cX9_digest 23 = .ok (.ldc2_w 170, 3) := by decide +kernel
theorem dX9_digest_26 : decode cX9_digest 26 = .ok (.lload_n 1, 1) := by decide +kernel
theorem dX9_digest_27 : decode cX9_digest 27 = .ok (.lmul, 1) := by decide +kernel
theorem dX9_digest_28 : decode cX9_digest 28 = .ok (.aload_n 0, 1) := by decide +kernel
theorem dX9_digest_29 : decode cX9_digest 29 = .ok (.iload_n 3, 1) := by decide +kernel
theorem dX9_digest_30 : decode cX9_digest 30 = .ok (.invokevirtual 133, 3) := by decide +kernel
theorem dX9_digest_33 : decode cX9_digest 33 = .ok (.i2l, 1) := by decide +kernel
theorem dX9_digest_34 : decode cX9_digest 34 = .ok (.ladd, 1) := by decide +kernel
theorem dX9_digest_35 : decode cX9_digest 35 = .ok (.lstore_n 1, 1) := by decide +kernel
theorem dX9_digest_36 : decode cX9_digest 36 = .ok (.iinc 3 1, 3) := by decide +kernel
theorem dX9_digest_39 : decode cX9_digest 39 = .ok (.goto (-22), 3) := by decide +kernel
theorem dX9_digest_42 : decode cX9_digest 42 = .ok (.iconst 0, 1) := by decide +kernel
theorem dX9_digest_43 : decode cX9_digest 43 = .ok (.istore_n 3, 1) := by decide +kernel
theorem dX9_digest_44 : decode cX9_digest 44 = .ok (.iload_n 3, 1) := by decide +kernel
theorem dX9_digest_45 : decode cX9_digest 45 = .ok (.bipush 32, 2) := by decide +kernel
theorem dX9_digest_47 : decode cX9_digest 47 = .ok (.if_icmp .ge 83, 3) := by decide +kernel
theorem dX9_digest_50 : decode cX9_digest 50 = .ok (.iconst 0, 1) := by decide +kernel
theorem dX9_digest_51 : decode cX9_digest 51 = .ok (.istore 4, 2) := by decide +kernel
theorem dX9_digest_53 : decode cX9_digest 53 = .ok (.iload 4, 2) := by decide +kernel
theorem dX9_digest_55 : decode cX9_digest 55 = .ok (.bipush 8, 2) := by decide +kernel
theorem dX9_digest_57 : decode cX9_digest 57 = .ok (.if_icmp .ge 24, 3) := by decide +kernel
theorem dX9_digest_60 : decode cX9_digest 60 = .ok (.ldc2_w 170, 3) := by decide +kernel
theorem dX9_digest_63 : decode cX9_digest 63 = .ok (.lload_n 1, 1) := by decide +kernel
theorem dX9_digest_64 : decode cX9_digest 64 = .ok (.lmul, 1) := by decide +kernel
theorem dX9_digest_65 : decode cX9_digest 65 = .ok (.aload_n 0, 1) := by decide +kernel
theorem dX9_digest_66 : decode cX9_digest 66 = .ok (.iload_n 3, 1) := by decide +kernel
theorem dX9_digest_67 : decode cX9_digest 67 = .ok (.iload 4, 2) := by decide +kernel
theorem dX9_digest_69 : decode cX9_digest 69 = .ok (.invokevirtual 124, 3) := by decide +kernel
theorem dX9_digest_72 : decode cX9_digest 72 = .ok (.i2l, 1) := by decide +kernel
theorem dX9_digest_73 : decode cX9_digest 73 = .ok (.ladd, 1) := by decide +kernel
theorem dX9_digest_74 : decode cX9_digest 74 = .ok (.lstore_n 1, 1) := by decide +kernel
theorem dX9_digest_75 : decode cX9_digest 75 = .ok (.iinc 4 1, 3) := by decide +kernel
theorem dX9_digest_78 : decode cX9_digest 78 = .ok (.goto (-25), 3) := by decide +kernel
theorem dX9_digest_81 : decode cX9_digest 81 = .ok (.iconst 0, 1) := by decide +kernel
theorem dX9_digest_82 : decode cX9_digest 82 = .ok (.istore 4, 2) := by decide +kernel
theorem dX9_digest_84 : decode cX9_digest 84 = .ok (.iload 4, 2) := by decide +kernel
theorem dX9_digest_86 : decode cX9_digest 86 = .ok (.iconst 4, 1) := by decide +kernel
theorem dX9_digest_87 : decode cX9_digest 87 = .ok (.aload_n 0, 1) := by decide +kernel
theorem dX9_digest_88 : decode cX9_digest 88 = .ok (.getfield 7, 3) := by decide +kernel
theorem dX9_digest_91 : decode cX9_digest 91 = .ok (.iconst 0, 1) := by decide +kernel
theorem dX9_digest_92 : decode cX9_digest 92 = .ok (.iaload, 1) := by decide +kernel
theorem dX9_digest_93 : decode cX9_digest 93 = .ok (.imul, 1) := by decide +kernel
theorem dX9_digest_94 : decode cX9_digest 94 = .ok (.if_icmp .ge 30, 3) := by decide +kernel
theorem dX9_digest_97 : decode cX9_digest 97 = .ok (.ldc2_w 170, 3) := by decide +kernel
theorem dX9_digest_100 : decode cX9_digest 100 = .ok (.lload_n 1, 1) := by decide +kernel
theorem dX9_digest_101 : decode cX9_digest 101 = .ok (.lmul, 1) := by decide +kernel
theorem dX9_digest_102 : decode cX9_digest 102 = .ok (.aload_n 0, 1) := by decide +kernel
theorem dX9_digest_103 : decode cX9_digest 103 = .ok (.iload 4, 2) := by decide +kernel
theorem dX9_digest_105 : decode cX9_digest 105 = .ok (.iconst 4, 1) := by decide +kernel
theorem dX9_digest_106 : decode cX9_digest 106 = .ok (.idiv, 1) := by decide +kernel
theorem dX9_digest_107 : decode cX9_digest 107 = .ok (.iload_n 3, 1) := by decide +kernel
theorem dX9_digest_108 : decode cX9_digest 108 = .ok (.iload 4, 2) := by decide +kernel
theorem dX9_digest_110 : decode cX9_digest 110 = .ok (.iconst 4, 1) := by decide +kernel
theorem dX9_digest_111 : decode cX9_digest 111 = .ok (.irem, 1) := by decide +kernel
theorem dX9_digest_112 : decode cX9_digest 112 = .ok (.invokevirtual 121, 3) := by decide +kernel
theorem dX9_digest_115 : decode cX9_digest 115 = .ok (.i2l, 1) := by decide +kernel
theorem dX9_digest_116 : decode cX9_digest 116 = .ok (.ladd, 1) := by decide +kernel
theorem dX9_digest_117 : decode cX9_digest 117 = .ok (.lstore_n 1, 1) := by decide +kernel
theorem dX9_digest_118 : decode cX9_digest 118 = .ok (.iinc 4 1, 3) := by decide +kernel
theorem dX9_digest_121 : decode cX9_digest 121 = .ok (.goto (-37), 3) := by decide +kernel
theorem dX9_digest_124 : decode cX9_digest 124 = .ok (.iinc 3 1, 3) := by decide +kernel
theorem dX9_digest_127 : decode cX9_digest 127 = .ok (.goto (-83), 3) := by decide +kernel
theorem dX9_digest_130 : decode cX9_digest 130 = .ok (.iconst 0, 1) := by decide +kernel
theorem dX9_digest_131 : decode cX9_digest 131 = .ok (.istore_n 3, 1) := by decide +kernel
theorem dX9_digest_132 : decode cX9_digest 132 = .ok (.iload_n 3, 1) := by decide +kernel
theorem dX9_digest_133 : decode cX9_digest 133 = .ok (.iconst 3, 1) := by decide +kernel
theorem dX9_digest_134 : decode cX9_digest 134 = .ok (.aload_n 0, 1) := by decide +kernel
theorem dX9_digest_135 : decode cX9_digest 135 = .ok (.getfield 7, 3) := by decide +kernel
theorem dX9_digest_138 : decode cX9_digest 138 = .ok (.iconst 0, 1) := by decide +kernel
theorem dX9_digest_139 : decode cX9_digest 139 = .ok (.iaload, 1) := by decide +kernel
theorem dX9_digest_140 : decode cX9_digest 140 = .ok (.imul, 1) := by decide +kernel
theorem dX9_digest_141 : decode cX9_digest 141 = .ok (.if_icmp .ge 27, 3) := by decide +kernel
theorem dX9_digest_144 : decode cX9_digest 144 = .ok (.ldc2_w 170, 3) := by decide +kernel
theorem dX9_digest_147 : decode cX9_digest 147 = .ok (.lload_n 1, 1) := by decide +kernel
theorem dX9_digest_148 : decode cX9_digest 148 = .ok (.lmul, 1) := by decide +kernel
theorem dX9_digest_149 : decode cX9_digest 149 = .ok (.aload_n 0, 1) := by decide +kernel
theorem dX9_digest_150 : decode cX9_digest 150 = .ok (.iload_n 3, 1) := by decide +kernel
theorem dX9_digest_151 : decode cX9_digest 151 = .ok (.iconst 3, 1) := by decide +kernel
theorem dX9_digest_152 : decode cX9_digest 152 = .ok (.idiv, 1) := by decide +kernel
theorem dX9_digest_153 : decode cX9_digest 153 = .ok (.iload_n 3, 1) := by decide +kernel
theorem dX9_digest_154 : decode cX9_digest 154 = .ok (.iconst 3, 1) := by decide +kernel
theorem dX9_digest_155 : decode cX9_digest 155 = .ok (.irem, 1) := by decide +kernel
theorem dX9_digest_156 : decode cX9_digest 156 = .ok (.invokevirtual 127, 3) := by decide +kernel
theorem dX9_digest_159 : decode cX9_digest 159 = .ok (.i2l, 1) := by decide +kernel
theorem dX9_digest_160 : decode cX9_digest 160 = .ok (.ladd, 1) := by decide +kernel
theorem dX9_digest_161 : decode cX9_digest 161 = .ok (.lstore_n 1, 1) := by decide +kernel
theorem dX9_digest_162 : decode cX9_digest 162 = .ok (.iinc 3 1, 3) := by decide +kernel
theorem dX9_digest_165 : decode cX9_digest 165 = .ok (.goto (-33), 3) := by decide +kernel
theorem dX9_digest_168 : decode cX9_digest 168 = .ok (.iconst 0, 1) := by decide +kernel
theorem dX9_digest_169 : decode cX9_digest 169 = .ok (.istore_n 3, 1) := by decide +kernel
theorem dX9_digest_170 : decode cX9_digest 170 = .ok (.iload_n 3, 1) := by decide +kernel
theorem dX9_digest_171 : decode cX9_digest 171 = .ok (.bipush 6, 2) := by decide +kernel
theorem dX9_digest_173 : decode cX9_digest 173 = .ok (.aload_n 0, 1) := by decide +kernel
theorem dX9_digest_174 : decode cX9_digest 174 = .ok (.getfield 7, 3) := by decide +kernel
theorem dX9_digest_177 : decode cX9_digest 177 = .ok (.bipush 12, 2) := by decide +kernel
theorem dX9_digest_179 : decode cX9_digest 179 = .ok (.iaload, 1) := by decide +kernel
theorem dX9_digest_180 : decode cX9_digest 180 = .ok (.imul, 1) := by decide +kernel
theorem dX9_digest_181 : decode cX9_digest 181 = .ok (.if_icmp .ge 27, 3) := by decide +kernel
theorem dX9_digest_184 : decode cX9_digest 184 = .ok (.ldc2_w 170, 3) := by decide +kernel
theorem dX9_digest_187 : decode cX9_digest 187 = .ok (.lload_n 1, 1) := by decide +kernel
theorem dX9_digest_188 : decode cX9_digest 188 = .ok (.lmul, 1) := by decide +kernel
theorem dX9_digest_189 : decode cX9_digest 189 = .ok (.aload_n 0, 1) := by decide +kernel
theorem dX9_digest_190 : decode cX9_digest 190 = .ok (.getfield 7, 3) := by decide +kernel
theorem dX9_digest_193 : decode cX9_digest 193 = .ok (.sipush 384, 3) := by decide +kernel
theorem dX9_digest_196 : decode cX9_digest 196 = .ok (.iload_n 3, 1) := by decide +kernel
theorem dX9_digest_197 : decode cX9_digest 197 = .ok (.iadd, 1) := by decide +kernel
theorem dX9_digest_198 : decode cX9_digest 198 = .ok (.iaload, 1) := by decide +kernel
theorem dX9_digest_199 : decode cX9_digest 199 = .ok (.i2l, 1) := by decide +kernel
theorem dX9_digest_200 : decode cX9_digest 200 = .ok (.ladd, 1) := by decide +kernel
theorem dX9_digest_201 : decode cX9_digest 201 = .ok (.lstore_n 1, 1) := by decide +kernel
theorem dX9_digest_202 : decode cX9_digest 202 = .ok (.iinc 3 1, 3) := by decide +kernel
theorem dX9_digest_205 : decode cX9_digest 205 = .ok (.goto (-35), 3) := by decide +kernel
theorem dX9_digest_208 : decode cX9_digest 208 = .ok (.ldc2_w 170, 3) := by decide +kernel
theorem dX9_digest_211 : decode cX9_digest 211 = .ok (.lload_n 1, 1) := by decide +kernel
theorem dX9_digest_212 : decode cX9_digest 212 = .ok (.lmul, 1) := by decide +kernel
theorem dX9_digest_213 : decode cX9_digest 213 = .ok (.aload_n 0, 1) := by decide +kernel
theorem dX9_digest_214 : decode cX9_digest 214 = .ok (.invokevirtual 172, 3) := by decide +kernel
theorem dX9_digest_217 : decode cX9_digest 217 = .ok (.i2l, 1) := by decide +kernel
theorem dX9_digest_218 : decode cX9_digest 218 = .ok (.ladd, 1) := by decide +kernel
theorem dX9_digest_219 : decode cX9_digest 219 = .ok (.lstore_n 1, 1) := by decide +kernel
theorem dX9_digest_220 : decode cX9_digest 220 = .ok (.ldc2_w 170, 3) := by decide +kernel
theorem dX9_digest_223 : decode cX9_digest 223 = .ok (.lload_n 1, 1) := by decide +kernel
theorem dX9_digest_224 : decode cX9_digest 224 = .ok (.lmul, 1) := by decide +kernel
theorem dX9_digest_225 : decode cX9_digest 225 = .ok (.aload_n 0, 1) := by decide +kernel
theorem dX9_digest_226 : decode cX9_digest 226 = .ok (.getfield 33, 3) := by decide +kernel
theorem dX9_digest_229 : decode cX9_digest 229 = .ok (.i2l, 1) := by decide +kernel
theorem dX9_digest_230 : decode cX9_digest 230 = .ok (.ladd, 1) := by decide +kernel
theorem dX9_digest_231 : decode cX9_digest 231 = .ok (.lreturn, 1) := by decide +kernel
end
section
/-! base: a state as numbered rows of ints; partial reads and writes; the words in one list; rows that follow a partial function -/
def z_up (σ : Nat → Nat → Int32) (f : Nat) (g : Nat → Int32) : Nat → Nat → Int32 := fun i => cond (Nat.beq i f) g (σ i)
def z_ag (f : Nat → Int32) (n : Nat) (i : Int32) : Option Int32 := if i < 0 ∨ n ≤ i.toNatClampNeg then none else some (f i.toNatClampNeg)
def z_sg (σ : Nat → Nat → Int32) (f n : Nat) (i x : Int32) : Option (Nat → Nat → Int32) := if i < 0 ∨ n ≤ i.toNatClampNeg then none else some (z_up σ f (upd (σ f) i.toNatClampNeg x))
def z_sf (σ : Nat → Nat → Int32) (f : Nat) (x : Int32) : Option (Nat → Nat → Int32) := some (z_up σ f (fun _ => x))
def z_rm (x y : Int32) : Option Int32 := if y = 0 then none else some (x - x / y * y)
def z_dv (x y : Int32) : Option Int32 := if y = 0 then none else some (x / y)
def z_bz (x : Int32) : Option Int32 := if x = 0 ∨ x = 1 then some x else none
def z_b2 {α β γ : Type} (o : Option (α × β)) (k : α → β → Option γ) : Option γ := o.bind fun q => k q.1 q.2
def z_fu : Nat := 2000
abbrev zSt : Type := Nat → Nat → Int32
/-- the words of all methods -/
abbrev WA : List Cond := wsL_law
theorem WA_good : WA.all goodWord = true := by decide +kernel
theorem z_in0 : ∀ w ∈ wsL_law0, w ∈ WA := fun _ h => List.mem_append_left _ (List.mem_append_left _ (List.mem_append_left _ h))
theorem z_good {big ws : List Cond} (hm : ∀ w ∈ ws, w ∈ big) (h : ∀ w ∈ ws, goodWord w = true) : GoodIn big ws := fun w hw => ⟨hm w hw, good_of_word (h w hw)⟩
theorem z_goodc {cd : Cond} (h : cd ∈ WA) : GoodIn WA (cd :: WA) :=
  have hm : ∀ w ∈ cd :: WA, w ∈ WA := fun w hw => (List.mem_cons.mp hw).elim (fun e => e ▸ h) (fun e => e)
  z_good hm (fun w hw => List.all_eq_true.mp WA_good w (hm w hw))
theorem z_goodV {own C : String} {idx : Nat} {y : MethodName} {cd : Cond} (h1 : Cond.methodLink own idx y ∈ WA) (h2 : Cond.instanceMethod y ∈ WA) (h3 : Cond.selects C y y ∈ WA) (h4 : Cond.initialized C ∈ WA) (h5 : cd ∈ WA) : GoodIn WA (wsV own idx C y (cd :: WA)) := by
  have hm : ∀ w ∈ wsV own idx C y (cd :: WA), w ∈ WA := by
    intro w hw
    simp only [wsV, List.cons_append, List.nil_append, List.mem_cons] at hw
    rcases hw with e | e | e | e | e | e
    · rw [e]; exact h1
    · rw [e]; exact h2
    · rw [e]; exact h3
    · rw [e]; exact h4
    · rw [e]; exact h5
    · exact e
  exact z_good hm (fun w hw => List.all_eq_true.mp WA_good w (hm w hw))
theorem z_goodS {own : String} {idx : Nat} {y : MethodName} {cd : Cond} (h1 : Cond.methodLink own idx y ∈ WA) (h2 : Cond.static y ∈ WA) (h4 : Cond.initialized y.cls ∈ WA) (h5 : cd ∈ WA) : GoodIn WA (va_wsS own idx y (cd :: WA)) := by
  have hm : ∀ w ∈ va_wsS own idx y (cd :: WA), w ∈ WA := by
    intro w hw
    simp only [va_wsS, List.cons_append, List.nil_append, List.mem_cons] at hw
    rcases hw with e | e | e | e | e
    · rw [e]; exact h1
    · rw [e]; exact h2
    · rw [e]; exact h4
    · rw [e]; exact h5
    · exact e
  exact z_good hm (fun w hw => List.all_eq_true.mp WA_good w (hm w hw))
section ZR
variable {p : Program} {l : Launch} {e : Env} {R : Room} {s : State} {m : MethodId} {args : Array Value} {below : List Frame} {meth : Method} {c : Code} {H : Heap} {locs : List Loc} {cells slots : Nat} {Q : State → Prop}
variable {cc : ByteArray} {nL pc : Nat} {own : String} {ls : Array Slot} {rest : List Value} {γ : Type} {res : γ} {D : va_G} {tys : List (ClassId × FieldType)} {A : Nat → Prop} {w : va_W} {H0 : Heap} {Ts : List Cond}
theorem z_ald (S : CallFix p m c cc nL s args Ts own) (K : va_K D vwCl tys s) (hP : va_P D vwCl w H) (q0 t0 : Nat) {a : Nat} {cA : ClassId} {n : Nat} {f : Nat → Int32} (ha : w[q0]? = some (a, .inl (cA, n, .inl f))) (ht : tys[t0]? = some (cA, .int)) {i : Int32} {k : Int32 → Option γ} (hf : (z_ag f n i).bind k = some res) (hdg : decode cc pc = .ok (.iaload, 1))
    (kk : ∀ x : Int32, k x = some res → W p l e R s m args below meth c H locs cells slots Q (F0 m (pc + 1) ls (.int x :: rest))) : W p l e R s m args below meth c H locs cells slots Q (F0 m pc ls (.int i :: .ref a :: rest)) := by
  unfold z_ag at hf
  split at hf
  · simp at hf
  · rename_i hn
    exact va_iald S.1 S.2.1 K hP q0 t0 ha ht hn hdg (kk _ hf)
theorem z_ast (S : CallFix p m c cc nL s args Ts own) (K : va_K D vwCl tys s) (hP : va_P D vwCl w H) (hD : va_D A w) (hS : va_S A H0 H locs) (q0 t0 : Nat) {a : Nat} {cA : ClassId} {n : Nat} {σ : zSt} {j : Nat} (ha : w[q0]? = some (a, .inl (cA, n, .inl (σ j)))) (ht : tys[t0]? = some (cA, .int)) {i x : Int32} {k : zSt → Option γ} (hf : (z_sg σ j n i x).bind k = some res) (hdg : decode cc pc = .ok (.iastore, 1))
    (kk : ∀ (σ' : zSt) (H1 : Heap) (locs1 : List Loc), σ' = z_up σ j (upd (σ j) i.toNatClampNeg x) → va_P D vwCl (w.set q0 (a, .inl (cA, n, .inl (upd (σ j) i.toNatClampNeg x)))) H1 → va_D A (w.set q0 (a, .inl (cA, n, .inl (upd (σ j) i.toNatClampNeg x)))) → va_S A H0 H1 locs1 → k σ' = some res → W p l e R s m args below meth c H1 locs1 cells slots Q (F0 m (pc + 1) ls rest)) : W p l e R s m args below meth c H locs cells slots Q (F0 m pc ls (.int x :: .int i :: .ref a :: rest)) := by
  unfold z_sg at hf
  split at hf
  · simp at hf
  · rename_i hn
    exact va_iast S.1 S.2.1 K hP hD hS q0 t0 ha ht hn hdg (fun H1 locs1 h1 h2 h3 => kk _ H1 locs1 rfl h1 h2 h3 hf)
theorem z_irem (S : CallFix p m c cc nL s args Ts own) {x y : Int32} {k : Int32 → Option γ} (hf : (z_rm x y).bind k = some res) (hdg : decode cc pc = .ok (.irem, 1))
    (kk : ∀ z : Int32, k z = some res → W p l e R s m args below meth c H locs cells slots Q (F0 m (pc + 1) ls (.int z :: rest))) : W p l e R s m args below meth c H locs cells slots Q (F0 m pc ls (.int y :: .int x :: rest)) := by
  unfold z_rm at hf
  split at hf
  · simp at hf
  · rename_i hn
    exact lv_irem S.1 S.2.1 hdg hn (kk _ hf)
theorem z_idiv (S : CallFix p m c cc nL s args Ts own) {x y : Int32} {k : Int32 → Option γ} (hf : (z_dv x y).bind k = some res) (hdg : decode cc pc = .ok (.idiv, 1))
    (kk : ∀ z : Int32, k z = some res → W p l e R s m args below meth c H locs cells slots Q (F0 m (pc + 1) ls (.int z :: rest))) : W p l e R s m args below meth c H locs cells slots Q (F0 m pc ls (.int y :: .int x :: rest)) := by
  unfold z_dv at hf
  split at hf
  · simp at hf
  · rename_i hn
    exact lv_idiv S.1 S.2.1 hdg hn (kk _ hf)
theorem z_br {c A B : Prop} {o1 o2 : Option γ} [Decidable c] (hf : (if c then o1 else o2) = some res) (kt : o1 = some res → A) (kf : o2 = some res → B) : (c → A) ∧ (¬ c → B) :=
  ⟨fun h => kt (by rw [if_pos h] at hf; exact hf), fun h => kf (by rw [if_neg h] at hf; exact hf)⟩
theorem z_case {A : Prop} {x : Int32} {v : Nat} {o1 o2 : Option γ} (hf : (if x = nI v then o1 else o2) = some res) (kt : x = nI v → o1 = some res → A) (kf : ¬ x = nI v → o2 = some res → A) : A := by
  by_cases h : x = nI v
  · rw [if_pos h] at hf
    exact kt h hf
  · rw [if_neg h] at hf
    exact kf h hf
theorem z_ne {x : Int32} {k : Nat} (h : ¬ x = nI k) (hk : k < 2 ^ 31) : x.toInt ≠ (k : Int) := fun e => h (Int32.toInt_inj.mp (e.trans (nI_toInt hk).symm))
theorem z_if_eq (S : CallFix p m c cc nL s args Ts own) {x : Int32} {off : Int} {tgt : Nat} {A B : Option γ} (hf : (if x = 0 then A else B) = some res) (hdg : decode cc pc = .ok (.ifCond .eq off, 3)) (ht : (pc : Int) + off = (tgt : Int))
    (kt : A = some res → W p l e R s m args below meth c H locs cells slots Q (F0 m tgt ls rest)) (kf : B = some res → W p l e R s m args below meth c H locs cells slots Q (F0 m (pc + 3) ls rest)) : W p l e R s m args below meth c H locs cells slots Q (F0 m pc ls (.int x :: rest)) := lv_if_eq S.1 S.2.1 hdg ht (z_br hf kt kf).1 (z_br hf kt kf).2
theorem z_icmp_eq (S : CallFix p m c cc nL s args Ts own) {x y : Int32} {off : Int} {tgt : Nat} {A B : Option γ} (hf : (if x = y then A else B) = some res) (hdg : decode cc pc = .ok (.if_icmp .eq off, 3)) (ht : (pc : Int) + off = (tgt : Int))
    (kt : A = some res → W p l e R s m args below meth c H locs cells slots Q (F0 m tgt ls rest)) (kf : B = some res → W p l e R s m args below meth c H locs cells slots Q (F0 m (pc + 3) ls rest)) : W p l e R s m args below meth c H locs cells slots Q (F0 m pc ls (.int y :: .int x :: rest)) := lv_icmp_eq S.1 S.2.1 hdg ht (z_br hf kt kf).1 (z_br hf kt kf).2
theorem z_if_ne (S : CallFix p m c cc nL s args Ts own) {x : Int32} {off : Int} {tgt : Nat} {A B : Option γ} (hf : (if x = 0 then A else B) = some res) (hdg : decode cc pc = .ok (.ifCond .ne off, 3)) (ht : (pc : Int) + off = (tgt : Int))
    (kt : B = some res → W p l e R s m args below meth c H locs cells slots Q (F0 m tgt ls rest)) (kf : A = some res → W p l e R s m args below meth c H locs cells slots Q (F0 m (pc + 3) ls rest)) : W p l e R s m args below meth c H locs cells slots Q (F0 m pc ls (.int x :: rest)) := lv_if_ne S.1 S.2.1 hdg ht (z_br hf kf kt).2 (z_br hf kf kt).1
theorem z_icmp_ne (S : CallFix p m c cc nL s args Ts own) {x y : Int32} {off : Int} {tgt : Nat} {A B : Option γ} (hf : (if x = y then A else B) = some res) (hdg : decode cc pc = .ok (.if_icmp .ne off, 3)) (ht : (pc : Int) + off = (tgt : Int))
    (kt : B = some res → W p l e R s m args below meth c H locs cells slots Q (F0 m tgt ls rest)) (kf : A = some res → W p l e R s m args below meth c H locs cells slots Q (F0 m (pc + 3) ls rest)) : W p l e R s m args below meth c H locs cells slots Q (F0 m pc ls (.int y :: .int x :: rest)) := lv_icmp_ne S.1 S.2.1 hdg ht (z_br hf kf kt).2 (z_br hf kf kt).1
theorem z_if_lt (S : CallFix p m c cc nL s args Ts own) {x : Int32} {off : Int} {tgt : Nat} {A B : Option γ} (hf : (if x < 0 then A else B) = some res) (hdg : decode cc pc = .ok (.ifCond .lt off, 3)) (ht : (pc : Int) + off = (tgt : Int))
    (kt : A = some res → W p l e R s m args below meth c H locs cells slots Q (F0 m tgt ls rest)) (kf : B = some res → W p l e R s m args below meth c H locs cells slots Q (F0 m (pc + 3) ls rest)) : W p l e R s m args below meth c H locs cells slots Q (F0 m pc ls (.int x :: rest)) := lv_if_lt S.1 S.2.1 hdg ht (z_br hf kt kf).1 (z_br hf kt kf).2
theorem z_icmp_lt (S : CallFix p m c cc nL s args Ts own) {x y : Int32} {off : Int} {tgt : Nat} {A B : Option γ} (hf : (if x < y then A else B) = some res) (hdg : decode cc pc = .ok (.if_icmp .lt off, 3)) (ht : (pc : Int) + off = (tgt : Int))
    (kt : A = some res → W p l e R s m args below meth c H locs cells slots Q (F0 m tgt ls rest)) (kf : B = some res → W p l e R s m args below meth c H locs cells slots Q (F0 m (pc + 3) ls rest)) : W p l e R s m args below meth c H locs cells slots Q (F0 m pc ls (.int y :: .int x :: rest)) := lv_icmp_lt S.1 S.2.1 hdg ht (z_br hf kt kf).1 (z_br hf kt kf).2
theorem z_if_ge (S : CallFix p m c cc nL s args Ts own) {x : Int32} {off : Int} {tgt : Nat} {A B : Option γ} (hf : (if 0 ≤ x then A else B) = some res) (hdg : decode cc pc = .ok (.ifCond .ge off, 3)) (ht : (pc : Int) + off = (tgt : Int))
    (kt : A = some res → W p l e R s m args below meth c H locs cells slots Q (F0 m tgt ls rest)) (kf : B = some res → W p l e R s m args below meth c H locs cells slots Q (F0 m (pc + 3) ls rest)) : W p l e R s m args below meth c H locs cells slots Q (F0 m pc ls (.int x :: rest)) := lv_if_ge S.1 S.2.1 hdg ht (z_br hf kt kf).1 (z_br hf kt kf).2
theorem z_icmp_ge (S : CallFix p m c cc nL s args Ts own) {x y : Int32} {off : Int} {tgt : Nat} {A B : Option γ} (hf : (if y ≤ x then A else B) = some res) (hdg : decode cc pc = .ok (.if_icmp .ge off, 3)) (ht : (pc : Int) + off = (tgt : Int))
    (kt : A = some res → W p l e R s m args below meth c H locs cells slots Q (F0 m tgt ls rest)) (kf : B = some res → W p l e R s m args below meth c H locs cells slots Q (F0 m (pc + 3) ls rest)) : W p l e R s m args below meth c H locs cells slots Q (F0 m pc ls (.int y :: .int x :: rest)) := lv_icmp_ge S.1 S.2.1 hdg ht (z_br hf kt kf).1 (z_br hf kt kf).2
theorem z_if_gt (S : CallFix p m c cc nL s args Ts own) {x : Int32} {off : Int} {tgt : Nat} {A B : Option γ} (hf : (if 0 < x then A else B) = some res) (hdg : decode cc pc = .ok (.ifCond .gt off, 3)) (ht : (pc : Int) + off = (tgt : Int))
    (kt : A = some res → W p l e R s m args below meth c H locs cells slots Q (F0 m tgt ls rest)) (kf : B = some res → W p l e R s m args below meth c H locs cells slots Q (F0 m (pc + 3) ls rest)) : W p l e R s m args below meth c H locs cells slots Q (F0 m pc ls (.int x :: rest)) := lv_if_gt S.1 S.2.1 hdg ht (z_br hf kt kf).1 (z_br hf kt kf).2
theorem z_icmp_gt (S : CallFix p m c cc nL s args Ts own) {x y : Int32} {off : Int} {tgt : Nat} {A B : Option γ} (hf : (if y < x then A else B) = some res) (hdg : decode cc pc = .ok (.if_icmp .gt off, 3)) (ht : (pc : Int) + off = (tgt : Int))
    (kt : A = some res → W p l e R s m args below meth c H locs cells slots Q (F0 m tgt ls rest)) (kf : B = some res → W p l e R s m args below meth c H locs cells slots Q (F0 m (pc + 3) ls rest)) : W p l e R s m args below meth c H locs cells slots Q (F0 m pc ls (.int y :: .int x :: rest)) := lv_icmp_gt S.1 S.2.1 hdg ht (z_br hf kt kf).1 (z_br hf kt kf).2
theorem z_if_le (S : CallFix p m c cc nL s args Ts own) {x : Int32} {off : Int} {tgt : Nat} {A B : Option γ} (hf : (if x ≤ 0 then A else B) = some res) (hdg : decode cc pc = .ok (.ifCond .le off, 3)) (ht : (pc : Int) + off = (tgt : Int))
    (kt : A = some res → W p l e R s m args below meth c H locs cells slots Q (F0 m tgt ls rest)) (kf : B = some res → W p l e R s m args below meth c H locs cells slots Q (F0 m (pc + 3) ls rest)) : W p l e R s m args below meth c H locs cells slots Q (F0 m pc ls (.int x :: rest)) := lv_if_le S.1 S.2.1 hdg ht (z_br hf kt kf).1 (z_br hf kt kf).2
theorem z_icmp_le (S : CallFix p m c cc nL s args Ts own) {x y : Int32} {off : Int} {tgt : Nat} {A B : Option γ} (hf : (if x ≤ y then A else B) = some res) (hdg : decode cc pc = .ok (.if_icmp .le off, 3)) (ht : (pc : Int) + off = (tgt : Int))
    (kt : A = some res → W p l e R s m args below meth c H locs cells slots Q (F0 m tgt ls rest)) (kf : B = some res → W p l e R s m args below meth c H locs cells slots Q (F0 m (pc + 3) ls rest)) : W p l e R s m args below meth c H locs cells slots Q (F0 m pc ls (.int y :: .int x :: rest)) := lv_icmp_le S.1 S.2.1 hdg ht (z_br hf kt kf).1 (z_br hf kt kf).2
end ZR
end
section
/-! the reference's world: its object and five rows of ints; rows that follow a partial function -/
def wM (h : Nat) (ad : Nat → Nat) (cI : ClassId) (σ : zSt) : va_W := [(h, .inr (8, [.ref (ad 0), .ref (ad 1), .ref (ad 2), .int (σ 5 0), .ref (ad 3), .int (σ 6 0), .int (σ 7 0), .int (σ 8 0), .ref (ad 4)])), (ad 0, .inl (cI, 456, .inl (σ 0))), (ad 1, .inl (cI, 456, .inl (σ 1))), (ad 2, .inl (cI, 1824, .inl (σ 2))), (ad 3, .inl (cI, 100, .inl (σ 3))), (ad 4, .inl (cI, 4, .inl (σ 4)))]
def mA (h : Nat) (ad : Nat → Nat) : Nat → Prop := fun q => q = h ∨ q = ad 0 ∨ q = ad 1 ∨ q = ad 2 ∨ q = ad 3 ∨ q = ad 4
def mB (D : va_G) (cI : ClassId) (h : Nat) (ad : Nat → Nat) (σ : zSt) (U : State) : Prop := va_P D vwCl (wM h ad cI σ) U.heap ∧ va_K D vwCl [(cI, .int)] U ∧ va_D (mA h ad) (wM h ad cI σ)
def mS (D : va_G) (cI : ClassId) (h : Nat) (ad : Nat → Nat) (s : State) (σ : zSt) (H : Heap) (locs : List Loc) : Prop := va_P D vwCl (wM h ad cI σ) H ∧ va_D (mA h ad) (wM h ad cI σ) ∧ va_S (mA h ad) s.heap H locs
def mPc (D : va_G) (cI : ClassId) (h : Nat) (ad : Nat → Nat) (σ : zSt) (av : List Value) : Array Value → State → Prop := va_Pc av (mB D cI h ad σ)
def mQi (D : va_G) (cI : ClassId) (h : Nat) (ad : Nat → Nat) (r : Int32) (σ : zSt) : Array Value → State → Outcome → State → Prop := va_Qi (fun (r' : Int32) (_ : Unit) => r' = r) (fun _ t => mB D cI h ad σ t) (mA h ad)
def mQl (D : va_G) (cI : ClassId) (h : Nat) (ad : Nat → Nat) (r : Int64) (σ : zSt) : Array Value → State → Outcome → State → Prop := va_Ql (fun (r' : Int64) (_ : Unit) => r' = r) (fun _ t => mB D cI h ad σ t) (mA h ad)
def mQv (D : va_G) (cI : ClassId) (h : Nat) (ad : Nat → Nat) (σ : zSt) : Array Value → State → Outcome → State → Prop := va_Qv (fun (_ : Unit) => True) (fun _ t => mB D cI h ad σ t) (mA h ad)
theorem mPc_blind (D : va_G) (cI : ClassId) (h : Nat) (ad : Nat → Nat) (σ : zSt) (av : List Value) : FrameBlind (mPc D cI h ad σ av) := fun a U g mk q => by
  obtain ⟨q0, qP, qK, qD⟩ := q
  exact ⟨q0, qP, va_K.moved (u := U) (U := U.calling g mk a) (Vm.Alike.refl U.vm) qK, qD⟩
section MR
variable {p : Program} {l : Launch} {e : Env} {R : Room} {s : State} {m : MethodId} {args : Array Value} {below : List Frame} {meth : Method} {c : Code} {H : Heap} {locs : List Loc} {cells slots : Nat} {Q : State → Prop}
variable {cc : ByteArray} {nL pc : Nat} {own : String} {ls : Array Slot} {rest st0 : List Value} {γ : Type} {res : γ} {D : va_G} {cI : ClassId} {h : Nat} {ad : Nat → Nat} {σ : zSt}
theorem mPre (K : va_K D vwCl [(cI, .int)] s) (hs : mS D cI h ad s σ H locs) (av : List Value) : ∀ U : State, U.heap = H → s.WarmedH U.vm → mPc D cI h ad σ av av.toArray U := fun U hU hW => ⟨rfl, by rw [hU]; exact hs.1, va_K.moved hW.alike K, hs.2.1⟩
theorem mrI (S : CallFix p m c cc nL s args WA own) (K : va_K D vwCl [(cI, .int)] s) (hr : meth.sig.returnType = some .int) (hk : meth.locks = false) (hs : mS D cI h ad s σ H locs) {r r0 : Int32} {σ0 : zSt} (hf : some (r, σ) = some (r0, σ0)) (hdg : decode cc pc = .ok (.ireturn, 1)) : W p l e R s m args below meth c H locs 0 0 (MQ below (mQi D cI h ad r0 σ0) args s 0 0 (mA h ad)) (F0 m pc ls [.int r]) := by
  cases hf
  exact W.iret S.1 S.2.1 hr (fun t ht hW => ⟨⟨r, (), rfl, rfl, by rw [ht]; exact hs.1, va_K.moved hW.alike K, hs.2.1⟩, hs.2.2.F ht⟩) hs.2.2.2.2 hdg (hlocks := hk)
theorem mrP (S : CallFix p m c cc nL s args WA own) (K : va_K D vwCl [(cI, .int)] s) (hr : meth.sig.returnType = some .int) (hk : meth.locks = false) (hs : mS D cI h ad s σ H locs) {r r0 : Int32} (hf : some r = some r0) (hdg : decode cc pc = .ok (.ireturn, 1)) : W p l e R s m args below meth c H locs 0 0 (MQ below (mQi D cI h ad r0 σ) args s 0 0 (mA h ad)) (F0 m pc ls [.int r]) := by
  cases hf
  exact mrI S K hr hk hs rfl hdg
theorem z_nar {x : Int32} (h : x = 0 ∨ x = 1) : narrow .boolean (.int x) = .int x := by
  rcases h with h | h <;> subst h <;> decide
theorem mrZ (S : CallFix p m c cc nL s args WA own) (K : va_K D vwCl [(cI, .int)] s) (hr : meth.sig.returnType = some .boolean) (hk : meth.locks = false) (hs : mS D cI h ad s σ H locs) {r r0 : Int32} {σ0 : zSt} (hf : ((z_bz r).bind fun r => some (r, σ)) = some (r0, σ0)) (hdg : decode cc pc = .ok (.ireturn, 1)) : W p l e R s m args below meth c H locs 0 0 (MQ below (mQi D cI h ad r0 σ0) args s 0 0 (mA h ad)) (F0 m pc ls [.int r]) := by
  unfold z_bz at hf
  split at hf
  · rename_i hz
    cases hf
    exact W.zret S.1 S.2.1 hr (z_nar hz) (fun t ht hW => ⟨⟨r, (), rfl, rfl, by rw [ht]; exact hs.1, va_K.moved hW.alike K, hs.2.1⟩, hs.2.2.F ht⟩) hs.2.2.2.2 hdg (hlocks := hk)
  · simp at hf
theorem mrB (S : CallFix p m c cc nL s args WA own) (K : va_K D vwCl [(cI, .int)] s) (hr : meth.sig.returnType = some .boolean) (hk : meth.locks = false) (hs : mS D cI h ad s σ H locs) {r r0 : Int32} (hf : z_bz r = some r0) (hdg : decode cc pc = .ok (.ireturn, 1)) : W p l e R s m args below meth c H locs 0 0 (MQ below (mQi D cI h ad r0 σ) args s 0 0 (mA h ad)) (F0 m pc ls [.int r]) :=
  mrZ S K hr hk hs (by rw [hf]; rfl) hdg
theorem mrV (S : CallFix p m c cc nL s args WA own) (K : va_K D vwCl [(cI, .int)] s) (hr : meth.sig.returnType = none) (hk : meth.locks = false) (hs : mS D cI h ad s σ H locs) {σ0 : zSt} (hf : some σ = some σ0) (hdg : decode cc pc = .ok (.return_, 1)) : W p l e R s m args below meth c H locs 0 0 (MQ below (mQv D cI h ad σ0) args s 0 0 (mA h ad)) (F0 m pc ls []) := by
  cases hf
  exact W.vret S.1 S.2.1 hr (fun t ht hW => ⟨⟨(), rfl, trivial, by rw [ht]; exact hs.1, va_K.moved hW.alike K, hs.2.1⟩, hs.2.2.F ht⟩) hs.2.2.2.2 hdg (hlocks := hk)
theorem mrL (S : CallFix p m c cc nL s args WA own) (K : va_K D vwCl [(cI, .int)] s) (hr : meth.sig.returnType = some .long) (hk : meth.locks = false) (hs : mS D cI h ad s σ H locs) {r r0 : Int64} {σ0 : zSt} (hf : some (r, σ) = some (r0, σ0)) (hdg : decode cc pc = .ok (.lreturn, 1)) : W p l e R s m args below meth c H locs 0 0 (MQ below (mQl D cI h ad r0 σ0) args s 0 0 (mA h ad)) (F0 m pc ls [.long r]) := by
  cases hf
  exact W.lret S.1 S.2.1 hr (fun t ht hW => ⟨⟨r, (), rfl, rfl, by rw [ht]; exact hs.1, va_K.moved hW.alike K, hs.2.1⟩, hs.2.2.F ht⟩) hs.2.2.2.2 hdg (hlocks := hk)
/-- calls on the same object: with a new state; reading alone; without an answer -/
theorem mcV {y : MethodName} {bytes : ByteArray} {maxL n index : Nat} {ret : Option FieldType} {rm : Room} {As : List Value} {X : Option (Int32 × zSt)} {k : Int32 → zSt → Option γ} (S : CallFix p m c cc nL s args WA own) (K : va_K D vwCl [(cI, .int)] s) (hs : mS D cI h ad s σ H locs) (hl : ls.size = nL) (hf : z_b2 X k = some res)
    (hM : ∀ r σ', X = some (r, σ') → Met l y (Cond.code y bytes maxL ret :: WA) rm (mPc D cI h ad σ (.ref h :: As)) (mQi D cI h ad r σ') 0 0 (mA h ad))
    (cw : CallW R s args own RX9 index y bytes maxL ret (Cond.code y bytes maxL ret :: WA) rm 0 0 n) (hn : As.length = n) (hdg : decode cc pc = .ok (.invokevirtual index, 3)) (hst : st0 = As.reverse ++ .ref h :: rest) (hroom : (rest.map fun v => v.category).sum ≤ 8) (hfit : cells + 0 ≤ R.cells ∧ slots + 0 ≤ R.slots)
    (kk : ∀ (r : Int32) (σ' : zSt) (H1 : Heap) (locs1 : List Loc), mS D cI h ad s σ' H1 locs1 → k r σ' = some res → W p l e R s m args below meth c H1 locs1 cells slots Q (F0 m (pc + 3) ls (.int r :: rest))) : W p l e R s m args below meth c H locs cells slots Q (F0 m pc ls st0) := by
  obtain ⟨⟨r, σ'⟩, hX, hk⟩ := Option.bind_eq_some_iff.mp hf
  refine va_calli (va_runV (As := As) (rest := rest) S (hM r σ' hX) cw ⟨mPc_blind _ _ _ _ _ _, va_recv K hs.1 (ci := 8) (q0 := 0) rfl rfl, mPre K hs _⟩ rfl hn hl hst (lv_room hroom) hdg hfit) hs.2.2 (fun q _ h => h) (fun q h => h) (fun r1 u t H1 locs1 ht hvm hw hB hz1 hk1 hS => ?_)
  obtain ⟨hP1, hK1, hD1⟩ := hB
  rw [ht] at hP1
  subst hw
  exact kk _ σ' H1 locs1 ⟨hP1, hD1, hS⟩ hk
theorem mcP {y : MethodName} {bytes : ByteArray} {maxL n index : Nat} {ret : Option FieldType} {rm : Room} {As : List Value} {X : Option Int32} {k : Int32 → Option γ} (S : CallFix p m c cc nL s args WA own) (K : va_K D vwCl [(cI, .int)] s) (hs : mS D cI h ad s σ H locs) (hl : ls.size = nL) (hf : X.bind k = some res)
    (hM : ∀ r, X = some r → Met l y (Cond.code y bytes maxL ret :: WA) rm (mPc D cI h ad σ (.ref h :: As)) (mQi D cI h ad r σ) 0 0 (mA h ad))
    (cw : CallW R s args own RX9 index y bytes maxL ret (Cond.code y bytes maxL ret :: WA) rm 0 0 n) (hn : As.length = n) (hdg : decode cc pc = .ok (.invokevirtual index, 3)) (hst : st0 = As.reverse ++ .ref h :: rest) (hroom : (rest.map fun v => v.category).sum ≤ 8) (hfit : cells + 0 ≤ R.cells ∧ slots + 0 ≤ R.slots)
    (kk : ∀ (r : Int32) (H1 : Heap) (locs1 : List Loc), mS D cI h ad s σ H1 locs1 → k r = some res → W p l e R s m args below meth c H1 locs1 cells slots Q (F0 m (pc + 3) ls (.int r :: rest))) : W p l e R s m args below meth c H locs cells slots Q (F0 m pc ls st0) := by
  obtain ⟨r, hX, hk⟩ := Option.bind_eq_some_iff.mp hf
  refine va_calli (va_runV (As := As) (rest := rest) S (hM r hX) cw ⟨mPc_blind _ _ _ _ _ _, va_recv K hs.1 (ci := 8) (q0 := 0) rfl rfl, mPre K hs _⟩ rfl hn hl hst (lv_room hroom) hdg hfit) hs.2.2 (fun q _ h => h) (fun q h => h) (fun r1 u t H1 locs1 ht hvm hw hB hz1 hk1 hS => ?_)
  obtain ⟨hP1, hK1, hD1⟩ := hB
  rw [ht] at hP1
  subst hw
  exact kk _ H1 locs1 ⟨hP1, hD1, hS⟩ hk
theorem mcU {y : MethodName} {bytes : ByteArray} {maxL n index : Nat} {ret : Option FieldType} {rm : Room} {As : List Value} {X : Option zSt} {k : zSt → Option γ} (S : CallFix p m c cc nL s args WA own) (K : va_K D vwCl [(cI, .int)] s) (hs : mS D cI h ad s σ H locs) (hl : ls.size = nL) (hf : X.bind k = some res)
    (hM : ∀ σ', X = some σ' → Met l y (Cond.code y bytes maxL ret :: WA) rm (mPc D cI h ad σ (.ref h :: As)) (mQv D cI h ad σ') 0 0 (mA h ad))
    (cw : CallW R s args own RX9 index y bytes maxL ret (Cond.code y bytes maxL ret :: WA) rm 0 0 n) (hn : As.length = n) (hdg : decode cc pc = .ok (.invokevirtual index, 3)) (hst : st0 = As.reverse ++ .ref h :: rest) (hroom : (rest.map fun v => v.category).sum ≤ 8) (hfit : cells + 0 ≤ R.cells ∧ slots + 0 ≤ R.slots)
    (kk : ∀ (σ' : zSt) (H1 : Heap) (locs1 : List Loc), mS D cI h ad s σ' H1 locs1 → k σ' = some res → W p l e R s m args below meth c H1 locs1 cells slots Q (F0 m (pc + 3) ls rest)) : W p l e R s m args below meth c H locs cells slots Q (F0 m pc ls st0) := by
  obtain ⟨σ', hX, hk⟩ := Option.bind_eq_some_iff.mp hf
  refine va_callv (va_runV (As := As) (rest := rest) S (hM σ' hX) cw ⟨mPc_blind _ _ _ _ _ _, va_recv K hs.1 (ci := 8) (q0 := 0) rfl rfl, mPre K hs _⟩ rfl hn hl hst (lv_room hroom) hdg hfit) hs.2.2 (fun q _ h => h) (fun q h => h) (fun u t H1 locs1 ht hvm hw hB hz1 hk1 hS => ?_)
  obtain ⟨hP1, hK1, hD1⟩ := hB
  rw [ht] at hP1
  exact kk σ' H1 locs1 ⟨hP1, hD1, hS⟩ hk
/-- a static one, reading alone -/
theorem mcT {y : MethodName} {bytes : ByteArray} {maxL n index : Nat} {ret : Option FieldType} {rm : Room} {As : List Value} {X : Option Int32} {k : Int32 → Option γ} (S : CallFix p m c cc nL s args WA own) (K : va_K D vwCl [(cI, .int)] s) (hs : mS D cI h ad s σ H locs) (hl : ls.size = nL) (hf : X.bind k = some res)
    (hM : ∀ r, X = some r → Met l y (Cond.code y bytes maxL ret :: WA) rm (mPc D cI h ad σ As) (mQi D cI h ad r σ) 0 0 (mA h ad))
    (cw : CallB R s args own index y bytes maxL ret (Cond.code y bytes maxL ret :: WA) rm 0 0 n ∧ (Cond.static y).before args s = true) (hn : As.length = n) (hdg : decode cc pc = .ok (.invokestatic index, 3)) (hst : st0 = As.reverse ++ rest) (hroom : (rest.map fun v => v.category).sum ≤ 8) (hfit : cells + 0 ≤ R.cells ∧ slots + 0 ≤ R.slots)
    (kk : ∀ (r : Int32) (H1 : Heap) (locs1 : List Loc), mS D cI h ad s σ H1 locs1 → k r = some res → W p l e R s m args below meth c H1 locs1 cells slots Q (F0 m (pc + 3) ls (.int r :: rest))) : W p l e R s m args below meth c H locs cells slots Q (F0 m pc ls st0) := by
  obtain ⟨r, hX, hk⟩ := Option.bind_eq_some_iff.mp hf
  refine va_calli (va_runS (As := As) (rest := rest) S (hM r hX) cw ⟨mPc_blind _ _ _ _ _ _, mPre K hs _⟩ rfl hn hl hst (lv_room hroom) hdg hfit) hs.2.2 (fun q _ h => h) (fun q h => h) (fun r1 u t H1 locs1 ht hvm hw hB hz1 hk1 hS => ?_)
  obtain ⟨hP1, hK1, hD1⟩ := hB
  rw [ht] at hP1
  subst hw
  exact kk _ H1 locs1 ⟨hP1, hD1, hS⟩ hk
theorem mld0 (S : CallFix p m c cc nL s args WA own) (K : va_K D vwCl [(cI, .int)] s) (hs : mS D cI h ad s σ H locs) {i : Int32} {k : Int32 → Option γ} (hf : (z_ag (σ 0) 456 i).bind k = some res) (hdg : decode cc pc = .ok (.iaload, 1)) (kk : ∀ x : Int32, k x = some res → W p l e R s m args below meth c H locs cells slots Q (F0 m (pc + 1) ls (.int x :: rest))) : W p l e R s m args below meth c H locs cells slots Q (F0 m pc ls (.int i :: .ref (ad 0) :: rest)) := z_ald S K hs.1 1 0 rfl rfl hf hdg kk
theorem mst0 (S : CallFix p m c cc nL s args WA own) (K : va_K D vwCl [(cI, .int)] s) (hs : mS D cI h ad s σ H locs) {i x : Int32} {k : zSt → Option γ} (hf : (z_sg σ 0 456 i x).bind k = some res) (hdg : decode cc pc = .ok (.iastore, 1)) (kk : ∀ (σ' : zSt) (H1 : Heap) (locs1 : List Loc), mS D cI h ad s σ' H1 locs1 → k σ' = some res → W p l e R s m args below meth c H1 locs1 cells slots Q (F0 m (pc + 1) ls rest)) : W p l e R s m args below meth c H locs cells slots Q (F0 m pc ls (.int x :: .int i :: .ref (ad 0) :: rest)) :=
  z_ast S K hs.1 hs.2.1 hs.2.2 1 0 rfl rfl hf hdg (fun σ' H1 locs1 e h1 h2 h3 h4 => kk σ' H1 locs1 (by subst e; exact ⟨h1, h2, h3⟩) h4)
theorem mld1 (S : CallFix p m c cc nL s args WA own) (K : va_K D vwCl [(cI, .int)] s) (hs : mS D cI h ad s σ H locs) {i : Int32} {k : Int32 → Option γ} (hf : (z_ag (σ 1) 456 i).bind k = some res) (hdg : decode cc pc = .ok (.iaload, 1)) (kk : ∀ x : Int32, k x = some res → W p l e R s m args below meth c H locs cells slots Q (F0 m (pc + 1) ls (.int x :: rest))) : W p l e R s m args below meth c H locs cells slots Q (F0 m pc ls (.int i :: .ref (ad 1) :: rest)) := z_ald S K hs.1 2 0 rfl rfl hf hdg kk
theorem mst1 (S : CallFix p m c cc nL s args WA own) (K : va_K D vwCl [(cI, .int)] s) (hs : mS D cI h ad s σ H locs) {i x : Int32} {k : zSt → Option γ} (hf : (z_sg σ 1 456 i x).bind k = some res) (hdg : decode cc pc = .ok (.iastore, 1)) (kk : ∀ (σ' : zSt) (H1 : Heap) (locs1 : List Loc), mS D cI h ad s σ' H1 locs1 → k σ' = some res → W p l e R s m args below meth c H1 locs1 cells slots Q (F0 m (pc + 1) ls rest)) : W p l e R s m args below meth c H locs cells slots Q (F0 m pc ls (.int x :: .int i :: .ref (ad 1) :: rest)) :=
  z_ast S K hs.1 hs.2.1 hs.2.2 2 0 rfl rfl hf hdg (fun σ' H1 locs1 e h1 h2 h3 h4 => kk σ' H1 locs1 (by subst e; exact ⟨h1, h2, h3⟩) h4)
theorem mld2 (S : CallFix p m c cc nL s args WA own) (K : va_K D vwCl [(cI, .int)] s) (hs : mS D cI h ad s σ H locs) {i : Int32} {k : Int32 → Option γ} (hf : (z_ag (σ 2) 1824 i).bind k = some res) (hdg : decode cc pc = .ok (.iaload, 1)) (kk : ∀ x : Int32, k x = some res → W p l e R s m args below meth c H locs cells slots Q (F0 m (pc + 1) ls (.int x :: rest))) : W p l e R s m args below meth c H locs cells slots Q (F0 m pc ls (.int i :: .ref (ad 2) :: rest)) := z_ald S K hs.1 3 0 rfl rfl hf hdg kk
theorem mst2 (S : CallFix p m c cc nL s args WA own) (K : va_K D vwCl [(cI, .int)] s) (hs : mS D cI h ad s σ H locs) {i x : Int32} {k : zSt → Option γ} (hf : (z_sg σ 2 1824 i x).bind k = some res) (hdg : decode cc pc = .ok (.iastore, 1)) (kk : ∀ (σ' : zSt) (H1 : Heap) (locs1 : List Loc), mS D cI h ad s σ' H1 locs1 → k σ' = some res → W p l e R s m args below meth c H1 locs1 cells slots Q (F0 m (pc + 1) ls rest)) : W p l e R s m args below meth c H locs cells slots Q (F0 m pc ls (.int x :: .int i :: .ref (ad 2) :: rest)) :=
  z_ast S K hs.1 hs.2.1 hs.2.2 3 0 rfl rfl hf hdg (fun σ' H1 locs1 e h1 h2 h3 h4 => kk σ' H1 locs1 (by subst e; exact ⟨h1, h2, h3⟩) h4)
theorem mld3 (S : CallFix p m c cc nL s args WA own) (K : va_K D vwCl [(cI, .int)] s) (hs : mS D cI h ad s σ H locs) {i : Int32} {k : Int32 → Option γ} (hf : (z_ag (σ 3) 100 i).bind k = some res) (hdg : decode cc pc = .ok (.iaload, 1)) (kk : ∀ x : Int32, k x = some res → W p l e R s m args below meth c H locs cells slots Q (F0 m (pc + 1) ls (.int x :: rest))) : W p l e R s m args below meth c H locs cells slots Q (F0 m pc ls (.int i :: .ref (ad 3) :: rest)) := z_ald S K hs.1 4 0 rfl rfl hf hdg kk
theorem mst3 (S : CallFix p m c cc nL s args WA own) (K : va_K D vwCl [(cI, .int)] s) (hs : mS D cI h ad s σ H locs) {i x : Int32} {k : zSt → Option γ} (hf : (z_sg σ 3 100 i x).bind k = some res) (hdg : decode cc pc = .ok (.iastore, 1)) (kk : ∀ (σ' : zSt) (H1 : Heap) (locs1 : List Loc), mS D cI h ad s σ' H1 locs1 → k σ' = some res → W p l e R s m args below meth c H1 locs1 cells slots Q (F0 m (pc + 1) ls rest)) : W p l e R s m args below meth c H locs cells slots Q (F0 m pc ls (.int x :: .int i :: .ref (ad 3) :: rest)) :=
  z_ast S K hs.1 hs.2.1 hs.2.2 4 0 rfl rfl hf hdg (fun σ' H1 locs1 e h1 h2 h3 h4 => kk σ' H1 locs1 (by subst e; exact ⟨h1, h2, h3⟩) h4)
theorem mld4 (S : CallFix p m c cc nL s args WA own) (K : va_K D vwCl [(cI, .int)] s) (hs : mS D cI h ad s σ H locs) {i : Int32} {k : Int32 → Option γ} (hf : (z_ag (σ 4) 4 i).bind k = some res) (hdg : decode cc pc = .ok (.iaload, 1)) (kk : ∀ x : Int32, k x = some res → W p l e R s m args below meth c H locs cells slots Q (F0 m (pc + 1) ls (.int x :: rest))) : W p l e R s m args below meth c H locs cells slots Q (F0 m pc ls (.int i :: .ref (ad 4) :: rest)) := z_ald S K hs.1 5 0 rfl rfl hf hdg kk
theorem mst4 (S : CallFix p m c cc nL s args WA own) (K : va_K D vwCl [(cI, .int)] s) (hs : mS D cI h ad s σ H locs) {i x : Int32} {k : zSt → Option γ} (hf : (z_sg σ 4 4 i x).bind k = some res) (hdg : decode cc pc = .ok (.iastore, 1)) (kk : ∀ (σ' : zSt) (H1 : Heap) (locs1 : List Loc), mS D cI h ad s σ' H1 locs1 → k σ' = some res → W p l e R s m args below meth c H1 locs1 cells slots Q (F0 m (pc + 1) ls rest)) : W p l e R s m args below meth c H locs cells slots Q (F0 m pc ls (.int x :: .int i :: .ref (ad 4) :: rest)) :=
  z_ast S K hs.1 hs.2.1 hs.2.2 5 0 rfl rfl hf hdg (fun σ' H1 locs1 e h1 h2 h3 h4 => kk σ' H1 locs1 (by subst e; exact ⟨h1, h2, h3⟩) h4)
theorem mu7 : Cond.fieldLink RX9 7 "CacheDiaryModel" "v" "[I" ∈ WA := z_in0 _ (List.mem_of_getElem? (i := 129) (by decide +kernel))
theorem mg7 (S : CallFix p m c cc nL s args WA RX9) (K : va_K D vwCl [(cI, .int)] s) (hs : mS D cI h ad s σ H locs) (hdg : decode cc pc = .ok (.getfield 7, 3)) (kk : W p l e R s m args below meth c H locs cells slots Q (F0 m (pc + 3) ls (.ref (ad 0) :: rest))) : W p l e R s m args below meth c H locs cells slots Q (F0 m pc ls (.ref h :: rest)) :=
  va_get (D := D) (ci := 8) (v := .ref (ad 0)) (C := RX9) (T := TX9) (N := 9) S.1 S.2.1 S.2.2.2.2 inlX9 S.2.2.2.1 K hs.1 0 rfl rfl 0 (by decide) (S.2.2.2.2 _ mu7) (fun _ h9 => h9) rfl hdg kk
theorem mu13 : Cond.fieldLink RX9 13 "CacheDiaryModel" "spare" "[I" ∈ WA := z_in0 _ (List.mem_of_getElem? (i := 130) (by decide +kernel))
theorem mg13 (S : CallFix p m c cc nL s args WA RX9) (K : va_K D vwCl [(cI, .int)] s) (hs : mS D cI h ad s σ H locs) (hdg : decode cc pc = .ok (.getfield 13, 3)) (kk : W p l e R s m args below meth c H locs cells slots Q (F0 m (pc + 3) ls (.ref (ad 1) :: rest))) : W p l e R s m args below meth c H locs cells slots Q (F0 m pc ls (.ref h :: rest)) :=
  va_get (D := D) (ci := 8) (v := .ref (ad 1)) (C := RX9) (T := TX9) (N := 9) S.1 S.2.1 S.2.2.2.2 inlX9 S.2.2.2.1 K hs.1 0 rfl rfl 1 (by decide) (S.2.2.2.2 _ mu13) (fun _ h9 => h9) rfl hdg kk
theorem mu16 : Cond.fieldLink RX9 16 "CacheDiaryModel" "saved" "[I" ∈ WA := z_in0 _ (List.mem_of_getElem? (i := 131) (by decide +kernel))
theorem mg16 (S : CallFix p m c cc nL s args WA RX9) (K : va_K D vwCl [(cI, .int)] s) (hs : mS D cI h ad s σ H locs) (hdg : decode cc pc = .ok (.getfield 16, 3)) (kk : W p l e R s m args below meth c H locs cells slots Q (F0 m (pc + 3) ls (.ref (ad 2) :: rest))) : W p l e R s m args below meth c H locs cells slots Q (F0 m pc ls (.ref h :: rest)) :=
  va_get (D := D) (ci := 8) (v := .ref (ad 2)) (C := RX9) (T := TX9) (N := 9) S.1 S.2.1 S.2.2.2.2 inlX9 S.2.2.2.1 K hs.1 0 rfl rfl 2 (by decide) (S.2.2.2.2 _ mu16) (fun _ h9 => h9) rfl hdg kk
theorem mu33 : Cond.fieldLink RX9 33 "CacheDiaryModel" "saves" "I" ∈ WA := z_in0 _ (List.mem_of_getElem? (i := 207) (by decide +kernel))
theorem mg33 (S : CallFix p m c cc nL s args WA RX9) (K : va_K D vwCl [(cI, .int)] s) (hs : mS D cI h ad s σ H locs) (hdg : decode cc pc = .ok (.getfield 33, 3)) (kk : W p l e R s m args below meth c H locs cells slots Q (F0 m (pc + 3) ls (.int (σ 5 0) :: rest))) : W p l e R s m args below meth c H locs cells slots Q (F0 m pc ls (.ref h :: rest)) :=
  va_get (D := D) (ci := 8) (v := .int (σ 5 0)) (C := RX9) (T := TX9) (N := 9) S.1 S.2.1 S.2.2.2.2 inlX9 S.2.2.2.1 K hs.1 0 rfl rfl 3 (by decide) (S.2.2.2.2 _ mu33) (fun _ h9 => h9) rfl hdg kk
theorem mp33 (S : CallFix p m c cc nL s args WA RX9) (K : va_K D vwCl [(cI, .int)] s) (hs : mS D cI h ad s σ H locs) {x : Int32} {k : zSt → Option γ} (hf : (z_sf σ 5 x).bind k = some res) (hdg : decode cc pc = .ok (.putfield 33, 3)) (kk : ∀ (σ' : zSt) (H1 : Heap) (locs1 : List Loc), mS D cI h ad s σ' H1 locs1 → k σ' = some res → W p l e R s m args below meth c H1 locs1 cells slots Q (F0 m (pc + 3) ls rest)) : W p l e R s m args below meth c H locs cells slots Q (F0 m pc ls (.int x :: .ref h :: rest)) :=
  va_put (D := D) (ci := 8) (v := .int x) (ty := .int) (C := RX9) (T := TX9) (N := 9) S.1 S.2.1 S.2.2.2.2 inlX9 tyX9 tyX9_ok nmX9 S.2.2.2.1 K hs.1 hs.2.1 hs.2.2 0 rfl rfl 3 (by decide) (S.2.2.2.2 _ mu33) (fun _ h9 => h9) rfl (by decide +kernel) rfl rfl (Nat.le_of_ble_eq_true rfl) hdg (fun H1 locs1 h1 h2 h3 => kk (z_up σ 5 (fun _ => x)) H1 locs1 ⟨h1, h2, h3⟩ hf)
theorem mu19 : Cond.fieldLink RX9 19 "CacheDiaryModel" "text" "[I" ∈ WA := z_in0 _ (List.mem_of_getElem? (i := 132) (by decide +kernel))
theorem mg19 (S : CallFix p m c cc nL s args WA RX9) (K : va_K D vwCl [(cI, .int)] s) (hs : mS D cI h ad s σ H locs) (hdg : decode cc pc = .ok (.getfield 19, 3)) (kk : W p l e R s m args below meth c H locs cells slots Q (F0 m (pc + 3) ls (.ref (ad 3) :: rest))) : W p l e R s m args below meth c H locs cells slots Q (F0 m pc ls (.ref h :: rest)) :=
  va_get (D := D) (ci := 8) (v := .ref (ad 3)) (C := RX9) (T := TX9) (N := 9) S.1 S.2.1 S.2.2.2.2 inlX9 S.2.2.2.1 K hs.1 0 rfl rfl 4 (by decide) (S.2.2.2.2 _ mu19) (fun _ h9 => h9) rfl hdg kk
theorem mu145 : Cond.fieldLink RX9 145 "CacheDiaryModel" "length" "I" ∈ WA := z_in0 _ (List.mem_of_getElem? (i := 740) (by decide +kernel))
theorem mg145 (S : CallFix p m c cc nL s args WA RX9) (K : va_K D vwCl [(cI, .int)] s) (hs : mS D cI h ad s σ H locs) (hdg : decode cc pc = .ok (.getfield 145, 3)) (kk : W p l e R s m args below meth c H locs cells slots Q (F0 m (pc + 3) ls (.int (σ 6 0) :: rest))) : W p l e R s m args below meth c H locs cells slots Q (F0 m pc ls (.ref h :: rest)) :=
  va_get (D := D) (ci := 8) (v := .int (σ 6 0)) (C := RX9) (T := TX9) (N := 9) S.1 S.2.1 S.2.2.2.2 inlX9 S.2.2.2.1 K hs.1 0 rfl rfl 5 (by decide) (S.2.2.2.2 _ mu145) (fun _ h9 => h9) rfl hdg kk
theorem mp145 (S : CallFix p m c cc nL s args WA RX9) (K : va_K D vwCl [(cI, .int)] s) (hs : mS D cI h ad s σ H locs) {x : Int32} {k : zSt → Option γ} (hf : (z_sf σ 6 x).bind k = some res) (hdg : decode cc pc = .ok (.putfield 145, 3)) (kk : ∀ (σ' : zSt) (H1 : Heap) (locs1 : List Loc), mS D cI h ad s σ' H1 locs1 → k σ' = some res → W p l e R s m args below meth c H1 locs1 cells slots Q (F0 m (pc + 3) ls rest)) : W p l e R s m args below meth c H locs cells slots Q (F0 m pc ls (.int x :: .ref h :: rest)) :=
  va_put (D := D) (ci := 8) (v := .int x) (ty := .int) (C := RX9) (T := TX9) (N := 9) S.1 S.2.1 S.2.2.2.2 inlX9 tyX9 tyX9_ok nmX9 S.2.2.2.1 K hs.1 hs.2.1 hs.2.2 0 rfl rfl 5 (by decide) (S.2.2.2.2 _ mu145) (fun _ h9 => h9) rfl (by decide +kernel) rfl rfl (Nat.le_of_ble_eq_true rfl) hdg (fun H1 locs1 h1 h2 h3 => kk (z_up σ 6 (fun _ => x)) H1 locs1 ⟨h1, h2, h3⟩ hf)
theorem mu29 : Cond.fieldLink RX9 29 "CacheDiaryModel" "thrown" "I" ∈ WA := z_in0 _ (List.mem_of_getElem? (i := 195) (by decide +kernel))
theorem mg29 (S : CallFix p m c cc nL s args WA RX9) (K : va_K D vwCl [(cI, .int)] s) (hs : mS D cI h ad s σ H locs) (hdg : decode cc pc = .ok (.getfield 29, 3)) (kk : W p l e R s m args below meth c H locs cells slots Q (F0 m (pc + 3) ls (.int (σ 7 0) :: rest))) : W p l e R s m args below meth c H locs cells slots Q (F0 m pc ls (.ref h :: rest)) :=
  va_get (D := D) (ci := 8) (v := .int (σ 7 0)) (C := RX9) (T := TX9) (N := 9) S.1 S.2.1 S.2.2.2.2 inlX9 S.2.2.2.1 K hs.1 0 rfl rfl 6 (by decide) (S.2.2.2.2 _ mu29) (fun _ h9 => h9) rfl hdg kk
theorem mp29 (S : CallFix p m c cc nL s args WA RX9) (K : va_K D vwCl [(cI, .int)] s) (hs : mS D cI h ad s σ H locs) {x : Int32} {k : zSt → Option γ} (hf : (z_sf σ 7 x).bind k = some res) (hdg : decode cc pc = .ok (.putfield 29, 3)) (kk : ∀ (σ' : zSt) (H1 : Heap) (locs1 : List Loc), mS D cI h ad s σ' H1 locs1 → k σ' = some res → W p l e R s m args below meth c H1 locs1 cells slots Q (F0 m (pc + 3) ls rest)) : W p l e R s m args below meth c H locs cells slots Q (F0 m pc ls (.int x :: .ref h :: rest)) :=
  va_put (D := D) (ci := 8) (v := .int x) (ty := .int) (C := RX9) (T := TX9) (N := 9) S.1 S.2.1 S.2.2.2.2 inlX9 tyX9 tyX9_ok nmX9 S.2.2.2.1 K hs.1 hs.2.1 hs.2.2 0 rfl rfl 6 (by decide) (S.2.2.2.2 _ mu29) (fun _ h9 => h9) rfl (by decide +kernel) rfl rfl (Nat.le_of_ble_eq_true rfl) hdg (fun H1 locs1 h1 h2 h3 => kk (z_up σ 7 (fun _ => x)) H1 locs1 ⟨h1, h2, h3⟩ hf)
theorem mu148 : Cond.fieldLink RX9 148 "CacheDiaryModel" "place" "I" ∈ WA := z_in0 _ (List.mem_of_getElem? (i := 820) (by decide +kernel))
theorem mg148 (S : CallFix p m c cc nL s args WA RX9) (K : va_K D vwCl [(cI, .int)] s) (hs : mS D cI h ad s σ H locs) (hdg : decode cc pc = .ok (.getfield 148, 3)) (kk : W p l e R s m args below meth c H locs cells slots Q (F0 m (pc + 3) ls (.int (σ 8 0) :: rest))) : W p l e R s m args below meth c H locs cells slots Q (F0 m pc ls (.ref h :: rest)) :=
  va_get (D := D) (ci := 8) (v := .int (σ 8 0)) (C := RX9) (T := TX9) (N := 9) S.1 S.2.1 S.2.2.2.2 inlX9 S.2.2.2.1 K hs.1 0 rfl rfl 7 (by decide) (S.2.2.2.2 _ mu148) (fun _ h9 => h9) rfl hdg kk
theorem mp148 (S : CallFix p m c cc nL s args WA RX9) (K : va_K D vwCl [(cI, .int)] s) (hs : mS D cI h ad s σ H locs) {x : Int32} {k : zSt → Option γ} (hf : (z_sf σ 8 x).bind k = some res) (hdg : decode cc pc = .ok (.putfield 148, 3)) (kk : ∀ (σ' : zSt) (H1 : Heap) (locs1 : List Loc), mS D cI h ad s σ' H1 locs1 → k σ' = some res → W p l e R s m args below meth c H1 locs1 cells slots Q (F0 m (pc + 3) ls rest)) : W p l e R s m args below meth c H locs cells slots Q (F0 m pc ls (.int x :: .ref h :: rest)) :=
  va_put (D := D) (ci := 8) (v := .int x) (ty := .int) (C := RX9) (T := TX9) (N := 9) S.1 S.2.1 S.2.2.2.2 inlX9 tyX9 tyX9_ok nmX9 S.2.2.2.1 K hs.1 hs.2.1 hs.2.2 0 rfl rfl 7 (by decide) (S.2.2.2.2 _ mu148) (fun _ h9 => h9) rfl (by decide +kernel) rfl rfl (Nat.le_of_ble_eq_true rfl) hdg (fun H1 locs1 h1 h2 h3 => kk (z_up σ 8 (fun _ => x)) H1 locs1 ⟨h1, h2, h3⟩ hf)
theorem mu22 : Cond.fieldLink RX9 22 "CacheDiaryModel" "order" "[I" ∈ WA := z_in0 _ (List.mem_of_getElem? (i := 133) (by decide +kernel))
theorem mg22 (S : CallFix p m c cc nL s args WA RX9) (K : va_K D vwCl [(cI, .int)] s) (hs : mS D cI h ad s σ H locs) (hdg : decode cc pc = .ok (.getfield 22, 3)) (kk : W p l e R s m args below meth c H locs cells slots Q (F0 m (pc + 3) ls (.ref (ad 4) :: rest))) : W p l e R s m args below meth c H locs cells slots Q (F0 m pc ls (.ref h :: rest)) :=
  va_get (D := D) (ci := 8) (v := .ref (ad 4)) (C := RX9) (T := TX9) (N := 9) S.1 S.2.1 S.2.2.2.2 inlX9 S.2.2.2.1 K hs.1 0 rfl rfl 8 (by decide) (S.2.2.2.2 _ mu22) (fun _ h9 => h9) rfl hdg kk
end MR
theorem mMet {l : Launch} {y : MethodName} {bytes : ByteArray} {maxL : Nat} {ret : Option FieldType} {rm : Room} {D : va_G} {cI : ClassId} {h : Nat} {ad : Nat → Nat} {σ : zSt} {av : List Value} {Qc : Array Value → State → Outcome → State → Prop} (hy : plainName y.cls = true) (hav : (lg_sl av).length ≤ maxL)
    (body : ∀ (p : Program) (e : Env) (s : State) (m : MethodId) (args : Array Value) (below : List Frame) (meth : Method) (c : Code) (H : Heap) (locs : List Loc) (ls : Array Slot), CallFix p m c bytes maxL s args WA y.cls → va_K D vwCl [(cI, .int)] s → meth.sig.returnType = ret → meth.locks = false → lv_has ls maxL (lv_args 0 av) → mS D cI h ad s σ H locs →
      W p l e rm s m args below meth c H locs 0 0 (MQ below Qc args s 0 0 (mA h ad)) (F0 m 0 ls [])) : Met l y (Cond.code y bytes maxL ret :: WA) rm (mPc D cI h ad σ av) Qc 0 0 (mA h ad) := by
  refine Met.ofW (cc := bytes) (maxL := maxL) (ret := ret) hy rfl ?_
  intro p e s m args below meth c s₁ B hml hv
  obtain ⟨rfl, hP, hK, hD⟩ := hv
  have hts := atoms_spec (ws := Cond.code y bytes maxL ret :: WA) B.pre
  have hl := lv_entry av (n := maxL) hav
  rw [lg_entry_eq]
  generalize (lg_sl av ++ List.replicate (maxL - (lg_sl av).length) Slot.unset).toArray = ls at hl ⊢
  exact body p e s m _ below meth c s.heap [] ls ⟨B.exec, B.bytes, hml, findClass_of_methodNamed B.named, fun w h => hts w (List.mem_cons_of_mem _ h)⟩ hK B.returns B.notSynchronized hl ⟨hP, hD, va_S.rf⟩
/-- at a place of the code, in a state, with these locals and this stack, the way to the end stands -/
abbrev mGo (p : Program) (l : Launch) (e : Env) (R : Room) (s : State) (m : MethodId) (args : Array Value) (below : List Frame) (meth : Method) (c : Code) (Q : State → Prop) (D : va_G) (cI : ClassId) (h : Nat) (ad : Nat → Nat) (nL : Nat) (σ : zSt) (lv : List (Nat × Value)) (pc : Nat) (st : List Value) : Prop :=
  ∀ (H : Heap) (locs : List Loc) (ls : Array Slot), lv_has ls nL lv → mS D cI h ad s σ H locs → W p l e R s m args below meth c H locs 0 0 Q (F0 m pc ls st)
end
section
/-! the reference: rooms, constants, call words (by wip/tools/walk.py) -/
theorem k_bipush_m10 : (Int8.ofInt (-10)).toInt32 = (-10) := by decide
theorem k_bipush_6 : (Int8.ofInt 6).toInt32 = nI 6 := by decide
theorem k_bipush_7 : (Int8.ofInt 7).toInt32 = nI 7 := by decide
theorem k_bipush_8 : (Int8.ofInt 8).toInt32 = nI 8 := by decide
theorem k_bipush_9 : (Int8.ofInt 9).toInt32 = nI 9 := by decide
theorem k_bipush_10 : (Int8.ofInt 10).toInt32 = nI 10 := by decide
theorem k_bipush_11 : (Int8.ofInt 11).toInt32 = nI 11 := by decide
theorem k_bipush_12 : (Int8.ofInt 12).toInt32 = nI 12 := by decide
theorem k_bipush_13 : (Int8.ofInt 13).toInt32 = nI 13 := by decide
theorem k_bipush_14 : (Int8.ofInt 14).toInt32 = nI 14 := by decide
theorem k_bipush_16 : (Int8.ofInt 16).toInt32 = nI 16 := by decide
theorem k_bipush_31 : (Int8.ofInt 31).toInt32 = nI 31 := by decide
theorem k_bipush_32 : (Int8.ofInt 32).toInt32 = nI 32 := by decide
theorem k_bipush_46 : (Int8.ofInt 46).toInt32 = nI 46 := by decide
theorem k_bipush_48 : (Int8.ofInt 48).toInt32 = nI 48 := by decide
theorem k_bipush_50 : (Int8.ofInt 50).toInt32 = nI 50 := by decide
theorem k_bipush_53 : (Int8.ofInt 53).toInt32 = nI 53 := by decide
theorem k_bipush_57 : (Int8.ofInt 57).toInt32 = nI 57 := by decide
theorem k_bipush_58 : (Int8.ofInt 58).toInt32 = nI 58 := by decide
theorem k_bipush_59 : (Int8.ofInt 59).toInt32 = nI 59 := by decide
theorem k_bipush_61 : (Int8.ofInt 61).toInt32 = nI 61 := by decide
theorem k_bipush_71 : (Int8.ofInt 71).toInt32 = nI 71 := by decide
theorem k_bipush_78 : (Int8.ofInt 78).toInt32 = nI 78 := by decide
theorem k_bipush_100 : (Int8.ofInt 100).toInt32 = nI 100 := by decide
theorem k_bipush_110 : (Int8.ofInt 110).toInt32 = nI 110 := by decide
theorem k_bipush_114 : (Int8.ofInt 114).toInt32 = nI 114 := by decide
theorem k_bipush_116 : (Int8.ofInt 116).toInt32 = nI 116 := by decide
theorem k_bipush_119 : (Int8.ofInt 119).toInt32 = nI 119 := by decide
theorem k_bipush_127 : (Int8.ofInt 127).toInt32 = nI 127 := by decide
theorem k_iconst_m1 : Int32.ofInt (-1) = (-1) := by decide
theorem k_iconst_0 : Int32.ofInt 0 = nI 0 := by decide
theorem k_iconst_1 : Int32.ofInt 1 = nI 1 := by decide
theorem k_iconst_2 : Int32.ofInt 2 = nI 2 := by decide
theorem k_iconst_3 : Int32.ofInt 3 = nI 3 := by decide
theorem k_iconst_4 : Int32.ofInt 4 = nI 4 := by decide
theorem k_iconst_5 : Int32.ofInt 5 = nI 5 := by decide
theorem k_sipush_302 : (Int16.ofInt 302).toInt32 = nI 302 := by decide
theorem k_sipush_366 : (Int16.ofInt 366).toInt32 = nI 366 := by decide
theorem k_sipush_384 : (Int16.ofInt 384).toInt32 = nI 384 := by decide
theorem k_sipush_385 : (Int16.ofInt 385).toInt32 = nI 385 := by decide
theorem k_sipush_386 : (Int16.ofInt 386).toInt32 = nI 386 := by decide
theorem k_sipush_387 : (Int16.ofInt 387).toInt32 = nI 387 := by decide
theorem k_sipush_388 : (Int16.ofInt 388).toInt32 = nI 388 := by decide
theorem k_sipush_389 : (Int16.ofInt 389).toInt32 = nI 389 := by decide
theorem k_sipush_456 : (Int16.ofInt 456).toInt32 = nI 456 := by decide
theorem k_sipush_999 : (Int16.ofInt 999).toInt32 = nI 999 := by decide
theorem k_sipush_1368 : (Int16.ofInt 1368).toInt32 = nI 1368 := by decide
def rmX9_slotAt : Room := { frames := 0, cells := 0, slots := 0, locals := 0 }
def rmX9_copyOf : Room := { frames := 1, cells := 0, slots := 0, locals := 21 }
def rmX9_aboutCopy : Room := { frames := 2, cells := 0, slots := 0, locals := 44 }
def rmX9_pageOf : Room := { frames := 0, cells := 0, slots := 0, locals := 0 }
def rmX9_ownerOf : Room := { frames := 2, cells := 0, slots := 0, locals := 44 }
def rmX9_sharersOf : Room := { frames := 2, cells := 0, slots := 0, locals := 44 }
def rmX9_aboutLine : Room := { frames := 3, cells := 0, slots := 0, locals := 68 }
def rmX9_isAsking : Room := { frames := 0, cells := 0, slots := 0, locals := 0 }
def rmX9_aboutPending : Room := { frames := 1, cells := 0, slots := 0, locals := 21 }
def rmX9_anew : Room := { frames := 0, cells := 0, slots := 0, locals := 0 }
def rmX9_in : Room := { frames := 0, cells := 0, slots := 0, locals := 0 }
def rmX9_fails : Room := { frames := 0, cells := 0, slots := 0, locals := 0 }
def rmX9_append : Room := { frames := 1, cells := 0, slots := 0, locals := 22 }
def rmX9_isHit : Room := { frames := 2, cells := 0, slots := 0, locals := 44 }
def rmX9_asks : Room := { frames := 3, cells := 0, slots := 0, locals := 68 }
def rmX9_save : Room := { frames := 0, cells := 0, slots := 0, locals := 0 }
def rmX9_begin : Room := { frames := 1, cells := 0, slots := 0, locals := 24 }
def rmX9_bringBack : Room := { frames := 0, cells := 0, slots := 0, locals := 0 }
def rmX9_sign : Room := { frames := 0, cells := 0, slots := 0, locals := 0 }
def rmX9_isDigit : Room := { frames := 1, cells := 0, slots := 0, locals := 22 }
def rmX9_numberInto : Room := { frames := 2, cells := 0, slots := 0, locals := 43 }
def rmX9_readOrder : Room := { frames := 3, cells := 0, slots := 0, locals := 69 }
def rmX9_oldestPage : Room := { frames := 0, cells := 0, slots := 0, locals := 0 }
def rmX9_tearOut : Room := { frames := 0, cells := 0, slots := 0, locals := 0 }
def rmX9_opensPage : Room := { frames := 3, cells := 0, slots := 0, locals := 68 }
def rmX9_toMemory : Room := { frames := 0, cells := 0, slots := 0, locals := 0 }
def rmX9_reachesOthers : Room := { frames := 2, cells := 0, slots := 0, locals := 44 }
def rmX9_oldestCopy : Room := { frames := 1, cells := 0, slots := 0, locals := 21 }
def rmX9_throwAway : Room := { frames := 1, cells := 0, slots := 0, locals := 22 }
def rmX9_misses : Room := { frames := 4, cells := 0, slots := 0, locals := 91 }
def rmX9_serves : Room := { frames := 5, cells := 0, slots := 0, locals := 118 }
def rmX9_tick : Room := { frames := 6, cells := 0, slots := 0, locals := 145 }
def rmX9_ticks : Room := { frames := 7, cells := 0, slots := 0, locals := 172 }
def rmX9_isCache : Room := { frames := 1, cells := 0, slots := 0, locals := 22 }
def rmX9_doOrder : Room := { frames := 8, cells := 0, slots := 0, locals := 195 }
def rmX9_carryOut : Room := { frames := 9, cells := 0, slots := 0, locals := 216 }
def rmX9_isLine : Room := { frames := 1, cells := 0, slots := 0, locals := 22 }
def rmX9_keep : Room := { frames := 0, cells := 0, slots := 0, locals := 0 }
def rmX9_costOf : Room := { frames := 6, cells := 0, slots := 0, locals := 145 }
def rmX9_cheapest : Room := { frames := 7, cells := 0, slots := 0, locals := 169 }
def rmX9_clearText : Room := { frames := 0, cells := 0, slots := 0, locals := 0 }
def rmX9_copy : Room := { frames := 3, cells := 0, slots := 0, locals := 70 }
def rmX9_cost : Room := { frames := 7, cells := 0, slots := 0, locals := 169 }
def rmX9_waiting : Room := { frames := 1, cells := 0, slots := 0, locals := 21 }
def rmX9_number : Room := { frames := 2, cells := 0, slots := 0, locals := 43 }
def rmX9_nextTorn : Room := { frames := 1, cells := 0, slots := 0, locals := 22 }
def rmX9_digest : Room := { frames := 4, cells := 0, slots := 0, locals := 91 }
def rmX9_drop : Room := { frames := 2, cells := 0, slots := 0, locals := 46 }
def rmX9_entry : Room := { frames := 1, cells := 0, slots := 0, locals := 22 }
def rmX9_line : Room := { frames := 4, cells := 0, slots := 0, locals := 91 }
def rmX9_nextDropped : Room := { frames := 2, cells := 0, slots := 0, locals := 44 }
def rmX9_ones : Room := { frames := 0, cells := 0, slots := 0, locals := 0 }
def rmX9_pass : Room := { frames := 8, cells := 0, slots := 0, locals := 195 }
def rmX9_pending : Room := { frames := 2, cells := 0, slots := 0, locals := 43 }
def rmX9_read : Room := { frames := 4, cells := 0, slots := 0, locals := 91 }
def rmX9_takeBack : Room := { frames := 2, cells := 0, slots := 0, locals := 43 }
def rmX9_tear : Room := { frames := 2, cells := 0, slots := 0, locals := 42 }
def rmX9_thrown : Room := { frames := 0, cells := 0, slots := 0, locals := 0 }
def rmX9_ticksToServe : Room := { frames := 7, cells := 0, slots := 0, locals := 172 }
def rmX9_undo : Room := { frames := 1, cells := 0, slots := 0, locals := 21 }
def rmX9_value : Room := { frames := 3, cells := 0, slots := 0, locals := 64 }
def rmX9_write : Room := { frames := 4, cells := 0, slots := 0, locals := 91 }
theorem u_5 : Cond.initialized RX9 ∈ WA := z_in0 _ (List.mem_of_getElem? (i := 5) (by decide +kernel))
theorem u_134 : Cond.methodLink RX9 25 yX9_anew ∈ WA := z_in0 _ (List.mem_of_getElem? (i := 134) (by decide +kernel))
theorem u_135 : Cond.instanceMethod yX9_anew ∈ WA := z_in0 _ (List.mem_of_getElem? (i := 135) (by decide +kernel))
theorem u_136 : Cond.selects RX9 yX9_anew yX9_anew ∈ WA := z_in0 _ (List.mem_of_getElem? (i := 136) (by decide +kernel))
theorem u_137 : Cond.code yX9_anew cX9_anew 5 none ∈ WA := z_in0 _ (List.mem_of_getElem? (i := 137) (by decide +kernel))
theorem u_196 : Cond.methodLink RX9 36 yX9_in ∈ WA := z_in0 _ (List.mem_of_getElem? (i := 196) (by decide +kernel))
theorem u_197 : Cond.static yX9_in ∈ WA := z_in0 _ (List.mem_of_getElem? (i := 197) (by decide +kernel))
theorem u_198 : Cond.code yX9_in cX9_in 3 (some .boolean) ∈ WA := z_in0 _ (List.mem_of_getElem? (i := 198) (by decide +kernel))
theorem u_199 : Cond.methodLink RX9 99 yX9_fails ∈ WA := z_in0 _ (List.mem_of_getElem? (i := 199) (by decide +kernel))
theorem u_200 : Cond.instanceMethod yX9_fails ∈ WA := z_in0 _ (List.mem_of_getElem? (i := 200) (by decide +kernel))
theorem u_201 : Cond.selects RX9 yX9_fails yX9_fails ∈ WA := z_in0 _ (List.mem_of_getElem? (i := 201) (by decide +kernel))
theorem u_202 : Cond.code yX9_fails cX9_fails 2 (some .int) ∈ WA := z_in0 _ (List.mem_of_getElem? (i := 202) (by decide +kernel))
theorem u_203 : Cond.methodLink RX9 102 yX9_save ∈ WA := z_in0 _ (List.mem_of_getElem? (i := 203) (by decide +kernel))
theorem u_204 : Cond.instanceMethod yX9_save ∈ WA := z_in0 _ (List.mem_of_getElem? (i := 204) (by decide +kernel))
theorem u_205 : Cond.selects RX9 yX9_save yX9_save ∈ WA := z_in0 _ (List.mem_of_getElem? (i := 205) (by decide +kernel))
theorem u_206 : Cond.code yX9_save cX9_save 2 none ∈ WA := z_in0 _ (List.mem_of_getElem? (i := 206) (by decide +kernel))
theorem u_253 : Cond.methodLink RX9 105 yX9_isCache ∈ WA := z_in0 _ (List.mem_of_getElem? (i := 253) (by decide +kernel))
theorem u_254 : Cond.instanceMethod yX9_isCache ∈ WA := z_in0 _ (List.mem_of_getElem? (i := 254) (by decide +kernel))
theorem u_255 : Cond.selects RX9 yX9_isCache yX9_isCache ∈ WA := z_in0 _ (List.mem_of_getElem? (i := 255) (by decide +kernel))
theorem u_256 : Cond.code yX9_isCache cX9_isCache 2 (some .boolean) ∈ WA := z_in0 _ (List.mem_of_getElem? (i := 256) (by decide +kernel))
theorem u_257 : Cond.methodLink RX9 108 yX9_isLine ∈ WA := z_in0 _ (List.mem_of_getElem? (i := 257) (by decide +kernel))
theorem u_258 : Cond.static yX9_isLine ∈ WA := z_in0 _ (List.mem_of_getElem? (i := 258) (by decide +kernel))
theorem u_259 : Cond.code yX9_isLine cX9_isLine 1 (some .boolean) ∈ WA := z_in0 _ (List.mem_of_getElem? (i := 259) (by decide +kernel))
theorem u_260 : Cond.methodLink RX9 95 yX9_isAsking ∈ WA := z_in0 _ (List.mem_of_getElem? (i := 260) (by decide +kernel))
theorem u_261 : Cond.instanceMethod yX9_isAsking ∈ WA := z_in0 _ (List.mem_of_getElem? (i := 261) (by decide +kernel))
theorem u_262 : Cond.selects RX9 yX9_isAsking yX9_isAsking ∈ WA := z_in0 _ (List.mem_of_getElem? (i := 262) (by decide +kernel))
theorem u_263 : Cond.code yX9_isAsking cX9_isAsking 2 (some .boolean) ∈ WA := z_in0 _ (List.mem_of_getElem? (i := 263) (by decide +kernel))
theorem u_264 : Cond.methodLink RX9 111 yX9_asks ∈ WA := z_in0 _ (List.mem_of_getElem? (i := 264) (by decide +kernel))
theorem u_265 : Cond.instanceMethod yX9_asks ∈ WA := z_in0 _ (List.mem_of_getElem? (i := 265) (by decide +kernel))
theorem u_266 : Cond.selects RX9 yX9_asks yX9_asks ∈ WA := z_in0 _ (List.mem_of_getElem? (i := 266) (by decide +kernel))
theorem u_267 : Cond.code yX9_asks cX9_asks 4 (some .int) ∈ WA := z_in0 _ (List.mem_of_getElem? (i := 267) (by decide +kernel))
theorem u_268 : Cond.methodLink RX9 81 yX9_isHit ∈ WA := z_in0 _ (List.mem_of_getElem? (i := 268) (by decide +kernel))
theorem u_269 : Cond.instanceMethod yX9_isHit ∈ WA := z_in0 _ (List.mem_of_getElem? (i := 269) (by decide +kernel))
theorem u_270 : Cond.selects RX9 yX9_isHit yX9_isHit ∈ WA := z_in0 _ (List.mem_of_getElem? (i := 270) (by decide +kernel))
theorem u_271 : Cond.code yX9_isHit cX9_isHit 5 (some .boolean) ∈ WA := z_in0 _ (List.mem_of_getElem? (i := 271) (by decide +kernel))
theorem u_272 : Cond.methodLink RX9 52 yX9_copyOf ∈ WA := z_in0 _ (List.mem_of_getElem? (i := 272) (by decide +kernel))
theorem u_273 : Cond.instanceMethod yX9_copyOf ∈ WA := z_in0 _ (List.mem_of_getElem? (i := 273) (by decide +kernel))
theorem u_274 : Cond.selects RX9 yX9_copyOf yX9_copyOf ∈ WA := z_in0 _ (List.mem_of_getElem? (i := 274) (by decide +kernel))
theorem u_275 : Cond.code yX9_copyOf cX9_copyOf 4 (some .int) ∈ WA := z_in0 _ (List.mem_of_getElem? (i := 275) (by decide +kernel))
theorem u_276 : Cond.methodLink RX9 40 yX9_slotAt ∈ WA := z_in0 _ (List.mem_of_getElem? (i := 276) (by decide +kernel))
theorem u_277 : Cond.static yX9_slotAt ∈ WA := z_in0 _ (List.mem_of_getElem? (i := 277) (by decide +kernel))
theorem u_278 : Cond.code yX9_slotAt cX9_slotAt 2 (some .int) ∈ WA := z_in0 _ (List.mem_of_getElem? (i := 278) (by decide +kernel))
theorem u_458 : Cond.methodLink RX9 115 yX9_ticks ∈ WA := z_in0 _ (List.mem_of_getElem? (i := 458) (by decide +kernel))
theorem u_459 : Cond.instanceMethod yX9_ticks ∈ WA := z_in0 _ (List.mem_of_getElem? (i := 459) (by decide +kernel))
theorem u_460 : Cond.selects RX9 yX9_ticks yX9_ticks ∈ WA := z_in0 _ (List.mem_of_getElem? (i := 460) (by decide +kernel))
theorem u_461 : Cond.code yX9_ticks cX9_ticks 4 (some .int) ∈ WA := z_in0 _ (List.mem_of_getElem? (i := 461) (by decide +kernel))
theorem u_462 : Cond.methodLink RX9 92 yX9_tick ∈ WA := z_in0 _ (List.mem_of_getElem? (i := 462) (by decide +kernel))
theorem u_463 : Cond.instanceMethod yX9_tick ∈ WA := z_in0 _ (List.mem_of_getElem? (i := 463) (by decide +kernel))
theorem u_464 : Cond.selects RX9 yX9_tick yX9_tick ∈ WA := z_in0 _ (List.mem_of_getElem? (i := 464) (by decide +kernel))
theorem u_465 : Cond.code yX9_tick cX9_tick 8 (some .int) ∈ WA := z_in0 _ (List.mem_of_getElem? (i := 465) (by decide +kernel))
theorem u_466 : Cond.methodLink RX9 89 yX9_serves ∈ WA := z_in0 _ (List.mem_of_getElem? (i := 466) (by decide +kernel))
theorem u_467 : Cond.instanceMethod yX9_serves ∈ WA := z_in0 _ (List.mem_of_getElem? (i := 467) (by decide +kernel))
theorem u_468 : Cond.selects RX9 yX9_serves yX9_serves ∈ WA := z_in0 _ (List.mem_of_getElem? (i := 468) (by decide +kernel))
theorem u_469 : Cond.code yX9_serves cX9_serves 8 (some .int) ∈ WA := z_in0 _ (List.mem_of_getElem? (i := 469) (by decide +kernel))
theorem u_470 : Cond.methodLink RX9 85 yX9_misses ∈ WA := z_in0 _ (List.mem_of_getElem? (i := 470) (by decide +kernel))
theorem u_471 : Cond.instanceMethod yX9_misses ∈ WA := z_in0 _ (List.mem_of_getElem? (i := 471) (by decide +kernel))
theorem u_472 : Cond.selects RX9 yX9_misses yX9_misses ∈ WA := z_in0 _ (List.mem_of_getElem? (i := 472) (by decide +kernel))
theorem u_473 : Cond.code yX9_misses cX9_misses 8 (some .int) ∈ WA := z_in0 _ (List.mem_of_getElem? (i := 473) (by decide +kernel))
theorem u_474 : Cond.methodLink RX9 68 yX9_opensPage ∈ WA := z_in0 _ (List.mem_of_getElem? (i := 474) (by decide +kernel))
theorem u_475 : Cond.instanceMethod yX9_opensPage ∈ WA := z_in0 _ (List.mem_of_getElem? (i := 475) (by decide +kernel))
theorem u_476 : Cond.selects RX9 yX9_opensPage yX9_opensPage ∈ WA := z_in0 _ (List.mem_of_getElem? (i := 476) (by decide +kernel))
theorem u_477 : Cond.code yX9_opensPage cX9_opensPage 4 (some .int) ∈ WA := z_in0 _ (List.mem_of_getElem? (i := 477) (by decide +kernel))
theorem u_478 : Cond.methodLink RX9 48 yX9_pageOf ∈ WA := z_in0 _ (List.mem_of_getElem? (i := 478) (by decide +kernel))
theorem u_479 : Cond.instanceMethod yX9_pageOf ∈ WA := z_in0 _ (List.mem_of_getElem? (i := 479) (by decide +kernel))
theorem u_480 : Cond.selects RX9 yX9_pageOf yX9_pageOf ∈ WA := z_in0 _ (List.mem_of_getElem? (i := 480) (by decide +kernel))
theorem u_481 : Cond.code yX9_pageOf cX9_pageOf 3 (some .int) ∈ WA := z_in0 _ (List.mem_of_getElem? (i := 481) (by decide +kernel))
theorem u_482 : Cond.methodLink RX9 55 yX9_oldestPage ∈ WA := z_in0 _ (List.mem_of_getElem? (i := 482) (by decide +kernel))
theorem u_483 : Cond.instanceMethod yX9_oldestPage ∈ WA := z_in0 _ (List.mem_of_getElem? (i := 483) (by decide +kernel))
theorem u_484 : Cond.selects RX9 yX9_oldestPage yX9_oldestPage ∈ WA := z_in0 _ (List.mem_of_getElem? (i := 484) (by decide +kernel))
theorem u_485 : Cond.code yX9_oldestPage cX9_oldestPage 3 (some .int) ∈ WA := z_in0 _ (List.mem_of_getElem? (i := 485) (by decide +kernel))
theorem u_486 : Cond.methodLink RX9 59 yX9_tearOut ∈ WA := z_in0 _ (List.mem_of_getElem? (i := 486) (by decide +kernel))
theorem u_487 : Cond.instanceMethod yX9_tearOut ∈ WA := z_in0 _ (List.mem_of_getElem? (i := 487) (by decide +kernel))
theorem u_488 : Cond.selects RX9 yX9_tearOut yX9_tearOut ∈ WA := z_in0 _ (List.mem_of_getElem? (i := 488) (by decide +kernel))
theorem u_489 : Cond.code yX9_tearOut cX9_tearOut 3 none ∈ WA := z_in0 _ (List.mem_of_getElem? (i := 489) (by decide +kernel))
theorem u_490 : Cond.methodLink RX9 62 yX9_ownerOf ∈ WA := z_in0 _ (List.mem_of_getElem? (i := 490) (by decide +kernel))
theorem u_491 : Cond.instanceMethod yX9_ownerOf ∈ WA := z_in0 _ (List.mem_of_getElem? (i := 491) (by decide +kernel))
theorem u_492 : Cond.selects RX9 yX9_ownerOf yX9_ownerOf ∈ WA := z_in0 _ (List.mem_of_getElem? (i := 492) (by decide +kernel))
theorem u_493 : Cond.code yX9_ownerOf cX9_ownerOf 4 (some .int) ∈ WA := z_in0 _ (List.mem_of_getElem? (i := 493) (by decide +kernel))
theorem u_494 : Cond.methodLink RX9 65 yX9_sharersOf ∈ WA := z_in0 _ (List.mem_of_getElem? (i := 494) (by decide +kernel))
theorem u_495 : Cond.instanceMethod yX9_sharersOf ∈ WA := z_in0 _ (List.mem_of_getElem? (i := 495) (by decide +kernel))
theorem u_496 : Cond.selects RX9 yX9_sharersOf yX9_sharersOf ∈ WA := z_in0 _ (List.mem_of_getElem? (i := 496) (by decide +kernel))
theorem u_497 : Cond.code yX9_sharersOf cX9_sharersOf 5 (some .int) ∈ WA := z_in0 _ (List.mem_of_getElem? (i := 497) (by decide +kernel))
theorem u_498 : Cond.methodLink RX9 71 yX9_reachesOthers ∈ WA := z_in0 _ (List.mem_of_getElem? (i := 498) (by decide +kernel))
theorem u_499 : Cond.instanceMethod yX9_reachesOthers ∈ WA := z_in0 _ (List.mem_of_getElem? (i := 499) (by decide +kernel))
theorem u_500 : Cond.selects RX9 yX9_reachesOthers yX9_reachesOthers ∈ WA := z_in0 _ (List.mem_of_getElem? (i := 500) (by decide +kernel))
theorem u_501 : Cond.code yX9_reachesOthers cX9_reachesOthers 7 (some .int) ∈ WA := z_in0 _ (List.mem_of_getElem? (i := 501) (by decide +kernel))
theorem u_502 : Cond.methodLink RX9 44 yX9_toMemory ∈ WA := z_in0 _ (List.mem_of_getElem? (i := 502) (by decide +kernel))
theorem u_503 : Cond.instanceMethod yX9_toMemory ∈ WA := z_in0 _ (List.mem_of_getElem? (i := 503) (by decide +kernel))
theorem u_504 : Cond.selects RX9 yX9_toMemory yX9_toMemory ∈ WA := z_in0 _ (List.mem_of_getElem? (i := 504) (by decide +kernel))
theorem u_505 : Cond.code yX9_toMemory cX9_toMemory 2 none ∈ WA := z_in0 _ (List.mem_of_getElem? (i := 505) (by decide +kernel))
theorem u_506 : Cond.methodLink RX9 75 yX9_oldestCopy ∈ WA := z_in0 _ (List.mem_of_getElem? (i := 506) (by decide +kernel))
theorem u_507 : Cond.instanceMethod yX9_oldestCopy ∈ WA := z_in0 _ (List.mem_of_getElem? (i := 507) (by decide +kernel))
theorem u_508 : Cond.selects RX9 yX9_oldestCopy yX9_oldestCopy ∈ WA := z_in0 _ (List.mem_of_getElem? (i := 508) (by decide +kernel))
theorem u_509 : Cond.code yX9_oldestCopy cX9_oldestCopy 4 (some .int) ∈ WA := z_in0 _ (List.mem_of_getElem? (i := 509) (by decide +kernel))
theorem u_510 : Cond.methodLink RX9 78 yX9_throwAway ∈ WA := z_in0 _ (List.mem_of_getElem? (i := 510) (by decide +kernel))
theorem u_511 : Cond.instanceMethod yX9_throwAway ∈ WA := z_in0 _ (List.mem_of_getElem? (i := 511) (by decide +kernel))
theorem u_512 : Cond.selects RX9 yX9_throwAway yX9_throwAway ∈ WA := z_in0 _ (List.mem_of_getElem? (i := 512) (by decide +kernel))
theorem u_513 : Cond.code yX9_throwAway cX9_throwAway 5 (some .int) ∈ WA := z_in0 _ (List.mem_of_getElem? (i := 513) (by decide +kernel))
theorem u_544 : Cond.methodLink RX9 118 yX9_ones ∈ WA := z_in0 _ (List.mem_of_getElem? (i := 544) (by decide +kernel))
theorem u_545 : Cond.static yX9_ones ∈ WA := z_in0 _ (List.mem_of_getElem? (i := 545) (by decide +kernel))
theorem u_546 : Cond.code yX9_ones cX9_ones 3 (some .int) ∈ WA := z_in0 _ (List.mem_of_getElem? (i := 546) (by decide +kernel))
theorem u_566 : Cond.methodLink RX9 121 yX9_aboutCopy ∈ WA := z_in0 _ (List.mem_of_getElem? (i := 566) (by decide +kernel))
theorem u_567 : Cond.instanceMethod yX9_aboutCopy ∈ WA := z_in0 _ (List.mem_of_getElem? (i := 567) (by decide +kernel))
theorem u_568 : Cond.selects RX9 yX9_aboutCopy yX9_aboutCopy ∈ WA := z_in0 _ (List.mem_of_getElem? (i := 568) (by decide +kernel))
theorem u_569 : Cond.code yX9_aboutCopy cX9_aboutCopy 7 (some .int) ∈ WA := z_in0 _ (List.mem_of_getElem? (i := 569) (by decide +kernel))
theorem u_585 : Cond.methodLink RX9 124 yX9_aboutLine ∈ WA := z_in0 _ (List.mem_of_getElem? (i := 585) (by decide +kernel))
theorem u_586 : Cond.instanceMethod yX9_aboutLine ∈ WA := z_in0 _ (List.mem_of_getElem? (i := 586) (by decide +kernel))
theorem u_587 : Cond.selects RX9 yX9_aboutLine yX9_aboutLine ∈ WA := z_in0 _ (List.mem_of_getElem? (i := 587) (by decide +kernel))
theorem u_588 : Cond.code yX9_aboutLine cX9_aboutLine 4 (some .int) ∈ WA := z_in0 _ (List.mem_of_getElem? (i := 588) (by decide +kernel))
theorem u_604 : Cond.methodLink RX9 127 yX9_aboutPending ∈ WA := z_in0 _ (List.mem_of_getElem? (i := 604) (by decide +kernel))
theorem u_605 : Cond.instanceMethod yX9_aboutPending ∈ WA := z_in0 _ (List.mem_of_getElem? (i := 605) (by decide +kernel))
theorem u_606 : Cond.selects RX9 yX9_aboutPending yX9_aboutPending ∈ WA := z_in0 _ (List.mem_of_getElem? (i := 606) (by decide +kernel))
theorem u_607 : Cond.code yX9_aboutPending cX9_aboutPending 3 (some .int) ∈ WA := z_in0 _ (List.mem_of_getElem? (i := 607) (by decide +kernel))
theorem u_644 : Cond.methodLink RX9 133 yX9_number ∈ WA := z_in0 _ (List.mem_of_getElem? (i := 644) (by decide +kernel))
theorem u_645 : Cond.instanceMethod yX9_number ∈ WA := z_in0 _ (List.mem_of_getElem? (i := 645) (by decide +kernel))
theorem u_646 : Cond.selects RX9 yX9_number yX9_number ∈ WA := z_in0 _ (List.mem_of_getElem? (i := 646) (by decide +kernel))
theorem u_647 : Cond.code yX9_number cX9_number 2 (some .int) ∈ WA := z_in0 _ (List.mem_of_getElem? (i := 647) (by decide +kernel))
theorem u_648 : Cond.methodLink RX9 130 yX9_waiting ∈ WA := z_in0 _ (List.mem_of_getElem? (i := 648) (by decide +kernel))
theorem u_649 : Cond.instanceMethod yX9_waiting ∈ WA := z_in0 _ (List.mem_of_getElem? (i := 649) (by decide +kernel))
theorem u_650 : Cond.selects RX9 yX9_waiting yX9_waiting ∈ WA := z_in0 _ (List.mem_of_getElem? (i := 650) (by decide +kernel))
theorem u_651 : Cond.code yX9_waiting cX9_waiting 3 (some .int) ∈ WA := z_in0 _ (List.mem_of_getElem? (i := 651) (by decide +kernel))
theorem u_664 : Cond.methodLink RX9 142 yX9_costOf ∈ WA := z_in0 _ (List.mem_of_getElem? (i := 664) (by decide +kernel))
theorem u_665 : Cond.instanceMethod yX9_costOf ∈ WA := z_in0 _ (List.mem_of_getElem? (i := 665) (by decide +kernel))
theorem u_666 : Cond.selects RX9 yX9_costOf yX9_costOf ∈ WA := z_in0 _ (List.mem_of_getElem? (i := 666) (by decide +kernel))
theorem u_667 : Cond.code yX9_costOf cX9_costOf 5 (some .int) ∈ WA := z_in0 _ (List.mem_of_getElem? (i := 667) (by decide +kernel))
theorem u_668 : Cond.methodLink RX9 136 yX9_keep ∈ WA := z_in0 _ (List.mem_of_getElem? (i := 668) (by decide +kernel))
theorem u_669 : Cond.instanceMethod yX9_keep ∈ WA := z_in0 _ (List.mem_of_getElem? (i := 669) (by decide +kernel))
theorem u_670 : Cond.selects RX9 yX9_keep yX9_keep ∈ WA := z_in0 _ (List.mem_of_getElem? (i := 670) (by decide +kernel))
theorem u_671 : Cond.code yX9_keep cX9_keep 2 none ∈ WA := z_in0 _ (List.mem_of_getElem? (i := 671) (by decide +kernel))
theorem u_672 : Cond.methodLink RX9 139 yX9_bringBack ∈ WA := z_in0 _ (List.mem_of_getElem? (i := 672) (by decide +kernel))
theorem u_673 : Cond.instanceMethod yX9_bringBack ∈ WA := z_in0 _ (List.mem_of_getElem? (i := 673) (by decide +kernel))
theorem u_674 : Cond.selects RX9 yX9_bringBack yX9_bringBack ∈ WA := z_in0 _ (List.mem_of_getElem? (i := 674) (by decide +kernel))
theorem u_675 : Cond.code yX9_bringBack cX9_bringBack 2 none ∈ WA := z_in0 _ (List.mem_of_getElem? (i := 675) (by decide +kernel))
theorem u_682 : Cond.instanceMethod yX9_nextTorn ∈ WA := z_in0 _ (List.mem_of_getElem? (i := 682) (by decide +kernel))
theorem u_683 : Cond.selects RX9 yX9_nextTorn yX9_nextTorn ∈ WA := z_in0 _ (List.mem_of_getElem? (i := 683) (by decide +kernel))
theorem u_684 : Cond.code yX9_nextTorn cX9_nextTorn 1 (some .int) ∈ WA := z_in0 _ (List.mem_of_getElem? (i := 684) (by decide +kernel))
theorem u_821 : Cond.methodLink RX9 161 yX9_readOrder ∈ WA := z_in0 _ (List.mem_of_getElem? (i := 821) (by decide +kernel))
theorem u_822 : Cond.instanceMethod yX9_readOrder ∈ WA := z_in0 _ (List.mem_of_getElem? (i := 822) (by decide +kernel))
theorem u_823 : Cond.selects RX9 yX9_readOrder yX9_readOrder ∈ WA := z_in0 _ (List.mem_of_getElem? (i := 823) (by decide +kernel))
theorem u_824 : Cond.code yX9_readOrder cX9_readOrder 1 (some .boolean) ∈ WA := z_in0 _ (List.mem_of_getElem? (i := 824) (by decide +kernel))
theorem u_825 : Cond.methodLink RX9 154 yX9_sign ∈ WA := z_in0 _ (List.mem_of_getElem? (i := 825) (by decide +kernel))
theorem u_826 : Cond.instanceMethod yX9_sign ∈ WA := z_in0 _ (List.mem_of_getElem? (i := 826) (by decide +kernel))
theorem u_827 : Cond.selects RX9 yX9_sign yX9_sign ∈ WA := z_in0 _ (List.mem_of_getElem? (i := 827) (by decide +kernel))
theorem u_828 : Cond.code yX9_sign cX9_sign 3 (some .boolean) ∈ WA := z_in0 _ (List.mem_of_getElem? (i := 828) (by decide +kernel))
theorem u_829 : Cond.methodLink RX9 157 yX9_numberInto ∈ WA := z_in0 _ (List.mem_of_getElem? (i := 829) (by decide +kernel))
theorem u_830 : Cond.instanceMethod yX9_numberInto ∈ WA := z_in0 _ (List.mem_of_getElem? (i := 830) (by decide +kernel))
theorem u_831 : Cond.selects RX9 yX9_numberInto yX9_numberInto ∈ WA := z_in0 _ (List.mem_of_getElem? (i := 831) (by decide +kernel))
theorem u_832 : Cond.code yX9_numberInto cX9_numberInto 7 (some .boolean) ∈ WA := z_in0 _ (List.mem_of_getElem? (i := 832) (by decide +kernel))
theorem u_833 : Cond.methodLink RX9 151 yX9_isDigit ∈ WA := z_in0 _ (List.mem_of_getElem? (i := 833) (by decide +kernel))
theorem u_834 : Cond.instanceMethod yX9_isDigit ∈ WA := z_in0 _ (List.mem_of_getElem? (i := 834) (by decide +kernel))
theorem u_835 : Cond.selects RX9 yX9_isDigit yX9_isDigit ∈ WA := z_in0 _ (List.mem_of_getElem? (i := 835) (by decide +kernel))
theorem u_836 : Cond.code yX9_isDigit cX9_isDigit 2 (some .boolean) ∈ WA := z_in0 _ (List.mem_of_getElem? (i := 836) (by decide +kernel))
theorem u_837 : Cond.methodLink RX9 165 yX9_doOrder ∈ WA := z_in0 _ (List.mem_of_getElem? (i := 837) (by decide +kernel))
theorem u_838 : Cond.instanceMethod yX9_doOrder ∈ WA := z_in0 _ (List.mem_of_getElem? (i := 838) (by decide +kernel))
theorem u_839 : Cond.selects RX9 yX9_doOrder yX9_doOrder ∈ WA := z_in0 _ (List.mem_of_getElem? (i := 839) (by decide +kernel))
theorem u_840 : Cond.code yX9_doOrder cX9_doOrder 2 (some .boolean) ∈ WA := z_in0 _ (List.mem_of_getElem? (i := 840) (by decide +kernel))
theorem u_873 : Cond.methodLink RX9 172 yX9_nextTorn ∈ WA := z_in0 _ (List.mem_of_getElem? (i := 873) (by decide +kernel))
theorem cwX9_25 {R : Room} {s : State} {args : Array Value} (hts : ∀ w ∈ WA, w.before args s = true) (hR : rmX9_anew.frames + 1 ≤ R.frames ∧ 8 + (5 + 11) + rmX9_anew.locals ≤ R.locals) : CallW R s args RX9 RX9 25 yX9_anew cX9_anew 5 none (Cond.code yX9_anew cX9_anew 5 none :: WA) rmX9_anew 0 0 3 := cwV 3 hts (z_goodV u_134 u_135 u_136 u_5 u_137) rfl rfl rfl (by decide +kernel) hR
theorem cwX9_36 {R : Room} {s : State} {args : Array Value} (hts : ∀ w ∈ WA, w.before args s = true) (hR : rmX9_in.frames + 1 ≤ R.frames ∧ 8 + (3 + 11) + rmX9_in.locals ≤ R.locals) : CallB R s args RX9 36 yX9_in cX9_in 3 (some .boolean) (Cond.code yX9_in cX9_in 3 (some .boolean) :: WA) rmX9_in 0 0 3 ∧ (Cond.static yX9_in).before args s = true := va_cwS 3 hts (z_goodS u_196 u_197 u_5 u_198) rfl rfl rfl (by decide +kernel) hR
theorem cwX9_40 {R : Room} {s : State} {args : Array Value} (hts : ∀ w ∈ WA, w.before args s = true) (hR : rmX9_slotAt.frames + 1 ≤ R.frames ∧ 8 + (2 + 11) + rmX9_slotAt.locals ≤ R.locals) : CallB R s args RX9 40 yX9_slotAt cX9_slotAt 2 (some .int) (Cond.code yX9_slotAt cX9_slotAt 2 (some .int) :: WA) rmX9_slotAt 0 0 2 ∧ (Cond.static yX9_slotAt).before args s = true := va_cwS 2 hts (z_goodS u_276 u_277 u_5 u_278) rfl rfl rfl (by decide +kernel) hR
theorem cwX9_44 {R : Room} {s : State} {args : Array Value} (hts : ∀ w ∈ WA, w.before args s = true) (hR : rmX9_toMemory.frames + 1 ≤ R.frames ∧ 8 + (2 + 11) + rmX9_toMemory.locals ≤ R.locals) : CallW R s args RX9 RX9 44 yX9_toMemory cX9_toMemory 2 none (Cond.code yX9_toMemory cX9_toMemory 2 none :: WA) rmX9_toMemory 0 0 1 := cwV 1 hts (z_goodV u_502 u_503 u_504 u_5 u_505) rfl rfl rfl (by decide +kernel) hR
theorem cwX9_48 {R : Room} {s : State} {args : Array Value} (hts : ∀ w ∈ WA, w.before args s = true) (hR : rmX9_pageOf.frames + 1 ≤ R.frames ∧ 8 + (3 + 11) + rmX9_pageOf.locals ≤ R.locals) : CallW R s args RX9 RX9 48 yX9_pageOf cX9_pageOf 3 (some .int) (Cond.code yX9_pageOf cX9_pageOf 3 (some .int) :: WA) rmX9_pageOf 0 0 1 := cwV 1 hts (z_goodV u_478 u_479 u_480 u_5 u_481) rfl rfl rfl (by decide +kernel) hR
theorem cwX9_52 {R : Room} {s : State} {args : Array Value} (hts : ∀ w ∈ WA, w.before args s = true) (hR : rmX9_copyOf.frames + 1 ≤ R.frames ∧ 8 + (4 + 11) + rmX9_copyOf.locals ≤ R.locals) : CallW R s args RX9 RX9 52 yX9_copyOf cX9_copyOf 4 (some .int) (Cond.code yX9_copyOf cX9_copyOf 4 (some .int) :: WA) rmX9_copyOf 0 0 2 := cwV 2 hts (z_goodV u_272 u_273 u_274 u_5 u_275) rfl rfl rfl (by decide +kernel) hR
theorem cwX9_55 {R : Room} {s : State} {args : Array Value} (hts : ∀ w ∈ WA, w.before args s = true) (hR : rmX9_oldestPage.frames + 1 ≤ R.frames ∧ 8 + (3 + 11) + rmX9_oldestPage.locals ≤ R.locals) : CallW R s args RX9 RX9 55 yX9_oldestPage cX9_oldestPage 3 (some .int) (Cond.code yX9_oldestPage cX9_oldestPage 3 (some .int) :: WA) rmX9_oldestPage 0 0 0 := cwV 0 hts (z_goodV u_482 u_483 u_484 u_5 u_485) rfl rfl rfl (by decide +kernel) hR
theorem cwX9_59 {R : Room} {s : State} {args : Array Value} (hts : ∀ w ∈ WA, w.before args s = true) (hR : rmX9_tearOut.frames + 1 ≤ R.frames ∧ 8 + (3 + 11) + rmX9_tearOut.locals ≤ R.locals) : CallW R s args RX9 RX9 59 yX9_tearOut cX9_tearOut 3 none (Cond.code yX9_tearOut cX9_tearOut 3 none :: WA) rmX9_tearOut 0 0 1 := cwV 1 hts (z_goodV u_486 u_487 u_488 u_5 u_489) rfl rfl rfl (by decide +kernel) hR
theorem cwX9_62 {R : Room} {s : State} {args : Array Value} (hts : ∀ w ∈ WA, w.before args s = true) (hR : rmX9_ownerOf.frames + 1 ≤ R.frames ∧ 8 + (4 + 11) + rmX9_ownerOf.locals ≤ R.locals) : CallW R s args RX9 RX9 62 yX9_ownerOf cX9_ownerOf 4 (some .int) (Cond.code yX9_ownerOf cX9_ownerOf 4 (some .int) :: WA) rmX9_ownerOf 0 0 1 := cwV 1 hts (z_goodV u_490 u_491 u_492 u_5 u_493) rfl rfl rfl (by decide +kernel) hR
theorem cwX9_65 {R : Room} {s : State} {args : Array Value} (hts : ∀ w ∈ WA, w.before args s = true) (hR : rmX9_sharersOf.frames + 1 ≤ R.frames ∧ 8 + (5 + 11) + rmX9_sharersOf.locals ≤ R.locals) : CallW R s args RX9 RX9 65 yX9_sharersOf cX9_sharersOf 5 (some .int) (Cond.code yX9_sharersOf cX9_sharersOf 5 (some .int) :: WA) rmX9_sharersOf 0 0 1 := cwV 1 hts (z_goodV u_494 u_495 u_496 u_5 u_497) rfl rfl rfl (by decide +kernel) hR
theorem cwX9_68 {R : Room} {s : State} {args : Array Value} (hts : ∀ w ∈ WA, w.before args s = true) (hR : rmX9_opensPage.frames + 1 ≤ R.frames ∧ 8 + (4 + 11) + rmX9_opensPage.locals ≤ R.locals) : CallW R s args RX9 RX9 68 yX9_opensPage cX9_opensPage 4 (some .int) (Cond.code yX9_opensPage cX9_opensPage 4 (some .int) :: WA) rmX9_opensPage 0 0 1 := cwV 1 hts (z_goodV u_474 u_475 u_476 u_5 u_477) rfl rfl rfl (by decide +kernel) hR
theorem cwX9_71 {R : Room} {s : State} {args : Array Value} (hts : ∀ w ∈ WA, w.before args s = true) (hR : rmX9_reachesOthers.frames + 1 ≤ R.frames ∧ 8 + (7 + 11) + rmX9_reachesOthers.locals ≤ R.locals) : CallW R s args RX9 RX9 71 yX9_reachesOthers cX9_reachesOthers 7 (some .int) (Cond.code yX9_reachesOthers cX9_reachesOthers 7 (some .int) :: WA) rmX9_reachesOthers 0 0 3 := cwV 3 hts (z_goodV u_498 u_499 u_500 u_5 u_501) rfl rfl rfl (by decide +kernel) hR
theorem cwX9_75 {R : Room} {s : State} {args : Array Value} (hts : ∀ w ∈ WA, w.before args s = true) (hR : rmX9_oldestCopy.frames + 1 ≤ R.frames ∧ 8 + (4 + 11) + rmX9_oldestCopy.locals ≤ R.locals) : CallW R s args RX9 RX9 75 yX9_oldestCopy cX9_oldestCopy 4 (some .int) (Cond.code yX9_oldestCopy cX9_oldestCopy 4 (some .int) :: WA) rmX9_oldestCopy 0 0 1 := cwV 1 hts (z_goodV u_506 u_507 u_508 u_5 u_509) rfl rfl rfl (by decide +kernel) hR
theorem cwX9_78 {R : Room} {s : State} {args : Array Value} (hts : ∀ w ∈ WA, w.before args s = true) (hR : rmX9_throwAway.frames + 1 ≤ R.frames ∧ 8 + (5 + 11) + rmX9_throwAway.locals ≤ R.locals) : CallW R s args RX9 RX9 78 yX9_throwAway cX9_throwAway 5 (some .int) (Cond.code yX9_throwAway cX9_throwAway 5 (some .int) :: WA) rmX9_throwAway 0 0 2 := cwV 2 hts (z_goodV u_510 u_511 u_512 u_5 u_513) rfl rfl rfl (by decide +kernel) hR
theorem cwX9_81 {R : Room} {s : State} {args : Array Value} (hts : ∀ w ∈ WA, w.before args s = true) (hR : rmX9_isHit.frames + 1 ≤ R.frames ∧ 8 + (5 + 11) + rmX9_isHit.locals ≤ R.locals) : CallW R s args RX9 RX9 81 yX9_isHit cX9_isHit 5 (some .boolean) (Cond.code yX9_isHit cX9_isHit 5 (some .boolean) :: WA) rmX9_isHit 0 0 3 := cwV 3 hts (z_goodV u_268 u_269 u_270 u_5 u_271) rfl rfl rfl (by decide +kernel) hR
theorem cwX9_85 {R : Room} {s : State} {args : Array Value} (hts : ∀ w ∈ WA, w.before args s = true) (hR : rmX9_misses.frames + 1 ≤ R.frames ∧ 8 + (8 + 11) + rmX9_misses.locals ≤ R.locals) : CallW R s args RX9 RX9 85 yX9_misses cX9_misses 8 (some .int) (Cond.code yX9_misses cX9_misses 8 (some .int) :: WA) rmX9_misses 0 0 3 := cwV 3 hts (z_goodV u_470 u_471 u_472 u_5 u_473) rfl rfl rfl (by decide +kernel) hR
theorem cwX9_89 {R : Room} {s : State} {args : Array Value} (hts : ∀ w ∈ WA, w.before args s = true) (hR : rmX9_serves.frames + 1 ≤ R.frames ∧ 8 + (8 + 11) + rmX9_serves.locals ≤ R.locals) : CallW R s args RX9 RX9 89 yX9_serves cX9_serves 8 (some .int) (Cond.code yX9_serves cX9_serves 8 (some .int) :: WA) rmX9_serves 0 0 3 := cwV 3 hts (z_goodV u_466 u_467 u_468 u_5 u_469) rfl rfl rfl (by decide +kernel) hR
theorem cwX9_92 {R : Room} {s : State} {args : Array Value} (hts : ∀ w ∈ WA, w.before args s = true) (hR : rmX9_tick.frames + 1 ≤ R.frames ∧ 8 + (8 + 11) + rmX9_tick.locals ≤ R.locals) : CallW R s args RX9 RX9 92 yX9_tick cX9_tick 8 (some .int) (Cond.code yX9_tick cX9_tick 8 (some .int) :: WA) rmX9_tick 0 0 0 := cwV 0 hts (z_goodV u_462 u_463 u_464 u_5 u_465) rfl rfl rfl (by decide +kernel) hR
theorem cwX9_95 {R : Room} {s : State} {args : Array Value} (hts : ∀ w ∈ WA, w.before args s = true) (hR : rmX9_isAsking.frames + 1 ≤ R.frames ∧ 8 + (2 + 11) + rmX9_isAsking.locals ≤ R.locals) : CallW R s args RX9 RX9 95 yX9_isAsking cX9_isAsking 2 (some .boolean) (Cond.code yX9_isAsking cX9_isAsking 2 (some .boolean) :: WA) rmX9_isAsking 0 0 1 := cwV 1 hts (z_goodV u_260 u_261 u_262 u_5 u_263) rfl rfl rfl (by decide +kernel) hR
theorem cwX9_99 {R : Room} {s : State} {args : Array Value} (hts : ∀ w ∈ WA, w.before args s = true) (hR : rmX9_fails.frames + 1 ≤ R.frames ∧ 8 + (2 + 11) + rmX9_fails.locals ≤ R.locals) : CallW R s args RX9 RX9 99 yX9_fails cX9_fails 2 (some .int) (Cond.code yX9_fails cX9_fails 2 (some .int) :: WA) rmX9_fails 0 0 1 := cwV 1 hts (z_goodV u_199 u_200 u_201 u_5 u_202) rfl rfl rfl (by decide +kernel) hR
theorem cwX9_102 {R : Room} {s : State} {args : Array Value} (hts : ∀ w ∈ WA, w.before args s = true) (hR : rmX9_save.frames + 1 ≤ R.frames ∧ 8 + (2 + 11) + rmX9_save.locals ≤ R.locals) : CallW R s args RX9 RX9 102 yX9_save cX9_save 2 none (Cond.code yX9_save cX9_save 2 none :: WA) rmX9_save 0 0 0 := cwV 0 hts (z_goodV u_203 u_204 u_205 u_5 u_206) rfl rfl rfl (by decide +kernel) hR
theorem cwX9_105 {R : Room} {s : State} {args : Array Value} (hts : ∀ w ∈ WA, w.before args s = true) (hR : rmX9_isCache.frames + 1 ≤ R.frames ∧ 8 + (2 + 11) + rmX9_isCache.locals ≤ R.locals) : CallW R s args RX9 RX9 105 yX9_isCache cX9_isCache 2 (some .boolean) (Cond.code yX9_isCache cX9_isCache 2 (some .boolean) :: WA) rmX9_isCache 0 0 1 := cwV 1 hts (z_goodV u_253 u_254 u_255 u_5 u_256) rfl rfl rfl (by decide +kernel) hR
theorem cwX9_108 {R : Room} {s : State} {args : Array Value} (hts : ∀ w ∈ WA, w.before args s = true) (hR : rmX9_isLine.frames + 1 ≤ R.frames ∧ 8 + (1 + 11) + rmX9_isLine.locals ≤ R.locals) : CallB R s args RX9 108 yX9_isLine cX9_isLine 1 (some .boolean) (Cond.code yX9_isLine cX9_isLine 1 (some .boolean) :: WA) rmX9_isLine 0 0 1 ∧ (Cond.static yX9_isLine).before args s = true := va_cwS 1 hts (z_goodS u_257 u_258 u_5 u_259) rfl rfl rfl (by decide +kernel) hR
theorem cwX9_111 {R : Room} {s : State} {args : Array Value} (hts : ∀ w ∈ WA, w.before args s = true) (hR : rmX9_asks.frames + 1 ≤ R.frames ∧ 8 + (4 + 11) + rmX9_asks.locals ≤ R.locals) : CallW R s args RX9 RX9 111 yX9_asks cX9_asks 4 (some .int) (Cond.code yX9_asks cX9_asks 4 (some .int) :: WA) rmX9_asks 0 0 3 := cwV 3 hts (z_goodV u_264 u_265 u_266 u_5 u_267) rfl rfl rfl (by decide +kernel) hR
theorem cwX9_115 {R : Room} {s : State} {args : Array Value} (hts : ∀ w ∈ WA, w.before args s = true) (hR : rmX9_ticks.frames + 1 ≤ R.frames ∧ 8 + (4 + 11) + rmX9_ticks.locals ≤ R.locals) : CallW R s args RX9 RX9 115 yX9_ticks cX9_ticks 4 (some .int) (Cond.code yX9_ticks cX9_ticks 4 (some .int) :: WA) rmX9_ticks 0 0 1 := cwV 1 hts (z_goodV u_458 u_459 u_460 u_5 u_461) rfl rfl rfl (by decide +kernel) hR
theorem cwX9_118 {R : Room} {s : State} {args : Array Value} (hts : ∀ w ∈ WA, w.before args s = true) (hR : rmX9_ones.frames + 1 ≤ R.frames ∧ 8 + (3 + 11) + rmX9_ones.locals ≤ R.locals) : CallB R s args RX9 118 yX9_ones cX9_ones 3 (some .int) (Cond.code yX9_ones cX9_ones 3 (some .int) :: WA) rmX9_ones 0 0 1 ∧ (Cond.static yX9_ones).before args s = true := va_cwS 1 hts (z_goodS u_544 u_545 u_5 u_546) rfl rfl rfl (by decide +kernel) hR
theorem cwX9_121 {R : Room} {s : State} {args : Array Value} (hts : ∀ w ∈ WA, w.before args s = true) (hR : rmX9_aboutCopy.frames + 1 ≤ R.frames ∧ 8 + (7 + 11) + rmX9_aboutCopy.locals ≤ R.locals) : CallW R s args RX9 RX9 121 yX9_aboutCopy cX9_aboutCopy 7 (some .int) (Cond.code yX9_aboutCopy cX9_aboutCopy 7 (some .int) :: WA) rmX9_aboutCopy 0 0 3 := cwV 3 hts (z_goodV u_566 u_567 u_568 u_5 u_569) rfl rfl rfl (by decide +kernel) hR
theorem cwX9_124 {R : Room} {s : State} {args : Array Value} (hts : ∀ w ∈ WA, w.before args s = true) (hR : rmX9_aboutLine.frames + 1 ≤ R.frames ∧ 8 + (4 + 11) + rmX9_aboutLine.locals ≤ R.locals) : CallW R s args RX9 RX9 124 yX9_aboutLine cX9_aboutLine 4 (some .int) (Cond.code yX9_aboutLine cX9_aboutLine 4 (some .int) :: WA) rmX9_aboutLine 0 0 2 := cwV 2 hts (z_goodV u_585 u_586 u_587 u_5 u_588) rfl rfl rfl (by decide +kernel) hR
theorem cwX9_127 {R : Room} {s : State} {args : Array Value} (hts : ∀ w ∈ WA, w.before args s = true) (hR : rmX9_aboutPending.frames + 1 ≤ R.frames ∧ 8 + (3 + 11) + rmX9_aboutPending.locals ≤ R.locals) : CallW R s args RX9 RX9 127 yX9_aboutPending cX9_aboutPending 3 (some .int) (Cond.code yX9_aboutPending cX9_aboutPending 3 (some .int) :: WA) rmX9_aboutPending 0 0 2 := cwV 2 hts (z_goodV u_604 u_605 u_606 u_5 u_607) rfl rfl rfl (by decide +kernel) hR
theorem cwX9_130 {R : Room} {s : State} {args : Array Value} (hts : ∀ w ∈ WA, w.before args s = true) (hR : rmX9_waiting.frames + 1 ≤ R.frames ∧ 8 + (3 + 11) + rmX9_waiting.locals ≤ R.locals) : CallW R s args RX9 RX9 130 yX9_waiting cX9_waiting 3 (some .int) (Cond.code yX9_waiting cX9_waiting 3 (some .int) :: WA) rmX9_waiting 0 0 0 := cwV 0 hts (z_goodV u_648 u_649 u_650 u_5 u_651) rfl rfl rfl (by decide +kernel) hR
theorem cwX9_133 {R : Room} {s : State} {args : Array Value} (hts : ∀ w ∈ WA, w.before args s = true) (hR : rmX9_number.frames + 1 ≤ R.frames ∧ 8 + (2 + 11) + rmX9_number.locals ≤ R.locals) : CallW R s args RX9 RX9 133 yX9_number cX9_number 2 (some .int) (Cond.code yX9_number cX9_number 2 (some .int) :: WA) rmX9_number 0 0 1 := cwV 1 hts (z_goodV u_644 u_645 u_646 u_5 u_647) rfl rfl rfl (by decide +kernel) hR
theorem cwX9_136 {R : Room} {s : State} {args : Array Value} (hts : ∀ w ∈ WA, w.before args s = true) (hR : rmX9_keep.frames + 1 ≤ R.frames ∧ 8 + (2 + 11) + rmX9_keep.locals ≤ R.locals) : CallW R s args RX9 RX9 136 yX9_keep cX9_keep 2 none (Cond.code yX9_keep cX9_keep 2 none :: WA) rmX9_keep 0 0 0 := cwV 0 hts (z_goodV u_668 u_669 u_670 u_5 u_671) rfl rfl rfl (by decide +kernel) hR
theorem cwX9_139 {R : Room} {s : State} {args : Array Value} (hts : ∀ w ∈ WA, w.before args s = true) (hR : rmX9_bringBack.frames + 1 ≤ R.frames ∧ 8 + (2 + 11) + rmX9_bringBack.locals ≤ R.locals) : CallW R s args RX9 RX9 139 yX9_bringBack cX9_bringBack 2 none (Cond.code yX9_bringBack cX9_bringBack 2 none :: WA) rmX9_bringBack 0 0 0 := cwV 0 hts (z_goodV u_672 u_673 u_674 u_5 u_675) rfl rfl rfl (by decide +kernel) hR
theorem cwX9_142 {R : Room} {s : State} {args : Array Value} (hts : ∀ w ∈ WA, w.before args s = true) (hR : rmX9_costOf.frames + 1 ≤ R.frames ∧ 8 + (5 + 11) + rmX9_costOf.locals ≤ R.locals) : CallW R s args RX9 RX9 142 yX9_costOf cX9_costOf 5 (some .int) (Cond.code yX9_costOf cX9_costOf 5 (some .int) :: WA) rmX9_costOf 0 0 3 := cwV 3 hts (z_goodV u_664 u_665 u_666 u_5 u_667) rfl rfl rfl (by decide +kernel) hR
theorem cwX9_151 {R : Room} {s : State} {args : Array Value} (hts : ∀ w ∈ WA, w.before args s = true) (hR : rmX9_isDigit.frames + 1 ≤ R.frames ∧ 8 + (2 + 11) + rmX9_isDigit.locals ≤ R.locals) : CallW R s args RX9 RX9 151 yX9_isDigit cX9_isDigit 2 (some .boolean) (Cond.code yX9_isDigit cX9_isDigit 2 (some .boolean) :: WA) rmX9_isDigit 0 0 1 := cwV 1 hts (z_goodV u_833 u_834 u_835 u_5 u_836) rfl rfl rfl (by decide +kernel) hR
theorem cwX9_154 {R : Room} {s : State} {args : Array Value} (hts : ∀ w ∈ WA, w.before args s = true) (hR : rmX9_sign.frames + 1 ≤ R.frames ∧ 8 + (3 + 11) + rmX9_sign.locals ≤ R.locals) : CallW R s args RX9 RX9 154 yX9_sign cX9_sign 3 (some .boolean) (Cond.code yX9_sign cX9_sign 3 (some .boolean) :: WA) rmX9_sign 0 0 1 := cwV 1 hts (z_goodV u_825 u_826 u_827 u_5 u_828) rfl rfl rfl (by decide +kernel) hR
theorem cwX9_157 {R : Room} {s : State} {args : Array Value} (hts : ∀ w ∈ WA, w.before args s = true) (hR : rmX9_numberInto.frames + 1 ≤ R.frames ∧ 8 + (7 + 11) + rmX9_numberInto.locals ≤ R.locals) : CallW R s args RX9 RX9 157 yX9_numberInto cX9_numberInto 7 (some .boolean) (Cond.code yX9_numberInto cX9_numberInto 7 (some .boolean) :: WA) rmX9_numberInto 0 0 4 := cwV 4 hts (z_goodV u_829 u_830 u_831 u_5 u_832) rfl rfl rfl (by decide +kernel) hR
theorem cwX9_161 {R : Room} {s : State} {args : Array Value} (hts : ∀ w ∈ WA, w.before args s = true) (hR : rmX9_readOrder.frames + 1 ≤ R.frames ∧ 8 + (1 + 11) + rmX9_readOrder.locals ≤ R.locals) : CallW R s args RX9 RX9 161 yX9_readOrder cX9_readOrder 1 (some .boolean) (Cond.code yX9_readOrder cX9_readOrder 1 (some .boolean) :: WA) rmX9_readOrder 0 0 0 := cwV 0 hts (z_goodV u_821 u_822 u_823 u_5 u_824) rfl rfl rfl (by decide +kernel) hR
theorem cwX9_165 {R : Room} {s : State} {args : Array Value} (hts : ∀ w ∈ WA, w.before args s = true) (hR : rmX9_doOrder.frames + 1 ≤ R.frames ∧ 8 + (2 + 11) + rmX9_doOrder.locals ≤ R.locals) : CallW R s args RX9 RX9 165 yX9_doOrder cX9_doOrder 2 (some .boolean) (Cond.code yX9_doOrder cX9_doOrder 2 (some .boolean) :: WA) rmX9_doOrder 0 0 0 := cwV 0 hts (z_goodV u_837 u_838 u_839 u_5 u_840) rfl rfl rfl (by decide +kernel) hR
theorem cwX9_172 {R : Room} {s : State} {args : Array Value} (hts : ∀ w ∈ WA, w.before args s = true) (hR : rmX9_nextTorn.frames + 1 ≤ R.frames ∧ 8 + (1 + 11) + rmX9_nextTorn.locals ≤ R.locals) : CallW R s args RX9 RX9 172 yX9_nextTorn cX9_nextTorn 1 (some .int) (Cond.code yX9_nextTorn cX9_nextTorn 1 (some .int) :: WA) rmX9_nextTorn 0 0 0 := cwV 0 hts (z_goodV u_873 u_682 u_683 u_5 u_684) rfl rfl rfl (by decide +kernel) hR
end
section
/-! the reference, method by method, as partial functions that follow its bytecode (by wip/tools/walk.py) -/
def fX9_slotAt (a0 : Int32) (a1 : Int32) (σ : zSt) : Option (Int32) :=
  some ((nI 110) + ((nI 4) * (((nI 8) * a0) + a1)))
def fX9_copyOf_l2 (σ : zSt) (K2 : Option (Int32)) : Nat → Int32 → Int32 → Int32 → Option (Int32)
  | 0, _, _, _ => none
  | n + 1, y1, y2, y3 =>
  (z_ag (σ 0) 456 (nI 1)).bind fun x1 =>
  (if x1 ≤ y3 then
  K2
  else
  (fX9_slotAt y1 y3 σ).bind fun x2 =>
  (z_ag (σ 0) 456 x2).bind fun x3 =>
  (if x3 = y2 then
  (fX9_slotAt y1 y3 σ).bind fun x4 =>
  some x4
  else
  (fX9_copyOf_l2 σ K2 n) y1 y2 (y3 + nI 1)))
def fX9_copyOf (a0 : Int32) (a1 : Int32) (σ : zSt) : Option (Int32) :=
  fX9_copyOf_l2 σ (some (-1)) z_fu a0 a1 (nI 0)
def fX9_aboutCopy_j102 (σ : zSt) (C45 : Int32 → Int32 → Int32 → Int32 → Int32 → Option (Int32)) (y1 : Int32) (y3 : Int32) (y4 : Int32) (y6 : Int32) (w0 : Int32) (w1 : Int32) : Option (Int32) :=
  C45 y1 y3 y4 (w1 + w0) (y6 + nI 1)
def fX9_aboutCopy_j101 (σ : zSt) (C45 : Int32 → Int32 → Int32 → Int32 → Int32 → Option (Int32)) (y1 : Int32) (y3 : Int32) (y4 : Int32) (y6 : Int32) (w0 : Int32) : Option (Int32) :=
  fX9_aboutCopy_j102 σ C45 y1 y3 y4 y6 (nI 0) w0
def fX9_aboutCopy_l45 (σ : zSt) (K45 : Int32 → Int32 → Int32 → Option (Int32)) : Nat → Int32 → Int32 → Int32 → Int32 → Int32 → Option (Int32)
  | 0, _, _, _, _, _ => none
  | n + 1, y1, y3, y4, y5, y6 =>
  (z_ag (σ 0) 456 (nI 1)).bind fun x2 =>
  (if x2 ≤ y6 then
  K45 y3 y4 y5
  else
  (fX9_slotAt y1 y6 σ).bind fun x3 =>
  (z_ag (σ 0) 456 x3).bind fun x4 =>
  (if x4 < 0 then
  fX9_aboutCopy_j101 σ (fX9_aboutCopy_l45 σ K45 n) y1 y3 y4 y6 y5
  else
  (fX9_slotAt y1 y6 σ).bind fun x5 =>
  (z_ag (σ 0) 456 (x5 + (nI 3))).bind fun x6 =>
  (z_ag (σ 0) 456 (y4 + (nI 3))).bind fun x7 =>
  (if x6 ≤ x7 then
  fX9_aboutCopy_j101 σ (fX9_aboutCopy_l45 σ K45 n) y1 y3 y4 y6 y5
  else
  fX9_aboutCopy_j102 σ (fX9_aboutCopy_l45 σ K45 n) y1 y3 y4 y6 (nI 1) y5)))
def fX9_aboutCopy (a0 : Int32) (a1 : Int32) (a2 : Int32) (σ : zSt) : Option (Int32) :=
  (fX9_copyOf a0 a1 σ).bind fun x1 =>
  (if 0 ≤ x1 then
  (if a2 = (nI 2) then
  (fX9_slotAt a0 (nI 0) σ).bind fun x13 =>
  (z_dv (x1 - x13) (nI 4)).bind fun x14 =>
  some x14
  else
  fX9_aboutCopy_l45 σ (fun x8 x9 x10 => (if x8 = 0 then
  (z_ag (σ 0) 456 (x9 + (nI 1))).bind fun x12 =>
  some x12
  else
  (if x8 = (nI 1) then
  (z_ag (σ 0) 456 (x9 + (nI 2))).bind fun x11 =>
  some x11
  else
  some x10))) z_fu a0 a2 x1 (nI 0) (nI 0))
  else
  (if a2 = 0 then
  some (nI 0)
  else
  some (-1)))
def fX9_pageOf_l2 (σ : zSt) (K2 : Option (Int32)) : Nat → Int32 → Int32 → Option (Int32)
  | 0, _, _ => none
  | n + 1, y1, y2 =>
  (z_ag (σ 0) 456 (nI 3)).bind fun x1 =>
  (if x1 ≤ y2 then
  K2
  else
  (z_ag (σ 0) 456 ((nI 302) + ((nI 4) * y2))).bind fun x2 =>
  (if x2 = y1 then
  some ((nI 302) + ((nI 4) * y2))
  else
  (fX9_pageOf_l2 σ K2 n) y1 (y2 + nI 1)))
def fX9_pageOf (a0 : Int32) (σ : zSt) : Option (Int32) :=
  fX9_pageOf_l2 σ (some (-1)) z_fu a0 (nI 0)
def fX9_ownerOf_l2 (σ : zSt) (K2 : Option (Int32)) : Nat → Int32 → Int32 → Option (Int32)
  | 0, _, _ => none
  | n + 1, y1, y2 =>
  (z_ag (σ 0) 456 (nI 0)).bind fun x1 =>
  (if x1 ≤ y2 then
  K2
  else
  (fX9_copyOf y2 y1 σ).bind fun x2 =>
  (if x2 < 0 then
  (fX9_ownerOf_l2 σ K2 n) y1 (y2 + nI 1)
  else
  (z_ag (σ 0) 456 (x2 + (nI 1))).bind fun x3 =>
  (if x3 = (nI 2) then
  some y2
  else
  (fX9_ownerOf_l2 σ K2 n) y1 (y2 + nI 1))))
def fX9_ownerOf (a0 : Int32) (σ : zSt) : Option (Int32) :=
  fX9_ownerOf_l2 σ (some (-1)) z_fu a0 (nI 0)
def fX9_sharersOf_j48 (σ : zSt) (C4 : Int32 → Int32 → Int32 → Option (Int32)) (y1 : Int32) (y3 : Int32) (w0 : Int32) (w1 : Int32) : Option (Int32) :=
  C4 y1 (w1 ||| w0) (y3 + nI 1)
def fX9_sharersOf_j47 (σ : zSt) (C4 : Int32 → Int32 → Int32 → Option (Int32)) (y1 : Int32) (y3 : Int32) (w0 : Int32) : Option (Int32) :=
  fX9_sharersOf_j48 σ C4 y1 y3 (nI 0) w0
def fX9_sharersOf_l4 (σ : zSt) (K4 : Int32 → Option (Int32)) : Nat → Int32 → Int32 → Int32 → Option (Int32)
  | 0, _, _, _ => none
  | n + 1, y1, y2, y3 =>
  (z_ag (σ 0) 456 (nI 0)).bind fun x1 =>
  (if x1 ≤ y3 then
  K4 y2
  else
  (fX9_copyOf y3 y1 σ).bind fun x2 =>
  (if x2 < 0 then
  fX9_sharersOf_j47 σ (fX9_sharersOf_l4 σ K4 n) y1 y3 y2
  else
  (z_ag (σ 0) 456 (x2 + (nI 1))).bind fun x3 =>
  (if x3 = (nI 1) then
  fX9_sharersOf_j48 σ (fX9_sharersOf_l4 σ K4 n) y1 y3 ((nI 1) <<< (y3 &&& 31)) y2
  else
  fX9_sharersOf_j47 σ (fX9_sharersOf_l4 σ K4 n) y1 y3 y2)))
def fX9_sharersOf (a0 : Int32) (σ : zSt) : Option (Int32) :=
  fX9_sharersOf_l4 σ (fun x4 => some x4) z_fu a0 (nI 0) (nI 0)
def fX9_aboutLine (a0 : Int32) (a1 : Int32) (σ : zSt) : Option (Int32) :=
  (fX9_pageOf a0 σ).bind fun x1 =>
  (if a1 = nI 0 then
  (z_ag (σ 0) 456 ((nI 14) + a0)).bind fun x2 =>
  some x2
  else
  (if a1 = nI 1 then
  (z_ag (σ 0) 456 ((nI 46) + a0)).bind fun x3 =>
  some x3
  else
  (if a1 = nI 2 then
  (fX9_ownerOf a0 σ).bind fun x4 =>
  some x4
  else
  (if a1 = nI 3 then
  (fX9_sharersOf a0 σ).bind fun x5 =>
  some x5
  else
  (if a1 = nI 4 then
  (if x1 < 0 then
  some (nI 0)
  else
  some (nI 1))
  else
  (if a1 = nI 5 then
  (if x1 < 0 then
  some (-1)
  else
  (z_ag (σ 0) 456 (x1 + (nI 1))).bind fun x6 =>
  some x6)
  else
  (if a1 = nI 6 then
  (if x1 < 0 then
  some (-1)
  else
  (z_ag (σ 0) 456 (x1 + (nI 2))).bind fun x7 =>
  some x7)
  else
  (z_ag (σ 0) 456 ((nI 78) + a0)).bind fun x8 =>
  some x8)))))))
def fX9_isAsking (a0 : Int32) (σ : zSt) : Option (Int32) :=
  (z_ag (σ 0) 456 ((nI 366) + ((nI 3) * a0))).bind fun x1 =>
  (if x1 < 0 then
  z_bz (nI 0)
  else
  z_bz (nI 1))
def fX9_aboutPending (a0 : Int32) (a1 : Int32) (σ : zSt) : Option (Int32) :=
  (fX9_isAsking a0 σ).bind fun x1 =>
  (if x1 = 0 then
  some (-1)
  else
  (z_ag (σ 0) 456 (((nI 366) + ((nI 3) * a0)) + a1)).bind fun x2 =>
  some x2)
def fX9_anew_l3 (K3 : Int32 → Int32 → Int32 → zSt → Option (zSt)) : Nat → Int32 → Int32 → Int32 → Int32 → zSt → Option (zSt)
  | 0, _, _, _, _, _ => none
  | n + 1, y1, y2, y3, y4, σ =>
  (if (nI 456) ≤ y4 then
  K3 y1 y2 y3 σ
  else
  (z_sg σ 0 456 y4 (nI 0)).bind fun σ1 =>
  (fX9_anew_l3 K3 n) y1 y2 y3 (y4 + nI 1) σ1)
def fX9_anew_l49 (K49 : zSt → Option (zSt)) : Nat → Int32 → zSt → Option (zSt)
  | 0, _, _ => none
  | n + 1, y4, σ =>
  (if (nI 48) ≤ y4 then
  K49 σ
  else
  (z_sg σ 0 456 ((nI 110) + ((nI 4) * y4)) (-1)).bind fun σ9 =>
  (fX9_anew_l49 K49 n) (y4 + nI 1) σ9)
def fX9_anew_l78 (K78 : zSt → Option (zSt)) : Nat → Int32 → zSt → Option (zSt)
  | 0, _, _ => none
  | n + 1, y4, σ =>
  (if (nI 6) ≤ y4 then
  K78 σ
  else
  (z_sg σ 0 456 ((nI 366) + ((nI 3) * y4)) (-1)).bind fun σ11 =>
  (fX9_anew_l78 K78 n) (y4 + nI 1) σ11)
def fX9_anew (a0 : Int32) (a1 : Int32) (a2 : Int32) (σ : zSt) : Option (zSt) :=
  fX9_anew_l3 (fun x2 x3 x4 σ5 => (z_sg σ5 0 456 (nI 0) x2).bind fun σ6 =>
  (z_sg σ6 0 456 (nI 1) x3).bind fun σ7 =>
  (z_sg σ7 0 456 (nI 2) x4).bind fun σ8 =>
  fX9_anew_l49 (fun σ10 => fX9_anew_l78 (fun σ12 => some σ12) z_fu (nI 0) σ10) z_fu (nI 0) σ8) z_fu a0 a1 a2 (nI 0) σ
def fX9_in (a0 : Int32) (a1 : Int32) (a2 : Int32) (σ : zSt) : Option (Int32) :=
  (if a0 < a1 then
  z_bz (nI 0)
  else
  (if a2 < a0 then
  z_bz (nI 0)
  else
  z_bz (nI 1)))
def fX9_fails (a0 : Int32) (σ : zSt) : Option (Int32 × zSt) :=
  (z_sf σ 7 a0).bind fun σ1 =>
  some (nI 0, σ1)
def fX9_append (a0 : Int32) (σ : zSt) : Option (Int32 × zSt) :=
  (z_sf σ 7 (nI 0)).bind fun σ1 =>
  (fX9_in a0 (nI 0) (nI 127) σ1).bind fun x2 =>
  (if x2 = 0 then
  z_b2 (fX9_fails (nI 1) σ1) fun x7 σ8 =>
  some (x7, σ8)
  else
  (if (σ1 6 0) = (nI 100) then
  z_b2 (fX9_fails (nI 2) σ1) fun x5 σ6 =>
  some (x5, σ6)
  else
  (z_sg σ1 3 100 (σ1 6 0) a0).bind fun σ3 =>
  (z_sf σ3 6 ((σ3 6 0) + (nI 1))).bind fun σ4 =>
  some (σ4 6 0, σ4)))
def fX9_isHit_j30 (σ : zSt) : Option (Int32) :=
  z_bz (nI 1)
def fX9_isHit (a0 : Int32) (a1 : Int32) (a2 : Int32) (σ : zSt) : Option (Int32) :=
  (fX9_copyOf a0 a1 σ).bind fun x1 =>
  (if x1 < 0 then
  z_bz (nI 0)
  else
  (if a2 = 0 then
  fX9_isHit_j30 σ
  else
  (z_ag (σ 0) 456 (x1 + (nI 1))).bind fun x2 =>
  (if x2 = (nI 2) then
  fX9_isHit_j30 σ
  else
  z_bz (nI 0))))
def fX9_asks_j55  (w0 : Int32) (w1 : Int32) (w2 : Int32) (σ : zSt) : Option (Int32 × zSt) :=
  (fX9_isHit w2 w1 w0 σ).bind fun x4 =>
  (if x4 = 0 then
  some (nI 0, σ)
  else
  some (nI 1, σ))
def fX9_asks (a0 : Int32) (a1 : Int32) (a2 : Int32) (σ : zSt) : Option (Int32 × zSt) :=
  (z_sg σ 0 456 ((nI 366) + ((nI 3) * a0)) a1).bind fun σ1 =>
  (z_sg σ1 0 456 (((nI 366) + ((nI 3) * a0)) + (nI 1)) a2).bind fun σ2 =>
  (z_sg σ2 0 456 (((nI 366) + ((nI 3) * a0)) + (nI 2)) (nI 0)).bind fun σ3 =>
  (if a2 < 0 then
  fX9_asks_j55 (nI 0) a1 a0 σ3
  else
  fX9_asks_j55 (nI 1) a1 a0 σ3)
def fX9_save_l51 (K51 : zSt → Option (zSt)) : Nat → Int32 → zSt → Option (zSt)
  | 0, _, _ => none
  | n + 1, y1, σ =>
  (if (nI 456) ≤ y1 then
  K51 σ
  else
  (z_ag (σ 0) 456 y1).bind fun x1 =>
  (z_sg σ 2 1824 (((nI 456) * (σ 5 0)) + y1) x1).bind fun σ2 =>
  (fX9_save_l51 K51 n) (y1 + nI 1) σ2)
def fX9_save_l10 (K10 : zSt → Option (zSt)) : Nat → Int32 → zSt → Option (zSt)
  | 0, _, _ => none
  | n + 1, y1, σ =>
  (if (nI 1368) ≤ y1 then
  K10 σ
  else
  (z_ag (σ 2) 1824 (y1 + (nI 456))).bind fun x5 =>
  (z_sg σ 2 1824 y1 x5).bind fun σ6 =>
  (fX9_save_l10 K10 n) (y1 + nI 1) σ6)
def fX9_save (σ : zSt) : Option (zSt) :=
  (if (σ 5 0) = (nI 4) then
  fX9_save_l10 (fun σ7 => (z_sf σ7 5 ((σ7 5 0) - (nI 1))).bind fun σ8 =>
  fX9_save_l51 (fun σ9 => (z_sf σ9 5 ((σ9 5 0) + (nI 1))).bind fun σ10 =>
  some σ10) z_fu (nI 0) σ8) z_fu (nI 0) σ
  else
  fX9_save_l51 (fun σ3 => (z_sf σ3 5 ((σ3 5 0) + (nI 1))).bind fun σ4 =>
  some σ4) z_fu (nI 0) σ)
def fX9_begin_j35  (σ : zSt) : Option (Int32 × zSt) :=
  z_b2 (fX9_fails (nI 1) σ) fun x3 σ4 =>
  some (x3, σ4)
def fX9_begin (a0 : Int32) (a1 : Int32) (a2 : Int32) (σ : zSt) : Option (Int32 × zSt) :=
  (z_sf σ 7 (nI 0)).bind fun σ1 =>
  (fX9_in a0 (nI 2) (nI 6) σ1).bind fun x2 =>
  (if x2 = 0 then
  fX9_begin_j35 σ1
  else
  (fX9_in a1 (nI 1) (nI 8) σ1).bind fun x5 =>
  (if x5 = 0 then
  fX9_begin_j35 σ1
  else
  (fX9_in a2 (nI 1) (nI 16) σ1).bind fun x6 =>
  (if x6 = 0 then
  fX9_begin_j35 σ1
  else
  (fX9_save  σ1).bind fun σ7 =>
  (z_ag (σ7 0) 456 (nI 4)).bind fun x8 =>
  (fX9_anew a0 a1 a2 σ7).bind fun σ9 =>
  some (x8, σ9))))
def fX9_bringBack_l2 (K2 : zSt → Option (zSt)) : Nat → Int32 → zSt → Option (zSt)
  | 0, _, _ => none
  | n + 1, y1, σ =>
  (if (nI 456) ≤ y1 then
  K2 σ
  else
  (z_ag (σ 1) 456 y1).bind fun x1 =>
  (z_sg σ 0 456 y1 x1).bind fun σ2 =>
  (fX9_bringBack_l2 K2 n) (y1 + nI 1) σ2)
def fX9_bringBack (σ : zSt) : Option (zSt) :=
  fX9_bringBack_l2 (fun σ3 => some σ3) z_fu (nI 0) σ
def fX9_sign_j44  (y2 : Int32) (w0 : Int32) (w1 : Int32) (σ : zSt) : Option (Int32 × zSt) :=
  (z_sf σ 8 (w1 + w0)).bind fun σ1 =>
  (z_bz y2).bind fun r => some (r, σ1)
def fX9_sign_j29  (w0 : Int32) (σ : zSt) : Option (Int32 × zSt) :=
  (if w0 = 0 then
  fX9_sign_j44 w0 (nI 0) (σ 8 0) σ
  else
  fX9_sign_j44 w0 (nI 1) (σ 8 0) σ)
def fX9_sign_j28  (σ : zSt) : Option (Int32 × zSt) :=
  fX9_sign_j29 (nI 0) σ
def fX9_sign (a0 : Int32) (σ : zSt) : Option (Int32 × zSt) :=
  (if (σ 6 0) ≤ (σ 8 0) then
  fX9_sign_j28 σ
  else
  (z_ag (σ 3) 100 (σ 8 0)).bind fun x2 =>
  (if x2 = a0 then
  fX9_sign_j29 (nI 1) σ
  else
  fX9_sign_j28 σ))
def fX9_isDigit (a0 : Int32) (σ : zSt) : Option (Int32) :=
  (if (σ 6 0) ≤ (σ 8 0) then
  z_bz (nI 0)
  else
  (z_ag (σ 3) 100 (σ 8 0)).bind fun x1 =>
  (fX9_in x1 (nI 48) a0 σ).bind fun x2 =>
  (if x2 = 0 then
  z_bz (nI 0)
  else
  z_bz (nI 1)))
def fX9_numberInto_l9 (K9 : Int32 → Int32 → Int32 → Int32 → Int32 → zSt → Option (Int32 × zSt)) : Nat → Int32 → Int32 → Int32 → Int32 → Int32 → Int32 → zSt → Option (Int32 × zSt)
  | 0, _, _, _, _, _, _, _ => none
  | n + 1, y1, y2, y3, y4, y5, y6, σ =>
  (fX9_isDigit (nI 57) σ).bind fun x1 =>
  (if x1 = 0 then
  K9 y1 y3 y4 y5 y6 σ
  else
  (if (y5 + y2) ≤ (σ 8 0) then
  K9 y1 y3 y4 y5 y6 σ
  else
  (z_ag (σ 3) 100 (σ 8 0)).bind fun x2 =>
  (z_sf σ 8 ((σ 8 0) + (nI 1))).bind fun σ3 =>
  (fX9_numberInto_l9 K9 n) y1 y2 y3 y4 y5 ((((nI 10) * y6) + x2) - (nI 48)) σ3))
def fX9_numberInto (a0 : Int32) (a1 : Int32) (a2 : Int32) (a3 : Int32) (σ : zSt) : Option (Int32 × zSt) :=
  fX9_numberInto_l9 (fun x4 x5 x6 x7 x8 σ9 => (if (σ9 8 0) = x7 then
  (z_bz (nI 0)).bind fun r => some (r, σ9)
  else
  (fX9_isDigit (nI 57) σ9).bind fun x10 =>
  (if x10 = 0 then
  (fX9_in x8 x5 x6 σ9).bind fun x11 =>
  (if x11 = 0 then
  (z_sf σ9 8 x7).bind fun σ13 =>
  (z_bz (nI 0)).bind fun r => some (r, σ13)
  else
  (z_sg σ9 4 4 x4 x8).bind fun σ12 =>
  (z_bz (nI 1)).bind fun r => some (r, σ12))
  else
  (z_bz (nI 0)).bind fun r => some (r, σ9)))) z_fu a0 a1 a2 a3 (σ 8 0) (nI 0) σ
def fX9_readOrder_j182  (σ : zSt) : Option (Int32 × zSt) :=
  z_b2 (fX9_sign (nI 59) σ) fun x17 σ18 =>
  (if x17 = 0 then
  (z_bz (nI 0)).bind fun r => some (r, σ18)
  else
  (z_bz (nI 1)).bind fun r => some (r, σ18))
def fX9_readOrder_j89  (σ : zSt) : Option (Int32 × zSt) :=
  (fX9_isDigit (nI 53) σ).bind fun x8 =>
  (if x8 = 0 then
  (z_bz (nI 0)).bind fun r => some (r, σ)
  else
  (z_ag (σ 3) 100 (σ 8 0)).bind fun x9 =>
  (z_sg σ 4 4 (nI 1) (x9 - (nI 48))).bind fun σ10 =>
  (z_sf σ10 8 ((σ10 8 0) + (nI 1))).bind fun σ11 =>
  z_b2 (fX9_sign (nI 58) σ11) fun x12 σ13 =>
  (if x12 = 0 then
  (z_bz (nI 0)).bind fun r => some (r, σ13)
  else
  z_b2 (fX9_numberInto (nI 2) (nI 2) (nI 0) (nI 31) σ13) fun x14 σ15 =>
  (if x14 = 0 then
  (z_bz (nI 0)).bind fun r => some (r, σ15)
  else
  (z_ag (σ15 4) 4 (nI 0)).bind fun x16 =>
  (if x16 = 0 then
  fX9_readOrder_j182 σ15
  else
  z_b2 (fX9_sign (nI 61) σ15) fun x19 σ20 =>
  (if x19 = 0 then
  (z_bz (nI 0)).bind fun r => some (r, σ20)
  else
  z_b2 (fX9_numberInto (nI 3) (nI 3) (nI 0) (nI 999) σ20) fun x21 σ22 =>
  (if x21 = 0 then
  (z_bz (nI 0)).bind fun r => some (r, σ22)
  else
  fX9_readOrder_j182 σ22))))))
def fX9_readOrder_j62  (w0 : Int32) (w1 : Int32) (σ : zSt) : Option (Int32 × zSt) :=
  (z_sg σ 4 4 w1 w0).bind fun σ5 =>
  (z_sg σ5 4 4 (nI 3) (-1)).bind fun σ6 =>
  (z_ag (σ6 4) 4 (nI 0)).bind fun x7 =>
  (if x7 = (nI 1) then
  z_b2 (fX9_sign (nI 119) σ6) fun x23 σ24 =>
  (if x23 = 0 then
  (z_bz (nI 0)).bind fun r => some (r, σ24)
  else
  fX9_readOrder_j89 σ24)
  else
  fX9_readOrder_j89 σ6)
def fX9_readOrder (σ : zSt) : Option (Int32 × zSt) :=
  z_b2 (fX9_sign (nI 116) σ) fun x1 σ2 =>
  (if x1 = 0 then
  z_b2 (fX9_sign (nI 114) σ2) fun x3 σ4 =>
  (if x3 = 0 then
  fX9_readOrder_j62 (nI 1) (nI 0) σ4
  else
  fX9_readOrder_j62 (nI 0) (nI 0) σ4)
  else
  (z_sg σ2 4 4 (nI 0) (nI 2)).bind fun σ25 =>
  z_b2 (fX9_numberInto (nI 3) (nI 2) (nI 1) (nI 50) σ25) fun x26 σ27 =>
  (if x26 = 0 then
  (z_bz (nI 0)).bind fun r => some (r, σ27)
  else
  z_b2 (fX9_sign (nI 59) σ27) fun x28 σ29 =>
  (if x28 = 0 then
  (z_bz (nI 0)).bind fun r => some (r, σ29)
  else
  (z_bz (nI 1)).bind fun r => some (r, σ29))))
def fX9_oldestPage_l6 (σ : zSt) (K6 : Int32 → Option (Int32)) : Nat → Int32 → Int32 → Option (Int32)
  | 0, _, _ => none
  | n + 1, y1, y2 =>
  (z_ag (σ 0) 456 (nI 3)).bind fun x1 =>
  (if x1 ≤ y2 then
  K6 y1
  else
  (z_ag (σ 0) 456 (((nI 302) + ((nI 4) * y2)) + (nI 3))).bind fun x2 =>
  (z_ag (σ 0) 456 (y1 + (nI 3))).bind fun x3 =>
  (if x3 ≤ x2 then
  (fX9_oldestPage_l6 σ K6 n) y1 (y2 + nI 1)
  else
  (fX9_oldestPage_l6 σ K6 n) ((nI 302) + ((nI 4) * y2)) (y2 + nI 1)))
def fX9_oldestPage (σ : zSt) : Option (Int32) :=
  fX9_oldestPage_l6 σ (fun x4 => some x4) z_fu (nI 302) (nI 1)
def fX9_tearOut_l60 (K60 : zSt → Option (zSt)) : Nat → Int32 → Int32 → zSt → Option (zSt)
  | 0, _, _, _ => none
  | n + 1, y1, y2, σ =>
  (if (nI 4) ≤ y2 then
  K60 σ
  else
  (z_ag (σ 0) 456 (nI 3)).bind fun x8 =>
  (z_ag (σ 0) 456 (((nI 302) + ((nI 4) * x8)) + y2)).bind fun x9 =>
  (z_sg σ 0 456 (y1 + y2) x9).bind fun σ10 =>
  (fX9_tearOut_l60 K60 n) y1 (y2 + nI 1) σ10)
def fX9_tearOut_j37  (y1 : Int32) (σ : zSt) : Option (zSt) :=
  (z_ag (σ 0) 456 (nI 10)).bind fun x4 =>
  (z_sg σ 0 456 (nI 10) (x4 + (nI 1))).bind fun σ5 =>
  (z_ag (σ5 0) 456 (nI 3)).bind fun x6 =>
  (z_sg σ5 0 456 (nI 3) (x6 - (nI 1))).bind fun σ7 =>
  fX9_tearOut_l60 (fun σ11 => some σ11) z_fu y1 (nI 0) σ7
def fX9_tearOut_j22  (y1 : Int32) (σ : zSt) : Option (zSt) :=
  (z_ag (σ 0) 456 y1).bind fun x2 =>
  (z_sg σ 0 456 ((nI 78) + x2) (nI 1)).bind fun σ3 =>
  fX9_tearOut_j37 y1 σ3
def fX9_tearOut (a0 : Int32) (σ : zSt) : Option (zSt) :=
  (z_ag (σ 0) 456 (a0 + (nI 1))).bind fun x1 =>
  (if 0 ≤ x1 then
  fX9_tearOut_j22 a0 σ
  else
  (z_ag (σ 0) 456 (a0 + (nI 2))).bind fun x12 =>
  (if x12 = 0 then
  fX9_tearOut_j37 a0 σ
  else
  fX9_tearOut_j22 a0 σ))
def fX9_opensPage_j151  (y2 : Int32) (w0 : Int32) (w1 : Int32) (w2 : Int32) (σ : zSt) : Option (Int32 × zSt) :=
  (z_sg σ 0 456 w2 (w1 + w0)).bind fun σ13 =>
  (if y2 = 0 then
  some (nI 1, σ13)
  else
  (z_ag (σ13 0) 456 (nI 0)).bind fun x14 =>
  some (x14 - (nI 1), σ13))
def fX9_opensPage_j113  (y1 : Int32) (y2 : Int32) (w0 : Int32) (w1 : Int32) (σ : zSt) : Option (Int32 × zSt) :=
  (z_sg σ 0 456 w1 w0).bind fun σ8 =>
  (z_ag (σ8 0) 456 (nI 3)).bind fun x9 =>
  (z_sg σ8 0 456 (nI 3) (x9 + (nI 1))).bind fun σ10 =>
  (z_sg σ10 0 456 ((nI 78) + y1) (nI 0)).bind fun σ11 =>
  (z_ag (σ11 0) 456 (nI 9)).bind fun x12 =>
  (if y2 = 0 then
  fX9_opensPage_j151 y2 (nI 0) x12 (nI 9) σ11
  else
  fX9_opensPage_j151 y2 (nI 1) x12 (nI 9) σ11)
def fX9_opensPage_j92  (y1 : Int32) (y2 : Int32) (y3 : Int32) (w0 : Int32) (w1 : Int32) (σ : zSt) : Option (Int32 × zSt) :=
  (z_sg σ 0 456 w1 w0).bind fun σ7 =>
  (if y2 = 0 then
  fX9_opensPage_j113 y1 y2 (nI 0) (y3 + (nI 2)) σ7
  else
  (fX9_sharersOf y1 σ7).bind fun x15 =>
  fX9_opensPage_j113 y1 y2 x15 (y3 + (nI 2)) σ7)
def fX9_opensPage_j51  (y1 : Int32) (w0 : Int32) (σ : zSt) : Option (Int32 × zSt) :=
  (z_ag (σ 0) 456 (nI 3)).bind fun x5 =>
  (z_sg σ 0 456 ((nI 302) + ((nI 4) * x5)) y1).bind fun σ6 =>
  (if w0 = 0 then
  fX9_opensPage_j92 y1 w0 ((nI 302) + ((nI 4) * x5)) (-1) (((nI 302) + ((nI 4) * x5)) + (nI 1)) σ6
  else
  (fX9_ownerOf y1 σ6).bind fun x16 =>
  fX9_opensPage_j92 y1 w0 ((nI 302) + ((nI 4) * x5)) x16 (((nI 302) + ((nI 4) * x5)) + (nI 1)) σ6)
def fX9_opensPage_j33  (y1 : Int32) (σ : zSt) : Option (Int32 × zSt) :=
  (z_ag (σ 0) 456 ((nI 78) + y1)).bind fun x4 =>
  (if x4 = (nI 1) then
  fX9_opensPage_j51 y1 (nI 1) σ
  else
  fX9_opensPage_j51 y1 (nI 0) σ)
def fX9_opensPage (a0 : Int32) (σ : zSt) : Option (Int32 × zSt) :=
  (fX9_pageOf a0 σ).bind fun x1 =>
  (if x1 < 0 then
  (z_ag (σ 0) 456 (nI 3)).bind fun x2 =>
  (z_ag (σ 0) 456 (nI 2)).bind fun x3 =>
  (if x2 = x3 then
  (fX9_oldestPage  σ).bind fun x17 =>
  (fX9_tearOut x17 σ).bind fun σ18 =>
  fX9_opensPage_j33 a0 σ18
  else
  fX9_opensPage_j33 a0 σ)
  else
  some (nI 1, σ))
def fX9_toMemory (a0 : Int32) (σ : zSt) : Option (zSt) :=
  (z_ag (σ 0) 456 a0).bind fun x1 =>
  (z_ag (σ 0) 456 (a0 + (nI 2))).bind fun x2 =>
  (z_sg σ 0 456 ((nI 14) + x1) x2).bind fun σ3 =>
  (z_ag (σ3 0) 456 (nI 11)).bind fun x4 =>
  (z_sg σ3 0 456 (nI 11) (x4 + (nI 1))).bind fun σ5 =>
  some σ5
def fX9_reachesOthers_j108  (C6 : Int32 → Int32 → Int32 → Int32 → Int32 → zSt → Option (Int32 × zSt)) (y1 : Int32) (y2 : Int32) (y3 : Int32) (y4 : Int32) (y5 : Int32) (w0 : Int32) (w1 : Int32) (σ : zSt) : Option (Int32 × zSt) :=
  (z_sg σ 0 456 w1 w0).bind fun σ4 =>
  C6 y1 y2 y3 y4 (y5 + nI 1) σ4
def fX9_reachesOthers_j78  (C6 : Int32 → Int32 → Int32 → Int32 → Int32 → zSt → Option (Int32 × zSt)) (y1 : Int32) (y2 : Int32) (y3 : Int32) (y4 : Int32) (y5 : Int32) (y6 : Int32) (σ : zSt) : Option (Int32 × zSt) :=
  (if y6 < 0 then
  C6 y1 y2 y3 y4 (y5 + nI 1) σ
  else
  (z_sg σ 0 456 (y6 + (nI 1)) (nI 1)).bind fun σ3 =>
  (if y3 = 0 then
  fX9_reachesOthers_j108 C6 y1 y2 y3 y4 y5 y2 y6 σ3
  else
  fX9_reachesOthers_j108 C6 y1 y2 y3 y4 y5 (-1) y6 σ3))
def fX9_reachesOthers_j66  (C6 : Int32 → Int32 → Int32 → Int32 → Int32 → zSt → Option (Int32 × zSt)) (y1 : Int32) (y2 : Int32) (y3 : Int32) (y4 : Int32) (y5 : Int32) (y6 : Int32) (σ : zSt) : Option (Int32 × zSt) :=
  (if y6 < 0 then
  fX9_reachesOthers_j78 C6 y1 y2 y3 y4 y5 y6 σ
  else
  (if y3 = 0 then
  fX9_reachesOthers_j78 C6 y1 y2 y3 y4 y5 y6 σ
  else
  fX9_reachesOthers_j78 C6 y1 y2 y3 (y4 + nI 1) y5 y6 σ))
def fX9_reachesOthers_j34  (C6 : Int32 → Int32 → Int32 → Int32 → Int32 → zSt → Option (Int32 × zSt)) (y1 : Int32) (y2 : Int32) (y3 : Int32) (y4 : Int32) (y5 : Int32) (w0 : Int32) (σ : zSt) : Option (Int32 × zSt) :=
  (if w0 < 0 then
  fX9_reachesOthers_j66 C6 y1 y2 y3 y4 y5 w0 σ
  else
  (z_ag (σ 0) 456 (w0 + (nI 1))).bind fun x5 =>
  (if x5 = (nI 2) then
  (fX9_toMemory w0 σ).bind fun σ6 =>
  fX9_reachesOthers_j78 C6 y1 y2 y3 (y4 + nI 2) y5 w0 σ6
  else
  fX9_reachesOthers_j66 C6 y1 y2 y3 y4 y5 w0 σ))
def fX9_reachesOthers_l6 (K6 : Int32 → zSt → Option (Int32 × zSt)) : Nat → Int32 → Int32 → Int32 → Int32 → Int32 → zSt → Option (Int32 × zSt)
  | 0, _, _, _, _, _, _ => none
  | n + 1, y1, y2, y3, y4, y5, σ =>
  (z_ag (σ 0) 456 (nI 0)).bind fun x1 =>
  (if x1 ≤ y5 then
  K6 y4 σ
  else
  (if y5 = y1 then
  fX9_reachesOthers_j34 (fX9_reachesOthers_l6 K6 n) y1 y2 y3 y4 y5 (-1) σ
  else
  (fX9_copyOf y5 y2 σ).bind fun x2 =>
  fX9_reachesOthers_j34 (fX9_reachesOthers_l6 K6 n) y1 y2 y3 y4 y5 x2 σ))
def fX9_reachesOthers (a0 : Int32) (a1 : Int32) (a2 : Int32) (σ : zSt) : Option (Int32 × zSt) :=
  fX9_reachesOthers_l6 (fun x7 σ8 => some (x7, σ8)) z_fu a0 a1 a2 (nI 0) (nI 0) σ
def fX9_oldestCopy_l8 (σ : zSt) (K8 : Int32 → Option (Int32)) : Nat → Int32 → Int32 → Int32 → Option (Int32)
  | 0, _, _, _ => none
  | n + 1, y1, y2, y3 =>
  (z_ag (σ 0) 456 (nI 1)).bind fun x2 =>
  (if x2 ≤ y3 then
  K8 y2
  else
  (fX9_slotAt y1 y3 σ).bind fun x3 =>
  (z_ag (σ 0) 456 (x3 + (nI 3))).bind fun x4 =>
  (z_ag (σ 0) 456 (y2 + (nI 3))).bind fun x5 =>
  (if x5 ≤ x4 then
  (fX9_oldestCopy_l8 σ K8 n) y1 y2 (y3 + nI 1)
  else
  (fX9_slotAt y1 y3 σ).bind fun x6 =>
  (fX9_oldestCopy_l8 σ K8 n) y1 x6 (y3 + nI 1)))
def fX9_oldestCopy (a0 : Int32) (σ : zSt) : Option (Int32) :=
  (fX9_slotAt a0 (nI 0) σ).bind fun x1 =>
  fX9_oldestCopy_l8 σ (fun x7 => some x7) z_fu a0 x1 (nI 1)
def fX9_throwAway_j96  (y2 : Int32) (y3 : Int32) (σ : zSt) : Option (Int32 × zSt) :=
  (z_sg σ 0 456 y2 (-1)).bind fun σ4 =>
  (if y3 = 0 then
  some (nI 0, σ4)
  else
  some (nI 1, σ4))
def fX9_throwAway_j78  (y1 : Int32) (y2 : Int32) (y3 : Int32) (y4 : Int32) (w0 : Int32) (w1 : Int32) (σ : zSt) : Option (Int32 × zSt) :=
  (z_sg σ 0 456 w1 w0).bind fun σ7 =>
  (z_ag (σ7 0) 456 (y4 + (nI 2))).bind fun x8 =>
  (z_sg σ7 0 456 (y4 + (nI 2)) (x8 &&& (((nI 1) <<< (y1 &&& 31)) ^^^ (-1)))).bind fun σ9 =>
  fX9_throwAway_j96 y2 y3 σ9
def fX9_throwAway_j27  (y1 : Int32) (y2 : Int32) (y3 : Int32) (σ : zSt) : Option (Int32 × zSt) :=
  (z_ag (σ 0) 456 y2).bind fun x2 =>
  (fX9_pageOf x2 σ).bind fun x3 =>
  (if x3 < 0 then
  fX9_throwAway_j96 y2 y3 σ
  else
  (z_ag (σ 0) 456 (x3 + (nI 1))).bind fun x5 =>
  (if x5 = y1 then
  fX9_throwAway_j78 y1 y2 y3 x3 (-1) (x3 + (nI 1)) σ
  else
  (z_ag (σ 0) 456 (x3 + (nI 1))).bind fun x6 =>
  fX9_throwAway_j78 y1 y2 y3 x3 x6 (x3 + (nI 1)) σ))
def fX9_throwAway_j17  (y1 : Int32) (y2 : Int32) (w0 : Int32) (σ : zSt) : Option (Int32 × zSt) :=
  (if w0 = 0 then
  fX9_throwAway_j27 y1 y2 w0 σ
  else
  (fX9_toMemory y2 σ).bind fun σ10 =>
  fX9_throwAway_j27 y1 y2 w0 σ10)
def fX9_throwAway (a0 : Int32) (a1 : Int32) (σ : zSt) : Option (Int32 × zSt) :=
  (z_ag (σ 0) 456 (a1 + (nI 1))).bind fun x1 =>
  (if x1 = (nI 2) then
  fX9_throwAway_j17 a0 a1 (nI 1) σ
  else
  fX9_throwAway_j17 a0 a1 (nI 0) σ)
def fX9_misses_j165  (y5 : Int32) (y7 : Int32) (w0 : Int32) (w1 : Int32) (σ : zSt) : Option (Int32 × zSt) :=
  (z_sg σ 0 456 w1 w0).bind fun σ13 =>
  (z_ag (σ13 0) 456 (nI 13)).bind fun x14 =>
  (z_sg σ13 0 456 (y7 + (nI 3)) (x14 + (nI 1))).bind fun σ15 =>
  some (y5, σ15)
def fX9_misses_j142  (y2 : Int32) (y4 : Int32) (y5 : Int32) (y7 : Int32) (w0 : Int32) (w1 : Int32) (σ : zSt) : Option (Int32 × zSt) :=
  (z_sg σ 0 456 w1 w0).bind fun σ11 =>
  (if y4 = 0 then
  (fX9_sharersOf y2 σ11).bind fun x12 =>
  fX9_misses_j165 y5 y7 x12 (y7 + (nI 2)) σ11
  else
  fX9_misses_j165 y5 y7 (nI 0) (y7 + (nI 2)) σ11)
def fX9_misses_j98  (y1 : Int32) (y2 : Int32) (y4 : Int32) (y5 : Int32) (y6 : Int32) (w0 : Int32) (w1 : Int32) (σ : zSt) : Option (Int32 × zSt) :=
  (z_sg σ 0 456 w1 w0).bind fun σ7 =>
  (z_ag (σ7 0) 456 ((nI 14) + y2)).bind fun x8 =>
  (z_sg σ7 0 456 (y6 + (nI 2)) x8).bind fun σ9 =>
  (fX9_pageOf y2 σ9).bind fun x10 =>
  (if y4 = 0 then
  fX9_misses_j142 y2 y4 y5 x10 (-1) (x10 + (nI 1)) σ9
  else
  fX9_misses_j142 y2 y4 y5 x10 y1 (x10 + (nI 1)) σ9)
def fX9_misses_j72  (y1 : Int32) (y2 : Int32) (y4 : Int32) (y5 : Int32) (y6 : Int32) (σ : zSt) : Option (Int32 × zSt) :=
  (z_sg σ 0 456 y6 y2).bind fun σ6 =>
  (if y4 = 0 then
  fX9_misses_j98 y1 y2 y4 y5 y6 (nI 1) (y6 + (nI 1)) σ6
  else
  fX9_misses_j98 y1 y2 y4 y5 y6 (nI 2) (y6 + (nI 1)) σ6)
def fX9_misses_j48  (y1 : Int32) (y2 : Int32) (y4 : Int32) (y5 : Int32) (y6 : Int32) (σ : zSt) : Option (Int32 × zSt) :=
  (if 0 ≤ y6 then
  fX9_misses_j72 y1 y2 y4 y5 y6 σ
  else
  (fX9_oldestCopy y1 σ).bind fun x16 =>
  z_b2 (fX9_throwAway y1 x16 σ) fun x17 σ18 =>
  fX9_misses_j72 y1 y2 y4 (y5 + x17) x16 σ18)
def fX9_misses_j9  (y1 : Int32) (y2 : Int32) (w0 : Int32) (σ : zSt) : Option (Int32 × zSt) :=
  z_b2 (fX9_opensPage y2 σ) fun x1 σ2 =>
  z_b2 (fX9_reachesOthers y1 y2 w0 σ2) fun x3 σ4 =>
  (fX9_copyOf y1 y2 σ4).bind fun x5 =>
  (if 0 ≤ x5 then
  fX9_misses_j48 y1 y2 w0 (x1 + x3) x5 σ4
  else
  (fX9_copyOf y1 (-1) σ4).bind fun x19 =>
  fX9_misses_j48 y1 y2 w0 (x1 + x3) x19 σ4)
def fX9_misses (a0 : Int32) (a1 : Int32) (a2 : Int32) (σ : zSt) : Option (Int32 × zSt) :=
  (if a2 < 0 then
  fX9_misses_j9 a0 a1 (nI 0) σ
  else
  fX9_misses_j9 a0 a1 (nI 1) σ)
def fX9_serves_l149 (K149 : Int32 → Int32 → Int32 → Int32 → Int32 → zSt → Option (Int32 × zSt)) : Nat → Int32 → Int32 → Int32 → Int32 → Int32 → Int32 → zSt → Option (Int32 × zSt)
  | 0, _, _, _, _, _, _, _ => none
  | n + 1, y1, y2, y3, y5, y6, y7, σ =>
  (if y7 ≤ (nI 5) then
  K149 y1 y2 y3 y5 y6 σ
  else
  (z_ag (σ 0) 456 (((nI 384) + y7) - (nI 6))).bind fun x15 =>
  (z_sg σ 0 456 ((nI 384) + y7) x15).bind fun σ16 =>
  (fX9_serves_l149 K149 n) y1 y2 y3 y5 y6 (y7 + (-1)) σ16)
def fX9_serves_j287  (y5 : Int32) (w0 : Int32) (w1 : Int32) (w2 : Int32) (σ : zSt) : Option (Int32 × zSt) :=
  (z_sg σ 0 456 w2 (w1 + w0)).bind fun σ33 =>
  some (y5, σ33)
def fX9_serves_j220  (y5 : Int32) (y6 : Int32) (w0 : Int32) (w1 : Int32) (σ : zSt) : Option (Int32 × zSt) :=
  (z_sg σ 0 456 w1 w0).bind fun σ25 =>
  (z_ag (σ25 0) 456 (y6 + (nI 2))).bind fun x26 =>
  (z_sg σ25 0 456 (nI 387) x26).bind fun σ27 =>
  (z_sg σ27 0 456 (nI 388) y5).bind fun σ28 =>
  (z_ag (σ28 0) 456 (nI 4)).bind fun x29 =>
  (z_sg σ28 0 456 (nI 389) x29).bind fun σ30 =>
  (z_ag (σ30 0) 456 (nI 12)).bind fun x31 =>
  (z_ag (σ30 0) 456 (nI 12)).bind fun x32 =>
  (if (nI 12) ≤ x32 then
  fX9_serves_j287 y5 (nI 0) x31 (nI 12) σ30
  else
  fX9_serves_j287 y5 (nI 1) x31 (nI 12) σ30)
def fX9_serves_j132  (y1 : Int32) (y2 : Int32) (y3 : Int32) (y5 : Int32) (y6 : Int32) (w0 : Int32) (w1 : Int32) (w2 : Int32) (σ : zSt) : Option (Int32 × zSt) :=
  (z_sg σ 0 456 w2 (w1 + w0)).bind fun σ12 =>
  (z_ag (σ12 0) 456 (nI 5)).bind fun x13 =>
  (z_sg σ12 0 456 (nI 5) (x13 + y5)).bind fun σ14 =>
  fX9_serves_l149 (fun x17 x18 x19 x20 x21 σ22 => (z_sg σ22 0 456 (nI 384) x17).bind fun σ23 =>
  (z_sg σ23 0 456 (nI 385) x18).bind fun σ24 =>
  (if x19 < 0 then
  fX9_serves_j220 x20 x21 (nI 0) (nI 386) σ24
  else
  fX9_serves_j220 x20 x21 (nI 1) (nI 386) σ24)) z_fu y1 y2 y3 y5 y6 (nI 71) σ14
def fX9_serves_j112  (y1 : Int32) (y2 : Int32) (y3 : Int32) (y4 : Int32) (y5 : Int32) (y6 : Int32) (w0 : Int32) (w1 : Int32) (w2 : Int32) (σ : zSt) : Option (Int32 × zSt) :=
  (z_sg σ 0 456 w2 (w1 + w0)).bind fun σ10 =>
  (z_ag (σ10 0) 456 (nI 7)).bind fun x11 =>
  (if y4 = 0 then
  fX9_serves_j132 y1 y2 y3 y5 y6 (nI 1) x11 (nI 7) σ10
  else
  fX9_serves_j132 y1 y2 y3 y5 y6 (nI 0) x11 (nI 7) σ10)
def fX9_serves_j67  (y1 : Int32) (y2 : Int32) (y3 : Int32) (y4 : Int32) (y5 : Int32) (y6 : Int32) (σ : zSt) : Option (Int32 × zSt) :=
  (z_ag (σ 0) 456 (nI 13)).bind fun x5 =>
  (z_sg σ 0 456 (nI 13) (x5 + (nI 1))).bind fun σ6 =>
  (z_ag (σ6 0) 456 (nI 13)).bind fun x7 =>
  (z_sg σ6 0 456 (y6 + (nI 3)) x7).bind fun σ8 =>
  (z_ag (σ8 0) 456 (nI 6)).bind fun x9 =>
  (if y4 = 0 then
  fX9_serves_j112 y1 y2 y3 y4 y5 y6 (nI 0) x9 (nI 6) σ8
  else
  fX9_serves_j112 y1 y2 y3 y4 y5 y6 (nI 1) x9 (nI 6) σ8)
def fX9_serves_j33  (y1 : Int32) (y2 : Int32) (y3 : Int32) (y4 : Int32) (w0 : Int32) (σ : zSt) : Option (Int32 × zSt) :=
  (fX9_copyOf y1 y2 σ).bind fun x4 =>
  (if y3 < 0 then
  fX9_serves_j67 y1 y2 y3 y4 w0 x4 σ
  else
  (z_sg σ 0 456 (x4 + (nI 2)) y3).bind fun σ34 =>
  (z_sg σ34 0 456 ((nI 46) + y2) y3).bind fun σ35 =>
  fX9_serves_j67 y1 y2 y3 y4 w0 x4 σ35)
def fX9_serves_j12  (y1 : Int32) (y2 : Int32) (y3 : Int32) (w0 : Int32) (w1 : Int32) (w2 : Int32) (σ : zSt) : Option (Int32 × zSt) :=
  (fX9_isHit w2 w1 w0 σ).bind fun x1 =>
  (if x1 = 0 then
  z_b2 (fX9_misses y1 y2 y3 σ) fun x2 σ3 =>
  fX9_serves_j33 y1 y2 y3 x1 x2 σ3
  else
  fX9_serves_j33 y1 y2 y3 x1 (nI 0) σ)
def fX9_serves (a0 : Int32) (a1 : Int32) (a2 : Int32) (σ : zSt) : Option (Int32 × zSt) :=
  (if a2 < 0 then
  fX9_serves_j12 a0 a1 a2 (nI 0) a1 a0 σ
  else
  fX9_serves_j12 a0 a1 a2 (nI 1) a1 a0 σ)
def fX9_tick_j112  (C6 : Int32 → Int32 → Int32 → zSt → Option (Int32 × zSt)) (y2 : Int32) (y3 : Int32) (y4 : Int32) (y5 : Int32) (y6 : Int32) (w0 : Int32) (w1 : Int32) (σ : zSt) : Option (Int32 × zSt) :=
  (z_ag (σ 0) 456 (y5 + (nI 1))).bind fun x8 =>
  z_b2 (fX9_serves y4 y6 x8 σ) fun x9 σ10 =>
  (z_sg σ10 0 456 y5 (-1)).bind fun σ11 =>
  C6 (w1 ||| w0) (y2 + nI 1) (y3 + nI 1) σ11
def fX9_tick_j98  (C6 : Int32 → Int32 → Int32 → zSt → Option (Int32 × zSt)) (y1 : Int32) (y2 : Int32) (y3 : Int32) (y4 : Int32) (y5 : Int32) (y6 : Int32) (y7 : Int32) (σ : zSt) : Option (Int32 × zSt) :=
  (if y7 = 0 then
  fX9_tick_j112 C6 y2 y3 y4 y5 y6 ((nI 1) <<< (y6 &&& 31)) y1 σ
  else
  fX9_tick_j112 C6 y2 y3 y4 y5 y6 (nI 0) y1 σ)
def fX9_tick_j79  (C6 : Int32 → Int32 → Int32 → zSt → Option (Int32 × zSt)) (y1 : Int32) (y2 : Int32) (y3 : Int32) (y4 : Int32) (y5 : Int32) (y6 : Int32) (w0 : Int32) (w1 : Int32) (w2 : Int32) (σ : zSt) : Option (Int32 × zSt) :=
  (fX9_isHit w2 w1 w0 σ).bind fun x7 =>
  (if x7 = 0 then
  (if (((y1.toUInt32 >>> (y6.toUInt32 &&& Int32.toUInt32 31)).toInt32) &&& (nI 1)) = 0 then
  fX9_tick_j98 C6 y1 y2 y3 y4 y5 y6 x7 σ
  else
  (z_ag (σ 0) 456 (y5 + (nI 2))).bind fun x12 =>
  (z_sg σ 0 456 (y5 + (nI 2)) (x12 + (nI 1))).bind fun σ13 =>
  (z_ag (σ13 0) 456 (nI 8)).bind fun x14 =>
  (z_sg σ13 0 456 (nI 8) (x14 + (nI 1))).bind fun σ15 =>
  C6 y1 y2 (y3 + nI 1) σ15)
  else
  fX9_tick_j98 C6 y1 y2 y3 y4 y5 y6 x7 σ)
def fX9_tick_l6 (K6 : Int32 → zSt → Option (Int32 × zSt)) : Nat → Int32 → Int32 → Int32 → zSt → Option (Int32 × zSt)
  | 0, _, _, _, _ => none
  | n + 1, y1, y2, y3, σ =>
  (z_ag (σ 0) 456 (nI 0)).bind fun x1 =>
  (if x1 ≤ y3 then
  K6 y2 σ
  else
  (z_ag (σ 0) 456 (nI 4)).bind fun x2 =>
  (z_ag (σ 0) 456 (nI 0)).bind fun x3 =>
  (z_rm (x2 + y3) x3).bind fun x4 =>
  (z_ag (σ 0) 456 ((nI 366) + ((nI 3) * x4))).bind fun x5 =>
  (if x5 < 0 then
  (fX9_tick_l6 K6 n) y1 y2 (y3 + nI 1) σ
  else
  (z_ag (σ 0) 456 (((nI 366) + ((nI 3) * x4)) + (nI 1))).bind fun x6 =>
  (if x6 < 0 then
  fX9_tick_j79 (fX9_tick_l6 K6 n) y1 y2 y3 x4 ((nI 366) + ((nI 3) * x4)) x5 (nI 0) x5 x4 σ
  else
  fX9_tick_j79 (fX9_tick_l6 K6 n) y1 y2 y3 x4 ((nI 366) + ((nI 3) * x4)) x5 (nI 1) x5 x4 σ)))
def fX9_tick (σ : zSt) : Option (Int32 × zSt) :=
  fX9_tick_l6 (fun x16 σ17 => (z_ag (σ17 0) 456 (nI 4)).bind fun x18 =>
  (z_sg σ17 0 456 (nI 4) (x18 + (nI 1))).bind fun σ19 =>
  some (x16, σ19)) z_fu (nI 0) (nI 0) (nI 0) σ
def fX9_ticks_l4 (K4 : Int32 → zSt → Option (Int32 × zSt)) : Nat → Int32 → Int32 → Int32 → zSt → Option (Int32 × zSt)
  | 0, _, _, _, _ => none
  | n + 1, y1, y2, y3, σ =>
  (if y1 ≤ y3 then
  K4 y2 σ
  else
  z_b2 (fX9_tick  σ) fun x1 σ2 =>
  (fX9_ticks_l4 K4 n) y1 (y2 + x1) (y3 + nI 1) σ2)
def fX9_ticks (a0 : Int32) (σ : zSt) : Option (Int32 × zSt) :=
  fX9_ticks_l4 (fun x3 σ4 => some (x3, σ4)) z_fu a0 (nI 0) (nI 0) σ
def fX9_isCache (a0 : Int32) (σ : zSt) : Option (Int32) :=
  (z_ag (σ 0) 456 (nI 0)).bind fun x1 =>
  (fX9_in a0 (nI 0) (x1 - (nI 1)) σ).bind fun x2 =>
  z_bz x2
def fX9_doOrder_j86  (w0 : Int32) (σ : zSt) : Option (Int32 × zSt) :=
  (if w0 = 0 then
  (z_bz w0).bind fun r => some (r, σ)
  else
  (z_ag (σ 4) 4 (nI 1)).bind fun x4 =>
  (z_ag (σ 4) 4 (nI 2)).bind fun x5 =>
  (z_ag (σ 4) 4 (nI 3)).bind fun x6 =>
  z_b2 (fX9_asks x4 x5 x6 σ) fun x7 σ8 =>
  (z_bz w0).bind fun r => some (r, σ8))
def fX9_doOrder_j85  (σ : zSt) : Option (Int32 × zSt) :=
  fX9_doOrder_j86 (nI 0) σ
def fX9_doOrder_j49  (y1 : Int32) (w0 : Int32) (σ : zSt) : Option (Int32 × zSt) :=
  z_b2 (fX9_ticks w0 σ) fun x13 σ14 =>
  (z_bz y1).bind fun r => some (r, σ14)
def fX9_doOrder_j33  (w0 : Int32) (σ : zSt) : Option (Int32 × zSt) :=
  (if w0 = 0 then
  fX9_doOrder_j49 w0 (nI 0) σ
  else
  (z_ag (σ 4) 4 (nI 3)).bind fun x15 =>
  fX9_doOrder_j49 w0 x15 σ)
def fX9_doOrder (σ : zSt) : Option (Int32 × zSt) :=
  (z_ag (σ 4) 4 (nI 0)).bind fun x1 =>
  (if x1 = (nI 2) then
  (z_ag (σ 0) 456 (nI 4)).bind fun x11 =>
  (z_ag (σ 4) 4 (nI 3)).bind fun x12 =>
  (if (nI 100000) < (x11 + x12) then
  fX9_doOrder_j33 (nI 0) σ
  else
  fX9_doOrder_j33 (nI 1) σ)
  else
  (z_ag (σ 4) 4 (nI 1)).bind fun x2 =>
  (fX9_isCache x2 σ).bind fun x3 =>
  (if x3 = 0 then
  fX9_doOrder_j85 σ
  else
  (z_ag (σ 4) 4 (nI 1)).bind fun x9 =>
  (fX9_isAsking x9 σ).bind fun x10 =>
  (if x10 = 0 then
  fX9_doOrder_j86 (nI 1) σ
  else
  fX9_doOrder_j85 σ)))
def fX9_carryOut_l12 (K12 : Int32 → zSt → Option (Int32 × zSt)) : Nat → Int32 → zSt → Option (Int32 × zSt)
  | 0, _, _ => none
  | n + 1, y1, σ =>
  (if y1 = 0 then
  K12 y1 σ
  else
  (if (σ 6 0) ≤ (σ 8 0) then
  K12 y1 σ
  else
  z_b2 (fX9_readOrder  σ) fun x3 σ4 =>
  (fX9_carryOut_l12 K12 n) x3 σ4))
def fX9_carryOut_j93  (C58 : Int32 → Int32 → zSt → Option (Int32 × zSt)) (y1 : Int32) (w0 : Int32) (w1 : Int32) (σ : zSt) : Option (Int32 × zSt) :=
  C58 y1 (w1 + w0) σ
def fX9_carryOut_l58 (K58 : Int32 → zSt → Option (Int32 × zSt)) : Nat → Int32 → Int32 → zSt → Option (Int32 × zSt)
  | 0, _, _, _ => none
  | n + 1, y1, y2, σ =>
  (if y1 = 0 then
  K58 y2 σ
  else
  (if (σ 6 0) ≤ (σ 8 0) then
  K58 y2 σ
  else
  z_b2 (fX9_readOrder  σ) fun x9 σ10 =>
  z_b2 (fX9_doOrder  σ10) fun x11 σ12 =>
  (if x11 = 0 then
  fX9_carryOut_j93 (fX9_carryOut_l58 K58 n) x11 (nI 0) y2 σ12
  else
  fX9_carryOut_j93 (fX9_carryOut_l58 K58 n) x11 (nI 1) y2 σ12)))
def fX9_carryOut (σ : zSt) : Option (Int32 × zSt) :=
  (z_sf σ 7 (nI 0)).bind fun σ1 =>
  (z_sf σ1 8 (nI 0)).bind fun σ2 =>
  fX9_carryOut_l12 (fun x5 σ6 => (if x5 = 0 then
  some ((-10) - (σ6 8 0), σ6)
  else
  (fX9_save  σ6).bind fun σ7 =>
  (z_sf σ7 8 (nI 0)).bind fun σ8 =>
  fX9_carryOut_l58 (fun x13 σ14 => some (x13, σ14)) z_fu x5 (nI 0) σ8)) z_fu (nI 1) σ2
def fX9_isLine (a0 : Int32) (σ : zSt) : Option (Int32) :=
  (fX9_in a0 (nI 0) (nI 31) σ).bind fun x1 =>
  z_bz x1
def fX9_keep_l2 (K2 : zSt → Option (zSt)) : Nat → Int32 → zSt → Option (zSt)
  | 0, _, _ => none
  | n + 1, y1, σ =>
  (if (nI 456) ≤ y1 then
  K2 σ
  else
  (z_ag (σ 0) 456 y1).bind fun x1 =>
  (z_sg σ 1 456 y1 x1).bind fun σ2 =>
  (fX9_keep_l2 K2 n) (y1 + nI 1) σ2)
def fX9_keep (σ : zSt) : Option (zSt) :=
  fX9_keep_l2 (fun σ3 => some σ3) z_fu (nI 0) σ
def fX9_costOf_j16  (w0 : Int32) (w1 : Int32) (w2 : Int32) (σ : zSt) : Option (Int32 × zSt) :=
  z_b2 (fX9_serves w2 w1 w0 σ) fun x2 σ3 =>
  (fX9_bringBack  σ3).bind fun σ4 =>
  some (x2, σ4)
def fX9_costOf (a0 : Int32) (a1 : Int32) (a2 : Int32) (σ : zSt) : Option (Int32 × zSt) :=
  (fX9_keep  σ).bind fun σ1 =>
  (if a2 = 0 then
  fX9_costOf_j16 (-1) a1 a0 σ1
  else
  fX9_costOf_j16 (nI 0) a1 a0 σ1)
def fX9_cheapest_j66  (C32 : Int32 → Int32 → Int32 → Int32 → Int32 → zSt → Option (Int32 × zSt)) (y1 : Int32) (y2 : Int32) (y4 : Int32) (y5 : Int32) (y6 : Int32) (w0 : Int32) (σ : zSt) : Option (Int32 × zSt) :=
  (if y4 ≤ y6 then
  C32 y1 y2 w0 y4 (y5 + nI 1) σ
  else
  C32 y1 y2 w0 y6 (y5 + nI 1) σ)
def fX9_cheapest_l32 (K32 : Int32 → zSt → Option (Int32 × zSt)) : Nat → Int32 → Int32 → Int32 → Int32 → Int32 → zSt → Option (Int32 × zSt)
  | 0, _, _, _, _, _, _ => none
  | n + 1, y1, y2, y3, y4, y5, σ =>
  (z_ag (σ 0) 456 (nI 0)).bind fun x5 =>
  (if x5 ≤ y5 then
  K32 y3 σ
  else
  z_b2 (fX9_costOf y5 y1 y2 σ) fun x6 σ7 =>
  (if y4 ≤ x6 then
  fX9_cheapest_j66 (fX9_cheapest_l32 K32 n) y1 y2 y4 y5 x6 y3 σ7
  else
  fX9_cheapest_j66 (fX9_cheapest_l32 K32 n) y1 y2 y4 y5 x6 y5 σ7))
def fX9_cheapest (a0 : Int32) (a1 : Int32) (σ : zSt) : Option (Int32 × zSt) :=
  (z_sf σ 7 (nI 0)).bind fun σ1 =>
  (fX9_isLine a0 σ1).bind fun x2 =>
  (if x2 = 0 then
  z_b2 (fX9_fails (nI 1) σ1) fun x10 σ11 =>
  some (x10, σ11)
  else
  z_b2 (fX9_costOf (nI 0) a0 a1 σ1) fun x3 σ4 =>
  fX9_cheapest_l32 (fun x8 σ9 => some (x8, σ9)) z_fu a0 a1 (nI 0) x3 (nI 1) σ4)
def fX9_clearText (σ : zSt) : Option (Int32 × zSt) :=
  (z_sf σ 7 (nI 0)).bind fun σ1 =>
  (z_sf σ1 6 (nI 0)).bind fun σ2 =>
  some (σ1 6 0, σ2)
def fX9_copy_j20  (σ : zSt) : Option (Int32 × zSt) :=
  z_b2 (fX9_fails (nI 1) σ) fun x3 σ4 =>
  some (x3, σ4)
def fX9_copy (a0 : Int32) (a1 : Int32) (a2 : Int32) (σ : zSt) : Option (Int32 × zSt) :=
  (z_sf σ 7 (nI 0)).bind fun σ1 =>
  (fX9_isCache a0 σ1).bind fun x2 =>
  (if x2 = 0 then
  fX9_copy_j20 σ1
  else
  (fX9_isLine a1 σ1).bind fun x5 =>
  (if x5 = 0 then
  fX9_copy_j20 σ1
  else
  (fX9_in a2 (nI 0) (nI 3) σ1).bind fun x6 =>
  (if x6 = 0 then
  z_b2 (fX9_fails (nI 2) σ1) fun x7 σ8 =>
  some (x7, σ8)
  else
  (fX9_aboutCopy a0 a1 a2 σ1).bind fun x9 =>
  some (x9, σ1))))
def fX9_cost_j30  (σ : zSt) : Option (Int32 × zSt) :=
  z_b2 (fX9_fails (nI 1) σ) fun x3 σ4 =>
  some (x3, σ4)
def fX9_cost (a0 : Int32) (a1 : Int32) (a2 : Int32) (σ : zSt) : Option (Int32 × zSt) :=
  (z_sf σ 7 (nI 0)).bind fun σ1 =>
  (fX9_isCache a0 σ1).bind fun x2 =>
  (if x2 = 0 then
  fX9_cost_j30 σ1
  else
  (fX9_isLine a1 σ1).bind fun x5 =>
  (if x5 = 0 then
  fX9_cost_j30 σ1
  else
  z_b2 (fX9_costOf a0 a1 a2 σ1) fun x6 σ7 =>
  some (x6, σ7)))
def fX9_waiting_j28 (σ : zSt) (C4 : Int32 → Int32 → Option (Int32)) (y2 : Int32) (w0 : Int32) (w1 : Int32) : Option (Int32) :=
  C4 (w1 + w0) (y2 + nI 1)
def fX9_waiting_l4 (σ : zSt) (K4 : Int32 → Option (Int32)) : Nat → Int32 → Int32 → Option (Int32)
  | 0, _, _ => none
  | n + 1, y1, y2 =>
  (z_ag (σ 0) 456 (nI 0)).bind fun x1 =>
  (if x1 ≤ y2 then
  K4 y1
  else
  (fX9_isAsking y2 σ).bind fun x2 =>
  (if x2 = 0 then
  fX9_waiting_j28 σ (fX9_waiting_l4 σ K4 n) y2 (nI 0) y1
  else
  fX9_waiting_j28 σ (fX9_waiting_l4 σ K4 n) y2 (nI 1) y1))
def fX9_waiting (σ : zSt) : Option (Int32) :=
  fX9_waiting_l4 σ (fun x3 => some x3) z_fu (nI 0) (nI 0)
def fX9_number (a0 : Int32) (σ : zSt) : Option (Int32) :=
  (if a0 = (nI 12) then
  (fX9_waiting  σ).bind fun x3 =>
  some x3
  else
  (if a0 = (nI 13) then
  (z_ag (σ 0) 456 (nI 12)).bind fun x2 =>
  some x2
  else
  (z_ag (σ 0) 456 a0).bind fun x1 =>
  some x1))
def fX9_nextTorn (σ : zSt) : Option (Int32 × zSt) :=
  (z_sf σ 7 (nI 0)).bind fun σ1 =>
  (z_ag (σ1 0) 456 (nI 3)).bind fun x2 =>
  (z_ag (σ1 0) 456 (nI 2)).bind fun x3 =>
  (if x2 = x3 then
  (fX9_oldestPage  σ1).bind fun x4 =>
  (z_ag (σ1 0) 456 x4).bind fun x5 =>
  some (x5, σ1)
  else
  some ((-1), σ1))
def fX9_digest_l17 (K17 : Int64 → zSt → Option (Int64 × zSt)) : Nat → Int64 → Int32 → zSt → Option (Int64 × zSt)
  | 0, _, _, _ => none
  | n + 1, y1, y3, σ =>
  (if (nI 14) ≤ y3 then
  K17 y1 σ
  else
  (fX9_number y3 σ).bind fun x2 =>
  (fX9_digest_l17 K17 n) (((31 : Int64) * y1) + x2.toInt64) (y3 + nI 1) σ)
def fX9_digest_l53 (K53 : Int64 → Int32 → zSt → Option (Int64 × zSt)) : Nat → Int64 → Int32 → Int32 → zSt → Option (Int64 × zSt)
  | 0, _, _, _, _ => none
  | n + 1, y1, y3, y4, σ =>
  (if (nI 8) ≤ y4 then
  K53 y1 y3 σ
  else
  (fX9_aboutLine y3 y4 σ).bind fun x5 =>
  (fX9_digest_l53 K53 n) (((31 : Int64) * y1) + x5.toInt64) y3 (y4 + nI 1) σ)
def fX9_digest_l84 (K84 : Int64 → Int32 → zSt → Option (Int64 × zSt)) : Nat → Int64 → Int32 → Int32 → zSt → Option (Int64 × zSt)
  | 0, _, _, _, _ => none
  | n + 1, y1, y3, y4, σ =>
  (z_ag (σ 0) 456 (nI 0)).bind fun x9 =>
  (if ((nI 4) * x9) ≤ y4 then
  K84 y1 y3 σ
  else
  (z_dv y4 (nI 4)).bind fun x10 =>
  (z_rm y4 (nI 4)).bind fun x11 =>
  (fX9_aboutCopy x10 y3 x11 σ).bind fun x12 =>
  (fX9_digest_l84 K84 n) (((31 : Int64) * y1) + x12.toInt64) y3 (y4 + nI 1) σ)
def fX9_digest_l44 (K44 : Int64 → zSt → Option (Int64 × zSt)) : Nat → Int64 → Int32 → zSt → Option (Int64 × zSt)
  | 0, _, _, _ => none
  | n + 1, y1, y3, σ =>
  (if (nI 32) ≤ y3 then
  K44 y1 σ
  else
  fX9_digest_l53 (fun x6 x7 σ8 => fX9_digest_l84 (fun x13 x14 σ15 => (fX9_digest_l44 K44 n) x13 (x14 + nI 1) σ15) z_fu x6 x7 (nI 0) σ8) z_fu y1 y3 (nI 0) σ)
def fX9_digest_l132 (K132 : Int64 → zSt → Option (Int64 × zSt)) : Nat → Int64 → Int32 → zSt → Option (Int64 × zSt)
  | 0, _, _, _ => none
  | n + 1, y1, y3, σ =>
  (z_ag (σ 0) 456 (nI 0)).bind fun x18 =>
  (if ((nI 3) * x18) ≤ y3 then
  K132 y1 σ
  else
  (z_dv y3 (nI 3)).bind fun x19 =>
  (z_rm y3 (nI 3)).bind fun x20 =>
  (fX9_aboutPending x19 x20 σ).bind fun x21 =>
  (fX9_digest_l132 K132 n) (((31 : Int64) * y1) + x21.toInt64) (y3 + nI 1) σ)
def fX9_digest_l170 (K170 : Int64 → zSt → Option (Int64 × zSt)) : Nat → Int64 → Int32 → zSt → Option (Int64 × zSt)
  | 0, _, _, _ => none
  | n + 1, y1, y3, σ =>
  (z_ag (σ 0) 456 (nI 12)).bind fun x24 =>
  (if ((nI 6) * x24) ≤ y3 then
  K170 y1 σ
  else
  (z_ag (σ 0) 456 ((nI 384) + y3)).bind fun x25 =>
  (fX9_digest_l170 K170 n) (((31 : Int64) * y1) + x25.toInt64) (y3 + nI 1) σ)
def fX9_digest (σ : zSt) : Option (Int64 × zSt) :=
  (z_sf σ 7 (nI 0)).bind fun σ1 =>
  fX9_digest_l17 (fun x3 σ4 => fX9_digest_l44 (fun x16 σ17 => fX9_digest_l132 (fun x22 σ23 => fX9_digest_l170 (fun x26 σ27 => z_b2 (fX9_nextTorn  σ27) fun x28 σ29 =>
  some (((31 : Int64) * (((31 : Int64) * x26) + x28.toInt64)) + ((σ29 5 0).toInt64), σ29)) z_fu x22 (nI 0) σ23) z_fu x16 (nI 0) σ17) z_fu x3 (nI 0) σ4) z_fu ((113987 : Int64) + ((σ1 6 0).toInt64)) (nI 0) σ1
def fX9_drop_j20  (σ : zSt) : Option (Int32 × zSt) :=
  z_b2 (fX9_fails (nI 1) σ) fun x3 σ4 =>
  some (x3, σ4)
def fX9_drop (a0 : Int32) (a1 : Int32) (σ : zSt) : Option (Int32 × zSt) :=
  (z_sf σ 7 (nI 0)).bind fun σ1 =>
  (fX9_isCache a0 σ1).bind fun x2 =>
  (if x2 = 0 then
  fX9_drop_j20 σ1
  else
  (fX9_isLine a1 σ1).bind fun x5 =>
  (if x5 = 0 then
  fX9_drop_j20 σ1
  else
  (fX9_copyOf a0 a1 σ1).bind fun x6 =>
  (if 0 ≤ x6 then
  (fX9_save  σ1).bind fun σ7 =>
  z_b2 (fX9_throwAway a0 x6 σ7) fun x8 σ9 =>
  (z_ag (σ9 0) 456 (nI 5)).bind fun x10 =>
  (z_sg σ9 0 456 (nI 5) (x10 + x8)).bind fun σ11 =>
  some (x8, σ11)
  else
  z_b2 (fX9_fails (nI 2) σ1) fun x12 σ13 =>
  some (x12, σ13))))
def fX9_entry (a0 : Int32) (a1 : Int32) (σ : zSt) : Option (Int32 × zSt) :=
  (z_sf σ 7 (nI 0)).bind fun σ1 =>
  (z_ag (σ1 0) 456 (nI 12)).bind fun x2 =>
  (fX9_in a0 (nI 0) (x2 - (nI 1)) σ1).bind fun x3 =>
  (if x3 = 0 then
  z_b2 (fX9_fails (nI 1) σ1) fun x8 σ9 =>
  some (x8, σ9)
  else
  (fX9_in a1 (nI 0) (nI 5) σ1).bind fun x4 =>
  (if x4 = 0 then
  z_b2 (fX9_fails (nI 2) σ1) fun x5 σ6 =>
  some (x5, σ6)
  else
  (z_ag (σ1 0) 456 (((nI 384) + ((nI 6) * a0)) + a1)).bind fun x7 =>
  some (x7, σ1)))
def fX9_line (a0 : Int32) (a1 : Int32) (σ : zSt) : Option (Int32 × zSt) :=
  (z_sf σ 7 (nI 0)).bind fun σ1 =>
  (fX9_isLine a0 σ1).bind fun x2 =>
  (if x2 = 0 then
  z_b2 (fX9_fails (nI 1) σ1) fun x7 σ8 =>
  some (x7, σ8)
  else
  (fX9_in a1 (nI 0) (nI 7) σ1).bind fun x3 =>
  (if x3 = 0 then
  z_b2 (fX9_fails (nI 2) σ1) fun x4 σ5 =>
  some (x4, σ5)
  else
  (fX9_aboutLine a0 a1 σ1).bind fun x6 =>
  some (x6, σ1)))
def fX9_nextDropped (a0 : Int32) (σ : zSt) : Option (Int32 × zSt) :=
  (z_sf σ 7 (nI 0)).bind fun σ1 =>
  (fX9_isCache a0 σ1).bind fun x2 =>
  (if x2 = 0 then
  z_b2 (fX9_fails (nI 1) σ1) fun x6 σ7 =>
  some (x6, σ7)
  else
  (fX9_copyOf a0 (-1) σ1).bind fun x3 =>
  (if x3 < 0 then
  (fX9_oldestCopy a0 σ1).bind fun x4 =>
  (z_ag (σ1 0) 456 x4).bind fun x5 =>
  some (x5, σ1)
  else
  some ((-1), σ1)))
def fX9_ones_l4 (σ : zSt) (K4 : Int32 → Option (Int32)) : Nat → Int32 → Int32 → Option (Int32)
  | 0, _, _ => none
  | n + 1, y1, y2 =>
  (if y2 = 0 then
  K4 y1
  else
  (fX9_ones_l4 σ K4 n) (y1 + nI 1) (y2 &&& (y2 - (nI 1))))
def fX9_ones (a0 : Int32) (σ : zSt) : Option (Int32) :=
  fX9_ones_l4 σ (fun x1 => some x1) z_fu (nI 0) a0
def fX9_pass (a0 : Int32) (σ : zSt) : Option (Int32 × zSt) :=
  (z_sf σ 7 (nI 0)).bind fun σ1 =>
  (fX9_in a0 (nI 1) (nI 100) σ1).bind fun x2 =>
  (if x2 = 0 then
  z_b2 (fX9_fails (nI 1) σ1) fun x9 σ10 =>
  some (x9, σ10)
  else
  (z_ag (σ1 0) 456 (nI 4)).bind fun x3 =>
  (if (x3 + a0) ≤ (nI 100000) then
  (fX9_save  σ1).bind fun σ4 =>
  z_b2 (fX9_ticks a0 σ4) fun x5 σ6 =>
  some (x5, σ6)
  else
  z_b2 (fX9_fails (nI 2) σ1) fun x7 σ8 =>
  some (x7, σ8)))
def fX9_pending (a0 : Int32) (a1 : Int32) (σ : zSt) : Option (Int32 × zSt) :=
  (z_sf σ 7 (nI 0)).bind fun σ1 =>
  (fX9_isCache a0 σ1).bind fun x2 =>
  (if x2 = 0 then
  z_b2 (fX9_fails (nI 1) σ1) fun x7 σ8 =>
  some (x7, σ8)
  else
  (fX9_in a1 (nI 0) (nI 2) σ1).bind fun x3 =>
  (if x3 = 0 then
  z_b2 (fX9_fails (nI 2) σ1) fun x4 σ5 =>
  some (x4, σ5)
  else
  (fX9_aboutPending a0 a1 σ1).bind fun x6 =>
  some (x6, σ1)))
def fX9_read_j20  (σ : zSt) : Option (Int32 × zSt) :=
  z_b2 (fX9_fails (nI 1) σ) fun x3 σ4 =>
  some (x3, σ4)
def fX9_read (a0 : Int32) (a1 : Int32) (σ : zSt) : Option (Int32 × zSt) :=
  (z_sf σ 7 (nI 0)).bind fun σ1 =>
  (fX9_isCache a0 σ1).bind fun x2 =>
  (if x2 = 0 then
  fX9_read_j20 σ1
  else
  (fX9_isLine a1 σ1).bind fun x5 =>
  (if x5 = 0 then
  fX9_read_j20 σ1
  else
  (fX9_isAsking a0 σ1).bind fun x6 =>
  (if x6 = 0 then
  (fX9_save  σ1).bind fun σ7 =>
  z_b2 (fX9_asks a0 a1 (-1) σ7) fun x8 σ9 =>
  some (x8, σ9)
  else
  z_b2 (fX9_fails (nI 2) σ1) fun x10 σ11 =>
  some (x10, σ11))))
def fX9_takeBack (a0 : Int32) (σ : zSt) : Option (Int32 × zSt) :=
  (z_sf σ 7 (nI 0)).bind fun σ1 =>
  (fX9_isCache a0 σ1).bind fun x2 =>
  (if x2 = 0 then
  z_b2 (fX9_fails (nI 1) σ1) fun x9 σ10 =>
  some (x9, σ10)
  else
  (fX9_isAsking a0 σ1).bind fun x3 =>
  (if x3 = 0 then
  z_b2 (fX9_fails (nI 2) σ1) fun x7 σ8 =>
  some (x7, σ8)
  else
  (fX9_save  σ1).bind fun σ4 =>
  (z_ag (σ4 0) 456 ((nI 366) + ((nI 3) * a0))).bind fun x5 =>
  (z_sg σ4 0 456 ((nI 366) + ((nI 3) * a0)) (-1)).bind fun σ6 =>
  some (x5, σ6)))
def fX9_tear_j65  (y2 : Int32) (w0 : Int32) (w1 : Int32) (σ : zSt) : Option (Int32 × zSt) :=
  (fX9_tearOut y2 σ).bind fun σ8 =>
  some (w1 + w0, σ8)
def fX9_tear (a0 : Int32) (σ : zSt) : Option (Int32 × zSt) :=
  (z_sf σ 7 (nI 0)).bind fun σ1 =>
  (fX9_isLine a0 σ1).bind fun x2 =>
  (if x2 = 0 then
  z_b2 (fX9_fails (nI 1) σ1) fun x11 σ12 =>
  some (x11, σ12)
  else
  (fX9_pageOf a0 σ1).bind fun x3 =>
  (if 0 ≤ x3 then
  (fX9_save  σ1).bind fun σ4 =>
  (z_ag (σ4 0) 456 (x3 + (nI 2))).bind fun x5 =>
  (fX9_ones x5 σ4).bind fun x6 =>
  (z_ag (σ4 0) 456 (x3 + (nI 1))).bind fun x7 =>
  (if x7 < 0 then
  fX9_tear_j65 x3 (nI 0) x6 σ4
  else
  fX9_tear_j65 x3 (nI 1) x6 σ4)
  else
  z_b2 (fX9_fails (nI 2) σ1) fun x9 σ10 =>
  some (x9, σ10)))
def fX9_thrown (σ : zSt) : Option (Int32) :=
  some (σ 7 0)
def fX9_ticksToServe_l11 (K11 : Int32 → zSt → Option (Int32 × zSt)) : Nat → Int32 → zSt → Option (Int32 × zSt)
  | 0, _, _ => none
  | n + 1, y1, σ =>
  (fX9_waiting  σ).bind fun x3 =>
  (if x3 ≤ 0 then
  K11 y1 σ
  else
  (if (nI 6) ≤ y1 then
  K11 y1 σ
  else
  z_b2 (fX9_tick  σ) fun x4 σ5 =>
  (fX9_ticksToServe_l11 K11 n) (y1 + nI 1) σ5))
def fX9_ticksToServe (σ : zSt) : Option (Int32 × zSt) :=
  (z_sf σ 7 (nI 0)).bind fun σ1 =>
  (fX9_keep  σ1).bind fun σ2 =>
  fX9_ticksToServe_l11 (fun x6 σ7 => (fX9_bringBack  σ7).bind fun σ8 =>
  some (x6, σ8)) z_fu (nI 0) σ2
def fX9_undo_l30 (K30 : zSt → Option (Int32 × zSt)) : Nat → Int32 → zSt → Option (Int32 × zSt)
  | 0, _, _ => none
  | n + 1, y1, σ =>
  (if (nI 456) ≤ y1 then
  K30 σ
  else
  (z_ag (σ 2) 1824 (((nI 456) * (σ 5 0)) + y1)).bind fun x3 =>
  (z_sg σ 0 456 y1 x3).bind fun σ4 =>
  (fX9_undo_l30 K30 n) (y1 + nI 1) σ4)
def fX9_undo (σ : zSt) : Option (Int32 × zSt) :=
  (z_sf σ 7 (nI 0)).bind fun σ1 =>
  (if (σ1 5 0) = 0 then
  z_b2 (fX9_fails (nI 1) σ1) fun x6 σ7 =>
  some (x6, σ7)
  else
  (z_sf σ1 5 ((σ1 5 0) - (nI 1))).bind fun σ2 =>
  fX9_undo_l30 (fun σ5 => some (σ5 5 0, σ5)) z_fu (nI 0) σ2)
def fX9_value (a0 : Int32) (σ : zSt) : Option (Int32 × zSt) :=
  (z_sf σ 7 (nI 0)).bind fun σ1 =>
  (fX9_in a0 (nI 0) (nI 13) σ1).bind fun x2 =>
  (if x2 = 0 then
  z_b2 (fX9_fails (nI 1) σ1) fun x3 σ4 =>
  some (x3, σ4)
  else
  (fX9_number a0 σ1).bind fun x5 =>
  some (x5, σ1))
def fX9_write_j20  (σ : zSt) : Option (Int32 × zSt) :=
  z_b2 (fX9_fails (nI 1) σ) fun x3 σ4 =>
  some (x3, σ4)
def fX9_write (a0 : Int32) (a1 : Int32) (a2 : Int32) (σ : zSt) : Option (Int32 × zSt) :=
  (z_sf σ 7 (nI 0)).bind fun σ1 =>
  (fX9_isCache a0 σ1).bind fun x2 =>
  (if x2 = 0 then
  fX9_write_j20 σ1
  else
  (fX9_isLine a1 σ1).bind fun x5 =>
  (if x5 = 0 then
  fX9_write_j20 σ1
  else
  (fX9_in a2 (nI 0) (nI 999) σ1).bind fun x6 =>
  (if x6 = 0 then
  z_b2 (fX9_fails (nI 2) σ1) fun x13 σ14 =>
  some (x13, σ14)
  else
  (fX9_isAsking a0 σ1).bind fun x7 =>
  (if x7 = 0 then
  (fX9_save  σ1).bind fun σ8 =>
  z_b2 (fX9_asks a0 a1 a2 σ8) fun x9 σ10 =>
  some (x9, σ10)
  else
  z_b2 (fX9_fails (nI 3) σ1) fun x11 σ12 =>
  some (x11, σ12)))))
end
