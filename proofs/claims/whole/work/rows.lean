section
/-- a private method of a class that the tables say can be made, by its rows of tables_1 -/
def lw_okq (q : MethodName × Nat) : Prop := (q.1.cls ≠ "java/lang/invoke/MethodHandle" ∧ q.1.cls ≠ "java/lang/invoke/VarHandle") ∧ Cond.instantiable q.1.cls q.2 ∈ tables_1 ∧ Cond.privateMethod q.1 ∈ tables_1 ∧ Cond.instanceMethod q.1 ∈ tables_1
theorem lw_p0 : lw_okq (⟨"WhoseGlass", "shelfAt", "(I)LWhoseGlass$Shelf;"⟩, 5) := ⟨⟨by decide +kernel, by decide +kernel⟩, List.mem_of_getElem? (i := 17) (by decide +kernel), List.mem_of_getElem? (i := 223) (by decide +kernel), List.mem_of_getElem? (i := 224) (by decide +kernel)⟩
theorem lw_p1 : lw_okq (⟨"WhoseGlass$House", "liveMinute", "(LWhoseGlass$Guest;)V"⟩, 9) := ⟨⟨by decide +kernel, by decide +kernel⟩, List.mem_of_getElem? (i := 25) (by decide +kernel), List.mem_of_getElem? (i := 283) (by decide +kernel), List.mem_of_getElem? (i := 284) (by decide +kernel)⟩
theorem lw_p2 : lw_okq (⟨"WhoseGlass$House", "placeBehind", "(I)I"⟩, 9) := ⟨⟨by decide +kernel, by decide +kernel⟩, List.mem_of_getElem? (i := 25) (by decide +kernel), List.mem_of_getElem? (i := 290) (by decide +kernel), List.mem_of_getElem? (i := 291) (by decide +kernel)⟩
theorem lw_p3 : lw_okq (⟨"WhoseGlass$House", "isOwned", "(I)Z"⟩, 9) := ⟨⟨by decide +kernel, by decide +kernel⟩, List.mem_of_getElem? (i := 25) (by decide +kernel), List.mem_of_getElem? (i := 472) (by decide +kernel), List.mem_of_getElem? (i := 473) (by decide +kernel)⟩
theorem lw_p4 : lw_okq (⟨"WhoseGlass", "ahead", "(I)LWhoseGlass$House;"⟩, 5) := ⟨⟨by decide +kernel, by decide +kernel⟩, List.mem_of_getElem? (i := 17) (by decide +kernel), List.mem_of_getElem? (i := 491) (by decide +kernel), List.mem_of_getElem? (i := 492) (by decide +kernel)⟩
theorem lw_p5 : lw_okq (⟨"WhoseGlass", "coldsBroughtBy", "(II)I"⟩, 5) := ⟨⟨by decide +kernel, by decide +kernel⟩, List.mem_of_getElem? (i := 17) (by decide +kernel), List.mem_of_getElem? (i := 519) (by decide +kernel), List.mem_of_getElem? (i := 520) (by decide +kernel)⟩
theorem lw_p6 : lw_okq (⟨"WhoseGlass", "coldsByCare", "(II)I"⟩, 5) := ⟨⟨by decide +kernel, by decide +kernel⟩, List.mem_of_getElem? (i := 17) (by decide +kernel), List.mem_of_getElem? (i := 531) (by decide +kernel), List.mem_of_getElem? (i := 532) (by decide +kernel)⟩
theorem lw_p7 : lw_okq (⟨"WhoseGlass", "mistakesIfMarked", "(II)I"⟩, 5) := ⟨⟨by decide +kernel, by decide +kernel⟩, List.mem_of_getElem? (i := 17) (by decide +kernel), List.mem_of_getElem? (i := 543) (by decide +kernel), List.mem_of_getElem? (i := 544) (by decide +kernel)⟩
theorem lw_p8 : lw_okq (⟨"WhoseGlass", "freshIfLeftOut", "(II)I"⟩, 5) := ⟨⟨by decide +kernel, by decide +kernel⟩, List.mem_of_getElem? (i := 17) (by decide +kernel), List.mem_of_getElem? (i := 551) (by decide +kernel), List.mem_of_getElem? (i := 552) (by decide +kernel)⟩
theorem lw_p9 : lw_okq (⟨"WhoseGlass$Shelf", "lowestBits", "(I)I"⟩, 6) := ⟨⟨by decide +kernel, by decide +kernel⟩, List.mem_of_getElem? (i := 170) (by decide +kernel), List.mem_of_getElem? (i := 632) (by decide +kernel), List.mem_of_getElem? (i := 633) (by decide +kernel)⟩
theorem lw_p10 : lw_okq (⟨"java/lang/Throwable", "fillInStackTrace", "(I)Ljava/lang/Throwable;"⟩, 6) := ⟨⟨by decide +kernel, by decide +kernel⟩, List.mem_of_getElem? (i := 704) (by decide +kernel), List.mem_of_getElem? (i := 702) (by decide +kernel), List.mem_of_getElem? (i := 703) (by decide +kernel)⟩
theorem lw_p11 : lw_okq (⟨"WhoseGlassModel", "carryAll", "([IZ)V"⟩, 46) := ⟨⟨by decide +kernel, by decide +kernel⟩, List.mem_of_getElem? (i := 779) (by decide +kernel), List.mem_of_getElem? (i := 933) (by decide +kernel), List.mem_of_getElem? (i := 934) (by decide +kernel)⟩
theorem lw_p12 : lw_okq (⟨"WhoseGlassModel", "carry", "(I)I"⟩, 46) := ⟨⟨by decide +kernel, by decide +kernel⟩, List.mem_of_getElem? (i := 779) (by decide +kernel), List.mem_of_getElem? (i := 937) (by decide +kernel), List.mem_of_getElem? (i := 938) (by decide +kernel)⟩
theorem lw_p13 : lw_okq (⟨"WhoseGlassModel", "wrongSort", "(II)I"⟩, 46) := ⟨⟨by decide +kernel, by decide +kernel⟩, List.mem_of_getElem? (i := 779) (by decide +kernel), List.mem_of_getElem? (i := 949) (by decide +kernel), List.mem_of_getElem? (i := 950) (by decide +kernel)⟩
theorem lw_p14 : lw_okq (⟨"WhoseGlassModel", "wrongRow", "(I)I"⟩, 46) := ⟨⟨by decide +kernel, by decide +kernel⟩, List.mem_of_getElem? (i := 779) (by decide +kernel), List.mem_of_getElem? (i := 953) (by decide +kernel), List.mem_of_getElem? (i := 954) (by decide +kernel)⟩
theorem lw_p15 : lw_okq (⟨"WhoseGlassModel", "readStatement", "()V"⟩, 46) := ⟨⟨by decide +kernel, by decide +kernel⟩, List.mem_of_getElem? (i := 779) (by decide +kernel), List.mem_of_getElem? (i := 961) (by decide +kernel), List.mem_of_getElem? (i := 962) (by decide +kernel)⟩
def lw_privs_1 : List (MethodName × Nat) := [(⟨"WhoseGlass", "shelfAt", "(I)LWhoseGlass$Shelf;"⟩, 5), (⟨"WhoseGlass$House", "liveMinute", "(LWhoseGlass$Guest;)V"⟩, 9), (⟨"WhoseGlass$House", "placeBehind", "(I)I"⟩, 9), (⟨"WhoseGlass$House", "isOwned", "(I)Z"⟩, 9), (⟨"WhoseGlass", "ahead", "(I)LWhoseGlass$House;"⟩, 5), (⟨"WhoseGlass", "coldsBroughtBy", "(II)I"⟩, 5), (⟨"WhoseGlass", "coldsByCare", "(II)I"⟩, 5), (⟨"WhoseGlass", "mistakesIfMarked", "(II)I"⟩, 5), (⟨"WhoseGlass", "freshIfLeftOut", "(II)I"⟩, 5), (⟨"WhoseGlass$Shelf", "lowestBits", "(I)I"⟩, 6), (⟨"java/lang/Throwable", "fillInStackTrace", "(I)Ljava/lang/Throwable;"⟩, 6), (⟨"WhoseGlassModel", "carryAll", "([IZ)V"⟩, 46), (⟨"WhoseGlassModel", "carry", "(I)I"⟩, 46), (⟨"WhoseGlassModel", "wrongSort", "(II)I"⟩, 46), (⟨"WhoseGlassModel", "wrongRow", "(I)I"⟩, 46), (⟨"WhoseGlassModel", "readStatement", "()V"⟩, 46)]
theorem lw_r1 : ∀ q ∈ lw_privs_1, lw_okq q := List.forall_mem_cons.mpr ⟨lw_p0, List.forall_mem_cons.mpr ⟨lw_p1, List.forall_mem_cons.mpr ⟨lw_p2, List.forall_mem_cons.mpr ⟨lw_p3, List.forall_mem_cons.mpr ⟨lw_p4, List.forall_mem_cons.mpr ⟨lw_p5, List.forall_mem_cons.mpr ⟨lw_p6, List.forall_mem_cons.mpr ⟨lw_p7, List.forall_mem_cons.mpr ⟨lw_p8, List.forall_mem_cons.mpr ⟨lw_p9, List.forall_mem_cons.mpr ⟨lw_p10, List.forall_mem_cons.mpr ⟨lw_p11, List.forall_mem_cons.mpr ⟨lw_p12, List.forall_mem_cons.mpr ⟨lw_p13, List.forall_mem_cons.mpr ⟨lw_p14, List.forall_mem_cons.mpr ⟨lw_p15, fun _ h => absurd h List.not_mem_nil⟩⟩⟩⟩⟩⟩⟩⟩⟩⟩⟩⟩⟩⟩⟩⟩
theorem lw_p16 : lw_okq (⟨"WhoseGlassModel", "here", "()I"⟩, 46) := ⟨⟨by decide +kernel, by decide +kernel⟩, List.mem_of_getElem? (i := 779) (by decide +kernel), List.mem_of_getElem? (i := 965) (by decide +kernel), List.mem_of_getElem? (i := 966) (by decide +kernel)⟩
theorem lw_p17 : lw_okq (⟨"WhoseGlassModel", "readDigit", "()I"⟩, 46) := ⟨⟨by decide +kernel, by decide +kernel⟩, List.mem_of_getElem? (i := 779) (by decide +kernel), List.mem_of_getElem? (i := 969) (by decide +kernel), List.mem_of_getElem? (i := 970) (by decide +kernel)⟩
theorem lw_p18 : lw_okq (⟨"WhoseGlassModel", "readTwo", "()I"⟩, 46) := ⟨⟨by decide +kernel, by decide +kernel⟩, List.mem_of_getElem? (i := 779) (by decide +kernel), List.mem_of_getElem? (i := 975) (by decide +kernel), List.mem_of_getElem? (i := 976) (by decide +kernel)⟩
theorem lw_p19 : lw_okq (⟨"WhoseGlassModel", "open", "()V"⟩, 46) := ⟨⟨by decide +kernel, by decide +kernel⟩, List.mem_of_getElem? (i := 779) (by decide +kernel), List.mem_of_getElem? (i := 979) (by decide +kernel), List.mem_of_getElem? (i := 980) (by decide +kernel)⟩
theorem lw_p20 : lw_okq (⟨"WhoseGlassModel", "comesAll", "(I)Z"⟩, 46) := ⟨⟨by decide +kernel, by decide +kernel⟩, List.mem_of_getElem? (i := 779) (by decide +kernel), List.mem_of_getElem? (i := 983) (by decide +kernel), List.mem_of_getElem? (i := 984) (by decide +kernel)⟩
theorem lw_p21 : lw_okq (⟨"WhoseGlassModel", "glassComes", "(I)Z"⟩, 46) := ⟨⟨by decide +kernel, by decide +kernel⟩, List.mem_of_getElem? (i := 779) (by decide +kernel), List.mem_of_getElem? (i := 987) (by decide +kernel), List.mem_of_getElem? (i := 988) (by decide +kernel)⟩
theorem lw_p22 : lw_okq (⟨"WhoseGlassModel", "bring", "(IIII)I"⟩, 46) := ⟨⟨by decide +kernel, by decide +kernel⟩, List.mem_of_getElem? (i := 779) (by decide +kernel), List.mem_of_getElem? (i := 991) (by decide +kernel), List.mem_of_getElem? (i := 992) (by decide +kernel)⟩
theorem lw_p23 : lw_okq (⟨"WhoseGlassModel", "guestComes", "(I)Z"⟩, 46) := ⟨⟨by decide +kernel, by decide +kernel⟩, List.mem_of_getElem? (i := 779) (by decide +kernel), List.mem_of_getElem? (i := 995) (by decide +kernel), List.mem_of_getElem? (i := 996) (by decide +kernel)⟩
theorem lw_p24 : lw_okq (⟨"WhoseGlassModel", "holdComes", "(II)Z"⟩, 46) := ⟨⟨by decide +kernel, by decide +kernel⟩, List.mem_of_getElem? (i := 779) (by decide +kernel), List.mem_of_getElem? (i := 999) (by decide +kernel), List.mem_of_getElem? (i := 1000) (by decide +kernel)⟩
theorem lw_p25 : lw_okq (⟨"WhoseGlassModel", "isGuest", "(I)Z"⟩, 46) := ⟨⟨by decide +kernel, by decide +kernel⟩, List.mem_of_getElem? (i := 779) (by decide +kernel), List.mem_of_getElem? (i := 1003) (by decide +kernel), List.mem_of_getElem? (i := 1004) (by decide +kernel)⟩
theorem lw_p26 : lw_okq (⟨"WhoseGlassModel", "isGlass", "(I)Z"⟩, 46) := ⟨⟨by decide +kernel, by decide +kernel⟩, List.mem_of_getElem? (i := 779) (by decide +kernel), List.mem_of_getElem? (i := 1007) (by decide +kernel), List.mem_of_getElem? (i := 1008) (by decide +kernel)⟩
theorem lw_p27 : lw_okq (⟨"WhoseGlassModel", "hold", "(II)V"⟩, 46) := ⟨⟨by decide +kernel, by decide +kernel⟩, List.mem_of_getElem? (i := 779) (by decide +kernel), List.mem_of_getElem? (i := 1011) (by decide +kernel), List.mem_of_getElem? (i := 1012) (by decide +kernel)⟩
theorem lw_p28 : lw_okq (⟨"WhoseGlassModel", "minuteOn", "()V"⟩, 46) := ⟨⟨by decide +kernel, by decide +kernel⟩, List.mem_of_getElem? (i := 779) (by decide +kernel), List.mem_of_getElem? (i := 1015) (by decide +kernel), List.mem_of_getElem? (i := 1016) (by decide +kernel)⟩
theorem lw_p29 : lw_okq (⟨"WhoseGlassModel", "guestOn", "(I)V"⟩, 46) := ⟨⟨by decide +kernel, by decide +kernel⟩, List.mem_of_getElem? (i := 779) (by decide +kernel), List.mem_of_getElem? (i := 1019) (by decide +kernel), List.mem_of_getElem? (i := 1020) (by decide +kernel)⟩
theorem lw_p30 : lw_okq (⟨"WhoseGlassModel", "goOn", "(I)V"⟩, 46) := ⟨⟨by decide +kernel, by decide +kernel⟩, List.mem_of_getElem? (i := 779) (by decide +kernel), List.mem_of_getElem? (i := 1023) (by decide +kernel), List.mem_of_getElem? (i := 1024) (by decide +kernel)⟩
theorem lw_p31 : lw_okq (⟨"WhoseGlassModel", "takeOne", "(I)I"⟩, 46) := ⟨⟨by decide +kernel, by decide +kernel⟩, List.mem_of_getElem? (i := 779) (by decide +kernel), List.mem_of_getElem? (i := 1027) (by decide +kernel), List.mem_of_getElem? (i := 1028) (by decide +kernel)⟩
def lw_privs_2 : List (MethodName × Nat) := [(⟨"WhoseGlassModel", "here", "()I"⟩, 46), (⟨"WhoseGlassModel", "readDigit", "()I"⟩, 46), (⟨"WhoseGlassModel", "readTwo", "()I"⟩, 46), (⟨"WhoseGlassModel", "open", "()V"⟩, 46), (⟨"WhoseGlassModel", "comesAll", "(I)Z"⟩, 46), (⟨"WhoseGlassModel", "glassComes", "(I)Z"⟩, 46), (⟨"WhoseGlassModel", "bring", "(IIII)I"⟩, 46), (⟨"WhoseGlassModel", "guestComes", "(I)Z"⟩, 46), (⟨"WhoseGlassModel", "holdComes", "(II)Z"⟩, 46), (⟨"WhoseGlassModel", "isGuest", "(I)Z"⟩, 46), (⟨"WhoseGlassModel", "isGlass", "(I)Z"⟩, 46), (⟨"WhoseGlassModel", "hold", "(II)V"⟩, 46), (⟨"WhoseGlassModel", "minuteOn", "()V"⟩, 46), (⟨"WhoseGlassModel", "guestOn", "(I)V"⟩, 46), (⟨"WhoseGlassModel", "goOn", "(I)V"⟩, 46), (⟨"WhoseGlassModel", "takeOne", "(I)I"⟩, 46)]
theorem lw_r2 : ∀ q ∈ lw_privs_2, lw_okq q := List.forall_mem_cons.mpr ⟨lw_p16, List.forall_mem_cons.mpr ⟨lw_p17, List.forall_mem_cons.mpr ⟨lw_p18, List.forall_mem_cons.mpr ⟨lw_p19, List.forall_mem_cons.mpr ⟨lw_p20, List.forall_mem_cons.mpr ⟨lw_p21, List.forall_mem_cons.mpr ⟨lw_p22, List.forall_mem_cons.mpr ⟨lw_p23, List.forall_mem_cons.mpr ⟨lw_p24, List.forall_mem_cons.mpr ⟨lw_p25, List.forall_mem_cons.mpr ⟨lw_p26, List.forall_mem_cons.mpr ⟨lw_p27, List.forall_mem_cons.mpr ⟨lw_p28, List.forall_mem_cons.mpr ⟨lw_p29, List.forall_mem_cons.mpr ⟨lw_p30, List.forall_mem_cons.mpr ⟨lw_p31, fun _ h => absurd h List.not_mem_nil⟩⟩⟩⟩⟩⟩⟩⟩⟩⟩⟩⟩⟩⟩⟩⟩
theorem lw_p32 : lw_okq (⟨"WhoseGlassModel", "wouldTake", "(I)I"⟩, 46) := ⟨⟨by decide +kernel, by decide +kernel⟩, List.mem_of_getElem? (i := 779) (by decide +kernel), List.mem_of_getElem? (i := 1031) (by decide +kernel), List.mem_of_getElem? (i := 1032) (by decide +kernel)⟩
theorem lw_p33 : lw_okq (⟨"WhoseGlassModel", "likeOf", "(II)I"⟩, 46) := ⟨⟨by decide +kernel, by decide +kernel⟩, List.mem_of_getElem? (i := 779) (by decide +kernel), List.mem_of_getElem? (i := 1035) (by decide +kernel), List.mem_of_getElem? (i := 1036) (by decide +kernel)⟩
theorem lw_p34 : lw_okq (⟨"WhoseGlassModel", "plainly", "(II)I"⟩, 46) := ⟨⟨by decide +kernel, by decide +kernel⟩, List.mem_of_getElem? (i := 779) (by decide +kernel), List.mem_of_getElem? (i := 1039) (by decide +kernel), List.mem_of_getElem? (i := 1040) (by decide +kernel)⟩
theorem lw_p35 : lw_okq (⟨"WhoseGlassModel", "tally", "(II)I"⟩, 46) := ⟨⟨by decide +kernel, by decide +kernel⟩, List.mem_of_getElem? (i := 779) (by decide +kernel), List.mem_of_getElem? (i := 1043) (by decide +kernel), List.mem_of_getElem? (i := 1044) (by decide +kernel)⟩
theorem lw_p36 : lw_okq (⟨"WhoseGlassModel", "redly", "(II)I"⟩, 46) := ⟨⟨by decide +kernel, by decide +kernel⟩, List.mem_of_getElem? (i := 779) (by decide +kernel), List.mem_of_getElem? (i := 1047) (by decide +kernel), List.mem_of_getElem? (i := 1048) (by decide +kernel)⟩
theorem lw_p37 : lw_okq (⟨"WhoseGlassModel", "isLater", "(II)Z"⟩, 46) := ⟨⟨by decide +kernel, by decide +kernel⟩, List.mem_of_getElem? (i := 779) (by decide +kernel), List.mem_of_getElem? (i := 1051) (by decide +kernel), List.mem_of_getElem? (i := 1052) (by decide +kernel)⟩
theorem lw_p38 : lw_okq (⟨"WhoseGlassModel", "sipOne", "(I)I"⟩, 46) := ⟨⟨by decide +kernel, by decide +kernel⟩, List.mem_of_getElem? (i := 779) (by decide +kernel), List.mem_of_getElem? (i := 1055) (by decide +kernel), List.mem_of_getElem? (i := 1056) (by decide +kernel)⟩
theorem lw_p39 : lw_okq (⟨"WhoseGlassModel", "strengthOf", "(I)I"⟩, 46) := ⟨⟨by decide +kernel, by decide +kernel⟩, List.mem_of_getElem? (i := 779) (by decide +kernel), List.mem_of_getElem? (i := 1059) (by decide +kernel), List.mem_of_getElem? (i := 1060) (by decide +kernel)⟩
theorem lw_p40 : lw_okq (⟨"WhoseGlassModel", "layOne", "(I)I"⟩, 46) := ⟨⟨by decide +kernel, by decide +kernel⟩, List.mem_of_getElem? (i := 779) (by decide +kernel), List.mem_of_getElem? (i := 1063) (by decide +kernel), List.mem_of_getElem? (i := 1064) (by decide +kernel)⟩
theorem lw_p41 : lw_okq (⟨"WhoseGlassModel", "again", "()V"⟩, 46) := ⟨⟨by decide +kernel, by decide +kernel⟩, List.mem_of_getElem? (i := 779) (by decide +kernel), List.mem_of_getElem? (i := 1067) (by decide +kernel), List.mem_of_getElem? (i := 1068) (by decide +kernel)⟩
theorem lw_p42 : lw_okq (⟨"WhoseGlassModel", "wrongKept", "(I)I"⟩, 46) := ⟨⟨by decide +kernel, by decide +kernel⟩, List.mem_of_getElem? (i := 779) (by decide +kernel), List.mem_of_getElem? (i := 1089) (by decide +kernel), List.mem_of_getElem? (i := 1090) (by decide +kernel)⟩
theorem lw_p43 : lw_okq (⟨"WhoseGlassModel", "sink", "(I)V"⟩, 46) := ⟨⟨by decide +kernel, by decide +kernel⟩, List.mem_of_getElem? (i := 779) (by decide +kernel), List.mem_of_getElem? (i := 1118) (by decide +kernel), List.mem_of_getElem? (i := 1119) (by decide +kernel)⟩
theorem lw_p44 : lw_okq (⟨"WhoseGlassModel", "goThrough", "(I)V"⟩, 46) := ⟨⟨by decide +kernel, by decide +kernel⟩, List.mem_of_getElem? (i := 779) (by decide +kernel), List.mem_of_getElem? (i := 1126) (by decide +kernel), List.mem_of_getElem? (i := 1127) (by decide +kernel)⟩
theorem lw_p45 : lw_okq (⟨"WhoseGlassModel", "coldBits", "()I"⟩, 46) := ⟨⟨by decide +kernel, by decide +kernel⟩, List.mem_of_getElem? (i := 779) (by decide +kernel), List.mem_of_getElem? (i := 1169) (by decide +kernel), List.mem_of_getElem? (i := 1170) (by decide +kernel)⟩
theorem lw_p46 : lw_okq (⟨"WhoseGlassModel", "coldAlone", "(I)V"⟩, 46) := ⟨⟨by decide +kernel, by decide +kernel⟩, List.mem_of_getElem? (i := 779) (by decide +kernel), List.mem_of_getElem? (i := 1185) (by decide +kernel), List.mem_of_getElem? (i := 1186) (by decide +kernel)⟩
theorem lw_p47 : lw_okq (⟨"WhoseGlassModel", "isSomeEmpty", "()Z"⟩, 46) := ⟨⟨by decide +kernel, by decide +kernel⟩, List.mem_of_getElem? (i := 779) (by decide +kernel), List.mem_of_getElem? (i := 1209) (by decide +kernel), List.mem_of_getElem? (i := 1210) (by decide +kernel)⟩
def lw_privs_3 : List (MethodName × Nat) := [(⟨"WhoseGlassModel", "wouldTake", "(I)I"⟩, 46), (⟨"WhoseGlassModel", "likeOf", "(II)I"⟩, 46), (⟨"WhoseGlassModel", "plainly", "(II)I"⟩, 46), (⟨"WhoseGlassModel", "tally", "(II)I"⟩, 46), (⟨"WhoseGlassModel", "redly", "(II)I"⟩, 46), (⟨"WhoseGlassModel", "isLater", "(II)Z"⟩, 46), (⟨"WhoseGlassModel", "sipOne", "(I)I"⟩, 46), (⟨"WhoseGlassModel", "strengthOf", "(I)I"⟩, 46), (⟨"WhoseGlassModel", "layOne", "(I)I"⟩, 46), (⟨"WhoseGlassModel", "again", "()V"⟩, 46), (⟨"WhoseGlassModel", "wrongKept", "(I)I"⟩, 46), (⟨"WhoseGlassModel", "sink", "(I)V"⟩, 46), (⟨"WhoseGlassModel", "goThrough", "(I)V"⟩, 46), (⟨"WhoseGlassModel", "coldBits", "()I"⟩, 46), (⟨"WhoseGlassModel", "coldAlone", "(I)V"⟩, 46), (⟨"WhoseGlassModel", "isSomeEmpty", "()Z"⟩, 46)]
theorem lw_r3 : ∀ q ∈ lw_privs_3, lw_okq q := List.forall_mem_cons.mpr ⟨lw_p32, List.forall_mem_cons.mpr ⟨lw_p33, List.forall_mem_cons.mpr ⟨lw_p34, List.forall_mem_cons.mpr ⟨lw_p35, List.forall_mem_cons.mpr ⟨lw_p36, List.forall_mem_cons.mpr ⟨lw_p37, List.forall_mem_cons.mpr ⟨lw_p38, List.forall_mem_cons.mpr ⟨lw_p39, List.forall_mem_cons.mpr ⟨lw_p40, List.forall_mem_cons.mpr ⟨lw_p41, List.forall_mem_cons.mpr ⟨lw_p42, List.forall_mem_cons.mpr ⟨lw_p43, List.forall_mem_cons.mpr ⟨lw_p44, List.forall_mem_cons.mpr ⟨lw_p45, List.forall_mem_cons.mpr ⟨lw_p46, List.forall_mem_cons.mpr ⟨lw_p47, fun _ h => absurd h List.not_mem_nil⟩⟩⟩⟩⟩⟩⟩⟩⟩⟩⟩⟩⟩⟩⟩⟩
theorem lw_p48 : lw_okq (⟨"WhoseGlassModel", "draw", "(I)I"⟩, 46) := ⟨⟨by decide +kernel, by decide +kernel⟩, List.mem_of_getElem? (i := 779) (by decide +kernel), List.mem_of_getElem? (i := 1218) (by decide +kernel), List.mem_of_getElem? (i := 1219) (by decide +kernel)⟩
theorem lw_p49 : lw_okq (⟨"WhoseGlassModel", "skippedIn", "(I)J"⟩, 46) := ⟨⟨by decide +kernel, by decide +kernel⟩, List.mem_of_getElem? (i := 779) (by decide +kernel), List.mem_of_getElem? (i := 1229) (by decide +kernel), List.mem_of_getElem? (i := 1230) (by decide +kernel)⟩
def lw_privs_4 : List (MethodName × Nat) := [(⟨"WhoseGlassModel", "draw", "(I)I"⟩, 46), (⟨"WhoseGlassModel", "skippedIn", "(I)J"⟩, 46)]
theorem lw_r4 : ∀ q ∈ lw_privs_4, lw_okq q := List.forall_mem_cons.mpr ⟨lw_p48, List.forall_mem_cons.mpr ⟨lw_p49, fun _ h => absurd h List.not_mem_nil⟩⟩
def lw_privs : List (MethodName × Nat) := lw_privs_1 ++ (lw_privs_2 ++ (lw_privs_3 ++ (lw_privs_4)))
def lw_tbl : List Cond := k2_sels lw_privs ++ tables_1
theorem lw_privs_ok : ∀ q ∈ lw_privs, lw_okq q := by
  show ∀ q ∈ lw_privs_1 ++ (lw_privs_2 ++ (lw_privs_3 ++ (lw_privs_4))), lw_okq q
  exact List.forall_mem_append.mpr ⟨lw_r1, List.forall_mem_append.mpr ⟨lw_r2, List.forall_mem_append.mpr ⟨lw_r3, lw_r4⟩⟩⟩

/-! THE WORDS OF ALL METHODS: the good ones of the tables -/
def yGW : List Cond := lw_tbl.filter goodWord
theorem y_in {w : Cond} (i : Nat) (h : lw_tbl[i]? = some w) (hg : goodWord w = true) : w ∈ yGW := List.mem_filter.mpr ⟨List.mem_of_getElem? h, hg⟩
theorem y_mm {w : Cond} (h : w ∈ tables_1) (hg : goodWord w = true) : w ∈ yGW := List.mem_filter.mpr ⟨List.mem_append_right _ h, hg⟩
theorem y_i1 {w : Cond} (i : Nat) (h : tables_1_1[i]? = some w) (hg : goodWord w = true) : w ∈ yGW := y_mm (List.mem_append_left _ (List.mem_of_getElem? h)) hg
theorem y_i2 {w : Cond} (i : Nat) (h : tables_1_2[i]? = some w) (hg : goodWord w = true) : w ∈ yGW := y_mm (List.mem_append_right _ (List.mem_append_left _ (List.mem_of_getElem? h))) hg
theorem y_i3 {w : Cond} (i : Nat) (h : tables_1_3[i]? = some w) (hg : goodWord w = true) : w ∈ yGW := y_mm (List.mem_append_right _ (List.mem_append_right _ (List.mem_append_left _ (List.mem_of_getElem? h)))) hg
theorem y_i4 {w : Cond} (i : Nat) (h : tables_1_4[i]? = some w) (hg : goodWord w = true) : w ∈ yGW := y_mm (List.mem_append_right _ (List.mem_append_right _ (List.mem_append_right _ (List.mem_append_left _ (List.mem_of_getElem? h))))) hg
theorem y_i5 {w : Cond} (i : Nat) (h : tables_1_5[i]? = some w) (hg : goodWord w = true) : w ∈ yGW := y_mm (List.mem_append_right _ (List.mem_append_right _ (List.mem_append_right _ (List.mem_append_right _ (List.mem_append_left _ (List.mem_of_getElem? h)))))) hg
theorem y_i6 {w : Cond} (i : Nat) (h : tables_1_6[i]? = some w) (hg : goodWord w = true) : w ∈ yGW := y_mm (List.mem_append_right _ (List.mem_append_right _ (List.mem_append_right _ (List.mem_append_right _ (List.mem_append_right _ (List.mem_of_getElem? h)))))) hg
theorem y_isel {w : Cond} (i : Nat) (h : (k2_sels lw_privs)[i]? = some w) (hg : goodWord w = true) : w ∈ yGW := List.mem_filter.mpr ⟨List.mem_append_left _ (List.mem_of_getElem? h), hg⟩
theorem y_good {w : Cond} (h : w ∈ yGW) : goodWord w = true := (List.mem_filter.mp h).2
theorem y_tbl {w : Cond} (h : w ∈ yGW) : w ∈ lw_tbl := (List.mem_filter.mp h).1
def yWs (y : MethodName) (b : ByteArray) (n : Nat) (r : Option FieldType) : List Cond := Cond.code y b n r :: yGW
theorem y_gw {w : Cond} (h : w ∈ yGW) : w ∈ yGW ∧ ((w.onTables && w.keeps) = true ∨ ∃ ty, w = .arrayClass ty) := ⟨h, good_of_word (y_good h)⟩
theorem y_gc {y : MethodName} {b : ByteArray} {n : Nat} {r : Option FieldType} (hc : Cond.code y b n r ∈ yGW) : GoodIn yGW (yWs y b n r) := by
  intro w hw
  rcases List.mem_cons.mp hw with rfl | hw
  · exact y_gw hc
  · exact y_gw hw
theorem y_gV {own C : String} {idx : Nat} {y : MethodName} {b : ByteArray} {n : Nat} {r : Option FieldType} (h1 : Cond.methodLink own idx y ∈ yGW) (h2 : Cond.instanceMethod y ∈ yGW) (h3 : Cond.selects C y y ∈ yGW) (h4 : Cond.initialized C ∈ yGW) (hc : Cond.code y b n r ∈ yGW) : GoodIn yGW (wsV own idx C y (yWs y b n r)) := by
  intro w hw
  rcases List.mem_append.mp hw with hw | hw
  · simp only [List.mem_cons, List.not_mem_nil, or_false] at hw
    rcases hw with rfl | rfl | rfl | rfl
    · exact y_gw h1
    · exact y_gw h2
    · exact y_gw h3
    · exact y_gw h4
  · exact y_gc hc w hw
theorem y_gS {own : String} {idx : Nat} {y : MethodName} {b : ByteArray} {n : Nat} {r : Option FieldType} (h1 : Cond.methodLink own idx y ∈ yGW) (h2 : Cond.static y ∈ yGW) (h4 : Cond.initialized own ∈ yGW) (hc : Cond.code y b n r ∈ yGW) : GoodIn yGW (wsS own idx y (yWs y b n r)) := by
  intro w hw
  rcases List.mem_append.mp hw with hw | hw
  · simp only [List.mem_cons, List.not_mem_nil, or_false] at hw
    rcases hw with rfl | rfl | rfl
    · exact y_gw h1
    · exact y_gw h2
    · exact y_gw h4
  · exact y_gc hc w hw
end
section
def yR0 : String := "WhoseGlass$Glass"
def yT0 : u_T := fun k => match k with
  | 0 => ("WhoseGlass$Glass", "number", "I", true)
  | 1 => ("WhoseGlass$Glass", "kind", "I", false)
  | 2 => ("WhoseGlass$Glass", "figure", "I", false)
  | 3 => ("WhoseGlass$Glass", "fill", "I", false)
  | 4 => ("WhoseGlass$Glass", "where", "I", false)
  | 5 => ("WhoseGlass$Glass", "laid", "I", false)
  | 6 => ("WhoseGlass$Glass", "sippedBy", "I", false)
  | _ => ("WhoseGlass$Glass", "germs", "Z", false)
def yY0 : Nat → FieldType := fun k => match k with
  | 0 => .int
  | 1 => .int
  | 2 => .int
  | 3 => .int
  | 4 => .int
  | 5 => .int
  | 6 => .int
  | _ => .boolean
theorem yN0 : ∀ a, a < 8 → ∀ b, b < 8 → a ≠ b → (yT0 a).2.1 ≠ (yT0 b).2.1 := by decide +kernel
theorem yO0 : ∀ k, k < 8 → parseFieldDescriptor (yT0 k).2.2.1 = some (yY0 k) := by decide +kernel
def yR1 : String := "WhoseGlass$Guest"
def yT1 : u_T := fun k => match k with
  | 0 => ("WhoseGlass$Guest", "number", "I", true)
  | 1 => ("WhoseGlass$Guest", "pace", "I", false)
  | 2 => ("WhoseGlass$Guest", "lays", "I", false)
  | 3 => ("WhoseGlass$Guest", "step", "I", false)
  | 4 => ("WhoseGlass$Guest", "care", "I", false)
  | 5 => ("WhoseGlass$Guest", "place", "I", false)
  | 6 => ("WhoseGlass$Guest", "holds", "I", false)
  | 7 => ("WhoseGlass$Guest", "own", "I", false)
  | 8 => ("WhoseGlass$Guest", "had", "I", false)
  | _ => ("WhoseGlass$Guest", "cold", "Z", false)
def yY1 : Nat → FieldType := fun k => match k with
  | 0 => .int
  | 1 => .int
  | 2 => .int
  | 3 => .int
  | 4 => .int
  | 5 => .int
  | 6 => .int
  | 7 => .int
  | 8 => .int
  | _ => .boolean
theorem yN1 : ∀ a, a < 10 → ∀ b, b < 10 → a ≠ b → (yT1 a).2.1 ≠ (yT1 b).2.1 := by decide +kernel
theorem yO1 : ∀ k, k < 10 → parseFieldDescriptor (yT1 k).2.2.1 = some (yY1 k) := by decide +kernel
def yR2 : String := "WhoseGlass$House"
def yT2 : u_T := fun k => match k with
  | 0 => ("WhoseGlass$House", "glasses", "[LWhoseGlass$Glass;", true)
  | 1 => ("WhoseGlass$House", "guests", "[LWhoseGlass$Guest;", true)
  | 2 => ("WhoseGlass$House", "glassCount", "I", false)
  | 3 => ("WhoseGlass$House", "guestCount", "I", false)
  | 4 => ("WhoseGlass$House", "tray", "I", false)
  | 5 => ("WhoseGlass$House", "minute", "I", false)
  | 6 => ("WhoseGlass$House", "mistakes", "I", false)
  | 7 => ("WhoseGlass$House", "fresh", "I", false)
  | _ => ("WhoseGlass$House", "leftOut", "I", false)
def yY2 : Nat → FieldType := fun k => match k with
  | 0 => .array (.object "WhoseGlass$Glass")
  | 1 => .array (.object "WhoseGlass$Guest")
  | 2 => .int
  | 3 => .int
  | 4 => .int
  | 5 => .int
  | 6 => .int
  | 7 => .int
  | _ => .int
theorem yN2 : ∀ a, a < 9 → ∀ b, b < 9 → a ≠ b → (yT2 a).2.1 ≠ (yT2 b).2.1 := by decide +kernel
theorem yO2 : ∀ k, k < 9 → parseFieldDescriptor (yT2 k).2.2.1 = some (yY2 k) := by decide +kernel
def yR3 : String := "WhoseGlass$Shelf"
def yT3 : u_T := fun k => match k with
  | 0 => ("WhoseGlass$Shelf", "content", "I", false)
  | 1 => ("WhoseGlass$Shelf", "kind", "I", false)
  | 2 => ("WhoseGlass$Shelf", "figure", "I", false)
  | 3 => ("WhoseGlass$Shelf", "sort", "I", false)
  | 4 => ("WhoseGlass$Shelf", "size", "I", false)
  | _ => ("WhoseGlass$Shelf", "elements", "[I", true)
def yY3 : Nat → FieldType := fun k => match k with
  | 0 => .int
  | 1 => .int
  | 2 => .int
  | 3 => .int
  | 4 => .int
  | _ => .array .int
theorem yN3 : ∀ a, a < 6 → ∀ b, b < 6 → a ≠ b → (yT3 a).2.1 ≠ (yT3 b).2.1 := by decide +kernel
theorem yO3 : ∀ k, k < 6 → parseFieldDescriptor (yT3 k).2.2.1 = some (yY3 k) := by decide +kernel
def yR4 : String := "WhoseGlass"
def yT4 : u_T := fun k => match k with
  | 0 => ("WhoseGlass", "now", "LWhoseGlass$House;", true)
  | 1 => ("WhoseGlass", "mind", "LWhoseGlass$House;", true)
  | 2 => ("WhoseGlass", "picture", "LWhoseGlass$House;", true)
  | 3 => ("WhoseGlass", "pictured", "Z", false)
  | _ => ("WhoseGlass", "shelves", "[LWhoseGlass$Shelf;", true)
def yY4 : Nat → FieldType := fun k => match k with
  | 0 => .object "WhoseGlass$House"
  | 1 => .object "WhoseGlass$House"
  | 2 => .object "WhoseGlass$House"
  | 3 => .boolean
  | _ => .array (.object "WhoseGlass$Shelf")
theorem yN4 : ∀ a, a < 5 → ∀ b, b < 5 → a ≠ b → (yT4 a).2.1 ≠ (yT4 b).2.1 := by decide +kernel
theorem yO4 : ∀ k, k < 5 → parseFieldDescriptor (yT4 k).2.2.1 = some (yY4 k) := by decide +kernel
def yR5 : String := "WhoseGlassModel"
def yT5 : u_T := fun k => match k with
  | 0 => ("WhoseGlassModel", "glasses", "I", false)
  | 1 => ("WhoseGlassModel", "guests", "I", false)
  | 2 => ("WhoseGlassModel", "tray0", "I", false)
  | 3 => ("WhoseGlassModel", "minute", "I", false)
  | 4 => ("WhoseGlassModel", "kinds", "[I", true)
  | 5 => ("WhoseGlassModel", "figures", "[I", true)
  | 6 => ("WhoseGlassModel", "fills", "[I", true)
  | 7 => ("WhoseGlassModel", "wheres", "[I", true)
  | 8 => ("WhoseGlassModel", "laid", "[I", true)
  | 9 => ("WhoseGlassModel", "sips", "[I", true)
  | 10 => ("WhoseGlassModel", "germs", "[I", true)
  | 11 => ("WhoseGlassModel", "paces", "[I", true)
  | 12 => ("WhoseGlassModel", "lays", "[I", true)
  | 13 => ("WhoseGlassModel", "steps", "[I", true)
  | 14 => ("WhoseGlassModel", "cares", "[I", true)
  | 15 => ("WhoseGlassModel", "places", "[I", true)
  | 16 => ("WhoseGlassModel", "holds", "[I", true)
  | 17 => ("WhoseGlassModel", "owns", "[I", true)
  | 18 => ("WhoseGlassModel", "hads", "[I", true)
  | 19 => ("WhoseGlassModel", "cold", "[I", true)
  | 20 => ("WhoseGlassModel", "wrongs", "I", false)
  | 21 => ("WhoseGlassModel", "freshes", "I", false)
  | 22 => ("WhoseGlassModel", "closed", "I", false)
  | 23 => ("WhoseGlassModel", "thrown", "I", false)
  | 24 => ("WhoseGlassModel", "kept", "[I", true)
  | 25 => ("WhoseGlassModel", "imaged", "[I", true)
  | 26 => ("WhoseGlassModel", "hasImage", "Z", false)
  | 27 => ("WhoseGlassModel", "place0", "I", false)
  | 28 => ("WhoseGlassModel", "isTaking", "Z", false)
  | 29 => ("WhoseGlassModel", "keptIn", "[I", false)
  | 30 => ("WhoseGlassModel", "base", "I", false)
  | 31 => ("WhoseGlassModel", "end", "I", false)
  | 32 => ("WhoseGlassModel", "at", "I", false)
  | 33 => ("WhoseGlassModel", "isBad", "Z", false)
  | 34 => ("WhoseGlassModel", "statements", "I", false)
  | 35 => ("WhoseGlassModel", "placeOf", "[I", true)
  | 36 => ("WhoseGlassModel", "letterOf", "[I", true)
  | 37 => ("WhoseGlassModel", "told", "[I", true)
  | 38 => ("WhoseGlassModel", "seed", "I", false)
  | 39 => ("WhoseGlassModel", "holdsWhat", "[I", true)
  | 40 => ("WhoseGlassModel", "keptKind", "[I", true)
  | 41 => ("WhoseGlassModel", "keptFigure", "[I", true)
  | 42 => ("WhoseGlassModel", "rowSort", "[I", true)
  | 43 => ("WhoseGlassModel", "rowMany", "[I", true)
  | 44 => ("WhoseGlassModel", "rows", "[J", true)
  | _ => ("WhoseGlassModel", "between", "[J", true)
def yY5 : Nat → FieldType := fun k => match k with
  | 0 => .int
  | 1 => .int
  | 2 => .int
  | 3 => .int
  | 4 => .array .int
  | 5 => .array .int
  | 6 => .array .int
  | 7 => .array .int
  | 8 => .array .int
  | 9 => .array .int
  | 10 => .array .int
  | 11 => .array .int
  | 12 => .array .int
  | 13 => .array .int
  | 14 => .array .int
  | 15 => .array .int
  | 16 => .array .int
  | 17 => .array .int
  | 18 => .array .int
  | 19 => .array .int
  | 20 => .int
  | 21 => .int
  | 22 => .int
  | 23 => .int
  | 24 => .array .int
  | 25 => .array .int
  | 26 => .boolean
  | 27 => .int
  | 28 => .boolean
  | 29 => .array .int
  | 30 => .int
  | 31 => .int
  | 32 => .int
  | 33 => .boolean
  | 34 => .int
  | 35 => .array .int
  | 36 => .array .int
  | 37 => .array .int
  | 38 => .int
  | 39 => .array .int
  | 40 => .array .int
  | 41 => .array .int
  | 42 => .array .int
  | 43 => .array .int
  | 44 => .array .long
  | _ => .array .long
theorem yN5 : ∀ a, a < 46 → ∀ b, b < 46 → a ≠ b → (yT5 a).2.1 ≠ (yT5 b).2.1 := by decide +kernel
theorem yO5 : ∀ k, k < 46 → parseFieldDescriptor (yT5 k).2.2.1 = some (yY5 k) := by decide +kernel
abbrev yCl : List vw_C := [(yR0, yT0, 8), (yR1, yT1, 10), (yR2, yT2, 9), (yR3, yT3, 6), (yR4, yT4, 5), (yR5, yT5, 46)]
/-- which fields hold references -/
def yRf (ci k : Nat) : Bool := match ci with
  | 2 => k == 0 || k == 1
  | 3 => k == 5
  | 4 => k == 0 || k == 1 || k == 2 || k == 4
  | 5 => (4 ≤ k && k ≤ 19) || k == 24 || k == 25 || k == 29 || (35 ≤ k && k ≤ 37) || (39 ≤ k && k ≤ 45)
  | _ => false
theorem yI0 : ∀ w ∈ u_ws yR0 yT0 8, w ∈ yGW := by
  intro w hw
  obtain ⟨k, hk, rfl⟩ := List.mem_map.mp hw
  have hk := List.mem_range.mp hk
  match k, hk with
  | 0, _ => exact y_i1 62 rfl rfl
  | 1, _ => exact y_i1 64 rfl rfl
  | 2, _ => exact y_i1 66 rfl rfl
  | 3, _ => exact y_i1 68 rfl rfl
  | 4, _ => exact y_i1 70 rfl rfl
  | 5, _ => exact y_i1 72 rfl rfl
  | 6, _ => exact y_i1 74 rfl rfl
  | 7, _ => exact y_i1 76 rfl rfl
  | k + 8, hk => exact absurd hk (by omega)
theorem yI1 : ∀ w ∈ u_ws yR1 yT1 10, w ∈ yGW := by
  intro w hw
  obtain ⟨k, hk, rfl⟩ := List.mem_map.mp hw
  have hk := List.mem_range.mp hk
  match k, hk with
  | 0, _ => exact y_i1 110 rfl rfl
  | 1, _ => exact y_i1 112 rfl rfl
  | 2, _ => exact y_i1 114 rfl rfl
  | 3, _ => exact y_i1 116 rfl rfl
  | 4, _ => exact y_i1 118 rfl rfl
  | 5, _ => exact y_i1 120 rfl rfl
  | 6, _ => exact y_i1 122 rfl rfl
  | 7, _ => exact y_i1 124 rfl rfl
  | 8, _ => exact y_i1 126 rfl rfl
  | 9, _ => exact y_i1 128 rfl rfl
  | k + 10, hk => exact absurd hk (by omega)
theorem yI2 : ∀ w ∈ u_ws yR2 yT2 9, w ∈ yGW := by
  intro w hw
  obtain ⟨k, hk, rfl⟩ := List.mem_map.mp hw
  have hk := List.mem_range.mp hk
  match k, hk with
  | 0, _ => exact y_i1 149 rfl rfl
  | 1, _ => exact y_i1 151 rfl rfl
  | 2, _ => exact y_i1 153 rfl rfl
  | 3, _ => exact y_i1 155 rfl rfl
  | 4, _ => exact y_i1 157 rfl rfl
  | 5, _ => exact y_i1 159 rfl rfl
  | 6, _ => exact y_i1 161 rfl rfl
  | 7, _ => exact y_i1 163 rfl rfl
  | 8, _ => exact y_i1 165 rfl rfl
  | k + 9, hk => exact absurd hk (by omega)
theorem yI3 : ∀ w ∈ u_ws yR3 yT3 6, w ∈ yGW := by
  intro w hw
  obtain ⟨k, hk, rfl⟩ := List.mem_map.mp hw
  have hk := List.mem_range.mp hk
  match k, hk with
  | 0, _ => exact y_i1 188 rfl rfl
  | 1, _ => exact y_i1 190 rfl rfl
  | 2, _ => exact y_i1 192 rfl rfl
  | 3, _ => exact y_i1 194 rfl rfl
  | 4, _ => exact y_i1 196 rfl rfl
  | 5, _ => exact y_i1 198 rfl rfl
  | k + 6, hk => exact absurd hk (by omega)
theorem yI4 : ∀ w ∈ u_ws yR4 yT4 5, w ∈ yGW := by
  intro w hw
  obtain ⟨k, hk, rfl⟩ := List.mem_map.mp hw
  have hk := List.mem_range.mp hk
  match k, hk with
  | 0, _ => exact y_i1 207 rfl rfl
  | 1, _ => exact y_i1 209 rfl rfl
  | 2, _ => exact y_i1 211 rfl rfl
  | 3, _ => exact y_i1 213 rfl rfl
  | 4, _ => exact y_i1 215 rfl rfl
  | k + 5, hk => exact absurd hk (by omega)
theorem yI5 : ∀ w ∈ u_ws yR5 yT5 46, w ∈ yGW := by
  intro w hw
  obtain ⟨k, hk, rfl⟩ := List.mem_map.mp hw
  have hk := List.mem_range.mp hk
  match k, hk with
  | 0, _ => exact y_i4 110 rfl rfl
  | 1, _ => exact y_i4 112 rfl rfl
  | 2, _ => exact y_i4 114 rfl rfl
  | 3, _ => exact y_i4 116 rfl rfl
  | 4, _ => exact y_i4 118 rfl rfl
  | 5, _ => exact y_i4 120 rfl rfl
  | 6, _ => exact y_i4 122 rfl rfl
  | 7, _ => exact y_i4 124 rfl rfl
  | 8, _ => exact y_i4 126 rfl rfl
  | 9, _ => exact y_i4 128 rfl rfl
  | 10, _ => exact y_i4 130 rfl rfl
  | 11, _ => exact y_i4 132 rfl rfl
  | 12, _ => exact y_i4 134 rfl rfl
  | 13, _ => exact y_i4 136 rfl rfl
  | 14, _ => exact y_i4 138 rfl rfl
  | 15, _ => exact y_i4 140 rfl rfl
  | 16, _ => exact y_i4 142 rfl rfl
  | 17, _ => exact y_i4 144 rfl rfl
  | 18, _ => exact y_i4 146 rfl rfl
  | 19, _ => exact y_i4 148 rfl rfl
  | 20, _ => exact y_i4 150 rfl rfl
  | 21, _ => exact y_i4 152 rfl rfl
  | 22, _ => exact y_i4 154 rfl rfl
  | 23, _ => exact y_i4 156 rfl rfl
  | 24, _ => exact y_i4 158 rfl rfl
  | 25, _ => exact y_i4 160 rfl rfl
  | 26, _ => exact y_i4 162 rfl rfl
  | 27, _ => exact y_i4 164 rfl rfl
  | 28, _ => exact y_i4 166 rfl rfl
  | 29, _ => exact y_i4 168 rfl rfl
  | 30, _ => exact y_i4 170 rfl rfl
  | 31, _ => exact y_i4 172 rfl rfl
  | 32, _ => exact y_i4 174 rfl rfl
  | 33, _ => exact y_i4 176 rfl rfl
  | 34, _ => exact y_i4 178 rfl rfl
  | 35, _ => exact y_i4 180 rfl rfl
  | 36, _ => exact y_i4 182 rfl rfl
  | 37, _ => exact y_i4 184 rfl rfl
  | 38, _ => exact y_i4 186 rfl rfl
  | 39, _ => exact y_i4 188 rfl rfl
  | 40, _ => exact y_i4 190 rfl rfl
  | 41, _ => exact y_i4 192 rfl rfl
  | 42, _ => exact y_i4 194 rfl rfl
  | 43, _ => exact y_i4 196 rfl rfl
  | 44, _ => exact y_i4 198 rfl rfl
  | 45, _ => exact y_i4 200 rfl rfl
  | k + 46, hk => exact absurd hk (by omega)
def yNf (ci : Nat) : Nat := match ci with
  | 0 => 8
  | 1 => 10
  | 2 => 9
  | 3 => 6
  | 4 => 5
  | _ => 46
theorem yCls {ci : Nat} {q : vw_C} (hc : yCl[ci]? = some q) : (∀ w ∈ u_ws q.1 q.2.1 q.2.2, w ∈ yGW) ∧ (∃ ty : Nat → FieldType, ∀ k, k < q.2.2 → parseFieldDescriptor (q.2.1 k).2.2.1 = some (ty k)) ∧ (∀ a, a < q.2.2 → ∀ b, b < q.2.2 → a ≠ b → (q.2.1 a).2.1 ≠ (q.2.1 b).2.1) ∧ q.2.2 = yNf ci ∧ ci < 6 := by
  match ci, hc with
  | 0, hc => cases hc; exact ⟨yI0, ⟨yY0, yO0⟩, yN0, rfl, by decide⟩
  | 1, hc => cases hc; exact ⟨yI1, ⟨yY1, yO1⟩, yN1, rfl, by decide⟩
  | 2, hc => cases hc; exact ⟨yI2, ⟨yY2, yO2⟩, yN2, rfl, by decide⟩
  | 3, hc => cases hc; exact ⟨yI3, ⟨yY3, yO3⟩, yN3, rfl, by decide⟩
  | 4, hc => cases hc; exact ⟨yI4, ⟨yY4, yO4⟩, yN4, rfl, by decide⟩
  | 5, hc => cases hc; exact ⟨yI5, ⟨yY5, yO5⟩, yN5, rfl, by decide⟩
  | n + 6, hc => simp at hc
/-! THE WORLD OF A SYSTEM -/
/-- a system's memory: ints and longs by cell and place; the one reference that moves -/
abbrev Mm : Type := (Nat → Nat → Int32) × (Nat → Nat → Int64) × Option Nat
/-- a system: how many cells, the kind of each (below 6 a class; 6 ints, 7 longs, 8 and on references), the lengths, the references that stay -/
abbrev Sy : Type := Nat × (Nat → Nat) × (Nat → Nat) × (Nat → Nat → Option Nat)
/-- where it lies: the addresses, the classes' numbers and slots, the arrays' classes -/
abbrev WP : Type := (Nat → Nat) × va_G × (Nat → ClassId)
def yV (Y : Sy) (w : WP) (μ : Mm) (id ci k : Nat) : Value := if yRf ci k = true then va_re w.1 (if ci = 5 ∧ k = 29 then μ.2.2 else Y.2.2.2 id k) else .int (μ.1 id k)
def yF (Y : Sy) (w : WP) (μ : Mm) (id ci n : Nat) : List Value := (List.range n).map (yV Y w μ id ci)
def yC (Y : Sy) (w : WP) (μ : Mm) (id : Nat) : va_E :=
  if Y.2.1 id < 6 then .inr (Y.2.1 id, yF Y w μ id (Y.2.1 id) (yNf (Y.2.1 id)))
  else if Y.2.1 id = 6 then .inl (w.2.2 0, Y.2.2.1 id, .inl (μ.1 id))
  else if Y.2.1 id = 7 then .inl (w.2.2 1, Y.2.2.1 id, .inr (.inl (μ.2.1 id)))
  else .inl (w.2.2 (Y.2.1 id - 6), Y.2.2.1 id, .inr (.inr (.inr (.inr (fun j => (Y.2.2.2 id j).map w.1)))))
def yW (Y : Sy) (w : WP) (μ : Mm) : va_W := (List.range Y.1).map (fun k => (w.1 k, yC Y w μ k))
theorem yW_at {Y : Sy} {w : WP} {μ : Mm} {k : Nat} (h : k < Y.1) : (yW Y w μ)[k]? = some (w.1 k, yC Y w μ k) := by simp [yW, h]
theorem yW_set {Y : Sy} {w : WP} {μ μ' : Mm} {id : Nat} {e : va_E} (h : id < Y.1) (he : yC Y w μ' id = e) (ho : ∀ k, k ≠ id → yC Y w μ' k = yC Y w μ k) : (yW Y w μ).set id (w.1 id, e) = yW Y w μ' := by
  have hlen : ∀ μ0 : Mm, (yW Y w μ0).length = Y.1 := fun μ0 => by simp [yW]
  apply List.ext_getElem?
  intro k
  by_cases hk : k = id
  · subst hk
    rw [List.getElem?_set_self (by rw [hlen]; exact h), yW_at h, he]
  · rw [List.getElem?_set_ne (Ne.symm hk)]
    by_cases h2 : k < Y.1
    · rw [yW_at h2, yW_at h2, ho k hk]
    · rw [List.getElem?_eq_none (by rw [hlen]; omega), List.getElem?_eq_none (by rw [hlen]; omega)]
def yTys (w : WP) : List (ClassId × FieldType) := [(w.2.2 0, .int), (w.2.2 1, .long), (w.2.2 2, .object "WhoseGlass$Glass"), (w.2.2 3, .object "WhoseGlass$Guest"), (w.2.2 4, .object "WhoseGlass$Shelf")]
def yA (Y : Sy) (w : WP) : Nat → Prop := fun q => ∃ k, k < Y.1 ∧ q = w.1 k
def yInj (Y : Sy) (w : WP) : Prop := ∀ i j, i < Y.1 → j < Y.1 → w.1 i = w.1 j → i = j
/-- the links between nest mates -/
def yNst : List Cond := [.methodLinkNest "WhoseGlass" 28 ⟨"WhoseGlass$Shelf", "<init>", "()V"⟩ "WhoseGlass", .methodLinkNest "WhoseGlass$House" 77 ⟨"WhoseGlass", "isMultiple", "(II)Z"⟩ "WhoseGlass", .methodLinkNest "WhoseGlass$HouseText" 76 ⟨"WhoseGlass", "isBelow", "(II)Z"⟩ "WhoseGlass"]
def yNs (U : State) : Prop := ∀ x ∈ yNst, va_Nw x U
theorem yD {Y : Sy} {w : WP} {μ : Mm} (h : yInj Y w) : va_D (yA Y w) (yW Y w μ) := by
  have hlen : (yW Y w μ).length = Y.1 := by simp [yW]
  have key : ∀ (i : Nat) (p : Nat × va_E), (yW Y w μ)[i]? = some p → i < Y.1 ∧ p.1 = w.1 i := by
    intro i p hp
    have hi : i < Y.1 := by rw [← hlen]; exact (List.getElem?_eq_some_iff.mp hp).1
    rw [yW_at hi] at hp
    cases hp
    exact ⟨hi, rfl⟩
  refine ⟨fun i j p q hp hq hpq => ?_, fun k q hq => ?_⟩
  · obtain ⟨h1, h2⟩ := key i p hp
    obtain ⟨h3, h4⟩ := key j q hq
    exact h i j h1 h3 (by rw [← h2, ← h4, hpq])
  · obtain ⟨h1, h2⟩ := key k q hq
    exact ⟨k, h1, h2⟩
/-! THE PURE STEPS: what may fail is an Option -/
def ob {α β : Type} (o : Option α) (K : α → Option β) : Option β := match o with
  | none => none
  | some x => K x
/-- behind a call: its answer and the memory -/
def yb {α β : Type} (o : Option (α × Mm)) (K : α → Mm → Option β) : Option β := match o with
  | none => none
  | some q => K q.1 q.2
theorem ob_s {α β : Type} (x : α) (K : α → Option β) : ob (some x) K = K x := rfl
theorem ob_n {α β : Type} (K : α → Option β) : ob none K = none := rfl
theorem yb_s {α β : Type} (x : α) (μ : Mm) (K : α → Mm → Option β) : yb (some (x, μ)) K = K x μ := rfl
theorem ob_e {α β : Type} {o : Option α} {K : α → Option β} {z : β} (h : ob o K = some z) : ∃ x, o = some x ∧ K x = some z := by
  cases o with
  | none => cases h
  | some x => exact ⟨x, rfl, h⟩
theorem yb_e {α β : Type} {o : Option (α × Mm)} {K : α → Mm → Option β} {z : β} (h : yb o K = some z) : ∃ q, o = some q ∧ K q.1 q.2 = some z := by
  cases o with
  | none => cases h
  | some x => exact ⟨x, rfl, h⟩
def y2 {α : Type} (f : Nat → Nat → α) (a b : Nat) (v : α) : Nat → Nat → α := fun i j => if i = a ∧ j = b then v else f i j
def jk (Y : Sy) (ci : Nat) (r : Option Nat) : Option Nat := ob r fun id => if id < Y.1 ∧ Y.2.1 id = ci then some id else none
def jgi (Y : Sy) (ci k : Nat) (μ : Mm) (r : Option Nat) : Option Int32 := ob (jk Y ci r) fun id => some (μ.1 id k)
def jgr (Y : Sy) (ci k : Nat) (r : Option Nat) : Option (Option Nat) := ob (jk Y ci r) fun id => some (Y.2.2.2 id k)
def jgk (Y : Sy) (μ : Mm) (r : Option Nat) : Option (Option Nat) := ob (jk Y 5 r) fun _ => some μ.2.2
def jpi (Y : Sy) (ci k : Nat) (μ : Mm) (r : Option Nat) (v : Int32) : Option Mm := ob (jk Y ci r) fun id => some (y2 μ.1 id k v, μ.2.1, μ.2.2)
def jpz (Y : Sy) (ci k : Nat) (μ : Mm) (r : Option Nat) (v : Int32) : Option Mm := if v = 0 ∨ v = 1 then jpi Y ci k μ r v else none
def jpk (Y : Sy) (μ : Mm) (r : Option Nat) (v : Option Nat) : Option Mm := ob (jk Y 5 r) fun _ => some (μ.1, μ.2.1, v)
def jin (n : Nat) (i : Int32) : Option Nat := if 0 ≤ i ∧ i.toNatClampNeg < n then some i.toNatClampNeg else none
def jal (Y : Sy) (μ : Mm) (r : Option Nat) (i : Int32) : Option Int32 := ob (jk Y 6 r) fun id => ob (jin (Y.2.2.1 id) i) fun j => some (μ.1 id j)
def jas (Y : Sy) (μ : Mm) (r : Option Nat) (i v : Int32) : Option Mm := ob (jk Y 6 r) fun id => ob (jin (Y.2.2.1 id) i) fun j => some (y2 μ.1 id j v, μ.2.1, μ.2.2)
def jll (Y : Sy) (μ : Mm) (r : Option Nat) (i : Int32) : Option Int64 := ob (jk Y 7 r) fun id => ob (jin (Y.2.2.1 id) i) fun j => some (μ.2.1 id j)
def jls (Y : Sy) (μ : Mm) (r : Option Nat) (i : Int32) (v : Int64) : Option Mm := ob (jk Y 7 r) fun id => ob (jin (Y.2.2.1 id) i) fun j => some (μ.1, y2 μ.2.1 id j v, μ.2.2)
def jaa (Y : Sy) (ki : Nat) (r : Option Nat) (i : Int32) : Option (Option Nat) := ob (jk Y ki r) fun id => ob (jin (Y.2.2.1 id) i) fun j => some (Y.2.2.2 id j)
def jln (Y : Sy) (ki : Nat) (r : Option Nat) : Option Int32 := ob (jk Y ki r) fun id => some (nI (Y.2.2.1 id))
def jdv (x y : Int32) : Option Int32 := if y = 0 then none else some (x / y)
def jrm (x y : Int32) : Option Int32 := if y = 0 then none else some (x - x / y * y)
def jz (v : Int32) : Option Int32 := if v = 0 ∨ v = 1 then some v else none
theorem jk_e {Y : Sy} {ci : Nat} {r : Option Nat} {id : Nat} (h : jk Y ci r = some id) : r = some id ∧ id < Y.1 ∧ Y.2.1 id = ci := by
  obtain ⟨x, hx, h2⟩ := ob_e h
  subst hx
  by_cases hc : x < Y.1 ∧ Y.2.1 x = ci
  · rw [if_pos hc] at h2; cases h2; exact ⟨rfl, hc⟩
  · rw [if_neg hc] at h2; cases h2
theorem jin_e {n j : Nat} {i : Int32} (h : jin n i = some j) : vp_in i n ∧ j = i.toNatClampNeg ∧ j < n := by
  unfold jin at h
  by_cases hc : 0 ≤ i ∧ i.toNatClampNeg < n
  · rw [if_pos hc] at h; cases h
    exact ⟨fun q => q.elim (fun q => absurd hc.1 (Int32.not_le.mpr q)) (fun q => absurd hc.2 (Nat.not_lt.mpr q)), rfl, hc.2⟩
  · rw [if_neg hc] at h; cases h
theorem y_cat (a : Nat → Nat) (r : Option Nat) : (va_re a r).category = 1 := by cases r <;> rfl
/-! THE JUDGEMENT: from the machine at pc, with these locals, this stack, the system's cells holding μ, Q is reached -/
def yX (p : Program) (e : Env) (R : Room) (s : State) (m : MethodId) (args : Array Value) (c : Code) (Y : Sy) (w : WP) (nL : Nat) (cc : ByteArray) (own : String) : Prop :=
  p.tables.exec = Jvm.exec ∧ c.code = cc ∧ c.maxLocals = nL ∧ s.vm.findClass own = some m.cls ∧ (∀ w ∈ yGW, w.before args s = true) ∧ va_K w.2.1 yCl (yTys w) s ∧ yInj Y w ∧ yNs s
def yG (p : Program) (l : Launch) (e : Env) (R : Room) (s : State) (m : MethodId) (args : Array Value) (below : List Frame) (meth : Method) (c : Code) (Y : Sy) (w : WP) (nL : Nat) (Q : State → Prop) (μ : Mm) (pc : Nat) (lv : List (Nat × Value)) (st : List Value) : Prop :=
  ∀ (H : Heap) (locs : List Loc) (ls : Array Slot), lv_has ls nL lv → va_P w.2.1 yCl (yW Y w μ) H → va_S (yA Y w) s.heap H locs → W p l e R s m args below meth c H locs 0 0 Q (F0 m pc ls st)
/-! contracts -/
def yB (Y : Sy) (w : WP) (μ : Mm) (U : State) : Prop := va_P w.2.1 yCl (yW Y w μ) U.heap ∧ va_K w.2.1 yCl (yTys w) U ∧ yInj Y w ∧ yNs U
def yQ {ρ : Type} (Y : Sy) (w : WP) (f : ρ → Option Value) (out : ρ × Mm) : Array Value → State → Outcome → State → Prop := fun _ st oc t => oc = .returned (f out.1) ∧ va_P w.2.1 yCl (yW Y w out.2) t.heap ∧ va_F (yA Y w) st t
def yMet {ρ : Type} (l : Launch) (y : MethodName) (ws : List Cond) (rm : Room) (Y : Sy) (w : WP) (μ : Mm) (As : List Value) (f : ρ → Option Value) (out : ρ × Mm) : Prop := Met l y ws rm (va_Pc As (yB Y w μ)) (yQ Y w f out) 0 0 (yA Y w)
def yfi (x : Int32) : Option Value := some (.int x)
def yfl (x : Int64) : Option Value := some (.long x)
def yfr (w : WP) (r : Option Nat) : Option Value := some (va_re w.1 r)
def yfv (_ : Unit) : Option Value := none
theorem yNs.calling {U : State} {g : JFrame} {mk : MethodId} {a : Array Value} (h : yNs U) : yNs (U.calling g mk a) := fun x hx => by
  have h1 := h x hx
  have hW : U.vm.Alike U.vm := Vm.Alike.refl U.vm
  simp only [yNst, List.mem_cons, List.not_mem_nil, or_false] at hx
  rcases hx with rfl | rfl | rfl <;> exact h1
theorem yNs.warm {s U : State} (hW : s.WarmedH U.vm) (h : yNs s) : yNs U := fun x hx => by
  have h1 := h x hx
  simp only [yNst, List.mem_cons, List.not_mem_nil, or_false] at hx
  rcases hx with rfl | rfl | rfl <;> exact va_Nw.warmM hW h1
section YR
variable {p : Program} {l : Launch} {e : Env} {R : Room} {s : State} {m : MethodId} {args : Array Value} {below : List Frame} {meth : Method} {c : Code} {Y : Sy} {w : WP} {nL : Nat} {Q : State → Prop} {cc : ByteArray} {own : String}
variable {μ : Mm} {pc : Nat} {lv : List (Nat × Value)} {st : List Value}

theorem y_iconst (C : yX p e R s m args c Y w nL cc own) {n : Int} {v : Int32} (hdg : decode cc pc = .ok (.iconst n, 1)) (hv : Int32.ofInt n = v) (k : yG p l e R s m args below meth c Y w nL Q μ (pc + 1) lv (.int v :: st)) : yG p l e R s m args below meth c Y w nL Q μ (pc) lv (st) := fun H locs ls h1 h2 h3 => lv_iconst C.1 C.2.1 hdg hv (k H locs ls h1 h2 h3)
theorem y_bipush (C : yX p e R s m args c Y w nL cc own) {n : Int} {v : Int32} (hdg : decode cc pc = .ok (.bipush n, 2)) (hv : (Int8.ofInt n).toInt32 = v) (k : yG p l e R s m args below meth c Y w nL Q μ (pc + 2) lv (.int v :: st)) : yG p l e R s m args below meth c Y w nL Q μ (pc) lv (st) := fun H locs ls h1 h2 h3 => lv_bipush C.1 C.2.1 hdg hv (k H locs ls h1 h2 h3)
theorem y_sipush (C : yX p e R s m args c Y w nL cc own) {n : Int} {v : Int32} (hdg : decode cc pc = .ok (.sipush n, 3)) (hv : (Int16.ofInt n).toInt32 = v) (k : yG p l e R s m args below meth c Y w nL Q μ (pc + 3) lv (.int v :: st)) : yG p l e R s m args below meth c Y w nL Q μ (pc) lv (st) := fun H locs ls h1 h2 h3 => lv_sipush C.1 C.2.1 hdg hv (k H locs ls h1 h2 h3)
theorem y_lconst (C : yX p e R s m args c Y w nL cc own) {n : Fin 2} {v : Int64} (hdg : decode cc pc = .ok (.lconst n, 1)) (hv : Int64.ofNat (n : Nat) = v) (k : yG p l e R s m args below meth c Y w nL Q μ (pc + 1) lv (.long v :: st)) : yG p l e R s m args below meth c Y w nL Q μ (pc) lv (st) := fun H locs ls h1 h2 h3 => lv_lconst C.1 C.2.1 hdg hv (k H locs ls h1 h2 h3)
theorem y_iload_n (C : yX p e R s m args c Y w nL cc own) {k : Fin 4} {i : Nat} {x : Int32} (j : Nat) (hdg : decode cc pc = .ok (.iload_n k, 1)) (hi : (k : Nat) = i) (hj : lv[j]? = some (i, .int x)) (kk : yG p l e R s m args below meth c Y w nL Q μ (pc + 1) lv (.int x :: st)) : yG p l e R s m args below meth c Y w nL Q μ (pc) lv (st) := fun H locs ls h1 h2 h3 => lv_iload_n C.1 C.2.1 hdg hi (lv_at h1 j hj) (kk H locs ls h1 h2 h3)
theorem y_iload (C : yX p e R s m args c Y w nL cc own) {i : Nat} {x : Int32} (j : Nat) (hdg : decode cc pc = .ok (.iload i, 2)) (hj : lv[j]? = some (i, .int x)) (kk : yG p l e R s m args below meth c Y w nL Q μ (pc + 2) lv (.int x :: st)) : yG p l e R s m args below meth c Y w nL Q μ (pc) lv (st) := fun H locs ls h1 h2 h3 => lv_iload C.1 C.2.1 hdg (lv_at h1 j hj) (kk H locs ls h1 h2 h3)
theorem y_lload_n (C : yX p e R s m args c Y w nL cc own) {k : Fin 4} {i : Nat} {x : Int64} (j : Nat) (hdg : decode cc pc = .ok (.lload_n k, 1)) (hi : (k : Nat) = i) (hj : lv[j]? = some (i, .long x)) (kk : yG p l e R s m args below meth c Y w nL Q μ (pc + 1) lv (.long x :: st)) : yG p l e R s m args below meth c Y w nL Q μ (pc) lv (st) := fun H locs ls h1 h2 h3 => lv_lload_n C.1 C.2.1 hdg hi (lv_at h1 j hj) (kk H locs ls h1 h2 h3)
theorem y_lload (C : yX p e R s m args c Y w nL cc own) {i : Nat} {x : Int64} (j : Nat) (hdg : decode cc pc = .ok (.lload i, 2)) (hj : lv[j]? = some (i, .long x)) (kk : yG p l e R s m args below meth c Y w nL Q μ (pc + 2) lv (.long x :: st)) : yG p l e R s m args below meth c Y w nL Q μ (pc) lv (st) := fun H locs ls h1 h2 h3 => lv_lload C.1 C.2.1 hdg (lv_at h1 j hj) (kk H locs ls h1 h2 h3)
theorem y_aload_n (C : yX p e R s m args c Y w nL cc own) {k : Fin 4} {i : Nat} {r : Option Nat} (j : Nat) (hdg : decode cc pc = .ok (.aload_n k, 1)) (hi : (k : Nat) = i) (hj : lv[j]? = some (i, va_re w.1 r)) (kk : yG p l e R s m args below meth c Y w nL Q μ (pc + 1) lv (va_re w.1 r :: st)) : yG p l e R s m args below meth c Y w nL Q μ (pc) lv (st) := by
  intro H locs ls h1 h2 h3
  cases r with
  | none => exact lv_aload_nN C.1 C.2.1 hdg hi (lv_at h1 j hj) (kk H locs ls h1 h2 h3)
  | some z => exact lv_aload_n C.1 C.2.1 hdg hi (lv_at h1 j hj) (kk H locs ls h1 h2 h3)
theorem y_aload (C : yX p e R s m args c Y w nL cc own) {i : Nat} {r : Option Nat} (j : Nat) (hdg : decode cc pc = .ok (.aload i, 2)) (hj : lv[j]? = some (i, va_re w.1 r)) (kk : yG p l e R s m args below meth c Y w nL Q μ (pc + 2) lv (va_re w.1 r :: st)) : yG p l e R s m args below meth c Y w nL Q μ (pc) lv (st) := by
  intro H locs ls h1 h2 h3
  cases r with
  | none => exact lv_aloadN C.1 C.2.1 hdg (lv_at h1 j hj) (kk H locs ls h1 h2 h3)
  | some z => exact lv_aload C.1 C.2.1 hdg (lv_at h1 j hj) (kk H locs ls h1 h2 h3)
theorem y_istore_n (C : yX p e R s m args c Y w nL cc own) {k : Fin 4} {i : Nat} {v : Int32} {lvp : List (Nat × Value)} (hdg : decode cc pc = .ok (.istore_n k, 1)) (hi : (k : Nat) = i) (hn : i < nL) (hl : lv.filter (fun q => !(q.1 == i) && !(q.1 + 1 == i && q.2.category == 2)) = lvp) (kk : yG p l e R s m args below meth c Y w nL Q μ (pc + 1) ((i, .int v) :: lvp) (st)) : yG p l e R s m args below meth c Y w nL Q μ (pc) lv (.int v :: st) := fun H locs ls h1 h2 h3 => lv_istore_n C.1 C.2.1 hdg hi h1 hn (congrArg (List.cons (i, .int v)) hl) (fun ls2 h4 => kk H locs ls2 h4 h2 h3)
theorem y_istore_nB (C : yX p e R s m args c Y w nL cc own) {k : Fin 4} {i : Nat} {v : Int32} {lvp : List (Nat × Value)} {ρ : Type} {K : Int32 → Option ρ} {out : ρ} (hdg : decode cc pc = .ok (.istore_n k, 1)) (hi : (k : Nat) = i) (hn : i < nL) (hl : lv.filter (fun q => !(q.1 == i) && !(q.1 + 1 == i && q.2.category == 2)) = lvp) (h : ob (some v) K = some out) (kk : ∀ v : Int32, K v = some out → yG p l e R s m args below meth c Y w nL Q μ (pc + 1) ((i, .int v) :: lvp) (st)) : yG p l e R s m args below meth c Y w nL Q μ (pc) lv (.int v :: st) := y_istore_n C hdg hi hn hl (kk v h)
theorem y_istore (C : yX p e R s m args c Y w nL cc own) {i : Nat} {v : Int32} {lvp : List (Nat × Value)} (hdg : decode cc pc = .ok (.istore i, 2)) (hn : i < nL) (hl : lv.filter (fun q => !(q.1 == i) && !(q.1 + 1 == i && q.2.category == 2)) = lvp) (kk : yG p l e R s m args below meth c Y w nL Q μ (pc + 2) ((i, .int v) :: lvp) (st)) : yG p l e R s m args below meth c Y w nL Q μ (pc) lv (.int v :: st) := fun H locs ls h1 h2 h3 => lv_istore C.1 C.2.1 hdg h1 hn (congrArg (List.cons (i, .int v)) hl) (fun ls2 h4 => kk H locs ls2 h4 h2 h3)
theorem y_istoreB (C : yX p e R s m args c Y w nL cc own) {i : Nat} {v : Int32} {lvp : List (Nat × Value)} {ρ : Type} {K : Int32 → Option ρ} {out : ρ} (hdg : decode cc pc = .ok (.istore i, 2)) (hn : i < nL) (hl : lv.filter (fun q => !(q.1 == i) && !(q.1 + 1 == i && q.2.category == 2)) = lvp) (h : ob (some v) K = some out) (kk : ∀ v : Int32, K v = some out → yG p l e R s m args below meth c Y w nL Q μ (pc + 2) ((i, .int v) :: lvp) (st)) : yG p l e R s m args below meth c Y w nL Q μ (pc) lv (.int v :: st) := y_istore C hdg hn hl (kk v h)
theorem y_lstore_n (C : yX p e R s m args c Y w nL cc own) {k : Fin 4} {i : Nat} {v : Int64} {lvp : List (Nat × Value)} (hdg : decode cc pc = .ok (.lstore_n k, 1)) (hi : (k : Nat) = i) (hn : i + 1 < nL) (hl : lv.filter (fun q => !(q.1 == i) && (!(q.1 == i + 1) && !(q.1 + 1 == i && q.2.category == 2))) = lvp) (kk : yG p l e R s m args below meth c Y w nL Q μ (pc + 1) ((i, .long v) :: lvp) (st)) : yG p l e R s m args below meth c Y w nL Q μ (pc) lv (.long v :: st) := fun H locs ls h1 h2 h3 => lv_lstore_n C.1 C.2.1 hdg hi h1 hn (congrArg (List.cons (i, .long v)) hl) (fun ls2 h4 => kk H locs ls2 h4 h2 h3)
theorem y_lstore_nB (C : yX p e R s m args c Y w nL cc own) {k : Fin 4} {i : Nat} {v : Int64} {lvp : List (Nat × Value)} {ρ : Type} {K : Int64 → Option ρ} {out : ρ} (hdg : decode cc pc = .ok (.lstore_n k, 1)) (hi : (k : Nat) = i) (hn : i + 1 < nL) (hl : lv.filter (fun q => !(q.1 == i) && (!(q.1 == i + 1) && !(q.1 + 1 == i && q.2.category == 2))) = lvp) (h : ob (some v) K = some out) (kk : ∀ v : Int64, K v = some out → yG p l e R s m args below meth c Y w nL Q μ (pc + 1) ((i, .long v) :: lvp) (st)) : yG p l e R s m args below meth c Y w nL Q μ (pc) lv (.long v :: st) := y_lstore_n C hdg hi hn hl (kk v h)
theorem y_lstore (C : yX p e R s m args c Y w nL cc own) {i : Nat} {v : Int64} {lvp : List (Nat × Value)} (hdg : decode cc pc = .ok (.lstore i, 2)) (hn : i + 1 < nL) (hl : lv.filter (fun q => !(q.1 == i) && (!(q.1 == i + 1) && !(q.1 + 1 == i && q.2.category == 2))) = lvp) (kk : yG p l e R s m args below meth c Y w nL Q μ (pc + 2) ((i, .long v) :: lvp) (st)) : yG p l e R s m args below meth c Y w nL Q μ (pc) lv (.long v :: st) := fun H locs ls h1 h2 h3 => lv_lstore C.1 C.2.1 hdg h1 hn (congrArg (List.cons (i, .long v)) hl) (fun ls2 h4 => kk H locs ls2 h4 h2 h3)
theorem y_lstoreB (C : yX p e R s m args c Y w nL cc own) {i : Nat} {v : Int64} {lvp : List (Nat × Value)} {ρ : Type} {K : Int64 → Option ρ} {out : ρ} (hdg : decode cc pc = .ok (.lstore i, 2)) (hn : i + 1 < nL) (hl : lv.filter (fun q => !(q.1 == i) && (!(q.1 == i + 1) && !(q.1 + 1 == i && q.2.category == 2))) = lvp) (h : ob (some v) K = some out) (kk : ∀ v : Int64, K v = some out → yG p l e R s m args below meth c Y w nL Q μ (pc + 2) ((i, .long v) :: lvp) (st)) : yG p l e R s m args below meth c Y w nL Q μ (pc) lv (.long v :: st) := y_lstore C hdg hn hl (kk v h)
theorem y_astore_n (C : yX p e R s m args c Y w nL cc own) {k : Fin 4} {i : Nat} {r : Option Nat} {lvp : List (Nat × Value)} (hdg : decode cc pc = .ok (.astore_n k, 1)) (hi : (k : Nat) = i) (hn : i < nL) (hl : lv.filter (fun q => !(q.1 == i) && !(q.1 + 1 == i && q.2.category == 2)) = lvp) (kk : yG p l e R s m args below meth c Y w nL Q μ (pc + 1) ((i, va_re w.1 r) :: lvp) (st)) : yG p l e R s m args below meth c Y w nL Q μ (pc) lv (va_re w.1 r :: st) := by
  intro H locs ls h1 h2 h3
  cases r with
  | none => exact lv_astore_nN C.1 C.2.1 hdg hi h1 hn (congrArg (List.cons (i, Value.null)) hl) (fun ls2 h4 => kk H locs ls2 h4 h2 h3)
  | some z => exact lv_astore_n C.1 C.2.1 hdg hi h1 hn (congrArg (List.cons (i, Value.ref (w.1 z))) hl) (fun ls2 h4 => kk H locs ls2 h4 h2 h3)
theorem y_astore (C : yX p e R s m args c Y w nL cc own) {i : Nat} {r : Option Nat} {lvp : List (Nat × Value)} (hdg : decode cc pc = .ok (.astore i, 2)) (hn : i < nL) (hl : lv.filter (fun q => !(q.1 == i) && !(q.1 + 1 == i && q.2.category == 2)) = lvp) (kk : yG p l e R s m args below meth c Y w nL Q μ (pc + 2) ((i, va_re w.1 r) :: lvp) (st)) : yG p l e R s m args below meth c Y w nL Q μ (pc) lv (va_re w.1 r :: st) := by
  intro H locs ls h1 h2 h3
  cases r with
  | none => exact lv_astoreN C.1 C.2.1 hdg h1 hn (congrArg (List.cons (i, Value.null)) hl) (fun ls2 h4 => kk H locs ls2 h4 h2 h3)
  | some z => exact lv_astore C.1 C.2.1 hdg h1 hn (congrArg (List.cons (i, Value.ref (w.1 z))) hl) (fun ls2 h4 => kk H locs ls2 h4 h2 h3)
theorem y_iinc (C : yX p e R s m args c Y w nL cc own) {i j : Nat} {n : Int} {x v : Int32} {lvp : List (Nat × Value)} {ρ : Type} {K : Int32 → Option ρ} {out : ρ} (hdg : decode cc pc = .ok (.iinc i n, 3)) (hj : lv[j]? = some (i, .int x)) (hv : Int32.ofInt n = v) (hn : i < nL) (hl : lv.filter (fun q => !(q.1 == i) && !(q.1 + 1 == i && q.2.category == 2)) = lvp) (h : ob (some (x + v)) K = some out) (kk : ∀ v : Int32, K v = some out → yG p l e R s m args below meth c Y w nL Q μ (pc + 3) ((i, .int v) :: lvp) (st)) : yG p l e R s m args below meth c Y w nL Q μ (pc) lv (st) := fun H locs ls h1 h2 h3 => lv_iinc C.1 C.2.1 hdg h1 hj (by rw [hv]) hn (congrArg (List.cons (i, Value.int (x + v))) hl) (fun ls2 h4 => kk _ h H locs ls2 h4 h2 h3)
theorem y_iadd (C : yX p e R s m args c Y w nL cc own) {x y : Int32} (hdg : decode cc pc = .ok (.iadd, 1))  (k : yG p l e R s m args below meth c Y w nL Q μ (pc + 1) lv (.int (x + y) :: st)) : yG p l e R s m args below meth c Y w nL Q μ (pc) lv (.int y :: .int x :: st) := fun H locs ls h1 h2 h3 => lv_iadd C.1 C.2.1 hdg (k H locs ls h1 h2 h3)
theorem y_isub (C : yX p e R s m args c Y w nL cc own) {x y : Int32} (hdg : decode cc pc = .ok (.isub, 1))  (k : yG p l e R s m args below meth c Y w nL Q μ (pc + 1) lv (.int (x - y) :: st)) : yG p l e R s m args below meth c Y w nL Q μ (pc) lv (.int y :: .int x :: st) := fun H locs ls h1 h2 h3 => lv_isub C.1 C.2.1 hdg (k H locs ls h1 h2 h3)
theorem y_imul (C : yX p e R s m args c Y w nL cc own) {x y : Int32} (hdg : decode cc pc = .ok (.imul, 1))  (k : yG p l e R s m args below meth c Y w nL Q μ (pc + 1) lv (.int (x * y) :: st)) : yG p l e R s m args below meth c Y w nL Q μ (pc) lv (.int y :: .int x :: st) := fun H locs ls h1 h2 h3 => lv_imul C.1 C.2.1 hdg (k H locs ls h1 h2 h3)
theorem y_iand (C : yX p e R s m args c Y w nL cc own) {x y : Int32} (hdg : decode cc pc = .ok (.iand, 1))  (k : yG p l e R s m args below meth c Y w nL Q μ (pc + 1) lv (.int (x &&& y) :: st)) : yG p l e R s m args below meth c Y w nL Q μ (pc) lv (.int y :: .int x :: st) := fun H locs ls h1 h2 h3 => lv_iand C.1 C.2.1 hdg (k H locs ls h1 h2 h3)
theorem y_ior (C : yX p e R s m args c Y w nL cc own) {x y : Int32} (hdg : decode cc pc = .ok (.ior, 1))  (k : yG p l e R s m args below meth c Y w nL Q μ (pc + 1) lv (.int (x ||| y) :: st)) : yG p l e R s m args below meth c Y w nL Q μ (pc) lv (.int y :: .int x :: st) := fun H locs ls h1 h2 h3 => lv_ior C.1 C.2.1 hdg (k H locs ls h1 h2 h3)
theorem y_ishl (C : yX p e R s m args c Y w nL cc own) {x y : Int32} (hdg : decode cc pc = .ok (.ishl, 1))  (k : yG p l e R s m args below meth c Y w nL Q μ (pc + 1) lv (.int (x <<< (y &&& 31)) :: st)) : yG p l e R s m args below meth c Y w nL Q μ (pc) lv (.int y :: .int x :: st) := fun H locs ls h1 h2 h3 => lv_ishl C.1 C.2.1 hdg (k H locs ls h1 h2 h3)
theorem y_idiv (C : yX p e R s m args c Y w nL cc own) {x y : Int32} {ρ : Type} {K : Int32 → Option ρ} {out : ρ} (hdg : decode cc pc = .ok (.idiv, 1)) (h : ob (jdv x y) K = some out) (kk : ∀ v : Int32, K v = some out → yG p l e R s m args below meth c Y w nL Q μ (pc + 1) lv (.int v :: st)) : yG p l e R s m args below meth c Y w nL Q μ (pc) lv (.int y :: .int x :: st) := by
  intro H locs ls h1 h2 h3
  by_cases hy : y = 0
  · rw [jdv, if_pos hy] at h; cases h
  · rw [jdv, if_neg hy] at h
    exact lv_idiv C.1 C.2.1 hdg hy (kk _ h H locs ls h1 h2 h3)
theorem y_irem (C : yX p e R s m args c Y w nL cc own) {x y : Int32} {ρ : Type} {K : Int32 → Option ρ} {out : ρ} (hdg : decode cc pc = .ok (.irem, 1)) (h : ob (jrm x y) K = some out) (kk : ∀ v : Int32, K v = some out → yG p l e R s m args below meth c Y w nL Q μ (pc + 1) lv (.int v :: st)) : yG p l e R s m args below meth c Y w nL Q μ (pc) lv (.int y :: .int x :: st) := by
  intro H locs ls h1 h2 h3
  by_cases hy : y = 0
  · rw [jrm, if_pos hy] at h; cases h
  · rw [jrm, if_neg hy] at h
    exact lv_irem C.1 C.2.1 hdg hy (kk _ h H locs ls h1 h2 h3)
theorem y_i2l (C : yX p e R s m args c Y w nL cc own) {x : Int32} (hdg : decode cc pc = .ok (.i2l, 1))  (k : yG p l e R s m args below meth c Y w nL Q μ (pc + 1) lv (.long x.toInt64 :: st)) : yG p l e R s m args below meth c Y w nL Q μ (pc) lv (.int x :: st) := fun H locs ls h1 h2 h3 => lv_i2l C.1 C.2.1 hdg rfl (k H locs ls h1 h2 h3)
theorem y_l2i (C : yX p e R s m args c Y w nL cc own) {x : Int64} (hdg : decode cc pc = .ok (.l2i, 1))  (k : yG p l e R s m args below meth c Y w nL Q μ (pc + 1) lv (.int x.toInt32 :: st)) : yG p l e R s m args below meth c Y w nL Q μ (pc) lv (.long x :: st) := fun H locs ls h1 h2 h3 => lv_l2i C.1 C.2.1 hdg rfl (k H locs ls h1 h2 h3)
theorem y_i2b (C : yX p e R s m args c Y w nL cc own) {x : Int32} (hdg : decode cc pc = .ok (.i2b, 1))  (k : yG p l e R s m args below meth c Y w nL Q μ (pc + 1) lv (.int x.toInt8.toInt32 :: st)) : yG p l e R s m args below meth c Y w nL Q μ (pc) lv (.int x :: st) := fun H locs ls h1 h2 h3 => lv_i2b C.1 C.2.1 hdg rfl (k H locs ls h1 h2 h3)
theorem y_i2s (C : yX p e R s m args c Y w nL cc own) {x : Int32} (hdg : decode cc pc = .ok (.i2s, 1))  (k : yG p l e R s m args below meth c Y w nL Q μ (pc + 1) lv (.int x.toInt16.toInt32 :: st)) : yG p l e R s m args below meth c Y w nL Q μ (pc) lv (.int x :: st) := fun H locs ls h1 h2 h3 => lv_i2s C.1 C.2.1 hdg rfl (k H locs ls h1 h2 h3)
theorem y_lcmp (C : yX p e R s m args c Y w nL cc own) {x y : Int64} (hdg : decode cc pc = .ok (.lcmp, 1))  (k : yG p l e R s m args below meth c Y w nL Q μ (pc + 1) lv (.int (lg_cmp x y) :: st)) : yG p l e R s m args below meth c Y w nL Q μ (pc) lv (.long y :: .long x :: st) := fun H locs ls h1 h2 h3 => W.lcmp C.1 C.2.1 hdg (k H locs ls h1 h2 h3)
theorem y_dup (C : yX p e R s m args c Y w nL cc own) {v : Value} (hdg : decode cc pc = .ok (.dup, 1)) (hv : v.category = 1) (k : yG p l e R s m args below meth c Y w nL Q μ (pc + 1) lv (v :: v :: st)) : yG p l e R s m args below meth c Y w nL Q μ (pc) lv (v :: st) := fun H locs ls h1 h2 h3 => lv_dup C.1 C.2.1 hdg hv (k H locs ls h1 h2 h3)
theorem y_pop (C : yX p e R s m args c Y w nL cc own) {v : Value} (hdg : decode cc pc = .ok (.pop, 1)) (hv : v.category = 1) (k : yG p l e R s m args below meth c Y w nL Q μ (pc + 1) lv (st)) : yG p l e R s m args below meth c Y w nL Q μ (pc) lv (v :: st) := fun H locs ls h1 h2 h3 => lv_pop C.1 C.2.1 hdg hv (k H locs ls h1 h2 h3)
theorem y_dup2 (C : yX p e R s m args c Y w nL cc own) {va vb : Value} (hdg : decode cc pc = .ok (.dup2, 1)) (hv : va.category = 1) (hw : vb.category = 1) (k : yG p l e R s m args below meth c Y w nL Q μ (pc + 1) lv (va :: vb :: va :: vb :: st)) : yG p l e R s m args below meth c Y w nL Q μ (pc) lv (va :: vb :: st) := fun H locs ls h1 h2 h3 => lv_dup2_11 C.1 C.2.1 hdg hv hw (k H locs ls h1 h2 h3)
theorem y_goto (C : yX p e R s m args c Y w nL cc own) {off : Int} {tgt : Nat} (hdg : decode cc pc = .ok (.goto off, 3)) (ht : (pc : Int) + off = (tgt : Int)) (k : yG p l e R s m args below meth c Y w nL Q μ (tgt) lv (st)) : yG p l e R s m args below meth c Y w nL Q μ (pc) lv (st) := fun H locs ls h1 h2 h3 => lv_goto C.1 C.2.1 hdg ht (k H locs ls h1 h2 h3)
theorem y_null (C : yX p e R s m args c Y w nL cc own)  (hdg : decode cc pc = .ok (.aconst_null, 1)) (k : yG p l e R s m args below meth c Y w nL Q μ (pc + 1) lv (va_re w.1 none :: st)) : yG p l e R s m args below meth c Y w nL Q μ (pc) lv (st) := fun H locs ls h1 h2 h3 => lv_null C.1 C.2.1 hdg (k H locs ls h1 h2 h3)
theorem y_ldc (C : yX p e R s m args c Y w nL cc own) {index : Nat} {v : Int32} (hdg : decode cc pc = .ok (.ldc index, 2)) (hc : Cond.constant own index v ∈ yGW) (k : yG p l e R s m args below meth c Y w nL Q μ (pc + 2) lv (.int v :: st)) : yG p l e R s m args below meth c Y w nL Q μ (pc) lv (st) := fun H locs ls h1 h2 h3 => lv_ldc C.1 C.2.1 C.2.2.2.1 (C.2.2.2.2.1 _ hc) hdg (k H locs ls h1 h2 h3)
theorem y_ldcw (C : yX p e R s m args c Y w nL cc own) {index : Nat} {v : Int32} (hdg : decode cc pc = .ok (.ldc_w index, 3)) (hc : Cond.constant own index v ∈ yGW) (k : yG p l e R s m args below meth c Y w nL Q μ (pc + 3) lv (.int v :: st)) : yG p l e R s m args below meth c Y w nL Q μ (pc) lv (st) := fun H locs ls h1 h2 h3 => lv_ldcw C.1 C.2.1 C.2.2.2.1 (C.2.2.2.2.1 _ hc) hdg (k H locs ls h1 h2 h3)
theorem y_ldc2 (C : yX p e R s m args c Y w nL cc own) {index : Nat} {v : Int64} (hdg : decode cc pc = .ok (.ldc2_w index, 3)) (hc : Cond.constantLong own index v ∈ yGW) (k : yG p l e R s m args below meth c Y w nL Q μ (pc + 3) lv (.long v :: st)) : yG p l e R s m args below meth c Y w nL Q μ (pc) lv (st) := fun H locs ls h1 h2 h3 => lv_ldc2 C.1 C.2.1 C.2.2.2.1 (C.2.2.2.2.1 _ hc) hdg (k H locs ls h1 h2 h3)
theorem y_ic_eq (C : yX p e R s m args c Y w nL cc own) {x y : Int32} {off : Int} {ρ : Type} {u v : Option ρ} {out : ρ} (tgt : Nat) (hdg : decode cc pc = .ok (.if_icmp .eq off, 3)) (ht : (pc : Int) + off = (tgt : Int)) (h : (if x = y then u else v) = some out) (kt : x = y → u = some out → yG p l e R s m args below meth c Y w nL Q μ (tgt) lv (st)) (kf : ¬ (x = y) → v = some out → yG p l e R s m args below meth c Y w nL Q μ (pc + 3) lv (st)) : yG p l e R s m args below meth c Y w nL Q μ (pc) lv (.int y :: .int x :: st) := fun H locs ls h1 h2 h3 => lv_icmp_eq C.1 C.2.1 hdg ht (fun q => kt q (by rw [if_pos q] at h; exact h) H locs ls h1 h2 h3) (fun q => kf q (by rw [if_neg q] at h; exact h) H locs ls h1 h2 h3)
theorem y_if_eq (C : yX p e R s m args c Y w nL cc own) {x : Int32} {off : Int} {ρ : Type} {u v : Option ρ} {out : ρ} (tgt : Nat) (hdg : decode cc pc = .ok (.ifCond .eq off, 3)) (ht : (pc : Int) + off = (tgt : Int)) (h : (if x = 0 then u else v) = some out) (kt : x = 0 → u = some out → yG p l e R s m args below meth c Y w nL Q μ (tgt) lv (st)) (kf : ¬ (x = 0) → v = some out → yG p l e R s m args below meth c Y w nL Q μ (pc + 3) lv (st)) : yG p l e R s m args below meth c Y w nL Q μ (pc) lv (.int x :: st) := fun H locs ls h1 h2 h3 => lv_if_eq C.1 C.2.1 hdg ht (fun q => kt q (by rw [if_pos q] at h; exact h) H locs ls h1 h2 h3) (fun q => kf q (by rw [if_neg q] at h; exact h) H locs ls h1 h2 h3)
theorem y_ic_ne (C : yX p e R s m args c Y w nL cc own) {x y : Int32} {off : Int} {ρ : Type} {u v : Option ρ} {out : ρ} (tgt : Nat) (hdg : decode cc pc = .ok (.if_icmp .ne off, 3)) (ht : (pc : Int) + off = (tgt : Int)) (h : (if x = y then u else v) = some out) (kt : x = y → u = some out → yG p l e R s m args below meth c Y w nL Q μ (pc + 3) lv (st)) (kf : ¬ (x = y) → v = some out → yG p l e R s m args below meth c Y w nL Q μ (tgt) lv (st)) : yG p l e R s m args below meth c Y w nL Q μ (pc) lv (.int y :: .int x :: st) := fun H locs ls h1 h2 h3 => lv_icmp_ne C.1 C.2.1 hdg ht (fun q => kf q (by rw [if_neg q] at h; exact h) H locs ls h1 h2 h3) (fun q => kt q (by rw [if_pos q] at h; exact h) H locs ls h1 h2 h3)
theorem y_if_ne (C : yX p e R s m args c Y w nL cc own) {x : Int32} {off : Int} {ρ : Type} {u v : Option ρ} {out : ρ} (tgt : Nat) (hdg : decode cc pc = .ok (.ifCond .ne off, 3)) (ht : (pc : Int) + off = (tgt : Int)) (h : (if x = 0 then u else v) = some out) (kt : x = 0 → u = some out → yG p l e R s m args below meth c Y w nL Q μ (pc + 3) lv (st)) (kf : ¬ (x = 0) → v = some out → yG p l e R s m args below meth c Y w nL Q μ (tgt) lv (st)) : yG p l e R s m args below meth c Y w nL Q μ (pc) lv (.int x :: st) := fun H locs ls h1 h2 h3 => lv_if_ne C.1 C.2.1 hdg ht (fun q => kf q (by rw [if_neg q] at h; exact h) H locs ls h1 h2 h3) (fun q => kt q (by rw [if_pos q] at h; exact h) H locs ls h1 h2 h3)
theorem y_ic_lt (C : yX p e R s m args c Y w nL cc own) {x y : Int32} {off : Int} {ρ : Type} {u v : Option ρ} {out : ρ} (tgt : Nat) (hdg : decode cc pc = .ok (.if_icmp .lt off, 3)) (ht : (pc : Int) + off = (tgt : Int)) (h : (if x < y then u else v) = some out) (kt : x < y → u = some out → yG p l e R s m args below meth c Y w nL Q μ (tgt) lv (st)) (kf : ¬ (x < y) → v = some out → yG p l e R s m args below meth c Y w nL Q μ (pc + 3) lv (st)) : yG p l e R s m args below meth c Y w nL Q μ (pc) lv (.int y :: .int x :: st) := fun H locs ls h1 h2 h3 => lv_icmp_lt C.1 C.2.1 hdg ht (fun q => kt q (by rw [if_pos q] at h; exact h) H locs ls h1 h2 h3) (fun q => kf q (by rw [if_neg q] at h; exact h) H locs ls h1 h2 h3)
theorem y_if_lt (C : yX p e R s m args c Y w nL cc own) {x : Int32} {off : Int} {ρ : Type} {u v : Option ρ} {out : ρ} (tgt : Nat) (hdg : decode cc pc = .ok (.ifCond .lt off, 3)) (ht : (pc : Int) + off = (tgt : Int)) (h : (if x < 0 then u else v) = some out) (kt : x < 0 → u = some out → yG p l e R s m args below meth c Y w nL Q μ (tgt) lv (st)) (kf : ¬ (x < 0) → v = some out → yG p l e R s m args below meth c Y w nL Q μ (pc + 3) lv (st)) : yG p l e R s m args below meth c Y w nL Q μ (pc) lv (.int x :: st) := fun H locs ls h1 h2 h3 => lv_if_lt C.1 C.2.1 hdg ht (fun q => kt q (by rw [if_pos q] at h; exact h) H locs ls h1 h2 h3) (fun q => kf q (by rw [if_neg q] at h; exact h) H locs ls h1 h2 h3)
theorem y_ic_ge (C : yX p e R s m args c Y w nL cc own) {x y : Int32} {off : Int} {ρ : Type} {u v : Option ρ} {out : ρ} (tgt : Nat) (hdg : decode cc pc = .ok (.if_icmp .ge off, 3)) (ht : (pc : Int) + off = (tgt : Int)) (h : (if y ≤ x then u else v) = some out) (kt : y ≤ x → u = some out → yG p l e R s m args below meth c Y w nL Q μ (tgt) lv (st)) (kf : ¬ (y ≤ x) → v = some out → yG p l e R s m args below meth c Y w nL Q μ (pc + 3) lv (st)) : yG p l e R s m args below meth c Y w nL Q μ (pc) lv (.int y :: .int x :: st) := fun H locs ls h1 h2 h3 => lv_icmp_ge C.1 C.2.1 hdg ht (fun q => kt q (by rw [if_pos q] at h; exact h) H locs ls h1 h2 h3) (fun q => kf q (by rw [if_neg q] at h; exact h) H locs ls h1 h2 h3)
theorem y_if_ge (C : yX p e R s m args c Y w nL cc own) {x : Int32} {off : Int} {ρ : Type} {u v : Option ρ} {out : ρ} (tgt : Nat) (hdg : decode cc pc = .ok (.ifCond .ge off, 3)) (ht : (pc : Int) + off = (tgt : Int)) (h : (if 0 ≤ x then u else v) = some out) (kt : 0 ≤ x → u = some out → yG p l e R s m args below meth c Y w nL Q μ (tgt) lv (st)) (kf : ¬ (0 ≤ x) → v = some out → yG p l e R s m args below meth c Y w nL Q μ (pc + 3) lv (st)) : yG p l e R s m args below meth c Y w nL Q μ (pc) lv (.int x :: st) := fun H locs ls h1 h2 h3 => lv_if_ge C.1 C.2.1 hdg ht (fun q => kt q (by rw [if_pos q] at h; exact h) H locs ls h1 h2 h3) (fun q => kf q (by rw [if_neg q] at h; exact h) H locs ls h1 h2 h3)
theorem y_ic_gt (C : yX p e R s m args c Y w nL cc own) {x y : Int32} {off : Int} {ρ : Type} {u v : Option ρ} {out : ρ} (tgt : Nat) (hdg : decode cc pc = .ok (.if_icmp .gt off, 3)) (ht : (pc : Int) + off = (tgt : Int)) (h : (if y < x then u else v) = some out) (kt : y < x → u = some out → yG p l e R s m args below meth c Y w nL Q μ (tgt) lv (st)) (kf : ¬ (y < x) → v = some out → yG p l e R s m args below meth c Y w nL Q μ (pc + 3) lv (st)) : yG p l e R s m args below meth c Y w nL Q μ (pc) lv (.int y :: .int x :: st) := fun H locs ls h1 h2 h3 => lv_icmp_gt C.1 C.2.1 hdg ht (fun q => kt q (by rw [if_pos q] at h; exact h) H locs ls h1 h2 h3) (fun q => kf q (by rw [if_neg q] at h; exact h) H locs ls h1 h2 h3)
theorem y_if_gt (C : yX p e R s m args c Y w nL cc own) {x : Int32} {off : Int} {ρ : Type} {u v : Option ρ} {out : ρ} (tgt : Nat) (hdg : decode cc pc = .ok (.ifCond .gt off, 3)) (ht : (pc : Int) + off = (tgt : Int)) (h : (if 0 < x then u else v) = some out) (kt : 0 < x → u = some out → yG p l e R s m args below meth c Y w nL Q μ (tgt) lv (st)) (kf : ¬ (0 < x) → v = some out → yG p l e R s m args below meth c Y w nL Q μ (pc + 3) lv (st)) : yG p l e R s m args below meth c Y w nL Q μ (pc) lv (.int x :: st) := fun H locs ls h1 h2 h3 => lv_if_gt C.1 C.2.1 hdg ht (fun q => kt q (by rw [if_pos q] at h; exact h) H locs ls h1 h2 h3) (fun q => kf q (by rw [if_neg q] at h; exact h) H locs ls h1 h2 h3)
theorem y_ic_le (C : yX p e R s m args c Y w nL cc own) {x y : Int32} {off : Int} {ρ : Type} {u v : Option ρ} {out : ρ} (tgt : Nat) (hdg : decode cc pc = .ok (.if_icmp .le off, 3)) (ht : (pc : Int) + off = (tgt : Int)) (h : (if x ≤ y then u else v) = some out) (kt : x ≤ y → u = some out → yG p l e R s m args below meth c Y w nL Q μ (tgt) lv (st)) (kf : ¬ (x ≤ y) → v = some out → yG p l e R s m args below meth c Y w nL Q μ (pc + 3) lv (st)) : yG p l e R s m args below meth c Y w nL Q μ (pc) lv (.int y :: .int x :: st) := fun H locs ls h1 h2 h3 => lv_icmp_le C.1 C.2.1 hdg ht (fun q => kt q (by rw [if_pos q] at h; exact h) H locs ls h1 h2 h3) (fun q => kf q (by rw [if_neg q] at h; exact h) H locs ls h1 h2 h3)
theorem y_if_le (C : yX p e R s m args c Y w nL cc own) {x : Int32} {off : Int} {ρ : Type} {u v : Option ρ} {out : ρ} (tgt : Nat) (hdg : decode cc pc = .ok (.ifCond .le off, 3)) (ht : (pc : Int) + off = (tgt : Int)) (h : (if x ≤ 0 then u else v) = some out) (kt : x ≤ 0 → u = some out → yG p l e R s m args below meth c Y w nL Q μ (tgt) lv (st)) (kf : ¬ (x ≤ 0) → v = some out → yG p l e R s m args below meth c Y w nL Q μ (pc + 3) lv (st)) : yG p l e R s m args below meth c Y w nL Q μ (pc) lv (.int x :: st) := fun H locs ls h1 h2 h3 => lv_if_le C.1 C.2.1 hdg ht (fun q => kt q (by rw [if_pos q] at h; exact h) H locs ls h1 h2 h3) (fun q => kf q (by rw [if_neg q] at h; exact h) H locs ls h1 h2 h3)
theorem y_ifnull (C : yX p e R s m args c Y w nL cc own) {r : Option Nat} {off : Int} {ρ : Type} {u v : Option ρ} {out : ρ} (tgt : Nat) (hdg : decode cc pc = .ok (.ifnull off, 3)) (ht : (pc : Int) + off = (tgt : Int)) (h : (if r = none then u else v) = some out) (kt : r = none → u = some out → yG p l e R s m args below meth c Y w nL Q μ (tgt) lv (st)) (kf : ¬ (r = none) → v = some out → yG p l e R s m args below meth c Y w nL Q μ (pc + 3) lv (st)) : yG p l e R s m args below meth c Y w nL Q μ (pc) lv (va_re w.1 r :: st) := by
  intro H locs ls h1 h2 h3
  cases r with
  | none => exact lv_ifnullN C.1 C.2.1 hdg ht (kt rfl (by rw [if_pos rfl] at h; exact h) H locs ls h1 h2 h3)
  | some z => exact lv_ifnull C.1 C.2.1 hdg (kf (by intro q; cases q) (by rw [if_neg (by intro q; cases q)] at h; exact h) H locs ls h1 h2 h3)
theorem y_ifnonnull (C : yX p e R s m args c Y w nL cc own) {r : Option Nat} {off : Int} {ρ : Type} {u v : Option ρ} {out : ρ} (tgt : Nat) (hdg : decode cc pc = .ok (.ifnonnull off, 3)) (ht : (pc : Int) + off = (tgt : Int)) (h : (if r = none then u else v) = some out) (kt : r = none → u = some out → yG p l e R s m args below meth c Y w nL Q μ (pc + 3) lv (st)) (kf : ¬ (r = none) → v = some out → yG p l e R s m args below meth c Y w nL Q μ (tgt) lv (st)) : yG p l e R s m args below meth c Y w nL Q μ (pc) lv (va_re w.1 r :: st) := by
  intro H locs ls h1 h2 h3
  cases r with
  | none => exact lv_ifnonnullN C.1 C.2.1 hdg (kt rfl (by rw [if_pos rfl] at h; exact h) H locs ls h1 h2 h3)
  | some z => exact lv_ifnonnull C.1 C.2.1 hdg ht (kf (by intro q; cases q) (by rw [if_neg (by intro q; cases q)] at h; exact h) H locs ls h1 h2 h3)
theorem y_sp {ρ : Type} {q : Prop} {P : Prop} {u v : Option ρ} {out : ρ} {hq : Decidable q} (h : (if q then u else v) = some out) (kt : q → u = some out → P) (kf : ¬ q → v = some out → P) : P := by
  by_cases hc : q
  · rw [if_pos hc] at h; exact kt hc h
  · rw [if_neg hc] at h; exact kf hc h
theorem y_tsw (C : yX p e R s m args c Y w nL cc own) {dflt lo hi : Int} {offs : Array Int} {len : Nat} {x : Int32} {off : Int} (tgt : Nat) (hdg : decode cc pc = .ok (.tableswitch dflt lo hi offs, len)) (ho : ((x.toInt < lo ∨ hi < x.toInt) ∧ off = dflt) ∨ (¬ x.toInt < lo ∧ ¬ hi < x.toInt ∧ offs[(x.toInt - lo).toNat]? = some off)) (ht : (pc : Int) + off = (tgt : Int)) (k : yG p l e R s m args below meth c Y w nL Q μ (tgt) lv (st)) : yG p l e R s m args below meth c Y w nL Q μ (pc) lv (.int x :: st) := by
  intro H locs ls h1 h2 h3
  rcases ho with ⟨a, rfl⟩ | ⟨a, b, d⟩
  · exact lv_tableOut C.1 C.2.1 hdg a ht (k H locs ls h1 h2 h3)
  · exact lv_tableIn C.1 C.2.1 hdg a b d ht (k H locs ls h1 h2 h3)
theorem y_lsw (C : yX p e R s m args c Y w nL cc own) {dflt : Int} {ps : Array (Int × Int)} {len : Nat} {x : Int32} {off : Int} (tgt : Nat) (hdg : decode cc pc = .ok (.lookupswitch dflt ps, len)) (hp : (ps.toList.zip (ps.toList.drop 1)).all (fun (a, next) => a.1 < next.1) = true) (ho : Op.lookupswitch.offset ps.toList dflt x.toInt = off) (ht : (pc : Int) + off = (tgt : Int)) (k : yG p l e R s m args below meth c Y w nL Q μ (tgt) lv (st)) : yG p l e R s m args below meth c Y w nL Q μ (pc) lv (.int x :: st) := fun H locs ls h1 h2 h3 => lv_lookup C.1 C.2.1 hdg hp ho ht (k H locs ls h1 h2 h3)
theorem y_sub {lvp : List (Nat × Value)} (ks : List Nat) (hl : lv_pick lv ks = lvp) (k : yG p l e R s m args below meth c Y w nL Q μ (pc) lvp (st)) : yG p l e R s m args below meth c Y w nL Q μ (pc) lv (st) := fun H locs ls h1 h2 h3 => k H locs ls (lv_sub h1 ks hl) h2 h3
theorem y_stk {stp0 : List Value} (hs : st = stp0) (k : yG p l e R s m args below meth c Y w nL Q μ (pc) lv (stp0)) : yG p l e R s m args below meth c Y w nL Q μ (pc) lv (st) := hs ▸ k
theorem yC_c {Y : Sy} {w : WP} {μ : Mm} {id ci : Nat} (h : Y.2.1 id = ci) (h6 : ci < 6) : yC Y w μ id = .inr (ci, yF Y w μ id ci (yNf ci)) := by unfold yC; rw [h, if_pos h6]
theorem yF_at {Y : Sy} {w : WP} {μ : Mm} {id ci k n : Nat} (h : k < n) : (yF Y w μ id ci n)[k]? = some (yV Y w μ id ci k) := by simp [yF, h]
theorem yF_len {Y : Sy} {w : WP} {μ : Mm} {id ci n : Nat} : (yF Y w μ id ci n).length = n := by simp [yF]
theorem y_gi (C : yX p e R s m args c Y w nL cc own) {ci k index : Nat} {q : vw_C} {r : Option Nat} {ρ : Type} {out : ρ} {K : Int32 → Option ρ} (hc : yCl[ci]? = some q) (hk : k < q.2.2) (hf : yRf ci k = false) (hl : Cond.fieldLink own index (q.2.1 k).1 (q.2.1 k).2.1 (q.2.1 k).2.2.1 ∈ yGW) (hdg : decode cc pc = .ok (.getfield index, 3)) (h : ob (jgi Y ci k μ r) K = some out) (kk : ∀ x : Int32, K x = some out → yG p l e R s m args below meth c Y w nL Q μ (pc + 3) lv (.int x :: st)) : yG p l e R s m args below meth c Y w nL Q μ (pc) lv (va_re w.1 r :: st) := by
  obtain ⟨x, hx0, h⟩ := ob_e h
  obtain ⟨id, hid, hx1⟩ := ob_e hx0
  obtain ⟨rfl, hlt, hkd⟩ := jk_e hid
  cases hx1
  intro H locs ls h1 h2 h3
  obtain ⟨d1, d2, d3, d4, d5⟩ := yCls hc
  have he : (yW Y w μ)[id]? = some (w.1 id, .inr (ci, yF Y w μ id ci q.2.2)) := by rw [yW_at hlt, yC_c hkd d5, d4]
  refine va_get (D := w.2.1) (ci := ci) (v := .int (μ.1 id k)) C.1 C.2.1 C.2.2.2.2.1 d1 C.2.2.2.1 C.2.2.2.2.2.1 h2 id he hc k hk (C.2.2.2.2.1 _ hl) (fun _ z => z) ?_ hdg (kk _ h H locs ls h1 h2 h3)
  rw [yF_at hk, yV, hf]; rfl
theorem y_gr (C : yX p e R s m args c Y w nL cc own) {ci k index : Nat} {q : vw_C} {r : Option Nat} {ρ : Type} {out : ρ} {K : Option Nat → Option ρ} (hc : yCl[ci]? = some q) (hk : k < q.2.2) (hf : yRf ci k = true) (h29 : ¬ (ci = 5 ∧ k = 29)) (hl : Cond.fieldLink own index (q.2.1 k).1 (q.2.1 k).2.1 (q.2.1 k).2.2.1 ∈ yGW) (hdg : decode cc pc = .ok (.getfield index, 3)) (h : ob (jgr Y ci k r) K = some out) (kk : ∀ x : Option Nat, K x = some out → yG p l e R s m args below meth c Y w nL Q μ (pc + 3) lv (va_re w.1 x :: st)) : yG p l e R s m args below meth c Y w nL Q μ (pc) lv (va_re w.1 r :: st) := by
  obtain ⟨x, hx0, h⟩ := ob_e h
  obtain ⟨id, hid, hx1⟩ := ob_e hx0
  obtain ⟨rfl, hlt, hkd⟩ := jk_e hid
  cases hx1
  intro H locs ls h1 h2 h3
  obtain ⟨d1, d2, d3, d4, d5⟩ := yCls hc
  have he : (yW Y w μ)[id]? = some (w.1 id, .inr (ci, yF Y w μ id ci q.2.2)) := by rw [yW_at hlt, yC_c hkd d5, d4]
  refine va_get (D := w.2.1) (ci := ci) (v := va_re w.1 (Y.2.2.2 id k)) C.1 C.2.1 C.2.2.2.2.1 d1 C.2.2.2.1 C.2.2.2.2.2.1 h2 id he hc k hk (C.2.2.2.2.1 _ hl) (fun _ z => z) ?_ hdg (kk _ h H locs ls h1 h2 h3)
  rw [yF_at hk, yV, hf, if_neg h29]; rfl
theorem y_gk (C : yX p e R s m args c Y w nL cc own) {index : Nat} {q : vw_C} {r : Option Nat} {ρ : Type} {out : ρ} {K : Option Nat → Option ρ} (hc : yCl[5]? = some q) (hk : 29 < q.2.2) (hl : Cond.fieldLink own index (q.2.1 29).1 (q.2.1 29).2.1 (q.2.1 29).2.2.1 ∈ yGW) (hdg : decode cc pc = .ok (.getfield index, 3)) (h : ob (jgk Y μ r) K = some out) (kk : ∀ x : Option Nat, K x = some out → yG p l e R s m args below meth c Y w nL Q μ (pc + 3) lv (va_re w.1 x :: st)) : yG p l e R s m args below meth c Y w nL Q μ (pc) lv (va_re w.1 r :: st) := by
  obtain ⟨x, hx0, h⟩ := ob_e h
  obtain ⟨id, hid, hx1⟩ := ob_e hx0
  obtain ⟨rfl, hlt, hkd⟩ := jk_e hid
  cases hx1
  intro H locs ls h1 h2 h3
  obtain ⟨d1, d2, d3, d4, d5⟩ := yCls hc
  have he : (yW Y w μ)[id]? = some (w.1 id, .inr (5, yF Y w μ id 5 q.2.2)) := by rw [yW_at hlt, yC_c hkd d5, d4]
  refine va_get (D := w.2.1) (ci := 5) (v := va_re w.1 μ.2.2) C.1 C.2.1 C.2.2.2.2.1 d1 C.2.2.2.1 C.2.2.2.2.2.1 h2 id he hc 29 hk (C.2.2.2.2.1 _ hl) (fun _ z => z) ?_ hdg (kk _ h H locs ls h1 h2 h3)
  rw [yF_at hk, yV, if_pos (c := yRf 5 29 = true) rfl, if_pos (c := 5 = 5 ∧ 29 = 29) ⟨rfl, rfl⟩]
theorem yV_y2 {Y : Sy} {w : WP} {μ : Mm} {id ci k : Nat} {v : Int32} (hf : yRf ci k = false) {n : Nat} : (yF Y w μ id ci n).set k (.int v) = yF Y w (y2 μ.1 id k v, μ.2.1, μ.2.2) id ci n := by
  apply List.ext_getElem?
  intro j
  by_cases hj : j < n
  · by_cases h : j = k
    · subst h
      rw [List.getElem?_set_self (by rw [yF_len]; exact hj), yF_at hj]
      simp [yV, hf, y2]
    · rw [List.getElem?_set_ne (Ne.symm h), yF_at hj, yF_at hj]
      simp [yV, y2, h]
  · rw [List.getElem?_eq_none (by rw [List.length_set, yF_len]; omega), List.getElem?_eq_none (by rw [yF_len]; omega)]
theorem yC_o {Y : Sy} {w : WP} {μ : Mm} {id k : Nat} {v : Int32} {x : Nat} (h : x ≠ id) : yC Y w (y2 μ.1 id k v, μ.2.1, μ.2.2) x = yC Y w μ x := by
  have e : (y2 μ.1 id k v) x = μ.1 x := by funext j; simp [y2, h]
  have e2 : ∀ ci n, yF Y w (y2 μ.1 id k v, μ.2.1, μ.2.2) x ci n = yF Y w μ x ci n := by
    intro ci n
    unfold yF
    congr 1
    funext j
    simp only [yV, e]
  simp only [yC, e, e2]
theorem y_pi (C : yX p e R s m args c Y w nL cc own) {ci k index : Nat} {q : vw_C} {r : Option Nat} {ρ : Type} {out : ρ} {v : Int32} {K : Mm → Option ρ} (hc : yCl[ci]? = some q) (hk : k < q.2.2) (hf : yRf ci k = false) (hfin : (q.2.1 k).2.2.2 = false) (hd : parseFieldDescriptor (q.2.1 k).2.2.1 = some .int) (hl : Cond.fieldLink own index (q.2.1 k).1 (q.2.1 k).2.1 (q.2.1 k).2.2.1 ∈ yGW) (hdg : decode cc pc = .ok (.putfield index, 3)) (h : ob (jpi Y ci k μ r v) K = some out) (kk : ∀ x : Mm, K x = some out → yG p l e R s m args below meth c Y w nL Q x (pc + 3) lv (st)) : yG p l e R s m args below meth c Y w nL Q μ (pc) lv (.int v :: va_re w.1 r :: st) := by
  obtain ⟨x, hx0, h⟩ := ob_e h
  obtain ⟨id, hid, hx1⟩ := ob_e hx0
  obtain ⟨rfl, hlt, hkd⟩ := jk_e hid
  cases hx1
  intro H locs ls h1 h2 h3
  obtain ⟨d1, ⟨ty, d2⟩, d3, d4, d5⟩ := yCls hc
  have he : (yW Y w μ)[id]? = some (w.1 id, .inr (ci, yF Y w μ id ci q.2.2)) := by rw [yW_at hlt, yC_c hkd d5, d4]
  refine va_put (D := w.2.1) (ci := ci) C.1 C.2.1 C.2.2.2.2.1 d1 ty d2 d3 C.2.2.2.1 C.2.2.2.2.2.1 h2 (yD C.2.2.2.2.2.2.1) h3 id he hc k hk (C.2.2.2.2.1 _ hl) (fun _ z => z) hfin hd rfl rfl (by rw [yF_len]; exact hk) hdg (fun H1 locs1 g1 g2 g3 => kk _ h H1 locs1 ls h1 ?_ g3)
  rw [yV_y2 hf, yW_set hlt (by rw [yC_c hkd d5, d4]) (fun x hx => yC_o hx)] at g1
  exact g1
theorem y_pz (C : yX p e R s m args c Y w nL cc own) {ci k index : Nat} {q : vw_C} {r : Option Nat} {ρ : Type} {out : ρ} {v : Int32} {K : Mm → Option ρ} (hc : yCl[ci]? = some q) (hk : k < q.2.2) (hf : yRf ci k = false) (hfin : (q.2.1 k).2.2.2 = false) (hd : parseFieldDescriptor (q.2.1 k).2.2.1 = some .boolean) (hl : Cond.fieldLink own index (q.2.1 k).1 (q.2.1 k).2.1 (q.2.1 k).2.2.1 ∈ yGW) (hdg : decode cc pc = .ok (.putfield index, 3)) (h : ob (jpz Y ci k μ r v) K = some out) (kk : ∀ x : Mm, K x = some out → yG p l e R s m args below meth c Y w nL Q x (pc + 3) lv (st)) : yG p l e R s m args below meth c Y w nL Q μ (pc) lv (.int v :: va_re w.1 r :: st) := by
  obtain ⟨x, hx0, h⟩ := ob_e h
  unfold jpz at hx0
  by_cases hv : v = 0 ∨ v = 1
  · rw [if_pos hv] at hx0
    obtain ⟨id, hid, hx1⟩ := ob_e hx0
    obtain ⟨rfl, hlt, hkd⟩ := jk_e hid
    cases hx1
    intro H locs ls h1 h2 h3
    obtain ⟨d1, ⟨ty, d2⟩, d3, d4, d5⟩ := yCls hc
    have he : (yW Y w μ)[id]? = some (w.1 id, .inr (ci, yF Y w μ id ci q.2.2)) := by rw [yW_at hlt, yC_c hkd d5, d4]
    refine va_put (D := w.2.1) (ci := ci) C.1 C.2.1 C.2.2.2.2.1 d1 ty d2 d3 C.2.2.2.1 C.2.2.2.2.2.1 h2 (yD C.2.2.2.2.2.2.1) h3 id he hc k hk (C.2.2.2.2.1 _ hl) (fun _ z => z) hfin hd (by rcases hv with rfl | rfl <;> rfl) (by rcases hv with rfl | rfl <;> rfl) (by rw [yF_len]; exact hk) hdg (fun H1 locs1 g1 g2 g3 => kk _ h H1 locs1 ls h1 ?_ g3)
    rw [yV_y2 hf, yW_set hlt (by rw [yC_c hkd d5, d4]) (fun x hx => yC_o hx)] at g1
    exact g1
  · rw [if_neg hv] at hx0; cases hx0
theorem yV_k {Y : Sy} {w : WP} {μ : Mm} {id n : Nat} {v : Option Nat} : (yF Y w μ id 5 n).set 29 (va_re w.1 v) = yF Y w (μ.1, μ.2.1, v) id 5 n := by
  apply List.ext_getElem?
  intro j
  by_cases hj : j < n
  · by_cases h : j = 29
    · subst h
      rw [List.getElem?_set_self (by rw [yF_len]; exact hj), yF_at hj, yV, if_pos (c := yRf 5 29 = true) rfl, if_pos (c := 5 = 5 ∧ 29 = 29) ⟨rfl, rfl⟩]
    · rw [List.getElem?_set_ne (Ne.symm h), yF_at hj, yF_at hj]
      simp [yV, h]
  · rw [List.getElem?_eq_none (by rw [List.length_set, yF_len]; omega), List.getElem?_eq_none (by rw [yF_len]; omega)]
theorem y_pk (C : yX p e R s m args c Y w nL cc own) {index : Nat} {q : vw_C} {r : Option Nat} {ρ : Type} {out : ρ} {v : Option Nat} {K : Mm → Option ρ} (hc : yCl[5]? = some q) (hk : 29 < q.2.2) (hone : ∀ x, x ≠ 0 → Y.2.1 x ≠ 5) (hfin : (q.2.1 29).2.2.2 = false) (hd : parseFieldDescriptor (q.2.1 29).2.2.1 = some (.array .int)) (hl : Cond.fieldLink own index (q.2.1 29).1 (q.2.1 29).2.1 (q.2.1 29).2.2.1 ∈ yGW) (hdg : decode cc pc = .ok (.putfield index, 3)) (h : ob (jpk Y μ r v) K = some out) (kk : ∀ x : Mm, K x = some out → yG p l e R s m args below meth c Y w nL Q x (pc + 3) lv (st)) : yG p l e R s m args below meth c Y w nL Q μ (pc) lv (va_re w.1 v :: va_re w.1 r :: st) := by
  obtain ⟨x, hx0, hh⟩ := ob_e h
  obtain ⟨id, hid, hx1⟩ := ob_e hx0
  obtain ⟨rfl, hlt, hkd⟩ := jk_e hid
  cases hx1
  intro H locs ls h1 h2 h3
  obtain ⟨d1, ⟨ty, d2⟩, d3, d4, d5⟩ := yCls hc
  have hid0 : id = 0 := Classical.byContradiction fun z => hone id z hkd
  subst hid0
  have he : (yW Y w μ)[0]? = some (w.1 0, .inr (5, yF Y w μ 0 5 q.2.2)) := by rw [yW_at hlt, yC_c hkd d5, d4]
  refine va_put (D := w.2.1) (ci := 5) C.1 C.2.1 C.2.2.2.2.1 d1 ty d2 d3 C.2.2.2.1 C.2.2.2.2.2.1 h2 (yD C.2.2.2.2.2.2.1) h3 0 he hc 29 hk (C.2.2.2.2.1 _ hl) (fun _ z => z) hfin hd (by cases v <;> rfl) (by cases v <;> rfl) (by rw [yF_len]; exact hk) hdg (fun H1 locs1 g1 g2 g3 => kk _ hh H1 locs1 ls h1 ?_ g3)
  rw [yV_k, yW_set (μ' := (μ.1, μ.2.1, v)) hlt (by rw [yC_c hkd d5, d4]) (fun x hx => ?_)] at g1
  · exact g1
  · have e2 : ∀ ci n, ci ≠ 5 → yF Y w (μ.1, μ.2.1, v) x ci n = yF Y w μ x ci n := by
      intro ci n hci
      unfold yF
      congr 1
      funext j
      simp [yV, hci]
    simp only [yC, e2 _ _ (hone x hx)]
theorem yC_6 {Y : Sy} {w : WP} {μ : Mm} {id : Nat} (h : Y.2.1 id = 6) : yC Y w μ id = .inl (w.2.2 0, Y.2.2.1 id, .inl (μ.1 id)) := by unfold yC; rw [h]; rfl
theorem yC_7 {Y : Sy} {w : WP} {μ : Mm} {id : Nat} (h : Y.2.1 id = 7) : yC Y w μ id = .inl (w.2.2 1, Y.2.2.1 id, .inr (.inl (μ.2.1 id))) := by unfold yC; rw [h]; rfl
theorem yC_8 {Y : Sy} {w : WP} {μ : Mm} {id ki : Nat} (h : Y.2.1 id = ki + 8) : yC Y w μ id = .inl (w.2.2 (ki + 2), Y.2.2.1 id, .inr (.inr (.inr (.inr (fun j => (Y.2.2.2 id j).map w.1))))) := by
  unfold yC; rw [h, if_neg (by omega), if_neg (by omega), if_neg (by omega), show ki + 8 - 6 = ki + 2 by omega]
theorem y_al (C : yX p e R s m args c Y w nL cc own) {r : Option Nat} {i : Int32} {ρ : Type} {out : ρ} {K : Int32 → Option ρ} (hdg : decode cc pc = .ok (.iaload, 1)) (h : ob (jal Y μ r i) K = some out) (kk : ∀ x : Int32, K x = some out → yG p l e R s m args below meth c Y w nL Q μ (pc + 1) lv (.int x :: st)) : yG p l e R s m args below meth c Y w nL Q μ (pc) lv (.int i :: va_re w.1 r :: st) := by
  obtain ⟨x, hx0, h⟩ := ob_e h
  obtain ⟨id, hid, hx1⟩ := ob_e hx0
  obtain ⟨rfl, hlt, hkd⟩ := jk_e hid
  obtain ⟨j, hj, hx2⟩ := ob_e hx1
  obtain ⟨hin, rfl, -⟩ := jin_e hj
  cases hx2
  intro H locs ls h1 h2 h3
  have he : (yW Y w μ)[id]? = some (w.1 id, .inl (w.2.2 0, Y.2.2.1 id, .inl (μ.1 id))) := by rw [yW_at hlt, yC_6 hkd]
  exact va_iald (D := w.2.1) C.1 C.2.1 C.2.2.2.2.2.1 h2 id 0 he rfl hin hdg (kk _ h H locs ls h1 h2 h3)
theorem y_as (C : yX p e R s m args c Y w nL cc own) {r : Option Nat} {i v : Int32} {ρ : Type} {out : ρ} {K : Mm → Option ρ} (hdg : decode cc pc = .ok (.iastore, 1)) (h : ob (jas Y μ r i v) K = some out) (kk : ∀ x : Mm, K x = some out → yG p l e R s m args below meth c Y w nL Q x (pc + 1) lv (st)) : yG p l e R s m args below meth c Y w nL Q μ (pc) lv (.int v :: .int i :: va_re w.1 r :: st) := by
  obtain ⟨x, hx0, h⟩ := ob_e h
  obtain ⟨id, hid, hx1⟩ := ob_e hx0
  obtain ⟨rfl, hlt, hkd⟩ := jk_e hid
  obtain ⟨j, hj, hx2⟩ := ob_e hx1
  obtain ⟨hin, rfl, -⟩ := jin_e hj
  cases hx2
  intro H locs ls h1 h2 h3
  have he : (yW Y w μ)[id]? = some (w.1 id, .inl (w.2.2 0, Y.2.2.1 id, .inl (μ.1 id))) := by rw [yW_at hlt, yC_6 hkd]
  refine va_iast (D := w.2.1) C.1 C.2.1 C.2.2.2.2.2.1 h2 (yD C.2.2.2.2.2.2.1) h3 id 0 he rfl hin hdg (fun H1 locs1 g1 g2 g3 => kk _ h H1 locs1 ls h1 ?_ g3)
  rw [yW_set (μ' := (y2 μ.1 id i.toNatClampNeg v, μ.2.1, μ.2.2)) hlt (by rw [yC_6 hkd]; congr 4; funext z; simp [y2, upd]) (fun x hx => yC_o hx)] at g1
  exact g1
theorem y_ll (C : yX p e R s m args c Y w nL cc own) {r : Option Nat} {i : Int32} {ρ : Type} {out : ρ} {K : Int64 → Option ρ} (hdg : decode cc pc = .ok (.laload, 1)) (h : ob (jll Y μ r i) K = some out) (kk : ∀ x : Int64, K x = some out → yG p l e R s m args below meth c Y w nL Q μ (pc + 1) lv (.long x :: st)) : yG p l e R s m args below meth c Y w nL Q μ (pc) lv (.int i :: va_re w.1 r :: st) := by
  obtain ⟨x, hx0, h⟩ := ob_e h
  obtain ⟨id, hid, hx1⟩ := ob_e hx0
  obtain ⟨rfl, hlt, hkd⟩ := jk_e hid
  obtain ⟨j, hj, hx2⟩ := ob_e hx1
  obtain ⟨hin, rfl, -⟩ := jin_e hj
  cases hx2
  intro H locs ls h1 h2 h3
  have he : (yW Y w μ)[id]? = some (w.1 id, .inl (w.2.2 1, Y.2.2.1 id, .inr (.inl (μ.2.1 id)))) := by rw [yW_at hlt, yC_7 hkd]
  exact va_lald (D := w.2.1) C.1 C.2.1 C.2.2.2.2.2.1 h2 id 1 he rfl hin hdg (kk _ h H locs ls h1 h2 h3)
theorem y_ls (C : yX p e R s m args c Y w nL cc own) {r : Option Nat} {i : Int32} {v : Int64} {ρ : Type} {out : ρ} {K : Mm → Option ρ} (hdg : decode cc pc = .ok (.lastore, 1)) (h : ob (jls Y μ r i v) K = some out) (kk : ∀ x : Mm, K x = some out → yG p l e R s m args below meth c Y w nL Q x (pc + 1) lv (st)) : yG p l e R s m args below meth c Y w nL Q μ (pc) lv (.long v :: .int i :: va_re w.1 r :: st) := by
  obtain ⟨x, hx0, h⟩ := ob_e h
  obtain ⟨id, hid, hx1⟩ := ob_e hx0
  obtain ⟨rfl, hlt, hkd⟩ := jk_e hid
  obtain ⟨j, hj, hx2⟩ := ob_e hx1
  obtain ⟨hin, rfl, -⟩ := jin_e hj
  cases hx2
  intro H locs ls h1 h2 h3
  have he : (yW Y w μ)[id]? = some (w.1 id, .inl (w.2.2 1, Y.2.2.1 id, .inr (.inl (μ.2.1 id)))) := by rw [yW_at hlt, yC_7 hkd]
  refine va_last (D := w.2.1) C.1 C.2.1 C.2.2.2.2.2.1 h2 (yD C.2.2.2.2.2.2.1) h3 id 1 he rfl hin hdg (fun H1 locs1 g1 g2 g3 => kk _ h H1 locs1 ls h1 ?_ g3)
  rw [yW_set (μ' := (μ.1, y2 μ.2.1 id i.toNatClampNeg v, μ.2.2)) hlt (by rw [yC_7 hkd]; congr 5; funext z; simp [y2, vp_updL]) (fun x hx => ?_)] at g1
  · exact g1
  · have e : (y2 μ.2.1 id i.toNatClampNeg v) x = μ.2.1 x := by funext z; simp [y2, hx]
    have e2 : ∀ ci n, yF Y w (μ.1, y2 μ.2.1 id i.toNatClampNeg v, μ.2.2) x ci n = yF Y w μ x ci n := fun ci n => rfl
    simp only [yC, e, e2]
theorem y_aa (C : yX p e R s m args c Y w nL cc own) {r : Option Nat} {i : Int32} {ki : Nat} {C0 : String} {ρ : Type} {out : ρ} {K : Option Nat → Option ρ} (hty : (yTys w)[ki + 2]? = some (w.2.2 (ki + 2), .object C0)) (hdg : decode cc pc = .ok (.aaload, 1)) (h : ob (jaa Y (ki + 8) r i) K = some out) (kk : ∀ x : Option Nat, K x = some out → yG p l e R s m args below meth c Y w nL Q μ (pc + 1) lv (va_re w.1 x :: st)) : yG p l e R s m args below meth c Y w nL Q μ (pc) lv (.int i :: va_re w.1 r :: st) := by
  obtain ⟨x, hx0, h⟩ := ob_e h
  obtain ⟨id, hid, hx1⟩ := ob_e hx0
  obtain ⟨rfl, hlt, hkd⟩ := jk_e hid
  obtain ⟨j, hj, hx2⟩ := ob_e hx1
  obtain ⟨hin, rfl, -⟩ := jin_e hj
  cases hx2
  intro H locs ls h1 h2 h3
  have he : (yW Y w μ)[id]? = some (w.1 id, .inl (w.2.2 (ki + 2), Y.2.2.1 id, .inr (.inr (.inr (.inr (fun j => (Y.2.2.2 id j).map w.1)))))) := by rw [yW_at hlt, yC_8 hkd]
  exact va_aldq (D := w.2.1) C.1 C.2.1 C.2.2.2.2.2.1 h2 id (ki + 2) he hty hin hdg (kk _ h H locs ls h1 h2 h3)
theorem y_lni (C : yX p e R s m args c Y w nL cc own) {r : Option Nat} {ρ : Type} {out : ρ} {K : Int32 → Option ρ} (hdg : decode cc pc = .ok (.arraylength, 1)) (h : ob (jln Y 6 r) K = some out) (kk : ∀ x : Int32, K x = some out → yG p l e R s m args below meth c Y w nL Q μ (pc + 1) lv (.int x :: st)) : yG p l e R s m args below meth c Y w nL Q μ (pc) lv (va_re w.1 r :: st) := by
  obtain ⟨x, hx0, h⟩ := ob_e h
  obtain ⟨id, hid, hx1⟩ := ob_e hx0
  obtain ⟨rfl, hlt, hkd⟩ := jk_e hid
  cases hx1
  intro H locs ls h1 h2 h3
  have he : (yW Y w μ)[id]? = some (w.1 id, .inl (w.2.2 0, Y.2.2.1 id, .inl (μ.1 id))) := by rw [yW_at hlt, yC_6 hkd]
  exact va_alen (D := w.2.1) C.1 C.2.1 C.2.2.2.2.2.1 h2 id 0 he rfl rfl hdg (kk _ h H locs ls h1 h2 h3)
theorem y_lnr (C : yX p e R s m args c Y w nL cc own) {r : Option Nat} {ki : Nat} {C0 : String} {ρ : Type} {out : ρ} {K : Int32 → Option ρ} (hty : (yTys w)[ki + 2]? = some (w.2.2 (ki + 2), .object C0)) (hdg : decode cc pc = .ok (.arraylength, 1)) (h : ob (jln Y (ki + 8) r) K = some out) (kk : ∀ x : Int32, K x = some out → yG p l e R s m args below meth c Y w nL Q μ (pc + 1) lv (.int x :: st)) : yG p l e R s m args below meth c Y w nL Q μ (pc) lv (va_re w.1 r :: st) := by
  obtain ⟨x, hx0, h⟩ := ob_e h
  obtain ⟨id, hid, hx1⟩ := ob_e hx0
  obtain ⟨rfl, hlt, hkd⟩ := jk_e hid
  cases hx1
  intro H locs ls h1 h2 h3
  have he : (yW Y w μ)[id]? = some (w.1 id, .inl (w.2.2 (ki + 2), Y.2.2.1 id, .inr (.inr (.inr (.inr (fun j => (Y.2.2.2 id j).map w.1)))))) := by rw [yW_at hlt, yC_8 hkd]
  exact va_alen (D := w.2.1) C.1 C.2.1 C.2.2.2.2.2.1 h2 id (ki + 2) he hty rfl hdg (kk _ h H locs ls h1 h2 h3)
theorem y_iret (C : yX p e R s m args c Y w nL cc own) {v : Int32} {out : Int32 × Mm} (hr : meth.sig.returnType = some .int) (hlocks : meth.locks = false) (hdg : decode cc pc = .ok (.ireturn, 1)) (h : some (v, μ) = some out) : yG p l e R s m args below meth c Y w nL (MQ below (yQ Y w yfi out) args s 0 0 (yA Y w)) μ pc lv [.int v] := by
  cases h
  intro H locs ls h1 h2 h3
  exact W.iret C.1 C.2.1 hr (fun t ht hW => ⟨rfl, by rw [ht]; exact h2, h3.F ht⟩) h3.2.2 hdg hlocks
theorem y_lret (C : yX p e R s m args c Y w nL cc own) {v : Int64} {out : Int64 × Mm} (hr : meth.sig.returnType = some .long) (hlocks : meth.locks = false) (hdg : decode cc pc = .ok (.lreturn, 1)) (h : some (v, μ) = some out) : yG p l e R s m args below meth c Y w nL (MQ below (yQ Y w yfl out) args s 0 0 (yA Y w)) μ pc lv [.long v] := by
  cases h
  intro H locs ls h1 h2 h3
  exact W.lret C.1 C.2.1 hr (fun t ht hW => ⟨rfl, by rw [ht]; exact h2, h3.F ht⟩) h3.2.2 hdg hlocks
theorem y_zret (C : yX p e R s m args c Y w nL cc own) {v : Int32} {out : Int32 × Mm} (hr : meth.sig.returnType = some .boolean) (hlocks : meth.locks = false) (hdg : decode cc pc = .ok (.ireturn, 1)) (h : ob (jz v) (fun v => some (v, μ)) = some out) : yG p l e R s m args below meth c Y w nL (MQ below (yQ Y w yfi out) args s 0 0 (yA Y w)) μ pc lv [.int v] := by
  obtain ⟨x, hx, h⟩ := ob_e h
  unfold jz at hx
  by_cases hv : v = 0 ∨ v = 1
  · rw [if_pos hv] at hx
    cases hx
    cases h
    intro H locs ls h1 h2 h3
    exact W.zret C.1 C.2.1 hr (by rcases hv with rfl | rfl <;> rfl) (fun t ht hW => ⟨rfl, by rw [ht]; exact h2, h3.F ht⟩) h3.2.2 hdg hlocks
  · rw [if_neg hv] at hx; cases hx
theorem y_aret (C : yX p e R s m args c Y w nL cc own) {v : Option Nat} {out : Option Nat × Mm} {n : String} (hr : meth.sig.returnType = some (.object n)) (hlocks : meth.locks = false) (hdg : decode cc pc = .ok (.areturn, 1)) (h : some (v, μ) = some out) : yG p l e R s m args below meth c Y w nL (MQ below (yQ Y w (yfr w) out) args s 0 0 (yA Y w)) μ pc lv [va_re w.1 v] := by
  cases h
  intro H locs ls h1 h2 h3
  exact W.aret C.1 C.2.1 hr (Or.inl ⟨_, rfl⟩) (by cases v with
    | none => exact Or.inl rfl
    | some z => exact Or.inr ⟨w.1 z, rfl⟩) (fun t ht hW => ⟨rfl, by rw [ht]; exact h2, h3.F ht⟩) h3.2.2 hdg hlocks
theorem y_vret (C : yX p e R s m args c Y w nL cc own) {out : Unit × Mm} (hr : meth.sig.returnType = none) (hlocks : meth.locks = false) (hdg : decode cc pc = .ok (.return_, 1)) (h : some ((), μ) = some out) : yG p l e R s m args below meth c Y w nL (MQ below (yQ Y w yfv out) args s 0 0 (yA Y w)) μ pc lv [] := by
  cases h
  intro H locs ls h1 h2 h3
  exact W.vret C.1 C.2.1 hr (fun t ht hW => ⟨rfl, by rw [ht]; exact h2, h3.F ht⟩) h3.2.2 hdg hlocks
theorem yB.blind {Y : Sy} {w : WP} {μ : Mm} {As : List Value} : FrameBlind (va_Pc As (yB Y w μ)) := fun a U g mk h => ⟨h.1, h.2.1, va_K.moved (u := U) (U := U.calling g mk a) (Vm.Alike.refl U.vm) h.2.2.1, h.2.2.2.1, h.2.2.2.2.calling⟩
theorem y_back {y : MethodName} {rm : Room} {ρ : Type} {f : ρ → Option Value} {out : ρ × Mm} {H : Heap} {locs : List Loc} {ls : Array Slot} {st0 : List Value} {a : Array Value} (C : yX p e R s m args c Y w nL cc own) (hl : lv_has ls nL lv) (hS : va_S (yA Y w) s.heap H locs) (hr : va_Run p l e R s m args below meth c H locs 0 0 0 0 (F0 m pc ls st0) st (yQ Y w f out a) (yA Y w)) (kk : yG p l e R s m args below meth c Y w nL Q out.2 (pc + 3) lv ((f out.1).toList ++ st)) : W p l e R s m args below meth c H locs 0 0 Q (F0 m pc ls st0) := by
  intro T hT X
  obtain ⟨v, st₀, t, T', L, h0, X', hL, e1, e2, ⟨hv, hp, hz, hk⟩, stp⟩ := hr T hT X
  cases hv
  rw [h0] at hz hk
  have hS1 : va_S (yA Y w) s.heap T'.heap (locs ++ L) := ⟨Nat.le_trans hS.1 (by rw [e1]; exact hz), fun q h1 h2 => by rw [e1, hk q (Nat.lt_of_lt_of_le h1 hS.1) h2]; exact hS.2.1 q h1 h2, fun q hq => by
      rcases List.mem_append.mp hq with h | h
      · exact hS.2.2 q h
      · exact hL q h⟩
  obtain ⟨t2, a1, b1⟩ := kk T'.heap (locs ++ L) ls hl (by rw [e1]; exact hp) hS1 T' rfl X'
  exact ⟨t2, stp t2 a1, b1⟩
theorem y_callV {y : MethodName} {bytes : ByteArray} {maxL index ci : Nat} {ret : Option FieldType} {rm : Room} {ρ ρ' : Type} {f : ρ → Option Value} {r : Option Nat} {As st0 : List Value} {fy : Nat → Option (ρ × Mm)} {K : ρ → Mm → Option ρ'} {z : ρ'} {q : vw_C} (n : Nat) (C : yX p e R s m args c Y w nL cc own)
    (hM : ∀ o out, fy o = some out → yMet l y (yWs y bytes maxL ret) rm Y w μ (va_re w.1 (some o) :: As) f out) (hg : GoodIn yGW (wsV own index q.1 y (yWs y bytes maxL ret))) (hcl : yCl[ci]? = some q) (h6 : ci < 6)
    (hd : y.cls = q.1 ∧ y.cls ≠ "java/lang/invoke/MethodHandle" ∧ y.cls ≠ "java/lang/invoke/VarHandle" ∧ (parseMethodDescriptor y.desc).map (fun d => d.parameters.length) = some n) (hR : rm.frames + 1 ≤ R.frames ∧ 8 + (maxL + 11) + rm.locals ≤ R.locals) (hrc : rm.cells = 0) (hrs : rm.slots = 0)
    (hn : As.length = n) (hst : st0 = As.reverse ++ va_re w.1 r :: st) (hcat : (st.map fun v => v.category).sum ≤ 8) (hdg : decode cc pc = .ok (.invokevirtual index, 3))
    (h : ob (jk Y ci r) (fun o => yb (fy o) K) = some z) (kk : ∀ x μ1, K x μ1 = some z → yG p l e R s m args below meth c Y w nL Q μ1 (pc + 3) lv ((f x).toList ++ st)) : yG p l e R s m args below meth c Y w nL Q μ pc lv st0 := by
  obtain ⟨id, hid, hh⟩ := ob_e h
  obtain ⟨rfl, hlt, hkd⟩ := jk_e hid
  obtain ⟨out, ho, hh2⟩ := yb_e hh
  subst hst
  intro H locs ls h1 h2 h3
  have he : (yW Y w μ)[id]? = some (w.1 id, .inr (ci, yF Y w μ id ci (yNf ci))) := by rw [yW_at hlt, yC_c hkd h6]
  exact y_back (y := y) (rm := rm) C h1 h3 (va_runV (b := w.1 id) (As := As) (rest := st) (nL := nL) (own := own) ⟨C.1, C.2.1, C.2.2.1, C.2.2.2.1, C.2.2.2.2.1⟩ (hM id out ho) (cwV n C.2.2.2.2.1 hg rfl hrc hrs hd hR) ⟨yB.blind, va_recv C.2.2.2.2.2.1 h2 hcl he, fun U hU hW => ⟨rfl, by rw [hU]; exact h2, va_K.moved hW.alike C.2.2.2.2.2.1, C.2.2.2.2.2.2.1, C.2.2.2.2.2.2.2.warm hW⟩⟩ rfl hn h1.1 rfl (lv_room hcat) hdg ⟨Nat.zero_le _, Nat.zero_le _⟩) (kk _ _ hh2)
theorem y_callS {y : MethodName} {bytes : ByteArray} {maxL index : Nat} {ret : Option FieldType} {rm : Room} {ρ ρ' : Type} {f : ρ → Option Value} {As st0 : List Value} {fy : Option (ρ × Mm)} {K : ρ → Mm → Option ρ'} {z : ρ'} (n : Nat) (C : yX p e R s m args c Y w nL cc own)
    (hM : ∀ out, fy = some out → yMet l y (yWs y bytes maxL ret) rm Y w μ As f out) (hg : GoodIn yGW (yWs y bytes maxL ret)) (hlk : Cond.methodLink own index y ∈ yGW) (hini : Cond.initialized y.cls ∈ yGW) (hstat : Cond.static y ∈ yGW)
    (hd : y.cls ≠ "java/lang/invoke/MethodHandle" ∧ y.cls ≠ "java/lang/invoke/VarHandle" ∧ (parseMethodDescriptor y.desc).map (fun d => d.parameters.length) = some n) (hR : rm.frames + 1 ≤ R.frames ∧ 8 + (maxL + 11) + rm.locals ≤ R.locals) (hrc : rm.cells = 0) (hrs : rm.slots = 0)
    (hn : As.length = n) (hst : st0 = As.reverse ++ st) (hcat : (st.map fun v => v.category).sum ≤ 8) (hdg : decode cc pc = .ok (.invokestatic index, 3))
    (h : yb fy K = some z) (kk : ∀ x μ1, K x μ1 = some z → yG p l e R s m args below meth c Y w nL Q μ1 (pc + 3) lv ((f x).toList ++ st)) : yG p l e R s m args below meth c Y w nL Q μ pc lv st0 := by
  obtain ⟨out, ho, h⟩ := yb_e h
  subst hst
  intro H locs ls h1 h2 h3
  exact y_back (y := y) (rm := rm) C h1 h3 (va_runS (As := As) (rest := st) (nL := nL) (own := own) ⟨C.1, C.2.1, C.2.2.1, C.2.2.2.1, C.2.2.2.2.1⟩ (hM out ho) ⟨callB_of n C.2.2.2.2.1 hg rfl hrc hrs (C.2.2.2.2.1 _ hini) (C.2.2.2.2.1 _ hlk) hd hR, C.2.2.2.2.1 _ hstat⟩ ⟨yB.blind, fun U hU hW => ⟨rfl, by rw [hU]; exact h2, va_K.moved hW.alike C.2.2.2.2.2.1, C.2.2.2.2.2.2.1, C.2.2.2.2.2.2.2.warm hW⟩⟩ rfl hn h1.1 rfl (lv_room hcat) hdg ⟨Nat.zero_le _, Nat.zero_le _⟩) (kk _ _ h)
theorem y_callN {y : MethodName} {bytes : ByteArray} {maxL index : Nat} {ret : Option FieldType} {rm : Room} {host : String} {ρ ρ' : Type} {f : ρ → Option Value} {As st0 : List Value} {fy : Option (ρ × Mm)} {K : ρ → Mm → Option ρ'} {z : ρ'} (n : Nat) (C : yX p e R s m args c Y w nL cc own)
    (hM : ∀ out, fy = some out → yMet l y (yWs y bytes maxL ret) rm Y w μ As f out) (hg : GoodIn yGW (yWs y bytes maxL ret)) (hnest : Cond.methodLinkNest own index y host ∈ yNst) (hini : Cond.initialized y.cls ∈ yGW) (hstat : Cond.static y ∈ yGW)
    (hd : y.cls ≠ "java/lang/invoke/MethodHandle" ∧ y.cls ≠ "java/lang/invoke/VarHandle" ∧ (parseMethodDescriptor y.desc).map (fun d => d.parameters.length) = some n) (hR : rm.frames + 1 ≤ R.frames ∧ 8 + (maxL + 11) + rm.locals ≤ R.locals) (hrc : rm.cells = 0) (hrs : rm.slots = 0)
    (hn : As.length = n) (hst : st0 = As.reverse ++ st) (hcat : (st.map fun v => v.category).sum ≤ 8) (hdg : decode cc pc = .ok (.invokestatic index, 3))
    (h : yb fy K = some z) (kk : ∀ x μ1, K x μ1 = some z → yG p l e R s m args below meth c Y w nL Q μ1 (pc + 3) lv ((f x).toList ++ st)) : yG p l e R s m args below meth c Y w nL Q μ pc lv st0 := by
  obtain ⟨out, ho, h⟩ := yb_e h
  subst hst
  intro H locs ls h1 h2 h3
  exact y_back (y := y) (rm := rm) C h1 h3 (va_runSN (host := host) (As := As) (rest := st) (nL := nL) (own := own) (Ts := yGW) ⟨C.1, C.2.1, C.2.2.1, C.2.2.2.1, C.2.2.2.2.1⟩ (hM out ho) ⟨va_cnB n C.2.2.2.2.1 hg rfl hrc hrs (C.2.2.2.2.2.2.2 _ hnest) (C.2.2.2.2.1 _ hini) hd hR, C.2.2.2.2.1 _ hstat, trivial⟩ ⟨yB.blind, fun U hU hW => ⟨rfl, by rw [hU]; exact h2, va_K.moved hW.alike C.2.2.2.2.2.1, C.2.2.2.2.2.2.1, C.2.2.2.2.2.2.2.warm hW⟩⟩ rfl hn h1.1 rfl (lv_room hcat) hdg ⟨Nat.zero_le _, Nat.zero_le _⟩) (kk _ _ h)
end YR
theorem y_entry {l : Launch} {y : MethodName} {rm : Room} {Y : Sy} {w : WP} {μ : Mm} {As : List Value} {ρ : Type} {f : ρ → Option Value} {out : ρ × Mm} {cc : ByteArray} {maxL : Nat} {ret : Option FieldType} {own : String} {lv : List (Nat × Value)} (hy : plainName y.cls = true) (hcls : y.cls = own) (hlv : lv_args 0 As = lv) (hlen : (lg_sl As).length ≤ maxL)
    (body : ∀ (p : Program) (e : Env) (s : State) (m : MethodId) (args : Array Value) (below : List Frame) (meth : Method) (c : Code), yX p e rm s m args c Y w maxL cc own → meth.sig.returnType = ret → meth.locks = false → yG p l e rm s m args below meth c Y w maxL (MQ below (yQ Y w f out) args s 0 0 (yA Y w)) μ 0 lv []) : yMet l y (yWs y cc maxL ret) rm Y w μ As f out := by
  refine Met.ofW (cc := cc) (maxL := maxL) (ret := ret) hy rfl ?_
  intro p e s m args below meth c s₁ B hml hv
  obtain ⟨rfl, hP, hK, hI, hN⟩ := hv
  have hts := atoms_spec (ws := yWs y cc maxL ret) B.pre
  have hown : s.vm.findClass own = some m.cls := hcls ▸ findClass_of_methodNamed B.named
  have hl := lv_entry As (n := maxL) hlen
  rw [hlv] at hl
  rw [lg_entry_eq]
  exact body p e s m As.toArray below meth c ⟨B.exec, B.bytes, hml, hown, fun w hw => hts w (List.mem_cons_of_mem _ hw), hK, hI, hN⟩ B.returns B.notSynchronized s.heap [] _ hl hP va_S.rf
end
section
/-! THE TWO SYSTEMS -/
/-- the class: cell 0 the WhoseGlass; a house at 1, 22, 43 (itself, its glasses' row, its guests' row, 12 glasses, 6 guests); 64 the shelves' row; a shelf at 65, 67 .., its elements behind it -/
def kdX (id : Nat) : Nat := if id = 0 then 4 else if id ≤ 63 then (if (id - 1) % 21 = 0 then 2 else if (id - 1) % 21 = 1 then 8 else if (id - 1) % 21 = 2 then 9 else if (id - 1) % 21 ≤ 14 then 0 else 1) else if id = 64 then 10 else if id % 2 = 1 then 3 else 6
def lnX (id : Nat) : Nat := if id = 64 then 8 else if 64 < id then 100 else if (id - 1) % 21 = 1 then 12 else 6
def rfX (id k : Nat) : Option Nat := if id = 0 then (if k = 0 then some 1 else if k = 1 then some 22 else if k = 2 then some 43 else some 64) else if id = 64 then some (65 + 2 * k) else if 64 < id then some (id + 1) else if (id - 1) % 21 = 0 then some (id + 1 + k) else if (id - 1) % 21 = 1 then some (id + 2 + k) else some (id + 13 + k)
def YX : Sy := (81, kdX, lnX, rfX)
/-- the reference: cell 0 the model; its rows in the order of their making -/
def kdM (id : Nat) : Nat := if id = 0 then 5 else if id < 27 then 6 else 7
def lnM (id : Nat) : Nat := if id ≤ 7 then 12 else if id ≤ 16 then 6 else if id ≤ 18 then 142 else if id ≤ 20 then 51 else if id = 21 then 255 else if id ≤ 26 then 8 else if id = 27 then 800 else 100
def rfM (_ k : Nat) : Option Nat := if k ≤ 19 then some (k - 3) else if k ≤ 25 then some (k - 7) else if k ≤ 37 then some (k - 16) else some (k - 17)
def YM : Sy := (29, kdM, lnM, rfM)
theorem YM_one : ∀ x, x ≠ 0 → YM.2.1 x ≠ 5 := by
  intro x hx
  show kdM x ≠ 5
  unfold kdM
  rw [if_neg hx]
  split <;> decide
theorem y_tdef {x : Int32} {lo hi dflt : Int} {offs : Array Int} (n : Nat) (hn : hi = lo + n) (hs : ∀ i : Nat, i ≤ n → (¬ x.toInt = lo + i ∨ offs[i]? = some dflt)) : ((x.toInt < lo ∨ hi < x.toInt) ∧ dflt = dflt) ∨ (¬ x.toInt < lo ∧ ¬ hi < x.toInt ∧ offs[(x.toInt - lo).toNat]? = some dflt) := by
  by_cases h : x.toInt < lo ∨ hi < x.toInt
  · exact Or.inl ⟨h, rfl⟩
  · have h1 : ¬ x.toInt < lo := fun q => h (Or.inl q)
    have h2 : ¬ hi < x.toInt := fun q => h (Or.inr q)
    refine Or.inr ⟨h1, h2, ?_⟩
    rcases hs (x.toInt - lo).toNat (by omega) with q | q
    · exact absurd (by omega) q
    · exact q
theorem y_catI (x : Int32) : (Value.int x).category = 1 := rfl
theorem y_catJ (x : Int64) : (Value.long x).category = 2 := rfl
/-- System.arraycopy between two rows of ints -/
def jcp (Y : Sy) (μ : Mm) (r1 : Option Nat) (i : Int32) (r2 : Option Nat) (j n : Int32) : Option Mm := ob (jk Y 6 r1) fun a => ob (jk Y 6 r2) fun b => if 0 ≤ i ∧ 0 ≤ j ∧ 0 ≤ n ∧ i.toNatClampNeg + n.toNatClampNeg ≤ Y.2.2.1 a ∧ j.toNatClampNeg + n.toNatClampNeg ≤ Y.2.2.1 b then some ((fun x k => if x = b then va_cpy (μ.1 a) (μ.1 b) i.toNatClampNeg j.toNatClampNeg n.toNatClampNeg k else μ.1 x k), μ.2.1, μ.2.2) else none
section YR2
variable {p : Program} {l : Launch} {e : Env} {R : Room} {s : State} {m : MethodId} {args : Array Value} {below : List Frame} {meth : Method} {c : Code} {Y : Sy} {w : WP} {nL : Nat} {Q : State → Prop} {cc : ByteArray} {own : String}
variable {μ : Mm} {pc : Nat} {lv : List (Nat × Value)} {st : List Value}
theorem y_mmax (C : yX p e R s m args c Y w nL cc own) {x y : Int32} {index : Nat} (h1 : Cond.methodLink own index Lib.Math.max.name ∈ yGW) (h2 : Cond.static Lib.Math.max.name ∈ yGW) (h3 : Cond.initialized "java/lang/Math" ∈ yGW) (h4 : Cond.code Lib.Math.max.name Lib.Math.max.code 2 (some .int) ∈ yGW) (hfr : 1 ≤ R.frames) (hlo : (st.map fun v => v.category).sum + 13 ≤ R.locals) (hdg : decode cc pc = .ok (.invokestatic index, 3)) (k : yG p l e R s m args below meth c Y w nL Q μ (pc + 3) lv (.int (if x < y then y else x) :: st)) : yG p l e R s m args below meth c Y w nL Q μ pc lv (.int y :: .int x :: st) :=
  fun H locs ls g1 g2 g3 => va_mmax C.1 C.2.1 (C.2.2.1.trans g1.1.symm) C.2.2.2.1 (C.2.2.2.2.1 _ h1) (C.2.2.2.2.1 _ h2) (C.2.2.2.2.1 _ h3) (C.2.2.2.2.1 _ h4) hfr hlo (Nat.zero_le _) (Nat.zero_le _) hdg (k H locs ls g1 g2 g3)
theorem y_cpy (C : yX p e R s m args c Y w nL cc own) {r1 r2 : Option Nat} {i j n : Int32} {index : Nat} {ρ : Type} {out : ρ} {K : Mm → Option ρ} (h1 : Cond.methodLink own index arraycopyName ∈ yGW) (h2 : Cond.native arraycopyName ∈ yGW) (h3 : Cond.static arraycopyName ∈ yGW) (h4 : Cond.initialized "java/lang/System" ∈ yGW) (hfr : 1 ≤ R.frames) (hlo : (st.map fun v => v.category).sum + (nativeFrameWords "java/lang/System" "arraycopy" 5 + 11) ≤ R.locals) (hdg : decode cc pc = .ok (.invokestatic index, 3)) (h : ob (jcp Y μ r1 i r2 j n) K = some out) (kk : ∀ x : Mm, K x = some out → yG p l e R s m args below meth c Y w nL Q x (pc + 3) lv st) : yG p l e R s m args below meth c Y w nL Q μ pc lv (.int n :: .int j :: va_re w.1 r2 :: .int i :: va_re w.1 r1 :: st) := by
  obtain ⟨x, hx0, hh⟩ := ob_e h
  obtain ⟨a, ha, hx1⟩ := ob_e hx0
  obtain ⟨b, hb, hx2⟩ := ob_e hx1
  obtain ⟨e1, alt, akd⟩ := jk_e ha
  obtain ⟨e2, blt, bkd⟩ := jk_e hb
  subst e1
  subst e2
  by_cases hc : 0 ≤ i ∧ 0 ≤ j ∧ 0 ≤ n ∧ i.toNatClampNeg + n.toNatClampNeg ≤ Y.2.2.1 a ∧ j.toNatClampNeg + n.toNatClampNeg ≤ Y.2.2.1 b
  · rw [if_pos hc] at hx2
    cases hx2
    obtain ⟨c1, c2, c3, c4, c5⟩ := hc
    intro H locs ls g1 g2 g3
    have hA : (yW Y w μ)[a]? = some (w.1 a, .inl (w.2.2 0, Y.2.2.1 a, .inl (μ.1 a))) := by rw [yW_at alt, yC_6 akd]
    have hB : (yW Y w μ)[b]? = some (w.1 b, .inl (w.2.2 0, Y.2.2.1 b, .inl (μ.1 b))) := by rw [yW_at blt, yC_6 bkd]
    refine va_copyi (D := w.2.1) (a0 := w.1 a) (a := w.1 b) (ty := .int) C.1 C.2.1 (C.2.2.1.trans g1.1.symm) C.2.2.2.1 (C.2.2.2.2.1 _ h1) (C.2.2.2.2.1 _ h2) (C.2.2.2.2.1 _ h3) (C.2.2.2.2.1 _ h4) C.2.2.2.2.2.1 g2 (yD C.2.2.2.2.2.2.1) g3 a b 0 0 hA hB rfl rfl rfl (Int32.not_lt.mpr c1) (Int32.not_lt.mpr c2) (Int32.not_lt.mpr c3) c4 c5 (fun _ _ => rfl) hfr hlo hdg (fun H1 locs1 k1 k2 k3 => kk _ hh H1 locs1 ls g1 ?_ k3)
    rw [yW_set (μ' := ((fun x k => if x = b then va_cpy (μ.1 a) (μ.1 b) i.toNatClampNeg j.toNatClampNeg n.toNatClampNeg k else μ.1 x k), μ.2.1, μ.2.2)) blt (by rw [yC_6 bkd]; congr 4; funext z; simp) (fun x hx => ?_)] at k1
    · exact k1
    · have e : (fun k => if x = b then va_cpy (μ.1 a) (μ.1 b) i.toNatClampNeg j.toNatClampNeg n.toNatClampNeg k else μ.1 x k) = μ.1 x := by funext k; simp [hx]
      have e2 : ∀ ci n0, yF Y w ((fun x k => if x = b then va_cpy (μ.1 a) (μ.1 b) i.toNatClampNeg j.toNatClampNeg n.toNatClampNeg k else μ.1 x k), μ.2.1, μ.2.2) x ci n0 = yF Y w μ x ci n0 := by
        intro ci n0
        unfold yF
        congr 1
        funext k
        simp only [yV, hx, if_false]
      simp only [yC, e2]
      rw [e]
  · rw [if_neg hc] at hx2; cases hx2
end YR2
end
section
theorem gs_0 : Cond.selects "WhoseGlass" ⟨"WhoseGlass", "shelfAt", "(I)LWhoseGlass$Shelf;"⟩ ⟨"WhoseGlass", "shelfAt", "(I)LWhoseGlass$Shelf;"⟩ ∈ yGW := y_isel 0 rfl rfl
theorem gs_1 : Cond.selects "WhoseGlass$House" ⟨"WhoseGlass$House", "liveMinute", "(LWhoseGlass$Guest;)V"⟩ ⟨"WhoseGlass$House", "liveMinute", "(LWhoseGlass$Guest;)V"⟩ ∈ yGW := y_isel 1 rfl rfl
theorem gs_2 : Cond.selects "WhoseGlass$House" ⟨"WhoseGlass$House", "placeBehind", "(I)I"⟩ ⟨"WhoseGlass$House", "placeBehind", "(I)I"⟩ ∈ yGW := y_isel 2 rfl rfl
theorem gs_3 : Cond.selects "WhoseGlass$House" ⟨"WhoseGlass$House", "isOwned", "(I)Z"⟩ ⟨"WhoseGlass$House", "isOwned", "(I)Z"⟩ ∈ yGW := y_isel 3 rfl rfl
theorem gs_4 : Cond.selects "WhoseGlass" ⟨"WhoseGlass", "ahead", "(I)LWhoseGlass$House;"⟩ ⟨"WhoseGlass", "ahead", "(I)LWhoseGlass$House;"⟩ ∈ yGW := y_isel 4 rfl rfl
theorem gs_5 : Cond.selects "WhoseGlass" ⟨"WhoseGlass", "coldsBroughtBy", "(II)I"⟩ ⟨"WhoseGlass", "coldsBroughtBy", "(II)I"⟩ ∈ yGW := y_isel 5 rfl rfl
theorem gs_6 : Cond.selects "WhoseGlass" ⟨"WhoseGlass", "coldsByCare", "(II)I"⟩ ⟨"WhoseGlass", "coldsByCare", "(II)I"⟩ ∈ yGW := y_isel 6 rfl rfl
theorem gs_7 : Cond.selects "WhoseGlass" ⟨"WhoseGlass", "mistakesIfMarked", "(II)I"⟩ ⟨"WhoseGlass", "mistakesIfMarked", "(II)I"⟩ ∈ yGW := y_isel 7 rfl rfl
theorem gs_8 : Cond.selects "WhoseGlass" ⟨"WhoseGlass", "freshIfLeftOut", "(II)I"⟩ ⟨"WhoseGlass", "freshIfLeftOut", "(II)I"⟩ ∈ yGW := y_isel 8 rfl rfl
theorem gs_9 : Cond.selects "WhoseGlass$Shelf" ⟨"WhoseGlass$Shelf", "lowestBits", "(I)I"⟩ ⟨"WhoseGlass$Shelf", "lowestBits", "(I)I"⟩ ∈ yGW := y_isel 9 rfl rfl
theorem gs_11 : Cond.selects "WhoseGlassModel" ⟨"WhoseGlassModel", "carryAll", "([IZ)V"⟩ ⟨"WhoseGlassModel", "carryAll", "([IZ)V"⟩ ∈ yGW := y_isel 11 rfl rfl
theorem gs_12 : Cond.selects "WhoseGlassModel" ⟨"WhoseGlassModel", "carry", "(I)I"⟩ ⟨"WhoseGlassModel", "carry", "(I)I"⟩ ∈ yGW := y_isel 12 rfl rfl
theorem gs_13 : Cond.selects "WhoseGlassModel" ⟨"WhoseGlassModel", "wrongSort", "(II)I"⟩ ⟨"WhoseGlassModel", "wrongSort", "(II)I"⟩ ∈ yGW := y_isel 13 rfl rfl
theorem gs_14 : Cond.selects "WhoseGlassModel" ⟨"WhoseGlassModel", "wrongRow", "(I)I"⟩ ⟨"WhoseGlassModel", "wrongRow", "(I)I"⟩ ∈ yGW := y_isel 14 rfl rfl
theorem gs_15 : Cond.selects "WhoseGlassModel" ⟨"WhoseGlassModel", "readStatement", "()V"⟩ ⟨"WhoseGlassModel", "readStatement", "()V"⟩ ∈ yGW := y_isel 15 rfl rfl
theorem gs_16 : Cond.selects "WhoseGlassModel" ⟨"WhoseGlassModel", "here", "()I"⟩ ⟨"WhoseGlassModel", "here", "()I"⟩ ∈ yGW := y_isel 16 rfl rfl
theorem gs_17 : Cond.selects "WhoseGlassModel" ⟨"WhoseGlassModel", "readDigit", "()I"⟩ ⟨"WhoseGlassModel", "readDigit", "()I"⟩ ∈ yGW := y_isel 17 rfl rfl
theorem gs_18 : Cond.selects "WhoseGlassModel" ⟨"WhoseGlassModel", "readTwo", "()I"⟩ ⟨"WhoseGlassModel", "readTwo", "()I"⟩ ∈ yGW := y_isel 18 rfl rfl
theorem gs_19 : Cond.selects "WhoseGlassModel" ⟨"WhoseGlassModel", "open", "()V"⟩ ⟨"WhoseGlassModel", "open", "()V"⟩ ∈ yGW := y_isel 19 rfl rfl
theorem gs_20 : Cond.selects "WhoseGlassModel" ⟨"WhoseGlassModel", "comesAll", "(I)Z"⟩ ⟨"WhoseGlassModel", "comesAll", "(I)Z"⟩ ∈ yGW := y_isel 20 rfl rfl
theorem gs_21 : Cond.selects "WhoseGlassModel" ⟨"WhoseGlassModel", "glassComes", "(I)Z"⟩ ⟨"WhoseGlassModel", "glassComes", "(I)Z"⟩ ∈ yGW := y_isel 21 rfl rfl
theorem gs_22 : Cond.selects "WhoseGlassModel" ⟨"WhoseGlassModel", "bring", "(IIII)I"⟩ ⟨"WhoseGlassModel", "bring", "(IIII)I"⟩ ∈ yGW := y_isel 22 rfl rfl
theorem gs_23 : Cond.selects "WhoseGlassModel" ⟨"WhoseGlassModel", "guestComes", "(I)Z"⟩ ⟨"WhoseGlassModel", "guestComes", "(I)Z"⟩ ∈ yGW := y_isel 23 rfl rfl
theorem gs_24 : Cond.selects "WhoseGlassModel" ⟨"WhoseGlassModel", "holdComes", "(II)Z"⟩ ⟨"WhoseGlassModel", "holdComes", "(II)Z"⟩ ∈ yGW := y_isel 24 rfl rfl
theorem gs_25 : Cond.selects "WhoseGlassModel" ⟨"WhoseGlassModel", "isGuest", "(I)Z"⟩ ⟨"WhoseGlassModel", "isGuest", "(I)Z"⟩ ∈ yGW := y_isel 25 rfl rfl
theorem gs_26 : Cond.selects "WhoseGlassModel" ⟨"WhoseGlassModel", "isGlass", "(I)Z"⟩ ⟨"WhoseGlassModel", "isGlass", "(I)Z"⟩ ∈ yGW := y_isel 26 rfl rfl
theorem gs_27 : Cond.selects "WhoseGlassModel" ⟨"WhoseGlassModel", "hold", "(II)V"⟩ ⟨"WhoseGlassModel", "hold", "(II)V"⟩ ∈ yGW := y_isel 27 rfl rfl
theorem gs_28 : Cond.selects "WhoseGlassModel" ⟨"WhoseGlassModel", "minuteOn", "()V"⟩ ⟨"WhoseGlassModel", "minuteOn", "()V"⟩ ∈ yGW := y_isel 28 rfl rfl
theorem gs_29 : Cond.selects "WhoseGlassModel" ⟨"WhoseGlassModel", "guestOn", "(I)V"⟩ ⟨"WhoseGlassModel", "guestOn", "(I)V"⟩ ∈ yGW := y_isel 29 rfl rfl
theorem gs_30 : Cond.selects "WhoseGlassModel" ⟨"WhoseGlassModel", "goOn", "(I)V"⟩ ⟨"WhoseGlassModel", "goOn", "(I)V"⟩ ∈ yGW := y_isel 30 rfl rfl
theorem gs_31 : Cond.selects "WhoseGlassModel" ⟨"WhoseGlassModel", "takeOne", "(I)I"⟩ ⟨"WhoseGlassModel", "takeOne", "(I)I"⟩ ∈ yGW := y_isel 31 rfl rfl
theorem gs_32 : Cond.selects "WhoseGlassModel" ⟨"WhoseGlassModel", "wouldTake", "(I)I"⟩ ⟨"WhoseGlassModel", "wouldTake", "(I)I"⟩ ∈ yGW := y_isel 32 rfl rfl
theorem gs_33 : Cond.selects "WhoseGlassModel" ⟨"WhoseGlassModel", "likeOf", "(II)I"⟩ ⟨"WhoseGlassModel", "likeOf", "(II)I"⟩ ∈ yGW := y_isel 33 rfl rfl
theorem gs_34 : Cond.selects "WhoseGlassModel" ⟨"WhoseGlassModel", "plainly", "(II)I"⟩ ⟨"WhoseGlassModel", "plainly", "(II)I"⟩ ∈ yGW := y_isel 34 rfl rfl
theorem gs_35 : Cond.selects "WhoseGlassModel" ⟨"WhoseGlassModel", "tally", "(II)I"⟩ ⟨"WhoseGlassModel", "tally", "(II)I"⟩ ∈ yGW := y_isel 35 rfl rfl
theorem gs_36 : Cond.selects "WhoseGlassModel" ⟨"WhoseGlassModel", "redly", "(II)I"⟩ ⟨"WhoseGlassModel", "redly", "(II)I"⟩ ∈ yGW := y_isel 36 rfl rfl
theorem gs_37 : Cond.selects "WhoseGlassModel" ⟨"WhoseGlassModel", "isLater", "(II)Z"⟩ ⟨"WhoseGlassModel", "isLater", "(II)Z"⟩ ∈ yGW := y_isel 37 rfl rfl
theorem gs_38 : Cond.selects "WhoseGlassModel" ⟨"WhoseGlassModel", "sipOne", "(I)I"⟩ ⟨"WhoseGlassModel", "sipOne", "(I)I"⟩ ∈ yGW := y_isel 38 rfl rfl
theorem gs_39 : Cond.selects "WhoseGlassModel" ⟨"WhoseGlassModel", "strengthOf", "(I)I"⟩ ⟨"WhoseGlassModel", "strengthOf", "(I)I"⟩ ∈ yGW := y_isel 39 rfl rfl
theorem gs_40 : Cond.selects "WhoseGlassModel" ⟨"WhoseGlassModel", "layOne", "(I)I"⟩ ⟨"WhoseGlassModel", "layOne", "(I)I"⟩ ∈ yGW := y_isel 40 rfl rfl
theorem gs_41 : Cond.selects "WhoseGlassModel" ⟨"WhoseGlassModel", "again", "()V"⟩ ⟨"WhoseGlassModel", "again", "()V"⟩ ∈ yGW := y_isel 41 rfl rfl
theorem gs_42 : Cond.selects "WhoseGlassModel" ⟨"WhoseGlassModel", "wrongKept", "(I)I"⟩ ⟨"WhoseGlassModel", "wrongKept", "(I)I"⟩ ∈ yGW := y_isel 42 rfl rfl
theorem gs_43 : Cond.selects "WhoseGlassModel" ⟨"WhoseGlassModel", "sink", "(I)V"⟩ ⟨"WhoseGlassModel", "sink", "(I)V"⟩ ∈ yGW := y_isel 43 rfl rfl
theorem gs_44 : Cond.selects "WhoseGlassModel" ⟨"WhoseGlassModel", "goThrough", "(I)V"⟩ ⟨"WhoseGlassModel", "goThrough", "(I)V"⟩ ∈ yGW := y_isel 44 rfl rfl
theorem gs_45 : Cond.selects "WhoseGlassModel" ⟨"WhoseGlassModel", "coldBits", "()I"⟩ ⟨"WhoseGlassModel", "coldBits", "()I"⟩ ∈ yGW := y_isel 45 rfl rfl
theorem gs_46 : Cond.selects "WhoseGlassModel" ⟨"WhoseGlassModel", "coldAlone", "(I)V"⟩ ⟨"WhoseGlassModel", "coldAlone", "(I)V"⟩ ∈ yGW := y_isel 46 rfl rfl
theorem gs_47 : Cond.selects "WhoseGlassModel" ⟨"WhoseGlassModel", "isSomeEmpty", "()Z"⟩ ⟨"WhoseGlassModel", "isSomeEmpty", "()Z"⟩ ∈ yGW := y_isel 47 rfl rfl
theorem gs_48 : Cond.selects "WhoseGlassModel" ⟨"WhoseGlassModel", "draw", "(I)I"⟩ ⟨"WhoseGlassModel", "draw", "(I)I"⟩ ∈ yGW := y_isel 48 rfl rfl
theorem gs_49 : Cond.selects "WhoseGlassModel" ⟨"WhoseGlassModel", "skippedIn", "(I)J"⟩ ⟨"WhoseGlassModel", "skippedIn", "(I)J"⟩ ∈ yGW := y_isel 49 rfl rfl
theorem g_1 : (Jvm.Cond.initialized "WhoseGlass") ∈ yGW := y_i1 1 rfl rfl
theorem g_2 : (Jvm.Cond.initialized "WhoseGlass$House") ∈ yGW := y_i1 2 rfl rfl
theorem g_3 : (Jvm.Cond.initialized "WhoseGlass$Glass") ∈ yGW := y_i1 3 rfl rfl
theorem g_4 : (Jvm.Cond.initialized "WhoseGlass$Guest") ∈ yGW := y_i1 4 rfl rfl
theorem g_5 : (Jvm.Cond.initialized "WhoseGlass$Shelf") ∈ yGW := y_i1 5 rfl rfl
theorem g_6 : (Jvm.Cond.initialized "WhoseGlassModel") ∈ yGW := y_i1 6 rfl rfl
theorem g_7 : (Jvm.Cond.initialized "WhoseGlass$HouseText") ∈ yGW := y_i1 7 rfl rfl
theorem g_8 : (Jvm.Cond.initialized "java/lang/Math") ∈ yGW := y_i1 8 rfl rfl
theorem g_14 : (Jvm.Cond.initialized "java/lang/System") ∈ yGW := y_i1 14 rfl rfl
theorem g_39 : (Jvm.Cond.fieldLink "WhoseGlass$Glass" (9 : Nat) "WhoseGlass$Glass" "number" "I") ∈ yGW := y_i1 39 rfl rfl
theorem g_40 : (Jvm.Cond.fieldLink "WhoseGlass$Guest" (43 : Nat) "WhoseGlass$Glass" "number" "I") ∈ yGW := y_i1 40 rfl rfl
theorem g_41 : (Jvm.Cond.fieldLink "WhoseGlass" (99 : Nat) "WhoseGlass$Glass" "number" "I") ∈ yGW := y_i1 41 rfl rfl
theorem g_42 : (Jvm.Cond.fieldLink "WhoseGlass$House" (119 : Nat) "WhoseGlass$Glass" "number" "I") ∈ yGW := y_i1 42 rfl rfl
theorem g_43 : (Jvm.Cond.fieldLink "WhoseGlass$Glass" (15 : Nat) "WhoseGlass$Glass" "kind" "I") ∈ yGW := y_i1 43 rfl rfl
theorem g_44 : (Jvm.Cond.fieldLink "WhoseGlass" (279 : Nat) "WhoseGlass$Glass" "kind" "I") ∈ yGW := y_i1 44 rfl rfl
theorem g_45 : (Jvm.Cond.fieldLink "WhoseGlass$Glass" (18 : Nat) "WhoseGlass$Glass" "figure" "I") ∈ yGW := y_i1 45 rfl rfl
theorem g_46 : (Jvm.Cond.fieldLink "WhoseGlass$Glass" (21 : Nat) "WhoseGlass$Glass" "fill" "I") ∈ yGW := y_i1 46 rfl rfl
theorem g_47 : (Jvm.Cond.fieldLink "WhoseGlass$Guest" (53 : Nat) "WhoseGlass$Glass" "fill" "I") ∈ yGW := y_i1 47 rfl rfl
theorem g_48 : (Jvm.Cond.fieldLink "WhoseGlass" (108 : Nat) "WhoseGlass$Glass" "fill" "I") ∈ yGW := y_i1 48 rfl rfl
theorem g_49 : (Jvm.Cond.fieldLink "WhoseGlass$House" (98 : Nat) "WhoseGlass$Glass" "fill" "I") ∈ yGW := y_i1 49 rfl rfl
theorem g_50 : (Jvm.Cond.fieldLink "WhoseGlass$Glass" (31 : Nat) "WhoseGlass$Glass" "where" "I") ∈ yGW := y_i1 50 rfl rfl
theorem g_51 : (Jvm.Cond.fieldLink "WhoseGlass$Guest" (46 : Nat) "WhoseGlass$Glass" "where" "I") ∈ yGW := y_i1 51 rfl rfl
theorem g_52 : (Jvm.Cond.fieldLink "WhoseGlass" (126 : Nat) "WhoseGlass$Glass" "where" "I") ∈ yGW := y_i1 52 rfl rfl
theorem g_53 : (Jvm.Cond.fieldLink "WhoseGlass$House" (132 : Nat) "WhoseGlass$Glass" "where" "I") ∈ yGW := y_i1 53 rfl rfl
theorem g_54 : (Jvm.Cond.fieldLink "WhoseGlass$Glass" (34 : Nat) "WhoseGlass$Glass" "laid" "I") ∈ yGW := y_i1 54 rfl rfl
theorem g_55 : (Jvm.Cond.fieldLink "WhoseGlass" (129 : Nat) "WhoseGlass$Glass" "laid" "I") ∈ yGW := y_i1 55 rfl rfl
theorem g_56 : (Jvm.Cond.fieldLink "WhoseGlass$House" (138 : Nat) "WhoseGlass$Glass" "laid" "I") ∈ yGW := y_i1 56 rfl rfl
theorem g_57 : (Jvm.Cond.fieldLink "WhoseGlass$Glass" (24 : Nat) "WhoseGlass$Glass" "sippedBy" "I") ∈ yGW := y_i1 57 rfl rfl
theorem g_58 : (Jvm.Cond.fieldLink "WhoseGlass$Guest" (56 : Nat) "WhoseGlass$Glass" "sippedBy" "I") ∈ yGW := y_i1 58 rfl rfl
theorem g_59 : (Jvm.Cond.fieldLink "WhoseGlass$Glass" (27 : Nat) "WhoseGlass$Glass" "germs" "Z") ∈ yGW := y_i1 59 rfl rfl
theorem g_60 : (Jvm.Cond.fieldLink "WhoseGlass$Guest" (59 : Nat) "WhoseGlass$Glass" "germs" "Z") ∈ yGW := y_i1 60 rfl rfl
theorem g_61 : (Jvm.Cond.fieldLink "WhoseGlass$House" (152 : Nat) "WhoseGlass$Glass" "germs" "Z") ∈ yGW := y_i1 61 rfl rfl
theorem g_84 : (Jvm.Cond.fieldLink "WhoseGlass$Guest" (9 : Nat) "WhoseGlass$Guest" "number" "I") ∈ yGW := y_i1 84 rfl rfl
theorem g_85 : (Jvm.Cond.fieldLink "WhoseGlass$House" (158 : Nat) "WhoseGlass$Guest" "number" "I") ∈ yGW := y_i1 85 rfl rfl
theorem g_86 : (Jvm.Cond.fieldLink "WhoseGlass$Guest" (15 : Nat) "WhoseGlass$Guest" "pace" "I") ∈ yGW := y_i1 86 rfl rfl
theorem g_87 : (Jvm.Cond.fieldLink "WhoseGlass$House" (95 : Nat) "WhoseGlass$Guest" "pace" "I") ∈ yGW := y_i1 87 rfl rfl
theorem g_88 : (Jvm.Cond.fieldLink "WhoseGlass$Guest" (18 : Nat) "WhoseGlass$Guest" "lays" "I") ∈ yGW := y_i1 88 rfl rfl
theorem g_89 : (Jvm.Cond.fieldLink "WhoseGlass$House" (105 : Nat) "WhoseGlass$Guest" "lays" "I") ∈ yGW := y_i1 89 rfl rfl
theorem g_90 : (Jvm.Cond.fieldLink "WhoseGlass$Guest" (21 : Nat) "WhoseGlass$Guest" "step" "I") ∈ yGW := y_i1 90 rfl rfl
theorem g_91 : (Jvm.Cond.fieldLink "WhoseGlass$House" (74 : Nat) "WhoseGlass$Guest" "step" "I") ∈ yGW := y_i1 91 rfl rfl
theorem g_92 : (Jvm.Cond.fieldLink "WhoseGlass$Guest" (24 : Nat) "WhoseGlass$Guest" "care" "I") ∈ yGW := y_i1 92 rfl rfl
theorem g_93 : (Jvm.Cond.fieldLink "WhoseGlass$House" (141 : Nat) "WhoseGlass$Guest" "care" "I") ∈ yGW := y_i1 93 rfl rfl
theorem g_94 : (Jvm.Cond.fieldLink "WhoseGlass$Guest" (27 : Nat) "WhoseGlass$Guest" "place" "I") ∈ yGW := y_i1 94 rfl rfl
theorem g_95 : (Jvm.Cond.fieldLink "WhoseGlass" (102 : Nat) "WhoseGlass$Guest" "place" "I") ∈ yGW := y_i1 95 rfl rfl
theorem g_96 : (Jvm.Cond.fieldLink "WhoseGlass$House" (81 : Nat) "WhoseGlass$Guest" "place" "I") ∈ yGW := y_i1 96 rfl rfl
theorem g_97 : (Jvm.Cond.fieldLink "WhoseGlass$Guest" (30 : Nat) "WhoseGlass$Guest" "holds" "I") ∈ yGW := y_i1 97 rfl rfl
theorem g_98 : (Jvm.Cond.fieldLink "WhoseGlass" (105 : Nat) "WhoseGlass$Guest" "holds" "I") ∈ yGW := y_i1 98 rfl rfl
theorem g_99 : (Jvm.Cond.fieldLink "WhoseGlass$House" (88 : Nat) "WhoseGlass$Guest" "holds" "I") ∈ yGW := y_i1 99 rfl rfl
theorem g_100 : (Jvm.Cond.fieldLink "WhoseGlass$HouseText" (102 : Nat) "WhoseGlass$Guest" "holds" "I") ∈ yGW := y_i1 100 rfl rfl
theorem g_101 : (Jvm.Cond.fieldLink "WhoseGlass$Guest" (33 : Nat) "WhoseGlass$Guest" "own" "I") ∈ yGW := y_i1 101 rfl rfl
theorem g_102 : (Jvm.Cond.fieldLink "WhoseGlass$House" (122 : Nat) "WhoseGlass$Guest" "own" "I") ∈ yGW := y_i1 102 rfl rfl
theorem g_103 : (Jvm.Cond.fieldLink "WhoseGlass" (145 : Nat) "WhoseGlass$Guest" "own" "I") ∈ yGW := y_i1 103 rfl rfl
theorem g_104 : (Jvm.Cond.fieldLink "WhoseGlass$Guest" (36 : Nat) "WhoseGlass$Guest" "had" "I") ∈ yGW := y_i1 104 rfl rfl
theorem g_105 : (Jvm.Cond.fieldLink "WhoseGlass$House" (155 : Nat) "WhoseGlass$Guest" "had" "I") ∈ yGW := y_i1 105 rfl rfl
theorem g_106 : (Jvm.Cond.fieldLink "WhoseGlass" (179 : Nat) "WhoseGlass$Guest" "had" "I") ∈ yGW := y_i1 106 rfl rfl
theorem g_107 : (Jvm.Cond.fieldLink "WhoseGlass$Guest" (39 : Nat) "WhoseGlass$Guest" "cold" "Z") ∈ yGW := y_i1 107 rfl rfl
theorem g_108 : (Jvm.Cond.fieldLink "WhoseGlass$HouseText" (115 : Nat) "WhoseGlass$Guest" "cold" "Z") ∈ yGW := y_i1 108 rfl rfl
theorem g_109 : (Jvm.Cond.fieldLink "WhoseGlass$House" (148 : Nat) "WhoseGlass$Guest" "cold" "Z") ∈ yGW := y_i1 109 rfl rfl
theorem g_131 : (Jvm.Cond.fieldLink "WhoseGlass$House" (11 : Nat) "WhoseGlass$House" "glasses" "[LWhoseGlass$Glass;") ∈ yGW := y_i1 131 rfl rfl
theorem g_132 : (Jvm.Cond.fieldLink "WhoseGlass$House" (19 : Nat) "WhoseGlass$House" "guests" "[LWhoseGlass$Guest;") ∈ yGW := y_i1 132 rfl rfl
theorem g_133 : (Jvm.Cond.fieldLink "WhoseGlass$House" (34 : Nat) "WhoseGlass$House" "glassCount" "I") ∈ yGW := y_i1 133 rfl rfl
theorem g_134 : (Jvm.Cond.fieldLink "WhoseGlass" (123 : Nat) "WhoseGlass$House" "glassCount" "I") ∈ yGW := y_i1 134 rfl rfl
theorem g_135 : (Jvm.Cond.fieldLink "WhoseGlass$House" (37 : Nat) "WhoseGlass$House" "guestCount" "I") ∈ yGW := y_i1 135 rfl rfl
theorem g_136 : (Jvm.Cond.fieldLink "WhoseGlass" (182 : Nat) "WhoseGlass$House" "guestCount" "I") ∈ yGW := y_i1 136 rfl rfl
theorem g_137 : (Jvm.Cond.fieldLink "WhoseGlass$House" (23 : Nat) "WhoseGlass$House" "tray" "I") ∈ yGW := y_i1 137 rfl rfl
theorem g_138 : (Jvm.Cond.fieldLink "WhoseGlass$HouseText" (119 : Nat) "WhoseGlass$House" "tray" "I") ∈ yGW := y_i1 138 rfl rfl
theorem g_139 : (Jvm.Cond.fieldLink "WhoseGlass" (220 : Nat) "WhoseGlass$House" "tray" "I") ∈ yGW := y_i1 139 rfl rfl
theorem g_140 : (Jvm.Cond.fieldLink "WhoseGlass$House" (40 : Nat) "WhoseGlass$House" "minute" "I") ∈ yGW := y_i1 140 rfl rfl
theorem g_141 : (Jvm.Cond.fieldLink "WhoseGlass$HouseText" (36 : Nat) "WhoseGlass$House" "minute" "I") ∈ yGW := y_i1 141 rfl rfl
theorem g_142 : (Jvm.Cond.fieldLink "WhoseGlass" (92 : Nat) "WhoseGlass$House" "minute" "I") ∈ yGW := y_i1 142 rfl rfl
theorem g_143 : (Jvm.Cond.fieldLink "WhoseGlass$House" (43 : Nat) "WhoseGlass$House" "mistakes" "I") ∈ yGW := y_i1 143 rfl rfl
theorem g_144 : (Jvm.Cond.fieldLink "WhoseGlass" (170 : Nat) "WhoseGlass$House" "mistakes" "I") ∈ yGW := y_i1 144 rfl rfl
theorem g_145 : (Jvm.Cond.fieldLink "WhoseGlass$House" (46 : Nat) "WhoseGlass$House" "fresh" "I") ∈ yGW := y_i1 145 rfl rfl
theorem g_146 : (Jvm.Cond.fieldLink "WhoseGlass" (173 : Nat) "WhoseGlass$House" "fresh" "I") ∈ yGW := y_i1 146 rfl rfl
theorem g_147 : (Jvm.Cond.fieldLink "WhoseGlass$House" (27 : Nat) "WhoseGlass$House" "leftOut" "I") ∈ yGW := y_i1 147 rfl rfl
theorem g_148 : (Jvm.Cond.fieldLink "WhoseGlass" (280 : Nat) "WhoseGlass$House" "leftOut" "I") ∈ yGW := y_i1 148 rfl rfl
theorem g_175 : (Jvm.Cond.fieldLink "WhoseGlass$Shelf" (9 : Nat) "WhoseGlass$Shelf" "content" "I") ∈ yGW := y_i1 175 rfl rfl
theorem g_176 : (Jvm.Cond.fieldLink "WhoseGlass" (33 : Nat) "WhoseGlass$Shelf" "content" "I") ∈ yGW := y_i1 176 rfl rfl
theorem g_177 : (Jvm.Cond.fieldLink "WhoseGlass" (82 : Nat) "WhoseGlass$Shelf" "kind" "I") ∈ yGW := y_i1 177 rfl rfl
theorem g_178 : (Jvm.Cond.fieldLink "WhoseGlass$Shelf" (32 : Nat) "WhoseGlass$Shelf" "kind" "I") ∈ yGW := y_i1 178 rfl rfl
theorem g_179 : (Jvm.Cond.fieldLink "WhoseGlass" (85 : Nat) "WhoseGlass$Shelf" "figure" "I") ∈ yGW := y_i1 179 rfl rfl
theorem g_180 : (Jvm.Cond.fieldLink "WhoseGlass$Shelf" (35 : Nat) "WhoseGlass$Shelf" "figure" "I") ∈ yGW := y_i1 180 rfl rfl
theorem g_181 : (Jvm.Cond.fieldLink "WhoseGlass" (37 : Nat) "WhoseGlass$Shelf" "sort" "I") ∈ yGW := y_i1 181 rfl rfl
theorem g_182 : (Jvm.Cond.fieldLink "WhoseGlass$Shelf" (19 : Nat) "WhoseGlass$Shelf" "sort" "I") ∈ yGW := y_i1 182 rfl rfl
theorem g_183 : (Jvm.Cond.fieldLink "WhoseGlass$HouseText" (9 : Nat) "WhoseGlass$Shelf" "size" "I") ∈ yGW := y_i1 183 rfl rfl
theorem g_184 : (Jvm.Cond.fieldLink "WhoseGlass$Shelf" (22 : Nat) "WhoseGlass$Shelf" "size" "I") ∈ yGW := y_i1 184 rfl rfl
theorem g_185 : (Jvm.Cond.fieldLink "WhoseGlass" (207 : Nat) "WhoseGlass$Shelf" "size" "I") ∈ yGW := y_i1 185 rfl rfl
theorem g_186 : (Jvm.Cond.fieldLink "WhoseGlass$Shelf" (15 : Nat) "WhoseGlass$Shelf" "elements" "[I") ∈ yGW := y_i1 186 rfl rfl
theorem g_187 : (Jvm.Cond.fieldLink "WhoseGlass" (250 : Nat) "WhoseGlass$Shelf" "elements" "[I") ∈ yGW := y_i1 187 rfl rfl
theorem g_202 : (Jvm.Cond.fieldLink "WhoseGlass" (10 : Nat) "WhoseGlass" "now" "LWhoseGlass$House;") ∈ yGW := y_i1 202 rfl rfl
theorem g_203 : (Jvm.Cond.fieldLink "WhoseGlass" (16 : Nat) "WhoseGlass" "mind" "LWhoseGlass$House;") ∈ yGW := y_i1 203 rfl rfl
theorem g_204 : (Jvm.Cond.fieldLink "WhoseGlass" (19 : Nat) "WhoseGlass" "picture" "LWhoseGlass$House;") ∈ yGW := y_i1 204 rfl rfl
theorem g_205 : (Jvm.Cond.fieldLink "WhoseGlass" (216 : Nat) "WhoseGlass" "pictured" "Z") ∈ yGW := y_i1 205 rfl rfl
theorem g_206 : (Jvm.Cond.fieldLink "WhoseGlass" (24 : Nat) "WhoseGlass" "shelves" "[LWhoseGlass$Shelf;") ∈ yGW := y_i1 206 rfl rfl
theorem g_222 : (Jvm.Cond.methodLink "WhoseGlass" (29 : Nat) ({ cls := "WhoseGlass", name := "shelfAt", desc := "(I)LWhoseGlass$Shelf;" } : Jvm.MethodName)) ∈ yGW := y_i1 222 rfl rfl
theorem g_224 : (Jvm.Cond.instanceMethod ({ cls := "WhoseGlass", name := "shelfAt", desc := "(I)LWhoseGlass$Shelf;" } : Jvm.MethodName)) ∈ yGW := y_i1 224 rfl rfl
theorem g_225 : (Jvm.Cond.code ({ cls := "WhoseGlass", name := "shelfAt", desc := "(I)LWhoseGlass$Shelf;" } : Jvm.MethodName) prog_1_method_41_code (2 : Nat) (Option.some (Jvm.ClassFile.FieldType.object "WhoseGlass$Shelf"))) ∈ yGW := y_i1 225 rfl rfl
theorem g_226 : (Jvm.Cond.methodLink "WhoseGlass" (40 : Nat) ({ cls := "WhoseGlass$Shelf", name := "whyNot", desc := "()I" } : Jvm.MethodName)) ∈ yGW := y_i1 226 rfl rfl
theorem g_227 : (Jvm.Cond.instanceMethod ({ cls := "WhoseGlass$Shelf", name := "whyNot", desc := "()I" } : Jvm.MethodName)) ∈ yGW := y_i1 227 rfl rfl
theorem g_228 : (Jvm.Cond.selects "WhoseGlass$Shelf" ({ cls := "WhoseGlass$Shelf", name := "whyNot", desc := "()I" } : Jvm.MethodName) ({ cls := "WhoseGlass$Shelf", name := "whyNot", desc := "()I" } : Jvm.MethodName)) ∈ yGW := y_i1 228 rfl rfl
theorem g_229 : (Jvm.Cond.code ({ cls := "WhoseGlass$Shelf", name := "whyNot", desc := "()I" } : Jvm.MethodName) prog_6_method_2_code (1 : Nat) (Option.some Jvm.ClassFile.FieldType.int)) ∈ yGW := y_i1 229 rfl rfl
theorem g_230 : (Jvm.Cond.methodLink "WhoseGlass" (44 : Nat) ({ cls := "WhoseGlass$HouseText", name := "breakIn", desc := "(LWhoseGlass$Shelf;)I" } : Jvm.MethodName)) ∈ yGW := y_i1 230 rfl rfl
theorem g_231 : (Jvm.Cond.static ({ cls := "WhoseGlass$HouseText", name := "breakIn", desc := "(LWhoseGlass$Shelf;)I" } : Jvm.MethodName)) ∈ yGW := y_i1 231 rfl rfl
theorem g_232 : (Jvm.Cond.code ({ cls := "WhoseGlass$HouseText", name := "breakIn", desc := "(LWhoseGlass$Shelf;)I" } : Jvm.MethodName) prog_5_method_2_code (4 : Nat) (Option.some Jvm.ClassFile.FieldType.int)) ∈ yGW := y_i1 232 rfl rfl
theorem g_233 : (Jvm.Cond.methodLink "WhoseGlass$HouseText" (15 : Nat) ({ cls := "WhoseGlass$HouseText", name := "digitsEnd", desc := "(LWhoseGlass$Shelf;I)I" } : Jvm.MethodName)) ∈ yGW := y_i1 233 rfl rfl
theorem g_234 : (Jvm.Cond.static ({ cls := "WhoseGlass$HouseText", name := "digitsEnd", desc := "(LWhoseGlass$Shelf;I)I" } : Jvm.MethodName)) ∈ yGW := y_i1 234 rfl rfl
theorem g_235 : (Jvm.Cond.code ({ cls := "WhoseGlass$HouseText", name := "digitsEnd", desc := "(LWhoseGlass$Shelf;I)I" } : Jvm.MethodName) prog_5_method_6_code (4 : Nat) (Option.some Jvm.ClassFile.FieldType.int)) ∈ yGW := y_i1 235 rfl rfl
theorem g_236 : (Jvm.Cond.methodLink "WhoseGlass$HouseText" (25 : Nat) ({ cls := "WhoseGlass$Shelf", name := "elementAt", desc := "(I)I" } : Jvm.MethodName)) ∈ yGW := y_i1 236 rfl rfl
theorem g_237 : (Jvm.Cond.instanceMethod ({ cls := "WhoseGlass$Shelf", name := "elementAt", desc := "(I)I" } : Jvm.MethodName)) ∈ yGW := y_i1 237 rfl rfl
theorem g_238 : (Jvm.Cond.selects "WhoseGlass$Shelf" ({ cls := "WhoseGlass$Shelf", name := "elementAt", desc := "(I)I" } : Jvm.MethodName) ({ cls := "WhoseGlass$Shelf", name := "elementAt", desc := "(I)I" } : Jvm.MethodName)) ∈ yGW := y_i1 238 rfl rfl
theorem g_239 : (Jvm.Cond.code ({ cls := "WhoseGlass$Shelf", name := "elementAt", desc := "(I)I" } : Jvm.MethodName) prog_6_method_4_code (2 : Nat) (Option.some Jvm.ClassFile.FieldType.int)) ∈ yGW := y_i1 239 rfl rfl
theorem g_240 : (Jvm.Cond.methodLink "WhoseGlass$HouseText" (49 : Nat) ({ cls := "WhoseGlass$HouseText", name := "mostDigits", desc := "(I)I" } : Jvm.MethodName)) ∈ yGW := y_i2 0 rfl rfl
theorem g_241 : (Jvm.Cond.static ({ cls := "WhoseGlass$HouseText", name := "mostDigits", desc := "(I)I" } : Jvm.MethodName)) ∈ yGW := y_i2 1 rfl rfl
theorem g_242 : (Jvm.Cond.code ({ cls := "WhoseGlass$HouseText", name := "mostDigits", desc := "(I)I" } : Jvm.MethodName) prog_5_method_10_code (1 : Nat) (Option.some Jvm.ClassFile.FieldType.int)) ∈ yGW := y_i2 2 rfl rfl
theorem g_243 : (Jvm.Cond.methodLink "WhoseGlass$HouseText" (52 : Nat) ({ cls := "WhoseGlass$HouseText", name := "isDigit", desc := "(LWhoseGlass$Shelf;I)Z" } : Jvm.MethodName)) ∈ yGW := y_i2 3 rfl rfl
theorem g_244 : (Jvm.Cond.static ({ cls := "WhoseGlass$HouseText", name := "isDigit", desc := "(LWhoseGlass$Shelf;I)Z" } : Jvm.MethodName)) ∈ yGW := y_i2 4 rfl rfl
theorem g_245 : (Jvm.Cond.code ({ cls := "WhoseGlass$HouseText", name := "isDigit", desc := "(LWhoseGlass$Shelf;I)Z" } : Jvm.MethodName) prog_5_method_8_code (2 : Nat) (Option.some Jvm.ClassFile.FieldType.boolean)) ∈ yGW := y_i2 5 rfl rfl
theorem g_246 : (Jvm.Cond.methodLink "WhoseGlass$HouseText" (21 : Nat) ({ cls := "WhoseGlass$HouseText", name := "isWhole", desc := "(LWhoseGlass$Shelf;II)Z" } : Jvm.MethodName)) ∈ yGW := y_i2 6 rfl rfl
theorem g_247 : (Jvm.Cond.static ({ cls := "WhoseGlass$HouseText", name := "isWhole", desc := "(LWhoseGlass$Shelf;II)Z" } : Jvm.MethodName)) ∈ yGW := y_i2 7 rfl rfl
theorem g_248 : (Jvm.Cond.code ({ cls := "WhoseGlass$HouseText", name := "isWhole", desc := "(LWhoseGlass$Shelf;II)Z" } : Jvm.MethodName) prog_5_method_3_code (3 : Nat) (Option.some Jvm.ClassFile.FieldType.boolean)) ∈ yGW := y_i2 8 rfl rfl
theorem g_249 : (Jvm.Cond.methodLink "WhoseGlass$HouseText" (29 : Nat) ({ cls := "WhoseGlass$HouseText", name := "leastDigits", desc := "(I)I" } : Jvm.MethodName)) ∈ yGW := y_i2 9 rfl rfl
theorem g_250 : (Jvm.Cond.static ({ cls := "WhoseGlass$HouseText", name := "leastDigits", desc := "(I)I" } : Jvm.MethodName)) ∈ yGW := y_i2 10 rfl rfl
theorem g_251 : (Jvm.Cond.code ({ cls := "WhoseGlass$HouseText", name := "leastDigits", desc := "(I)I" } : Jvm.MethodName) prog_5_method_9_code (1 : Nat) (Option.some Jvm.ClassFile.FieldType.int)) ∈ yGW := y_i2 11 rfl rfl
theorem g_252 : (Jvm.Cond.methodLink "WhoseGlass$HouseText" (32 : Nat) ({ cls := "WhoseGlass$HouseText", name := "isAt", desc := "(LWhoseGlass$Shelf;IC)Z" } : Jvm.MethodName)) ∈ yGW := y_i2 12 rfl rfl
theorem g_253 : (Jvm.Cond.static ({ cls := "WhoseGlass$HouseText", name := "isAt", desc := "(LWhoseGlass$Shelf;IC)Z" } : Jvm.MethodName)) ∈ yGW := y_i2 13 rfl rfl
theorem g_254 : (Jvm.Cond.code ({ cls := "WhoseGlass$HouseText", name := "isAt", desc := "(LWhoseGlass$Shelf;IC)Z" } : Jvm.MethodName) prog_5_method_7_code (3 : Nat) (Option.some Jvm.ClassFile.FieldType.boolean)) ∈ yGW := y_i2 14 rfl rfl
theorem g_255 : (Jvm.Cond.methodLink "WhoseGlass" (50 : Nat) ({ cls := "WhoseGlass$House", name := "become", desc := "(LWhoseGlass$House;)V" } : Jvm.MethodName)) ∈ yGW := y_i2 15 rfl rfl
theorem g_256 : (Jvm.Cond.instanceMethod ({ cls := "WhoseGlass$House", name := "become", desc := "(LWhoseGlass$House;)V" } : Jvm.MethodName)) ∈ yGW := y_i2 16 rfl rfl
theorem g_257 : (Jvm.Cond.selects "WhoseGlass$House" ({ cls := "WhoseGlass$House", name := "become", desc := "(LWhoseGlass$House;)V" } : Jvm.MethodName) ({ cls := "WhoseGlass$House", name := "become", desc := "(LWhoseGlass$House;)V" } : Jvm.MethodName)) ∈ yGW := y_i2 17 rfl rfl
theorem g_258 : (Jvm.Cond.code ({ cls := "WhoseGlass$House", name := "become", desc := "(LWhoseGlass$House;)V" } : Jvm.MethodName) prog_4_method_2_code (5 : Nat) (Option.none : Option Jvm.ClassFile.FieldType)) ∈ yGW := y_i2 18 rfl rfl
theorem g_259 : (Jvm.Cond.methodLink "WhoseGlass$House" (49 : Nat) ({ cls := "WhoseGlass$House", name := "glassAt", desc := "(I)LWhoseGlass$Glass;" } : Jvm.MethodName)) ∈ yGW := y_i2 19 rfl rfl
theorem g_260 : (Jvm.Cond.instanceMethod ({ cls := "WhoseGlass$House", name := "glassAt", desc := "(I)LWhoseGlass$Glass;" } : Jvm.MethodName)) ∈ yGW := y_i2 20 rfl rfl
theorem g_261 : (Jvm.Cond.selects "WhoseGlass$House" ({ cls := "WhoseGlass$House", name := "glassAt", desc := "(I)LWhoseGlass$Glass;" } : Jvm.MethodName) ({ cls := "WhoseGlass$House", name := "glassAt", desc := "(I)LWhoseGlass$Glass;" } : Jvm.MethodName)) ∈ yGW := y_i2 21 rfl rfl
theorem g_262 : (Jvm.Cond.code ({ cls := "WhoseGlass$House", name := "glassAt", desc := "(I)LWhoseGlass$Glass;" } : Jvm.MethodName) prog_4_method_3_code (2 : Nat) (Option.some (Jvm.ClassFile.FieldType.object "WhoseGlass$Glass"))) ∈ yGW := y_i2 22 rfl rfl
theorem g_263 : (Jvm.Cond.methodLink "WhoseGlass$House" (53 : Nat) ({ cls := "WhoseGlass$Glass", name := "become", desc := "(LWhoseGlass$Glass;)V" } : Jvm.MethodName)) ∈ yGW := y_i2 23 rfl rfl
theorem g_264 : (Jvm.Cond.instanceMethod ({ cls := "WhoseGlass$Glass", name := "become", desc := "(LWhoseGlass$Glass;)V" } : Jvm.MethodName)) ∈ yGW := y_i2 24 rfl rfl
theorem g_265 : (Jvm.Cond.selects "WhoseGlass$Glass" ({ cls := "WhoseGlass$Glass", name := "become", desc := "(LWhoseGlass$Glass;)V" } : Jvm.MethodName) ({ cls := "WhoseGlass$Glass", name := "become", desc := "(LWhoseGlass$Glass;)V" } : Jvm.MethodName)) ∈ yGW := y_i2 25 rfl rfl
theorem g_266 : (Jvm.Cond.code ({ cls := "WhoseGlass$Glass", name := "become", desc := "(LWhoseGlass$Glass;)V" } : Jvm.MethodName) prog_2_method_3_code (2 : Nat) (Option.none : Option Jvm.ClassFile.FieldType)) ∈ yGW := y_i2 26 rfl rfl
theorem g_267 : (Jvm.Cond.methodLink "WhoseGlass$House" (57 : Nat) ({ cls := "WhoseGlass$House", name := "guestAt", desc := "(I)LWhoseGlass$Guest;" } : Jvm.MethodName)) ∈ yGW := y_i2 27 rfl rfl
theorem g_268 : (Jvm.Cond.instanceMethod ({ cls := "WhoseGlass$House", name := "guestAt", desc := "(I)LWhoseGlass$Guest;" } : Jvm.MethodName)) ∈ yGW := y_i2 28 rfl rfl
theorem g_269 : (Jvm.Cond.selects "WhoseGlass$House" ({ cls := "WhoseGlass$House", name := "guestAt", desc := "(I)LWhoseGlass$Guest;" } : Jvm.MethodName) ({ cls := "WhoseGlass$House", name := "guestAt", desc := "(I)LWhoseGlass$Guest;" } : Jvm.MethodName)) ∈ yGW := y_i2 29 rfl rfl
theorem g_270 : (Jvm.Cond.code ({ cls := "WhoseGlass$House", name := "guestAt", desc := "(I)LWhoseGlass$Guest;" } : Jvm.MethodName) prog_4_method_4_code (2 : Nat) (Option.some (Jvm.ClassFile.FieldType.object "WhoseGlass$Guest"))) ∈ yGW := y_i2 30 rfl rfl
theorem g_271 : (Jvm.Cond.methodLink "WhoseGlass$House" (61 : Nat) ({ cls := "WhoseGlass$Guest", name := "become", desc := "(LWhoseGlass$Guest;)V" } : Jvm.MethodName)) ∈ yGW := y_i2 31 rfl rfl
theorem g_272 : (Jvm.Cond.instanceMethod ({ cls := "WhoseGlass$Guest", name := "become", desc := "(LWhoseGlass$Guest;)V" } : Jvm.MethodName)) ∈ yGW := y_i2 32 rfl rfl
theorem g_273 : (Jvm.Cond.selects "WhoseGlass$Guest" ({ cls := "WhoseGlass$Guest", name := "become", desc := "(LWhoseGlass$Guest;)V" } : Jvm.MethodName) ({ cls := "WhoseGlass$Guest", name := "become", desc := "(LWhoseGlass$Guest;)V" } : Jvm.MethodName)) ∈ yGW := y_i2 33 rfl rfl
theorem g_274 : (Jvm.Cond.code ({ cls := "WhoseGlass$Guest", name := "become", desc := "(LWhoseGlass$Guest;)V" } : Jvm.MethodName) prog_3_method_3_code (2 : Nat) (Option.none : Option Jvm.ClassFile.FieldType)) ∈ yGW := y_i2 34 rfl rfl
theorem g_275 : (Jvm.Cond.methodLink "WhoseGlass" (54 : Nat) ({ cls := "WhoseGlass$HouseText", name := "build", desc := "(LWhoseGlass$Shelf;LWhoseGlass$House;)I" } : Jvm.MethodName)) ∈ yGW := y_i2 35 rfl rfl
theorem g_276 : (Jvm.Cond.static ({ cls := "WhoseGlass$HouseText", name := "build", desc := "(LWhoseGlass$Shelf;LWhoseGlass$House;)I" } : Jvm.MethodName)) ∈ yGW := y_i2 36 rfl rfl
theorem g_277 : (Jvm.Cond.code ({ cls := "WhoseGlass$HouseText", name := "build", desc := "(LWhoseGlass$Shelf;LWhoseGlass$House;)I" } : Jvm.MethodName) prog_5_method_4_code (4 : Nat) (Option.some Jvm.ClassFile.FieldType.int)) ∈ yGW := y_i2 37 rfl rfl
theorem g_278 : (Jvm.Cond.methodLink "WhoseGlass$HouseText" (41 : Nat) ({ cls := "WhoseGlass$House", name := "passMinutes", desc := "(I)V" } : Jvm.MethodName)) ∈ yGW := y_i2 38 rfl rfl
theorem g_279 : (Jvm.Cond.instanceMethod ({ cls := "WhoseGlass$House", name := "passMinutes", desc := "(I)V" } : Jvm.MethodName)) ∈ yGW := y_i2 39 rfl rfl
theorem g_280 : (Jvm.Cond.selects "WhoseGlass$House" ({ cls := "WhoseGlass$House", name := "passMinutes", desc := "(I)V" } : Jvm.MethodName) ({ cls := "WhoseGlass$House", name := "passMinutes", desc := "(I)V" } : Jvm.MethodName)) ∈ yGW := y_i2 40 rfl rfl
theorem g_281 : (Jvm.Cond.code ({ cls := "WhoseGlass$House", name := "passMinutes", desc := "(I)V" } : Jvm.MethodName) prog_4_method_7_code (5 : Nat) (Option.none : Option Jvm.ClassFile.FieldType)) ∈ yGW := y_i2 41 rfl rfl
theorem g_282 : (Jvm.Cond.methodLink "WhoseGlass$House" (71 : Nat) ({ cls := "WhoseGlass$House", name := "liveMinute", desc := "(LWhoseGlass$Guest;)V" } : Jvm.MethodName)) ∈ yGW := y_i2 42 rfl rfl
theorem g_284 : (Jvm.Cond.instanceMethod ({ cls := "WhoseGlass$House", name := "liveMinute", desc := "(LWhoseGlass$Guest;)V" } : Jvm.MethodName)) ∈ yGW := y_i2 44 rfl rfl
theorem g_285 : (Jvm.Cond.code ({ cls := "WhoseGlass$House", name := "liveMinute", desc := "(LWhoseGlass$Guest;)V" } : Jvm.MethodName) prog_4_method_8_code (3 : Nat) (Option.none : Option Jvm.ClassFile.FieldType)) ∈ yGW := y_i2 45 rfl rfl
theorem g_287 : (Jvm.Cond.static ({ cls := "WhoseGlass", name := "isMultiple", desc := "(II)Z" } : Jvm.MethodName)) ∈ yGW := y_i2 47 rfl rfl
theorem g_288 : (Jvm.Cond.code ({ cls := "WhoseGlass", name := "isMultiple", desc := "(II)Z" } : Jvm.MethodName) prog_1_method_44_code (2 : Nat) (Option.some Jvm.ClassFile.FieldType.boolean)) ∈ yGW := y_i2 48 rfl rfl
theorem g_289 : (Jvm.Cond.methodLink "WhoseGlass$House" (84 : Nat) ({ cls := "WhoseGlass$House", name := "placeBehind", desc := "(I)I" } : Jvm.MethodName)) ∈ yGW := y_i2 49 rfl rfl
theorem g_291 : (Jvm.Cond.instanceMethod ({ cls := "WhoseGlass$House", name := "placeBehind", desc := "(I)I" } : Jvm.MethodName)) ∈ yGW := y_i2 51 rfl rfl
theorem g_292 : (Jvm.Cond.code ({ cls := "WhoseGlass$House", name := "placeBehind", desc := "(I)I" } : Jvm.MethodName) prog_4_method_9_code (3 : Nat) (Option.some Jvm.ClassFile.FieldType.int)) ∈ yGW := y_i2 52 rfl rfl
theorem g_293 : (Jvm.Cond.methodLink "WhoseGlass$House" (91 : Nat) ({ cls := "WhoseGlass$House", name := "takeUp", desc := "(LWhoseGlass$Guest;)I" } : Jvm.MethodName)) ∈ yGW := y_i2 53 rfl rfl
theorem g_294 : (Jvm.Cond.instanceMethod ({ cls := "WhoseGlass$House", name := "takeUp", desc := "(LWhoseGlass$Guest;)I" } : Jvm.MethodName)) ∈ yGW := y_i2 54 rfl rfl
theorem g_295 : (Jvm.Cond.selects "WhoseGlass$House" ({ cls := "WhoseGlass$House", name := "takeUp", desc := "(LWhoseGlass$Guest;)I" } : Jvm.MethodName) ({ cls := "WhoseGlass$House", name := "takeUp", desc := "(LWhoseGlass$Guest;)I" } : Jvm.MethodName)) ∈ yGW := y_i2 55 rfl rfl
theorem g_296 : (Jvm.Cond.code ({ cls := "WhoseGlass$House", name := "takeUp", desc := "(LWhoseGlass$Guest;)I" } : Jvm.MethodName) prog_4_method_11_code (4 : Nat) (Option.some Jvm.ClassFile.FieldType.int)) ∈ yGW := y_i2 56 rfl rfl
theorem g_297 : (Jvm.Cond.methodLink "WhoseGlass$House" (116 : Nat) ({ cls := "WhoseGlass$House", name := "choiceOf", desc := "(LWhoseGlass$Guest;)I" } : Jvm.MethodName)) ∈ yGW := y_i2 57 rfl rfl
theorem g_298 : (Jvm.Cond.instanceMethod ({ cls := "WhoseGlass$House", name := "choiceOf", desc := "(LWhoseGlass$Guest;)I" } : Jvm.MethodName)) ∈ yGW := y_i2 58 rfl rfl
theorem g_299 : (Jvm.Cond.selects "WhoseGlass$House" ({ cls := "WhoseGlass$House", name := "choiceOf", desc := "(LWhoseGlass$Guest;)I" } : Jvm.MethodName) ({ cls := "WhoseGlass$House", name := "choiceOf", desc := "(LWhoseGlass$Guest;)I" } : Jvm.MethodName)) ∈ yGW := y_i2 59 rfl rfl
theorem g_300 : (Jvm.Cond.code ({ cls := "WhoseGlass$House", name := "choiceOf", desc := "(LWhoseGlass$Guest;)I" } : Jvm.MethodName) prog_4_method_12_code (9 : Nat) (Option.some Jvm.ClassFile.FieldType.int)) ∈ yGW := y_i2 60 rfl rfl
theorem g_301 : (Jvm.Cond.methodLink "WhoseGlass$House" (135 : Nat) ({ cls := "WhoseGlass$Glass", name := "likeTo", desc := "(LWhoseGlass$Glass;)I" } : Jvm.MethodName)) ∈ yGW := y_i2 61 rfl rfl
theorem g_302 : (Jvm.Cond.instanceMethod ({ cls := "WhoseGlass$Glass", name := "likeTo", desc := "(LWhoseGlass$Glass;)I" } : Jvm.MethodName)) ∈ yGW := y_i2 62 rfl rfl
theorem g_303 : (Jvm.Cond.selects "WhoseGlass$Glass" ({ cls := "WhoseGlass$Glass", name := "likeTo", desc := "(LWhoseGlass$Glass;)I" } : Jvm.MethodName) ({ cls := "WhoseGlass$Glass", name := "likeTo", desc := "(LWhoseGlass$Glass;)I" } : Jvm.MethodName)) ∈ yGW := y_i2 63 rfl rfl
theorem g_304 : (Jvm.Cond.code ({ cls := "WhoseGlass$Glass", name := "likeTo", desc := "(LWhoseGlass$Glass;)I" } : Jvm.MethodName) prog_2_method_8_code (9 : Nat) (Option.some Jvm.ClassFile.FieldType.int)) ∈ yGW := y_i2 64 rfl rfl
theorem g_305 : (Jvm.Cond.methodLink "WhoseGlass$House" (125 : Nat) ({ cls := "WhoseGlass$Guest", name := "hold", desc := "(LWhoseGlass$Glass;)V" } : Jvm.MethodName)) ∈ yGW := y_i2 65 rfl rfl
theorem g_306 : (Jvm.Cond.instanceMethod ({ cls := "WhoseGlass$Guest", name := "hold", desc := "(LWhoseGlass$Glass;)V" } : Jvm.MethodName)) ∈ yGW := y_i2 66 rfl rfl
theorem g_307 : (Jvm.Cond.selects "WhoseGlass$Guest" ({ cls := "WhoseGlass$Guest", name := "hold", desc := "(LWhoseGlass$Glass;)V" } : Jvm.MethodName) ({ cls := "WhoseGlass$Guest", name := "hold", desc := "(LWhoseGlass$Glass;)V" } : Jvm.MethodName)) ∈ yGW := y_i2 67 rfl rfl
theorem g_308 : (Jvm.Cond.code ({ cls := "WhoseGlass$Guest", name := "hold", desc := "(LWhoseGlass$Glass;)V" } : Jvm.MethodName) prog_3_method_5_code (2 : Nat) (Option.none : Option Jvm.ClassFile.FieldType)) ∈ yGW := y_i2 68 rfl rfl
theorem g_309 : (Jvm.Cond.methodLink "WhoseGlass$House" (128 : Nat) ({ cls := "WhoseGlass$House", name := "addGlass", desc := "(III)LWhoseGlass$Glass;" } : Jvm.MethodName)) ∈ yGW := y_i2 69 rfl rfl
theorem g_310 : (Jvm.Cond.instanceMethod ({ cls := "WhoseGlass$House", name := "addGlass", desc := "(III)LWhoseGlass$Glass;" } : Jvm.MethodName)) ∈ yGW := y_i2 70 rfl rfl
theorem g_311 : (Jvm.Cond.selects "WhoseGlass$House" ({ cls := "WhoseGlass$House", name := "addGlass", desc := "(III)LWhoseGlass$Glass;" } : Jvm.MethodName) ({ cls := "WhoseGlass$House", name := "addGlass", desc := "(III)LWhoseGlass$Glass;" } : Jvm.MethodName)) ∈ yGW := y_i2 71 rfl rfl
theorem g_312 : (Jvm.Cond.code ({ cls := "WhoseGlass$House", name := "addGlass", desc := "(III)LWhoseGlass$Glass;" } : Jvm.MethodName) prog_4_method_5_code (5 : Nat) (Option.some (Jvm.ClassFile.FieldType.object "WhoseGlass$Glass"))) ∈ yGW := y_i2 72 rfl rfl
theorem g_313 : (Jvm.Cond.methodLink "WhoseGlass$House" (64 : Nat) ({ cls := "WhoseGlass$Glass", name := "begin", desc := "(III)V" } : Jvm.MethodName)) ∈ yGW := y_i2 73 rfl rfl
theorem g_314 : (Jvm.Cond.instanceMethod ({ cls := "WhoseGlass$Glass", name := "begin", desc := "(III)V" } : Jvm.MethodName)) ∈ yGW := y_i2 74 rfl rfl
theorem g_315 : (Jvm.Cond.selects "WhoseGlass$Glass" ({ cls := "WhoseGlass$Glass", name := "begin", desc := "(III)V" } : Jvm.MethodName) ({ cls := "WhoseGlass$Glass", name := "begin", desc := "(III)V" } : Jvm.MethodName)) ∈ yGW := y_i2 75 rfl rfl
theorem g_316 : (Jvm.Cond.code ({ cls := "WhoseGlass$Glass", name := "begin", desc := "(III)V" } : Jvm.MethodName) prog_2_method_2_code (4 : Nat) (Option.none : Option Jvm.ClassFile.FieldType)) ∈ yGW := y_i2 76 rfl rfl
theorem g_317 : (Jvm.Cond.methodLink "WhoseGlass$House" (101 : Nat) ({ cls := "WhoseGlass$Guest", name := "sipFrom", desc := "(LWhoseGlass$Glass;)I" } : Jvm.MethodName)) ∈ yGW := y_i2 77 rfl rfl
theorem g_318 : (Jvm.Cond.instanceMethod ({ cls := "WhoseGlass$Guest", name := "sipFrom", desc := "(LWhoseGlass$Glass;)I" } : Jvm.MethodName)) ∈ yGW := y_i2 78 rfl rfl
theorem g_319 : (Jvm.Cond.selects "WhoseGlass$Guest" ({ cls := "WhoseGlass$Guest", name := "sipFrom", desc := "(LWhoseGlass$Glass;)I" } : Jvm.MethodName) ({ cls := "WhoseGlass$Guest", name := "sipFrom", desc := "(LWhoseGlass$Glass;)I" } : Jvm.MethodName)) ∈ yGW := y_i2 79 rfl rfl
theorem g_320 : (Jvm.Cond.code ({ cls := "WhoseGlass$Guest", name := "sipFrom", desc := "(LWhoseGlass$Glass;)I" } : Jvm.MethodName) prog_3_method_6_code (3 : Nat) (Option.some Jvm.ClassFile.FieldType.int)) ∈ yGW := y_i2 80 rfl rfl
theorem g_321 : (Jvm.Cond.methodLink "WhoseGlass$Guest" (49 : Nat) ({ cls := "WhoseGlass$Glass", name := "strength", desc := "()I" } : Jvm.MethodName)) ∈ yGW := y_i2 81 rfl rfl
theorem g_322 : (Jvm.Cond.instanceMethod ({ cls := "WhoseGlass$Glass", name := "strength", desc := "()I" } : Jvm.MethodName)) ∈ yGW := y_i2 82 rfl rfl
theorem g_323 : (Jvm.Cond.selects "WhoseGlass$Glass" ({ cls := "WhoseGlass$Glass", name := "strength", desc := "()I" } : Jvm.MethodName) ({ cls := "WhoseGlass$Glass", name := "strength", desc := "()I" } : Jvm.MethodName)) ∈ yGW := y_i2 83 rfl rfl
theorem g_324 : (Jvm.Cond.code ({ cls := "WhoseGlass$Glass", name := "strength", desc := "()I" } : Jvm.MethodName) prog_2_method_9_code (1 : Nat) (Option.some Jvm.ClassFile.FieldType.int)) ∈ yGW := y_i2 84 rfl rfl
theorem g_325 : (Jvm.Cond.methodLink "WhoseGlass$House" (108 : Nat) ({ cls := "WhoseGlass$House", name := "layDown", desc := "(LWhoseGlass$Guest;LWhoseGlass$Glass;)V" } : Jvm.MethodName)) ∈ yGW := y_i2 85 rfl rfl
theorem g_326 : (Jvm.Cond.instanceMethod ({ cls := "WhoseGlass$House", name := "layDown", desc := "(LWhoseGlass$Guest;LWhoseGlass$Glass;)V" } : Jvm.MethodName)) ∈ yGW := y_i2 86 rfl rfl
theorem g_327 : (Jvm.Cond.selects "WhoseGlass$House" ({ cls := "WhoseGlass$House", name := "layDown", desc := "(LWhoseGlass$Guest;LWhoseGlass$Glass;)V" } : Jvm.MethodName) ({ cls := "WhoseGlass$House", name := "layDown", desc := "(LWhoseGlass$Guest;LWhoseGlass$Glass;)V" } : Jvm.MethodName)) ∈ yGW := y_i2 87 rfl rfl
theorem g_328 : (Jvm.Cond.code ({ cls := "WhoseGlass$House", name := "layDown", desc := "(LWhoseGlass$Guest;LWhoseGlass$Glass;)V" } : Jvm.MethodName) prog_4_method_10_code (3 : Nat) (Option.none : Option Jvm.ClassFile.FieldType)) ∈ yGW := y_i2 88 rfl rfl
theorem g_329 : (Jvm.Cond.methodLink "WhoseGlass$House" (112 : Nat) ({ cls := "WhoseGlass$Glass", name := "layAt", desc := "(II)V" } : Jvm.MethodName)) ∈ yGW := y_i2 89 rfl rfl
theorem g_330 : (Jvm.Cond.instanceMethod ({ cls := "WhoseGlass$Glass", name := "layAt", desc := "(II)V" } : Jvm.MethodName)) ∈ yGW := y_i2 90 rfl rfl
theorem g_331 : (Jvm.Cond.selects "WhoseGlass$Glass" ({ cls := "WhoseGlass$Glass", name := "layAt", desc := "(II)V" } : Jvm.MethodName) ({ cls := "WhoseGlass$Glass", name := "layAt", desc := "(II)V" } : Jvm.MethodName)) ∈ yGW := y_i2 91 rfl rfl
theorem g_332 : (Jvm.Cond.code ({ cls := "WhoseGlass$Glass", name := "layAt", desc := "(II)V" } : Jvm.MethodName) prog_2_method_4_code (3 : Nat) (Option.none : Option Jvm.ClassFile.FieldType)) ∈ yGW := y_i2 92 rfl rfl
theorem g_333 : (Jvm.Cond.methodLink "WhoseGlass$HouseText" (45 : Nat) ({ cls := "WhoseGlass$HouseText", name := "obeys", desc := "(LWhoseGlass$House;LWhoseGlass$Shelf;I)Z" } : Jvm.MethodName)) ∈ yGW := y_i2 93 rfl rfl
theorem g_334 : (Jvm.Cond.static ({ cls := "WhoseGlass$HouseText", name := "obeys", desc := "(LWhoseGlass$House;LWhoseGlass$Shelf;I)Z" } : Jvm.MethodName)) ∈ yGW := y_i2 94 rfl rfl
theorem g_335 : (Jvm.Cond.code ({ cls := "WhoseGlass$HouseText", name := "obeys", desc := "(LWhoseGlass$House;LWhoseGlass$Shelf;I)Z" } : Jvm.MethodName) prog_5_method_12_code (3 : Nat) (Option.some Jvm.ClassFile.FieldType.boolean)) ∈ yGW := y_i2 95 rfl rfl
theorem g_336 : (Jvm.Cond.methodLink "WhoseGlass$HouseText" (56 : Nat) ({ cls := "WhoseGlass$HouseText", name := "glassStands", desc := "(LWhoseGlass$Shelf;ILWhoseGlass$House;)Z" } : Jvm.MethodName)) ∈ yGW := y_i2 96 rfl rfl
theorem g_337 : (Jvm.Cond.static ({ cls := "WhoseGlass$HouseText", name := "glassStands", desc := "(LWhoseGlass$Shelf;ILWhoseGlass$House;)Z" } : Jvm.MethodName)) ∈ yGW := y_i2 97 rfl rfl
theorem g_338 : (Jvm.Cond.code ({ cls := "WhoseGlass$HouseText", name := "glassStands", desc := "(LWhoseGlass$Shelf;ILWhoseGlass$House;)Z" } : Jvm.MethodName) prog_5_method_13_code (6 : Nat) (Option.some Jvm.ClassFile.FieldType.boolean)) ∈ yGW := y_i2 98 rfl rfl
theorem g_339 : (Jvm.Cond.methodLink "WhoseGlass$HouseText" (73 : Nat) ({ cls := "WhoseGlass$HouseText", name := "digit", desc := "(LWhoseGlass$Shelf;I)I" } : Jvm.MethodName)) ∈ yGW := y_i2 99 rfl rfl
theorem g_340 : (Jvm.Cond.static ({ cls := "WhoseGlass$HouseText", name := "digit", desc := "(LWhoseGlass$Shelf;I)I" } : Jvm.MethodName)) ∈ yGW := y_i2 100 rfl rfl
theorem g_341 : (Jvm.Cond.code ({ cls := "WhoseGlass$HouseText", name := "digit", desc := "(LWhoseGlass$Shelf;I)I" } : Jvm.MethodName) prog_5_method_11_code (2 : Nat) (Option.some Jvm.ClassFile.FieldType.int)) ∈ yGW := y_i2 101 rfl rfl
theorem g_343 : (Jvm.Cond.static ({ cls := "WhoseGlass", name := "isBelow", desc := "(II)Z" } : Jvm.MethodName)) ∈ yGW := y_i2 103 rfl rfl
theorem g_344 : (Jvm.Cond.code ({ cls := "WhoseGlass", name := "isBelow", desc := "(II)Z" } : Jvm.MethodName) prog_1_method_42_code (2 : Nat) (Option.some Jvm.ClassFile.FieldType.boolean)) ∈ yGW := y_i2 104 rfl rfl
theorem g_345 : (Jvm.Cond.methodLink "WhoseGlass$HouseText" (80 : Nat) ({ cls := "WhoseGlass$House", name := "addGlass", desc := "(III)LWhoseGlass$Glass;" } : Jvm.MethodName)) ∈ yGW := y_i2 105 rfl rfl
theorem g_346 : (Jvm.Cond.methodLink "WhoseGlass$HouseText" (84 : Nat) ({ cls := "WhoseGlass$Glass", name := "layAt", desc := "(II)V" } : Jvm.MethodName)) ∈ yGW := y_i2 106 rfl rfl
theorem g_347 : (Jvm.Cond.methodLink "WhoseGlass$HouseText" (60 : Nat) ({ cls := "WhoseGlass$HouseText", name := "guestEnters", desc := "(LWhoseGlass$Shelf;ILWhoseGlass$House;)Z" } : Jvm.MethodName)) ∈ yGW := y_i2 107 rfl rfl
theorem g_348 : (Jvm.Cond.static ({ cls := "WhoseGlass$HouseText", name := "guestEnters", desc := "(LWhoseGlass$Shelf;ILWhoseGlass$House;)Z" } : Jvm.MethodName)) ∈ yGW := y_i2 108 rfl rfl
theorem g_349 : (Jvm.Cond.code ({ cls := "WhoseGlass$HouseText", name := "guestEnters", desc := "(LWhoseGlass$Shelf;ILWhoseGlass$House;)Z" } : Jvm.MethodName) prog_5_method_14_code (8 : Nat) (Option.some Jvm.ClassFile.FieldType.boolean)) ∈ yGW := y_i2 109 rfl rfl
theorem g_350 : (Jvm.Cond.methodLink "WhoseGlass$HouseText" (90 : Nat) ({ cls := "WhoseGlass$House", name := "addGuest", desc := "(IIIII)LWhoseGlass$Guest;" } : Jvm.MethodName)) ∈ yGW := y_i2 110 rfl rfl
theorem g_351 : (Jvm.Cond.instanceMethod ({ cls := "WhoseGlass$House", name := "addGuest", desc := "(IIIII)LWhoseGlass$Guest;" } : Jvm.MethodName)) ∈ yGW := y_i2 111 rfl rfl
theorem g_352 : (Jvm.Cond.selects "WhoseGlass$House" ({ cls := "WhoseGlass$House", name := "addGuest", desc := "(IIIII)LWhoseGlass$Guest;" } : Jvm.MethodName) ({ cls := "WhoseGlass$House", name := "addGuest", desc := "(IIIII)LWhoseGlass$Guest;" } : Jvm.MethodName)) ∈ yGW := y_i2 112 rfl rfl
theorem g_353 : (Jvm.Cond.code ({ cls := "WhoseGlass$House", name := "addGuest", desc := "(IIIII)LWhoseGlass$Guest;" } : Jvm.MethodName) prog_4_method_6_code (7 : Nat) (Option.some (Jvm.ClassFile.FieldType.object "WhoseGlass$Guest"))) ∈ yGW := y_i2 113 rfl rfl
theorem g_354 : (Jvm.Cond.methodLink "WhoseGlass$House" (68 : Nat) ({ cls := "WhoseGlass$Guest", name := "begin", desc := "(IIIII)V" } : Jvm.MethodName)) ∈ yGW := y_i2 114 rfl rfl
theorem g_355 : (Jvm.Cond.instanceMethod ({ cls := "WhoseGlass$Guest", name := "begin", desc := "(IIIII)V" } : Jvm.MethodName)) ∈ yGW := y_i2 115 rfl rfl
theorem g_356 : (Jvm.Cond.selects "WhoseGlass$Guest" ({ cls := "WhoseGlass$Guest", name := "begin", desc := "(IIIII)V" } : Jvm.MethodName) ({ cls := "WhoseGlass$Guest", name := "begin", desc := "(IIIII)V" } : Jvm.MethodName)) ∈ yGW := y_i2 116 rfl rfl
theorem g_357 : (Jvm.Cond.code ({ cls := "WhoseGlass$Guest", name := "begin", desc := "(IIIII)V" } : Jvm.MethodName) prog_3_method_2_code (6 : Nat) (Option.none : Option Jvm.ClassFile.FieldType)) ∈ yGW := y_i2 117 rfl rfl
theorem g_358 : (Jvm.Cond.methodLink "WhoseGlass$HouseText" (63 : Nat) ({ cls := "WhoseGlass$HouseText", name := "guestHolds", desc := "(LWhoseGlass$Shelf;ILWhoseGlass$House;)Z" } : Jvm.MethodName)) ∈ yGW := y_i2 118 rfl rfl
theorem g_359 : (Jvm.Cond.static ({ cls := "WhoseGlass$HouseText", name := "guestHolds", desc := "(LWhoseGlass$Shelf;ILWhoseGlass$House;)Z" } : Jvm.MethodName)) ∈ yGW := y_i2 119 rfl rfl
theorem g_360 : (Jvm.Cond.code ({ cls := "WhoseGlass$HouseText", name := "guestHolds", desc := "(LWhoseGlass$Shelf;ILWhoseGlass$House;)Z" } : Jvm.MethodName) prog_5_method_15_code (5 : Nat) (Option.some Jvm.ClassFile.FieldType.boolean)) ∈ yGW := y_i2 120 rfl rfl
theorem g_361 : (Jvm.Cond.methodLink "WhoseGlass$HouseText" (94 : Nat) ({ cls := "WhoseGlass$House", name := "guestAt", desc := "(I)LWhoseGlass$Guest;" } : Jvm.MethodName)) ∈ yGW := y_i2 121 rfl rfl
theorem g_362 : (Jvm.Cond.methodLink "WhoseGlass$HouseText" (98 : Nat) ({ cls := "WhoseGlass$House", name := "glassAt", desc := "(I)LWhoseGlass$Glass;" } : Jvm.MethodName)) ∈ yGW := y_i2 122 rfl rfl
theorem g_363 : (Jvm.Cond.methodLink "WhoseGlass$HouseText" (107 : Nat) ({ cls := "WhoseGlass$Glass", name := "isLaid", desc := "()Z" } : Jvm.MethodName)) ∈ yGW := y_i2 123 rfl rfl
theorem g_364 : (Jvm.Cond.instanceMethod ({ cls := "WhoseGlass$Glass", name := "isLaid", desc := "()Z" } : Jvm.MethodName)) ∈ yGW := y_i2 124 rfl rfl
theorem g_365 : (Jvm.Cond.selects "WhoseGlass$Glass" ({ cls := "WhoseGlass$Glass", name := "isLaid", desc := "()Z" } : Jvm.MethodName) ({ cls := "WhoseGlass$Glass", name := "isLaid", desc := "()Z" } : Jvm.MethodName)) ∈ yGW := y_i2 125 rfl rfl
theorem g_366 : (Jvm.Cond.code ({ cls := "WhoseGlass$Glass", name := "isLaid", desc := "()Z" } : Jvm.MethodName) prog_2_method_6_code (1 : Nat) (Option.some Jvm.ClassFile.FieldType.boolean)) ∈ yGW := y_i2 126 rfl rfl
theorem g_367 : (Jvm.Cond.methodLink "WhoseGlass$HouseText" (111 : Nat) ({ cls := "WhoseGlass$Guest", name := "hold", desc := "(LWhoseGlass$Glass;)V" } : Jvm.MethodName)) ∈ yGW := y_i2 127 rfl rfl
theorem g_368 : (Jvm.Cond.methodLink "WhoseGlass$HouseText" (66 : Nat) ({ cls := "WhoseGlass$HouseText", name := "coldTurns", desc := "(LWhoseGlass$Shelf;ILWhoseGlass$House;)Z" } : Jvm.MethodName)) ∈ yGW := y_i2 128 rfl rfl
theorem g_369 : (Jvm.Cond.static ({ cls := "WhoseGlass$HouseText", name := "coldTurns", desc := "(LWhoseGlass$Shelf;ILWhoseGlass$House;)Z" } : Jvm.MethodName)) ∈ yGW := y_i2 129 rfl rfl
theorem g_370 : (Jvm.Cond.code ({ cls := "WhoseGlass$HouseText", name := "coldTurns", desc := "(LWhoseGlass$Shelf;ILWhoseGlass$House;)Z" } : Jvm.MethodName) prog_5_method_16_code (4 : Nat) (Option.some Jvm.ClassFile.FieldType.boolean)) ∈ yGW := y_i2 130 rfl rfl
theorem g_371 : (Jvm.Cond.methodLink "WhoseGlass$HouseText" (69 : Nat) ({ cls := "WhoseGlass$HouseText", name := "setTray", desc := "(LWhoseGlass$Shelf;ILWhoseGlass$House;)V" } : Jvm.MethodName)) ∈ yGW := y_i2 131 rfl rfl
theorem g_372 : (Jvm.Cond.static ({ cls := "WhoseGlass$HouseText", name := "setTray", desc := "(LWhoseGlass$Shelf;ILWhoseGlass$House;)V" } : Jvm.MethodName)) ∈ yGW := y_i2 132 rfl rfl
theorem g_373 : (Jvm.Cond.code ({ cls := "WhoseGlass$HouseText", name := "setTray", desc := "(LWhoseGlass$Shelf;ILWhoseGlass$House;)V" } : Jvm.MethodName) prog_5_method_17_code (5 : Nat) (Option.none : Option Jvm.ClassFile.FieldType)) ∈ yGW := y_i2 133 rfl rfl
theorem g_374 : (Jvm.Cond.methodLink "WhoseGlass" (58 : Nat) ({ cls := "WhoseGlass$HouseText", name := "statementsIn", desc := "(LWhoseGlass$Shelf;)I" } : Jvm.MethodName)) ∈ yGW := y_i2 134 rfl rfl
theorem g_375 : (Jvm.Cond.static ({ cls := "WhoseGlass$HouseText", name := "statementsIn", desc := "(LWhoseGlass$Shelf;)I" } : Jvm.MethodName)) ∈ yGW := y_i2 135 rfl rfl
theorem g_376 : (Jvm.Cond.code ({ cls := "WhoseGlass$HouseText", name := "statementsIn", desc := "(LWhoseGlass$Shelf;)I" } : Jvm.MethodName) prog_5_method_5_code (3 : Nat) (Option.some Jvm.ClassFile.FieldType.int)) ∈ yGW := y_i2 136 rfl rfl
theorem g_381 : (Jvm.Cond.methodLink "WhoseGlass" (61 : Nat) ({ cls := "WhoseGlass$House", name := "glassAt", desc := "(I)LWhoseGlass$Glass;" } : Jvm.MethodName)) ∈ yGW := y_i2 141 rfl rfl
theorem g_382 : (Jvm.Cond.methodLink "WhoseGlass" (65 : Nat) ({ cls := "WhoseGlass$Glass", name := "told", desc := "(I)I" } : Jvm.MethodName)) ∈ yGW := y_i2 142 rfl rfl
theorem g_383 : (Jvm.Cond.instanceMethod ({ cls := "WhoseGlass$Glass", name := "told", desc := "(I)I" } : Jvm.MethodName)) ∈ yGW := y_i2 143 rfl rfl
theorem g_384 : (Jvm.Cond.selects "WhoseGlass$Glass" ({ cls := "WhoseGlass$Glass", name := "told", desc := "(I)I" } : Jvm.MethodName) ({ cls := "WhoseGlass$Glass", name := "told", desc := "(I)I" } : Jvm.MethodName)) ∈ yGW := y_i2 144 rfl rfl
theorem g_385 : (Jvm.Cond.code ({ cls := "WhoseGlass$Glass", name := "told", desc := "(I)I" } : Jvm.MethodName) prog_2_method_7_code (2 : Nat) (Option.some Jvm.ClassFile.FieldType.int)) ∈ yGW := y_i2 145 rfl rfl
theorem g_386 : (Jvm.Cond.methodLink "WhoseGlass$Glass" (37 : Nat) ({ cls := "WhoseGlass$Glass", name := "isLaid", desc := "()Z" } : Jvm.MethodName)) ∈ yGW := y_i2 146 rfl rfl
theorem g_391 : (Jvm.Cond.methodLink "WhoseGlass" (71 : Nat) ({ cls := "WhoseGlass$House", name := "guestAt", desc := "(I)LWhoseGlass$Guest;" } : Jvm.MethodName)) ∈ yGW := y_i2 151 rfl rfl
theorem g_392 : (Jvm.Cond.methodLink "WhoseGlass" (75 : Nat) ({ cls := "WhoseGlass$Guest", name := "told", desc := "(I)I" } : Jvm.MethodName)) ∈ yGW := y_i2 152 rfl rfl
theorem g_393 : (Jvm.Cond.instanceMethod ({ cls := "WhoseGlass$Guest", name := "told", desc := "(I)I" } : Jvm.MethodName)) ∈ yGW := y_i2 153 rfl rfl
theorem g_394 : (Jvm.Cond.selects "WhoseGlass$Guest" ({ cls := "WhoseGlass$Guest", name := "told", desc := "(I)I" } : Jvm.MethodName) ({ cls := "WhoseGlass$Guest", name := "told", desc := "(I)I" } : Jvm.MethodName)) ∈ yGW := y_i2 154 rfl rfl
theorem g_395 : (Jvm.Cond.code ({ cls := "WhoseGlass$Guest", name := "told", desc := "(I)I" } : Jvm.MethodName) prog_3_method_4_code (2 : Nat) (Option.some Jvm.ClassFile.FieldType.int)) ∈ yGW := y_i2 155 rfl rfl
theorem g_400 : (Jvm.Cond.methodLink "WhoseGlass" (78 : Nat) ({ cls := "WhoseGlass", name := "isBelow", desc := "(II)Z" } : Jvm.MethodName)) ∈ yGW := y_i2 160 rfl rfl
theorem g_401 : (Jvm.Cond.methodLink "WhoseGlass" (88 : Nat) ({ cls := "WhoseGlass$House", name := "addGlass", desc := "(III)LWhoseGlass$Glass;" } : Jvm.MethodName)) ∈ yGW := y_i2 161 rfl rfl
theorem g_402 : (Jvm.Cond.methodLink "WhoseGlass" (95 : Nat) ({ cls := "WhoseGlass$Glass", name := "layAt", desc := "(II)V" } : Jvm.MethodName)) ∈ yGW := y_i2 162 rfl rfl
theorem g_411 : (Jvm.Cond.methodLink "WhoseGlass" (111 : Nat) ({ cls := "WhoseGlass$Guest", name := "sipFrom", desc := "(LWhoseGlass$Glass;)I" } : Jvm.MethodName)) ∈ yGW := y_i2 171 rfl rfl
theorem g_416 : (Jvm.Cond.methodLink "WhoseGlass" (115 : Nat) ({ cls := "WhoseGlass$House", name := "layDown", desc := "(LWhoseGlass$Guest;LWhoseGlass$Glass;)V" } : Jvm.MethodName)) ∈ yGW := y_i2 176 rfl rfl
theorem g_421 : (Jvm.Cond.methodLink "WhoseGlass" (119 : Nat) ({ cls := "WhoseGlass$House", name := "takeUp", desc := "(LWhoseGlass$Guest;)I" } : Jvm.MethodName)) ∈ yGW := y_i2 181 rfl rfl
theorem g_430 : (Jvm.Cond.methodLink "WhoseGlass" (132 : Nat) ({ cls := "WhoseGlass$Glass", name := "sink", desc := "()V" } : Jvm.MethodName)) ∈ yGW := y_i2 190 rfl rfl
theorem g_431 : (Jvm.Cond.instanceMethod ({ cls := "WhoseGlass$Glass", name := "sink", desc := "()V" } : Jvm.MethodName)) ∈ yGW := y_i2 191 rfl rfl
theorem g_432 : (Jvm.Cond.selects "WhoseGlass$Glass" ({ cls := "WhoseGlass$Glass", name := "sink", desc := "()V" } : Jvm.MethodName) ({ cls := "WhoseGlass$Glass", name := "sink", desc := "()V" } : Jvm.MethodName)) ∈ yGW := y_i2 192 rfl rfl
theorem g_433 : (Jvm.Cond.code ({ cls := "WhoseGlass$Glass", name := "sink", desc := "()V" } : Jvm.MethodName) prog_2_method_5_code (1 : Nat) (Option.none : Option Jvm.ClassFile.FieldType)) ∈ yGW := y_i2 193 rfl rfl
theorem g_438 : (Jvm.Cond.methodLink "WhoseGlass" (135 : Nat) ({ cls := "WhoseGlass$House", name := "passMinutes", desc := "(I)V" } : Jvm.MethodName)) ∈ yGW := y_i2 198 rfl rfl
theorem g_443 : (Jvm.Cond.methodLink "WhoseGlass" (139 : Nat) ({ cls := "WhoseGlass$Glass", name := "likeTo", desc := "(LWhoseGlass$Glass;)I" } : Jvm.MethodName)) ∈ yGW := y_i2 203 rfl rfl
theorem g_448 : (Jvm.Cond.methodLink "WhoseGlass" (142 : Nat) ({ cls := "WhoseGlass$House", name := "choiceOf", desc := "(LWhoseGlass$Guest;)I" } : Jvm.MethodName)) ∈ yGW := y_i2 208 rfl rfl
theorem g_453 : (Jvm.Cond.methodLink "WhoseGlass" (148 : Nat) ({ cls := "WhoseGlass$House", name := "likeToAllAt", desc := "(LWhoseGlass$Glass;I)I" } : Jvm.MethodName)) ∈ yGW := y_i2 213 rfl rfl
theorem g_454 : (Jvm.Cond.instanceMethod ({ cls := "WhoseGlass$House", name := "likeToAllAt", desc := "(LWhoseGlass$Glass;I)I" } : Jvm.MethodName)) ∈ yGW := y_i2 214 rfl rfl
theorem g_455 : (Jvm.Cond.selects "WhoseGlass$House" ({ cls := "WhoseGlass$House", name := "likeToAllAt", desc := "(LWhoseGlass$Glass;I)I" } : Jvm.MethodName) ({ cls := "WhoseGlass$House", name := "likeToAllAt", desc := "(LWhoseGlass$Glass;I)I" } : Jvm.MethodName)) ∈ yGW := y_i2 215 rfl rfl
theorem g_456 : (Jvm.Cond.code ({ cls := "WhoseGlass$House", name := "likeToAllAt", desc := "(LWhoseGlass$Glass;I)I" } : Jvm.MethodName) prog_4_method_13_code (6 : Nat) (Option.some Jvm.ClassFile.FieldType.int)) ∈ yGW := y_i2 216 rfl rfl
theorem g_457 : (Jvm.Cond.methodLink "WhoseGlass" (152 : Nat) ({ cls := "WhoseGlass", name := "reduced", desc := "(II)I" } : Jvm.MethodName)) ∈ yGW := y_i2 217 rfl rfl
theorem g_458 : (Jvm.Cond.static ({ cls := "WhoseGlass", name := "reduced", desc := "(II)I" } : Jvm.MethodName)) ∈ yGW := y_i2 218 rfl rfl
theorem g_459 : (Jvm.Cond.code ({ cls := "WhoseGlass", name := "reduced", desc := "(II)I" } : Jvm.MethodName) prog_1_method_45_code (3 : Nat) (Option.some Jvm.ClassFile.FieldType.int)) ∈ yGW := y_i2 219 rfl rfl
theorem g_460 : (Jvm.Cond.methodLink "WhoseGlass" (268 : Nat) ({ cls := "java/lang/Math", name := "max", desc := "(II)I" } : Jvm.MethodName)) ∈ yGW := y_i2 220 rfl rfl
theorem g_461 : (Jvm.Cond.static ({ cls := "java/lang/Math", name := "max", desc := "(II)I" } : Jvm.MethodName)) ∈ yGW := y_i2 221 rfl rfl
theorem g_462 : (Jvm.Cond.code ({ cls := "java/lang/Math", name := "max", desc := "(II)I" } : Jvm.MethodName) prog_12_method_65_code (2 : Nat) (Option.some Jvm.ClassFile.FieldType.int)) ∈ yGW := y_i2 222 rfl rfl
theorem g_467 : (Jvm.Cond.methodLink "WhoseGlass" (156 : Nat) ({ cls := "WhoseGlass$House", name := "idleAt", desc := "(I)I" } : Jvm.MethodName)) ∈ yGW := y_i2 227 rfl rfl
theorem g_468 : (Jvm.Cond.instanceMethod ({ cls := "WhoseGlass$House", name := "idleAt", desc := "(I)I" } : Jvm.MethodName)) ∈ yGW := y_i2 228 rfl rfl
theorem g_469 : (Jvm.Cond.selects "WhoseGlass$House" ({ cls := "WhoseGlass$House", name := "idleAt", desc := "(I)I" } : Jvm.MethodName) ({ cls := "WhoseGlass$House", name := "idleAt", desc := "(I)I" } : Jvm.MethodName)) ∈ yGW := y_i2 229 rfl rfl
theorem g_470 : (Jvm.Cond.code ({ cls := "WhoseGlass$House", name := "idleAt", desc := "(I)I" } : Jvm.MethodName) prog_4_method_14_code (5 : Nat) (Option.some Jvm.ClassFile.FieldType.int)) ∈ yGW := y_i2 230 rfl rfl
theorem g_471 : (Jvm.Cond.methodLink "WhoseGlass$House" (144 : Nat) ({ cls := "WhoseGlass$House", name := "isOwned", desc := "(I)Z" } : Jvm.MethodName)) ∈ yGW := y_i2 231 rfl rfl
theorem g_473 : (Jvm.Cond.instanceMethod ({ cls := "WhoseGlass$House", name := "isOwned", desc := "(I)Z" } : Jvm.MethodName)) ∈ yGW := y_i2 233 rfl rfl
theorem g_474 : (Jvm.Cond.code ({ cls := "WhoseGlass$House", name := "isOwned", desc := "(I)Z" } : Jvm.MethodName) prog_4_method_15_code (4 : Nat) (Option.some Jvm.ClassFile.FieldType.boolean)) ∈ yGW := y_i2 234 rfl rfl
theorem g_479 : (Jvm.Cond.methodLink "WhoseGlass" (159 : Nat) ({ cls := "WhoseGlass$House", name := "oldestAt", desc := "(I)I" } : Jvm.MethodName)) ∈ yGW := y_i2 239 rfl rfl
theorem g_480 : (Jvm.Cond.instanceMethod ({ cls := "WhoseGlass$House", name := "oldestAt", desc := "(I)I" } : Jvm.MethodName)) ∈ yGW := y_i3 0 rfl rfl
theorem g_481 : (Jvm.Cond.selects "WhoseGlass$House" ({ cls := "WhoseGlass$House", name := "oldestAt", desc := "(I)I" } : Jvm.MethodName) ({ cls := "WhoseGlass$House", name := "oldestAt", desc := "(I)I" } : Jvm.MethodName)) ∈ yGW := y_i3 1 rfl rfl
theorem g_482 : (Jvm.Cond.code ({ cls := "WhoseGlass$House", name := "oldestAt", desc := "(I)I" } : Jvm.MethodName) prog_4_method_16_code (5 : Nat) (Option.some Jvm.ClassFile.FieldType.int)) ∈ yGW := y_i3 2 rfl rfl
theorem g_487 : (Jvm.Cond.methodLink "WhoseGlass" (162 : Nat) ({ cls := "WhoseGlass", name := "isSpan", desc := "(I)Z" } : Jvm.MethodName)) ∈ yGW := y_i3 7 rfl rfl
theorem g_488 : (Jvm.Cond.static ({ cls := "WhoseGlass", name := "isSpan", desc := "(I)Z" } : Jvm.MethodName)) ∈ yGW := y_i3 8 rfl rfl
theorem g_489 : (Jvm.Cond.code ({ cls := "WhoseGlass", name := "isSpan", desc := "(I)Z" } : Jvm.MethodName) prog_1_method_43_code (1 : Nat) (Option.some Jvm.ClassFile.FieldType.boolean)) ∈ yGW := y_i3 9 rfl rfl
theorem g_490 : (Jvm.Cond.methodLink "WhoseGlass" (166 : Nat) ({ cls := "WhoseGlass", name := "ahead", desc := "(I)LWhoseGlass$House;" } : Jvm.MethodName)) ∈ yGW := y_i3 10 rfl rfl
theorem g_492 : (Jvm.Cond.instanceMethod ({ cls := "WhoseGlass", name := "ahead", desc := "(I)LWhoseGlass$House;" } : Jvm.MethodName)) ∈ yGW := y_i3 12 rfl rfl
theorem g_493 : (Jvm.Cond.code ({ cls := "WhoseGlass", name := "ahead", desc := "(I)LWhoseGlass$House;" } : Jvm.MethodName) prog_1_method_46_code (2 : Nat) (Option.some (Jvm.ClassFile.FieldType.object "WhoseGlass$House"))) ∈ yGW := y_i3 13 rfl rfl
theorem g_502 : (Jvm.Cond.methodLink "WhoseGlass" (176 : Nat) ({ cls := "WhoseGlass$House", name := "coldBits", desc := "()I" } : Jvm.MethodName)) ∈ yGW := y_i3 22 rfl rfl
theorem g_503 : (Jvm.Cond.instanceMethod ({ cls := "WhoseGlass$House", name := "coldBits", desc := "()I" } : Jvm.MethodName)) ∈ yGW := y_i3 23 rfl rfl
theorem g_504 : (Jvm.Cond.selects "WhoseGlass$House" ({ cls := "WhoseGlass$House", name := "coldBits", desc := "()I" } : Jvm.MethodName) ({ cls := "WhoseGlass$House", name := "coldBits", desc := "()I" } : Jvm.MethodName)) ∈ yGW := y_i3 24 rfl rfl
theorem g_505 : (Jvm.Cond.code ({ cls := "WhoseGlass$House", name := "coldBits", desc := "()I" } : Jvm.MethodName) prog_4_method_17_code (4 : Nat) (Option.some Jvm.ClassFile.FieldType.int)) ∈ yGW := y_i3 25 rfl rfl
theorem g_518 : (Jvm.Cond.methodLink "WhoseGlass" (185 : Nat) ({ cls := "WhoseGlass", name := "coldsBroughtBy", desc := "(II)I" } : Jvm.MethodName)) ∈ yGW := y_i3 38 rfl rfl
theorem g_520 : (Jvm.Cond.instanceMethod ({ cls := "WhoseGlass", name := "coldsBroughtBy", desc := "(II)I" } : Jvm.MethodName)) ∈ yGW := y_i3 40 rfl rfl
theorem g_521 : (Jvm.Cond.code ({ cls := "WhoseGlass", name := "coldsBroughtBy", desc := "(II)I" } : Jvm.MethodName) prog_1_method_47_code (3 : Nat) (Option.some Jvm.ClassFile.FieldType.int)) ∈ yGW := y_i3 41 rfl rfl
theorem g_522 : (Jvm.Cond.methodLink "WhoseGlass" (273 : Nat) ({ cls := "WhoseGlass$House", name := "leaveColdTo", desc := "(I)V" } : Jvm.MethodName)) ∈ yGW := y_i3 42 rfl rfl
theorem g_523 : (Jvm.Cond.instanceMethod ({ cls := "WhoseGlass$House", name := "leaveColdTo", desc := "(I)V" } : Jvm.MethodName)) ∈ yGW := y_i3 43 rfl rfl
theorem g_524 : (Jvm.Cond.selects "WhoseGlass$House" ({ cls := "WhoseGlass$House", name := "leaveColdTo", desc := "(I)V" } : Jvm.MethodName) ({ cls := "WhoseGlass$House", name := "leaveColdTo", desc := "(I)V" } : Jvm.MethodName)) ∈ yGW := y_i3 44 rfl rfl
theorem g_525 : (Jvm.Cond.code ({ cls := "WhoseGlass$House", name := "leaveColdTo", desc := "(I)V" } : Jvm.MethodName) prog_4_method_18_code (4 : Nat) (Option.none : Option Jvm.ClassFile.FieldType)) ∈ yGW := y_i3 45 rfl rfl
theorem g_530 : (Jvm.Cond.methodLink "WhoseGlass" (188 : Nat) ({ cls := "WhoseGlass", name := "coldsByCare", desc := "(II)I" } : Jvm.MethodName)) ∈ yGW := y_i3 50 rfl rfl
theorem g_532 : (Jvm.Cond.instanceMethod ({ cls := "WhoseGlass", name := "coldsByCare", desc := "(II)I" } : Jvm.MethodName)) ∈ yGW := y_i3 52 rfl rfl
theorem g_533 : (Jvm.Cond.code ({ cls := "WhoseGlass", name := "coldsByCare", desc := "(II)I" } : Jvm.MethodName) prog_1_method_48_code (3 : Nat) (Option.some Jvm.ClassFile.FieldType.int)) ∈ yGW := y_i3 53 rfl rfl
theorem g_534 : (Jvm.Cond.methodLink "WhoseGlass" (276 : Nat) ({ cls := "WhoseGlass$House", name := "careAlike", desc := "(I)V" } : Jvm.MethodName)) ∈ yGW := y_i3 54 rfl rfl
theorem g_535 : (Jvm.Cond.instanceMethod ({ cls := "WhoseGlass$House", name := "careAlike", desc := "(I)V" } : Jvm.MethodName)) ∈ yGW := y_i3 55 rfl rfl
theorem g_536 : (Jvm.Cond.selects "WhoseGlass$House" ({ cls := "WhoseGlass$House", name := "careAlike", desc := "(I)V" } : Jvm.MethodName) ({ cls := "WhoseGlass$House", name := "careAlike", desc := "(I)V" } : Jvm.MethodName)) ∈ yGW := y_i3 56 rfl rfl
theorem g_537 : (Jvm.Cond.code ({ cls := "WhoseGlass$House", name := "careAlike", desc := "(I)V" } : Jvm.MethodName) prog_4_method_19_code (4 : Nat) (Option.none : Option Jvm.ClassFile.FieldType)) ∈ yGW := y_i3 57 rfl rfl
theorem g_542 : (Jvm.Cond.methodLink "WhoseGlass" (191 : Nat) ({ cls := "WhoseGlass", name := "mistakesIfMarked", desc := "(II)I" } : Jvm.MethodName)) ∈ yGW := y_i3 62 rfl rfl
theorem g_544 : (Jvm.Cond.instanceMethod ({ cls := "WhoseGlass", name := "mistakesIfMarked", desc := "(II)I" } : Jvm.MethodName)) ∈ yGW := y_i3 64 rfl rfl
theorem g_545 : (Jvm.Cond.code ({ cls := "WhoseGlass", name := "mistakesIfMarked", desc := "(II)I" } : Jvm.MethodName) prog_1_method_49_code (4 : Nat) (Option.some Jvm.ClassFile.FieldType.int)) ∈ yGW := y_i3 65 rfl rfl
theorem g_550 : (Jvm.Cond.methodLink "WhoseGlass" (194 : Nat) ({ cls := "WhoseGlass", name := "freshIfLeftOut", desc := "(II)I" } : Jvm.MethodName)) ∈ yGW := y_i3 70 rfl rfl
theorem g_552 : (Jvm.Cond.instanceMethod ({ cls := "WhoseGlass", name := "freshIfLeftOut", desc := "(II)I" } : Jvm.MethodName)) ∈ yGW := y_i3 72 rfl rfl
theorem g_553 : (Jvm.Cond.code ({ cls := "WhoseGlass", name := "freshIfLeftOut", desc := "(II)I" } : Jvm.MethodName) prog_1_method_50_code (3 : Nat) (Option.some Jvm.ClassFile.FieldType.int)) ∈ yGW := y_i3 73 rfl rfl
theorem g_558 : (Jvm.Cond.methodLink "WhoseGlass" (197 : Nat) ({ cls := "WhoseGlass$House", name := "soberest", desc := "()I" } : Jvm.MethodName)) ∈ yGW := y_i3 78 rfl rfl
theorem g_559 : (Jvm.Cond.instanceMethod ({ cls := "WhoseGlass$House", name := "soberest", desc := "()I" } : Jvm.MethodName)) ∈ yGW := y_i3 79 rfl rfl
theorem g_560 : (Jvm.Cond.selects "WhoseGlass$House" ({ cls := "WhoseGlass$House", name := "soberest", desc := "()I" } : Jvm.MethodName) ({ cls := "WhoseGlass$House", name := "soberest", desc := "()I" } : Jvm.MethodName)) ∈ yGW := y_i3 80 rfl rfl
theorem g_561 : (Jvm.Cond.code ({ cls := "WhoseGlass$House", name := "soberest", desc := "()I" } : Jvm.MethodName) prog_4_method_20_code (4 : Nat) (Option.some Jvm.ClassFile.FieldType.int)) ∈ yGW := y_i3 81 rfl rfl
theorem g_566 : (Jvm.Cond.methodLink "WhoseGlass" (200 : Nat) ({ cls := "WhoseGlass$House", name := "hasEmptyGlass", desc := "()Z" } : Jvm.MethodName)) ∈ yGW := y_i3 86 rfl rfl
theorem g_567 : (Jvm.Cond.instanceMethod ({ cls := "WhoseGlass$House", name := "hasEmptyGlass", desc := "()Z" } : Jvm.MethodName)) ∈ yGW := y_i3 87 rfl rfl
theorem g_568 : (Jvm.Cond.selects "WhoseGlass$House" ({ cls := "WhoseGlass$House", name := "hasEmptyGlass", desc := "()Z" } : Jvm.MethodName) ({ cls := "WhoseGlass$House", name := "hasEmptyGlass", desc := "()Z" } : Jvm.MethodName)) ∈ yGW := y_i3 88 rfl rfl
theorem g_569 : (Jvm.Cond.code ({ cls := "WhoseGlass$House", name := "hasEmptyGlass", desc := "()Z" } : Jvm.MethodName) prog_4_method_21_code (3 : Nat) (Option.some Jvm.ClassFile.FieldType.boolean)) ∈ yGW := y_i3 89 rfl rfl
theorem g_574 : (Jvm.Cond.methodLink "WhoseGlass" (204 : Nat) ({ cls := "WhoseGlass$House", name := "scatter", desc := "(I)I" } : Jvm.MethodName)) ∈ yGW := y_i3 94 rfl rfl
theorem g_575 : (Jvm.Cond.instanceMethod ({ cls := "WhoseGlass$House", name := "scatter", desc := "(I)I" } : Jvm.MethodName)) ∈ yGW := y_i3 95 rfl rfl
theorem g_576 : (Jvm.Cond.selects "WhoseGlass$House" ({ cls := "WhoseGlass$House", name := "scatter", desc := "(I)I" } : Jvm.MethodName) ({ cls := "WhoseGlass$House", name := "scatter", desc := "(I)I" } : Jvm.MethodName)) ∈ yGW := y_i3 96 rfl rfl
theorem g_577 : (Jvm.Cond.code ({ cls := "WhoseGlass$House", name := "scatter", desc := "(I)I" } : Jvm.MethodName) prog_4_method_22_code (5 : Nat) (Option.some Jvm.ClassFile.FieldType.int)) ∈ yGW := y_i3 97 rfl rfl
theorem g_578 : (Jvm.Cond.constant "WhoseGlass$House" (159 : Nat) (1103515245 : Int32)) ∈ yGW := y_i3 98 rfl rfl
theorem g_579 : (Jvm.Cond.constant "WhoseGlass$House" (162 : Nat) (2147483647 : Int32)) ∈ yGW := y_i3 99 rfl rfl
theorem g_580 : (Jvm.Cond.constant "WhoseGlass$House" (163 : Nat) (65536 : Int32)) ∈ yGW := y_i3 100 rfl rfl
theorem g_585 : (Jvm.Cond.methodLink "WhoseGlass" (210 : Nat) ({ cls := "WhoseGlass$Shelf", name := "elementAt", desc := "(I)I" } : Jvm.MethodName)) ∈ yGW := y_i3 105 rfl rfl
theorem g_586 : (Jvm.Cond.methodLink "WhoseGlass" (213 : Nat) ({ cls := "WhoseGlass$Shelf", name := "leastNumber", desc := "()I" } : Jvm.MethodName)) ∈ yGW := y_i3 106 rfl rfl
theorem g_587 : (Jvm.Cond.instanceMethod ({ cls := "WhoseGlass$Shelf", name := "leastNumber", desc := "()I" } : Jvm.MethodName)) ∈ yGW := y_i3 107 rfl rfl
theorem g_588 : (Jvm.Cond.selects "WhoseGlass$Shelf" ({ cls := "WhoseGlass$Shelf", name := "leastNumber", desc := "()I" } : Jvm.MethodName) ({ cls := "WhoseGlass$Shelf", name := "leastNumber", desc := "()I" } : Jvm.MethodName)) ∈ yGW := y_i3 108 rfl rfl
theorem g_589 : (Jvm.Cond.code ({ cls := "WhoseGlass$Shelf", name := "leastNumber", desc := "()I" } : Jvm.MethodName) prog_6_method_7_code (1 : Nat) (Option.some Jvm.ClassFile.FieldType.int)) ∈ yGW := y_i3 109 rfl rfl
theorem g_590 : (Jvm.Cond.constant "WhoseGlass$Shelf" (31 : Nat) (-2147483648 : Int32)) ∈ yGW := y_i3 110 rfl rfl
theorem g_603 : (Jvm.Cond.methodLink "WhoseGlass" (223 : Nat) ({ cls := "WhoseGlass$House", name := "allFills", desc := "()I" } : Jvm.MethodName)) ∈ yGW := y_i3 123 rfl rfl
theorem g_604 : (Jvm.Cond.instanceMethod ({ cls := "WhoseGlass$House", name := "allFills", desc := "()I" } : Jvm.MethodName)) ∈ yGW := y_i3 124 rfl rfl
theorem g_605 : (Jvm.Cond.selects "WhoseGlass$House" ({ cls := "WhoseGlass$House", name := "allFills", desc := "()I" } : Jvm.MethodName) ({ cls := "WhoseGlass$House", name := "allFills", desc := "()I" } : Jvm.MethodName)) ∈ yGW := y_i3 125 rfl rfl
theorem g_606 : (Jvm.Cond.code ({ cls := "WhoseGlass$House", name := "allFills", desc := "()I" } : Jvm.MethodName) prog_4_method_23_code (4 : Nat) (Option.some Jvm.ClassFile.FieldType.int)) ∈ yGW := y_i3 126 rfl rfl
theorem g_607 : (Jvm.Cond.methodLink "WhoseGlass" (226 : Nat) ({ cls := "WhoseGlass$House", name := "countInSink", desc := "()I" } : Jvm.MethodName)) ∈ yGW := y_i3 127 rfl rfl
theorem g_608 : (Jvm.Cond.instanceMethod ({ cls := "WhoseGlass$House", name := "countInSink", desc := "()I" } : Jvm.MethodName)) ∈ yGW := y_i3 128 rfl rfl
theorem g_609 : (Jvm.Cond.selects "WhoseGlass$House" ({ cls := "WhoseGlass$House", name := "countInSink", desc := "()I" } : Jvm.MethodName) ({ cls := "WhoseGlass$House", name := "countInSink", desc := "()I" } : Jvm.MethodName)) ∈ yGW := y_i3 129 rfl rfl
theorem g_610 : (Jvm.Cond.code ({ cls := "WhoseGlass$House", name := "countInSink", desc := "()I" } : Jvm.MethodName) prog_4_method_24_code (4 : Nat) (Option.some Jvm.ClassFile.FieldType.int)) ∈ yGW := y_i3 130 rfl rfl
theorem g_619 : (Jvm.Cond.methodLink "WhoseGlass" (229 : Nat) ({ cls := "WhoseGlass$Shelf", name := "beginRow", desc := "(II)V" } : Jvm.MethodName)) ∈ yGW := y_i3 139 rfl rfl
theorem g_620 : (Jvm.Cond.instanceMethod ({ cls := "WhoseGlass$Shelf", name := "beginRow", desc := "(II)V" } : Jvm.MethodName)) ∈ yGW := y_i3 140 rfl rfl
theorem g_621 : (Jvm.Cond.selects "WhoseGlass$Shelf" ({ cls := "WhoseGlass$Shelf", name := "beginRow", desc := "(II)V" } : Jvm.MethodName) ({ cls := "WhoseGlass$Shelf", name := "beginRow", desc := "(II)V" } : Jvm.MethodName)) ∈ yGW := y_i3 141 rfl rfl
theorem g_622 : (Jvm.Cond.code ({ cls := "WhoseGlass$Shelf", name := "beginRow", desc := "(II)V" } : Jvm.MethodName) prog_6_method_3_code (4 : Nat) (Option.none : Option Jvm.ClassFile.FieldType)) ∈ yGW := y_i3 142 rfl rfl
theorem g_627 : (Jvm.Cond.methodLink "WhoseGlass" (232 : Nat) ({ cls := "WhoseGlass$Shelf", name := "set", desc := "(II)V" } : Jvm.MethodName)) ∈ yGW := y_i3 147 rfl rfl
theorem g_628 : (Jvm.Cond.instanceMethod ({ cls := "WhoseGlass$Shelf", name := "set", desc := "(II)V" } : Jvm.MethodName)) ∈ yGW := y_i3 148 rfl rfl
theorem g_629 : (Jvm.Cond.selects "WhoseGlass$Shelf" ({ cls := "WhoseGlass$Shelf", name := "set", desc := "(II)V" } : Jvm.MethodName) ({ cls := "WhoseGlass$Shelf", name := "set", desc := "(II)V" } : Jvm.MethodName)) ∈ yGW := y_i3 149 rfl rfl
theorem g_630 : (Jvm.Cond.code ({ cls := "WhoseGlass$Shelf", name := "set", desc := "(II)V" } : Jvm.MethodName) prog_6_method_5_code (3 : Nat) (Option.none : Option Jvm.ClassFile.FieldType)) ∈ yGW := y_i3 150 rfl rfl
theorem g_631 : (Jvm.Cond.methodLink "WhoseGlass$Shelf" (25 : Nat) ({ cls := "WhoseGlass$Shelf", name := "lowestBits", desc := "(I)I" } : Jvm.MethodName)) ∈ yGW := y_i3 151 rfl rfl
theorem g_633 : (Jvm.Cond.instanceMethod ({ cls := "WhoseGlass$Shelf", name := "lowestBits", desc := "(I)I" } : Jvm.MethodName)) ∈ yGW := y_i3 153 rfl rfl
theorem g_634 : (Jvm.Cond.code ({ cls := "WhoseGlass$Shelf", name := "lowestBits", desc := "(I)I" } : Jvm.MethodName) prog_6_method_6_code (2 : Nat) (Option.some Jvm.ClassFile.FieldType.int)) ∈ yGW := y_i3 154 rfl rfl
theorem g_639 : (Jvm.Cond.methodLink "WhoseGlass" (247 : Nat) ({ cls := "WhoseGlass$Shelf", name := "hasStretch", desc := "(II)Z" } : Jvm.MethodName)) ∈ yGW := y_i3 159 rfl rfl
theorem g_640 : (Jvm.Cond.instanceMethod ({ cls := "WhoseGlass$Shelf", name := "hasStretch", desc := "(II)Z" } : Jvm.MethodName)) ∈ yGW := y_i3 160 rfl rfl
theorem g_641 : (Jvm.Cond.selects "WhoseGlass$Shelf" ({ cls := "WhoseGlass$Shelf", name := "hasStretch", desc := "(II)Z" } : Jvm.MethodName) ({ cls := "WhoseGlass$Shelf", name := "hasStretch", desc := "(II)Z" } : Jvm.MethodName)) ∈ yGW := y_i3 161 rfl rfl
theorem g_642 : (Jvm.Cond.code ({ cls := "WhoseGlass$Shelf", name := "hasStretch", desc := "(II)Z" } : Jvm.MethodName) prog_6_method_8_code (3 : Nat) (Option.some Jvm.ClassFile.FieldType.boolean)) ∈ yGW := y_i3 162 rfl rfl
theorem g_643 : (Jvm.Cond.methodLink "WhoseGlass" (254 : Nat) ({ cls := "java/lang/System", name := "arraycopy", desc := "(Ljava/lang/Object;ILjava/lang/Object;II)V" } : Jvm.MethodName)) ∈ yGW := y_i3 163 rfl rfl
theorem g_644 : (Jvm.Cond.static ({ cls := "java/lang/System", name := "arraycopy", desc := "(Ljava/lang/Object;ILjava/lang/Object;II)V" } : Jvm.MethodName)) ∈ yGW := y_i3 164 rfl rfl
theorem g_645 : (Jvm.Cond.native ({ cls := "java/lang/System", name := "arraycopy", desc := "(Ljava/lang/Object;ILjava/lang/Object;II)V" } : Jvm.MethodName)) ∈ yGW := y_i3 165 rfl rfl
theorem g_650 : (Jvm.Cond.methodLink "WhoseGlass" (260 : Nat) ({ cls := "WhoseGlass$Shelf", name := "glassCost", desc := "()I" } : Jvm.MethodName)) ∈ yGW := y_i3 170 rfl rfl
theorem g_651 : (Jvm.Cond.instanceMethod ({ cls := "WhoseGlass$Shelf", name := "glassCost", desc := "()I" } : Jvm.MethodName)) ∈ yGW := y_i3 171 rfl rfl
theorem g_652 : (Jvm.Cond.selects "WhoseGlass$Shelf" ({ cls := "WhoseGlass$Shelf", name := "glassCost", desc := "()I" } : Jvm.MethodName) ({ cls := "WhoseGlass$Shelf", name := "glassCost", desc := "()I" } : Jvm.MethodName)) ∈ yGW := y_i3 172 rfl rfl
theorem g_653 : (Jvm.Cond.code ({ cls := "WhoseGlass$Shelf", name := "glassCost", desc := "()I" } : Jvm.MethodName) prog_6_method_9_code (1 : Nat) (Option.some Jvm.ClassFile.FieldType.int)) ∈ yGW := y_i3 173 rfl rfl
theorem g_784 : (Jvm.Cond.fieldLink "WhoseGlassModel" (105 : Nat) "WhoseGlassModel" "glasses" "I") ∈ yGW := y_i4 64 rfl rfl
theorem g_785 : (Jvm.Cond.fieldLink "WhoseGlassModel" (112 : Nat) "WhoseGlassModel" "guests" "I") ∈ yGW := y_i4 65 rfl rfl
theorem g_786 : (Jvm.Cond.fieldLink "WhoseGlassModel" (7 : Nat) "WhoseGlassModel" "tray0" "I") ∈ yGW := y_i4 66 rfl rfl
theorem g_787 : (Jvm.Cond.fieldLink "WhoseGlassModel" (133 : Nat) "WhoseGlassModel" "minute" "I") ∈ yGW := y_i4 67 rfl rfl
theorem g_788 : (Jvm.Cond.fieldLink "WhoseGlassModel" (13 : Nat) "WhoseGlassModel" "kinds" "[I") ∈ yGW := y_i4 68 rfl rfl
theorem g_789 : (Jvm.Cond.fieldLink "WhoseGlassModel" (17 : Nat) "WhoseGlassModel" "figures" "[I") ∈ yGW := y_i4 69 rfl rfl
theorem g_790 : (Jvm.Cond.fieldLink "WhoseGlassModel" (20 : Nat) "WhoseGlassModel" "fills" "[I") ∈ yGW := y_i4 70 rfl rfl
theorem g_791 : (Jvm.Cond.fieldLink "WhoseGlassModel" (23 : Nat) "WhoseGlassModel" "wheres" "[I") ∈ yGW := y_i4 71 rfl rfl
theorem g_792 : (Jvm.Cond.fieldLink "WhoseGlassModel" (26 : Nat) "WhoseGlassModel" "laid" "[I") ∈ yGW := y_i4 72 rfl rfl
theorem g_793 : (Jvm.Cond.fieldLink "WhoseGlassModel" (29 : Nat) "WhoseGlassModel" "sips" "[I") ∈ yGW := y_i4 73 rfl rfl
theorem g_794 : (Jvm.Cond.fieldLink "WhoseGlassModel" (32 : Nat) "WhoseGlassModel" "germs" "[I") ∈ yGW := y_i4 74 rfl rfl
theorem g_795 : (Jvm.Cond.fieldLink "WhoseGlassModel" (35 : Nat) "WhoseGlassModel" "paces" "[I") ∈ yGW := y_i4 75 rfl rfl
theorem g_796 : (Jvm.Cond.fieldLink "WhoseGlassModel" (38 : Nat) "WhoseGlassModel" "lays" "[I") ∈ yGW := y_i4 76 rfl rfl
theorem g_797 : (Jvm.Cond.fieldLink "WhoseGlassModel" (41 : Nat) "WhoseGlassModel" "steps" "[I") ∈ yGW := y_i4 77 rfl rfl
theorem g_798 : (Jvm.Cond.fieldLink "WhoseGlassModel" (44 : Nat) "WhoseGlassModel" "cares" "[I") ∈ yGW := y_i4 78 rfl rfl
theorem g_799 : (Jvm.Cond.fieldLink "WhoseGlassModel" (47 : Nat) "WhoseGlassModel" "places" "[I") ∈ yGW := y_i4 79 rfl rfl
theorem g_800 : (Jvm.Cond.fieldLink "WhoseGlassModel" (50 : Nat) "WhoseGlassModel" "holds" "[I") ∈ yGW := y_i4 80 rfl rfl
theorem g_801 : (Jvm.Cond.fieldLink "WhoseGlassModel" (53 : Nat) "WhoseGlassModel" "owns" "[I") ∈ yGW := y_i4 81 rfl rfl
theorem g_802 : (Jvm.Cond.fieldLink "WhoseGlassModel" (56 : Nat) "WhoseGlassModel" "hads" "[I") ∈ yGW := y_i4 82 rfl rfl
theorem g_803 : (Jvm.Cond.fieldLink "WhoseGlassModel" (59 : Nat) "WhoseGlassModel" "cold" "[I") ∈ yGW := y_i4 83 rfl rfl
theorem g_804 : (Jvm.Cond.fieldLink "WhoseGlassModel" (146 : Nat) "WhoseGlassModel" "wrongs" "I") ∈ yGW := y_i4 84 rfl rfl
theorem g_805 : (Jvm.Cond.fieldLink "WhoseGlassModel" (157 : Nat) "WhoseGlassModel" "freshes" "I") ∈ yGW := y_i4 85 rfl rfl
theorem g_806 : (Jvm.Cond.fieldLink "WhoseGlassModel" (62 : Nat) "WhoseGlassModel" "closed" "I") ∈ yGW := y_i4 86 rfl rfl
theorem g_807 : (Jvm.Cond.fieldLink "WhoseGlassModel" (102 : Nat) "WhoseGlassModel" "thrown" "I") ∈ yGW := y_i4 87 rfl rfl
theorem g_808 : (Jvm.Cond.fieldLink "WhoseGlassModel" (65 : Nat) "WhoseGlassModel" "kept" "[I") ∈ yGW := y_i4 88 rfl rfl
theorem g_809 : (Jvm.Cond.fieldLink "WhoseGlassModel" (68 : Nat) "WhoseGlassModel" "imaged" "[I") ∈ yGW := y_i4 89 rfl rfl
theorem g_810 : (Jvm.Cond.fieldLink "WhoseGlassModel" (196 : Nat) "WhoseGlassModel" "hasImage" "Z") ∈ yGW := y_i4 90 rfl rfl
theorem g_811 : (Jvm.Cond.fieldLink "WhoseGlassModel" (183 : Nat) "WhoseGlassModel" "place0" "I") ∈ yGW := y_i4 91 rfl rfl
theorem g_812 : (Jvm.Cond.fieldLink "WhoseGlassModel" (176 : Nat) "WhoseGlassModel" "isTaking" "Z") ∈ yGW := y_i4 92 rfl rfl
theorem g_813 : (Jvm.Cond.fieldLink "WhoseGlassModel" (180 : Nat) "WhoseGlassModel" "keptIn" "[I") ∈ yGW := y_i4 93 rfl rfl
theorem g_814 : (Jvm.Cond.fieldLink "WhoseGlassModel" (205 : Nat) "WhoseGlassModel" "base" "I") ∈ yGW := y_i4 94 rfl rfl
theorem g_815 : (Jvm.Cond.fieldLink "WhoseGlassModel" (202 : Nat) "WhoseGlassModel" "end" "I") ∈ yGW := y_i4 95 rfl rfl
theorem g_816 : (Jvm.Cond.fieldLink "WhoseGlassModel" (199 : Nat) "WhoseGlassModel" "at" "I") ∈ yGW := y_i4 96 rfl rfl
theorem g_817 : (Jvm.Cond.fieldLink "WhoseGlassModel" (208 : Nat) "WhoseGlassModel" "isBad" "Z") ∈ yGW := y_i4 97 rfl rfl
theorem g_818 : (Jvm.Cond.fieldLink "WhoseGlassModel" (222 : Nat) "WhoseGlassModel" "statements" "I") ∈ yGW := y_i4 98 rfl rfl
theorem g_819 : (Jvm.Cond.fieldLink "WhoseGlassModel" (71 : Nat) "WhoseGlassModel" "placeOf" "[I") ∈ yGW := y_i4 99 rfl rfl
theorem g_820 : (Jvm.Cond.fieldLink "WhoseGlassModel" (74 : Nat) "WhoseGlassModel" "letterOf" "[I") ∈ yGW := y_i4 100 rfl rfl
theorem g_821 : (Jvm.Cond.fieldLink "WhoseGlassModel" (77 : Nat) "WhoseGlassModel" "told" "[I") ∈ yGW := y_i4 101 rfl rfl
theorem g_822 : (Jvm.Cond.fieldLink "WhoseGlassModel" (295 : Nat) "WhoseGlassModel" "seed" "I") ∈ yGW := y_i4 102 rfl rfl
theorem g_823 : (Jvm.Cond.fieldLink "WhoseGlassModel" (80 : Nat) "WhoseGlassModel" "holdsWhat" "[I") ∈ yGW := y_i4 103 rfl rfl
theorem g_824 : (Jvm.Cond.fieldLink "WhoseGlassModel" (83 : Nat) "WhoseGlassModel" "keptKind" "[I") ∈ yGW := y_i4 104 rfl rfl
theorem g_825 : (Jvm.Cond.fieldLink "WhoseGlassModel" (86 : Nat) "WhoseGlassModel" "keptFigure" "[I") ∈ yGW := y_i4 105 rfl rfl
theorem g_826 : (Jvm.Cond.fieldLink "WhoseGlassModel" (89 : Nat) "WhoseGlassModel" "rowSort" "[I") ∈ yGW := y_i4 106 rfl rfl
theorem g_827 : (Jvm.Cond.fieldLink "WhoseGlassModel" (92 : Nat) "WhoseGlassModel" "rowMany" "[I") ∈ yGW := y_i4 107 rfl rfl
theorem g_828 : (Jvm.Cond.fieldLink "WhoseGlassModel" (95 : Nat) "WhoseGlassModel" "rows" "[J") ∈ yGW := y_i4 108 rfl rfl
theorem g_829 : (Jvm.Cond.fieldLink "WhoseGlassModel" (99 : Nat) "WhoseGlassModel" "between" "[J") ∈ yGW := y_i4 109 rfl rfl
theorem g_932 : (Jvm.Cond.methodLink "WhoseGlassModel" (189 : Nat) ({ cls := "WhoseGlassModel", name := "carryAll", desc := "([IZ)V" } : Jvm.MethodName)) ∈ yGW := y_i4 212 rfl rfl
theorem g_934 : (Jvm.Cond.instanceMethod ({ cls := "WhoseGlassModel", name := "carryAll", desc := "([IZ)V" } : Jvm.MethodName)) ∈ yGW := y_i4 214 rfl rfl
theorem g_935 : (Jvm.Cond.code ({ cls := "WhoseGlassModel", name := "carryAll", desc := "([IZ)V" } : Jvm.MethodName) prog_8_method_24_code (4 : Nat) (Option.none : Option Jvm.ClassFile.FieldType)) ∈ yGW := y_i4 215 rfl rfl
theorem g_936 : (Jvm.Cond.methodLink "WhoseGlassModel" (186 : Nat) ({ cls := "WhoseGlassModel", name := "carry", desc := "(I)I" } : Jvm.MethodName)) ∈ yGW := y_i4 216 rfl rfl
theorem g_938 : (Jvm.Cond.instanceMethod ({ cls := "WhoseGlassModel", name := "carry", desc := "(I)I" } : Jvm.MethodName)) ∈ yGW := y_i4 218 rfl rfl
theorem g_939 : (Jvm.Cond.code ({ cls := "WhoseGlassModel", name := "carry", desc := "(I)I" } : Jvm.MethodName) prog_8_method_23_code (2 : Nat) (Option.some Jvm.ClassFile.FieldType.int)) ∈ yGW := y_i4 219 rfl rfl
theorem g_948 : (Jvm.Cond.methodLink "WhoseGlassModel" (244 : Nat) ({ cls := "WhoseGlassModel", name := "wrongSort", desc := "(II)I" } : Jvm.MethodName)) ∈ yGW := y_i4 228 rfl rfl
theorem g_950 : (Jvm.Cond.instanceMethod ({ cls := "WhoseGlassModel", name := "wrongSort", desc := "(II)I" } : Jvm.MethodName)) ∈ yGW := y_i4 230 rfl rfl
theorem g_951 : (Jvm.Cond.code ({ cls := "WhoseGlassModel", name := "wrongSort", desc := "(II)I" } : Jvm.MethodName) prog_8_method_76_code (3 : Nat) (Option.some Jvm.ClassFile.FieldType.int)) ∈ yGW := y_i4 231 rfl rfl
theorem g_952 : (Jvm.Cond.methodLink "WhoseGlassModel" (312 : Nat) ({ cls := "WhoseGlassModel", name := "wrongRow", desc := "(I)I" } : Jvm.MethodName)) ∈ yGW := y_i4 232 rfl rfl
theorem g_954 : (Jvm.Cond.instanceMethod ({ cls := "WhoseGlassModel", name := "wrongRow", desc := "(I)I" } : Jvm.MethodName)) ∈ yGW := y_i4 234 rfl rfl
theorem g_955 : (Jvm.Cond.code ({ cls := "WhoseGlassModel", name := "wrongRow", desc := "(I)I" } : Jvm.MethodName) prog_8_method_78_code (2 : Nat) (Option.some Jvm.ClassFile.FieldType.int)) ∈ yGW := y_i4 235 rfl rfl
theorem g_956 : (Jvm.Cond.constantLong "WhoseGlassModel" (263 : Nat) (7 : Int64)) ∈ yGW := y_i4 236 rfl rfl
theorem g_957 : (Jvm.Cond.methodLink "WhoseGlassModel" (108 : Nat) ({ cls := "WhoseGlassModel", name := "in", desc := "(JJJ)Z" } : Jvm.MethodName)) ∈ yGW := y_i4 237 rfl rfl
theorem g_958 : (Jvm.Cond.static ({ cls := "WhoseGlassModel", name := "in", desc := "(JJJ)Z" } : Jvm.MethodName)) ∈ yGW := y_i4 238 rfl rfl
theorem g_959 : (Jvm.Cond.code ({ cls := "WhoseGlassModel", name := "in", desc := "(JJJ)Z" } : Jvm.MethodName) prog_8_method_3_code (6 : Nat) (Option.some Jvm.ClassFile.FieldType.boolean)) ∈ yGW := y_i4 239 rfl rfl
theorem g_960 : (Jvm.Cond.methodLink "WhoseGlassModel" (247 : Nat) ({ cls := "WhoseGlassModel", name := "readStatement", desc := "()V" } : Jvm.MethodName)) ∈ yGW := y_i5 0 rfl rfl
theorem g_962 : (Jvm.Cond.instanceMethod ({ cls := "WhoseGlassModel", name := "readStatement", desc := "()V" } : Jvm.MethodName)) ∈ yGW := y_i5 2 rfl rfl
theorem g_963 : (Jvm.Cond.code ({ cls := "WhoseGlassModel", name := "readStatement", desc := "()V" } : Jvm.MethodName) prog_8_method_33_code (5 : Nat) (Option.none : Option Jvm.ClassFile.FieldType)) ∈ yGW := y_i5 3 rfl rfl
theorem g_964 : (Jvm.Cond.methodLink "WhoseGlassModel" (211 : Nat) ({ cls := "WhoseGlassModel", name := "here", desc := "()I" } : Jvm.MethodName)) ∈ yGW := y_i5 4 rfl rfl
theorem g_966 : (Jvm.Cond.instanceMethod ({ cls := "WhoseGlassModel", name := "here", desc := "()I" } : Jvm.MethodName)) ∈ yGW := y_i5 6 rfl rfl
theorem g_967 : (Jvm.Cond.code ({ cls := "WhoseGlassModel", name := "here", desc := "()I" } : Jvm.MethodName) prog_8_method_30_code (1 : Nat) (Option.some Jvm.ClassFile.FieldType.int)) ∈ yGW := y_i5 7 rfl rfl
theorem g_968 : (Jvm.Cond.methodLink "WhoseGlassModel" (219 : Nat) ({ cls := "WhoseGlassModel", name := "readDigit", desc := "()I" } : Jvm.MethodName)) ∈ yGW := y_i5 8 rfl rfl
theorem g_970 : (Jvm.Cond.instanceMethod ({ cls := "WhoseGlassModel", name := "readDigit", desc := "()I" } : Jvm.MethodName)) ∈ yGW := y_i5 10 rfl rfl
theorem g_971 : (Jvm.Cond.code ({ cls := "WhoseGlassModel", name := "readDigit", desc := "()I" } : Jvm.MethodName) prog_8_method_31_code (1 : Nat) (Option.some Jvm.ClassFile.FieldType.int)) ∈ yGW := y_i5 11 rfl rfl
theorem g_972 : (Jvm.Cond.constantLong "WhoseGlassModel" (215 : Nat) (48 : Int64)) ∈ yGW := y_i5 12 rfl rfl
theorem g_973 : (Jvm.Cond.constantLong "WhoseGlassModel" (217 : Nat) (57 : Int64)) ∈ yGW := y_i5 13 rfl rfl
theorem g_974 : (Jvm.Cond.methodLink "WhoseGlassModel" (225 : Nat) ({ cls := "WhoseGlassModel", name := "readTwo", desc := "()I" } : Jvm.MethodName)) ∈ yGW := y_i5 14 rfl rfl
theorem g_976 : (Jvm.Cond.instanceMethod ({ cls := "WhoseGlassModel", name := "readTwo", desc := "()I" } : Jvm.MethodName)) ∈ yGW := y_i5 16 rfl rfl
theorem g_977 : (Jvm.Cond.code ({ cls := "WhoseGlassModel", name := "readTwo", desc := "()I" } : Jvm.MethodName) prog_8_method_32_code (2 : Nat) (Option.some Jvm.ClassFile.FieldType.int)) ∈ yGW := y_i5 17 rfl rfl
theorem g_978 : (Jvm.Cond.methodLink "WhoseGlassModel" (250 : Nat) ({ cls := "WhoseGlassModel", name := "open", desc := "()V" } : Jvm.MethodName)) ∈ yGW := y_i5 18 rfl rfl
theorem g_980 : (Jvm.Cond.instanceMethod ({ cls := "WhoseGlassModel", name := "open", desc := "()V" } : Jvm.MethodName)) ∈ yGW := y_i5 20 rfl rfl
theorem g_981 : (Jvm.Cond.code ({ cls := "WhoseGlassModel", name := "open", desc := "()V" } : Jvm.MethodName) prog_8_method_25_code (1 : Nat) (Option.none : Option Jvm.ClassFile.FieldType)) ∈ yGW := y_i5 21 rfl rfl
theorem g_982 : (Jvm.Cond.methodLink "WhoseGlassModel" (253 : Nat) ({ cls := "WhoseGlassModel", name := "comesAll", desc := "(I)Z" } : Jvm.MethodName)) ∈ yGW := y_i5 22 rfl rfl
theorem g_984 : (Jvm.Cond.instanceMethod ({ cls := "WhoseGlassModel", name := "comesAll", desc := "(I)Z" } : Jvm.MethodName)) ∈ yGW := y_i5 24 rfl rfl
theorem g_985 : (Jvm.Cond.code ({ cls := "WhoseGlassModel", name := "comesAll", desc := "(I)Z" } : Jvm.MethodName) prog_8_method_37_code (3 : Nat) (Option.some Jvm.ClassFile.FieldType.boolean)) ∈ yGW := y_i5 25 rfl rfl
theorem g_986 : (Jvm.Cond.methodLink "WhoseGlassModel" (235 : Nat) ({ cls := "WhoseGlassModel", name := "glassComes", desc := "(I)Z" } : Jvm.MethodName)) ∈ yGW := y_i5 26 rfl rfl
theorem g_988 : (Jvm.Cond.instanceMethod ({ cls := "WhoseGlassModel", name := "glassComes", desc := "(I)Z" } : Jvm.MethodName)) ∈ yGW := y_i5 28 rfl rfl
theorem g_989 : (Jvm.Cond.code ({ cls := "WhoseGlassModel", name := "glassComes", desc := "(I)Z" } : Jvm.MethodName) prog_8_method_34_code (3 : Nat) (Option.some Jvm.ClassFile.FieldType.boolean)) ∈ yGW := y_i5 29 rfl rfl
theorem g_990 : (Jvm.Cond.methodLink "WhoseGlassModel" (153 : Nat) ({ cls := "WhoseGlassModel", name := "bring", desc := "(IIII)I" } : Jvm.MethodName)) ∈ yGW := y_i5 30 rfl rfl
theorem g_992 : (Jvm.Cond.instanceMethod ({ cls := "WhoseGlassModel", name := "bring", desc := "(IIII)I" } : Jvm.MethodName)) ∈ yGW := y_i5 32 rfl rfl
theorem g_993 : (Jvm.Cond.code ({ cls := "WhoseGlassModel", name := "bring", desc := "(IIII)I" } : Jvm.MethodName) prog_8_method_17_code (6 : Nat) (Option.some Jvm.ClassFile.FieldType.int)) ∈ yGW := y_i5 33 rfl rfl
theorem g_994 : (Jvm.Cond.methodLink "WhoseGlassModel" (238 : Nat) ({ cls := "WhoseGlassModel", name := "guestComes", desc := "(I)Z" } : Jvm.MethodName)) ∈ yGW := y_i5 34 rfl rfl
theorem g_996 : (Jvm.Cond.instanceMethod ({ cls := "WhoseGlassModel", name := "guestComes", desc := "(I)Z" } : Jvm.MethodName)) ∈ yGW := y_i5 36 rfl rfl
theorem g_997 : (Jvm.Cond.code ({ cls := "WhoseGlassModel", name := "guestComes", desc := "(I)Z" } : Jvm.MethodName) prog_8_method_35_code (3 : Nat) (Option.some Jvm.ClassFile.FieldType.boolean)) ∈ yGW := y_i5 37 rfl rfl
theorem g_998 : (Jvm.Cond.methodLink "WhoseGlassModel" (241 : Nat) ({ cls := "WhoseGlassModel", name := "holdComes", desc := "(II)Z" } : Jvm.MethodName)) ∈ yGW := y_i5 38 rfl rfl
theorem g_1000 : (Jvm.Cond.instanceMethod ({ cls := "WhoseGlassModel", name := "holdComes", desc := "(II)Z" } : Jvm.MethodName)) ∈ yGW := y_i5 40 rfl rfl
theorem g_1001 : (Jvm.Cond.code ({ cls := "WhoseGlassModel", name := "holdComes", desc := "(II)Z" } : Jvm.MethodName) prog_8_method_36_code (4 : Nat) (Option.some Jvm.ClassFile.FieldType.boolean)) ∈ yGW := y_i5 41 rfl rfl
theorem g_1002 : (Jvm.Cond.methodLink "WhoseGlassModel" (228 : Nat) ({ cls := "WhoseGlassModel", name := "isGuest", desc := "(I)Z" } : Jvm.MethodName)) ∈ yGW := y_i5 42 rfl rfl
theorem g_1004 : (Jvm.Cond.instanceMethod ({ cls := "WhoseGlassModel", name := "isGuest", desc := "(I)Z" } : Jvm.MethodName)) ∈ yGW := y_i5 44 rfl rfl
theorem g_1005 : (Jvm.Cond.code ({ cls := "WhoseGlassModel", name := "isGuest", desc := "(I)Z" } : Jvm.MethodName) prog_8_method_5_code (2 : Nat) (Option.some Jvm.ClassFile.FieldType.boolean)) ∈ yGW := y_i5 45 rfl rfl
theorem g_1006 : (Jvm.Cond.methodLink "WhoseGlassModel" (232 : Nat) ({ cls := "WhoseGlassModel", name := "isGlass", desc := "(I)Z" } : Jvm.MethodName)) ∈ yGW := y_i5 46 rfl rfl
theorem g_1008 : (Jvm.Cond.instanceMethod ({ cls := "WhoseGlassModel", name := "isGlass", desc := "(I)Z" } : Jvm.MethodName)) ∈ yGW := y_i5 48 rfl rfl
theorem g_1009 : (Jvm.Cond.code ({ cls := "WhoseGlassModel", name := "isGlass", desc := "(I)Z" } : Jvm.MethodName) prog_8_method_4_code (2 : Nat) (Option.some Jvm.ClassFile.FieldType.boolean)) ∈ yGW := y_i5 49 rfl rfl
theorem g_1010 : (Jvm.Cond.methodLink "WhoseGlassModel" (149 : Nat) ({ cls := "WhoseGlassModel", name := "hold", desc := "(II)V" } : Jvm.MethodName)) ∈ yGW := y_i5 50 rfl rfl
theorem g_1012 : (Jvm.Cond.instanceMethod ({ cls := "WhoseGlassModel", name := "hold", desc := "(II)V" } : Jvm.MethodName)) ∈ yGW := y_i5 52 rfl rfl
theorem g_1013 : (Jvm.Cond.code ({ cls := "WhoseGlassModel", name := "hold", desc := "(II)V" } : Jvm.MethodName) prog_8_method_18_code (3 : Nat) (Option.none : Option Jvm.ClassFile.FieldType)) ∈ yGW := y_i5 53 rfl rfl
theorem g_1014 : (Jvm.Cond.methodLink "WhoseGlassModel" (193 : Nat) ({ cls := "WhoseGlassModel", name := "minuteOn", desc := "()V" } : Jvm.MethodName)) ∈ yGW := y_i5 54 rfl rfl
theorem g_1016 : (Jvm.Cond.instanceMethod ({ cls := "WhoseGlassModel", name := "minuteOn", desc := "()V" } : Jvm.MethodName)) ∈ yGW := y_i5 56 rfl rfl
theorem g_1017 : (Jvm.Cond.code ({ cls := "WhoseGlassModel", name := "minuteOn", desc := "()V" } : Jvm.MethodName) prog_8_method_22_code (2 : Nat) (Option.none : Option Jvm.ClassFile.FieldType)) ∈ yGW := y_i5 57 rfl rfl
theorem g_1018 : (Jvm.Cond.methodLink "WhoseGlassModel" (173 : Nat) ({ cls := "WhoseGlassModel", name := "guestOn", desc := "(I)V" } : Jvm.MethodName)) ∈ yGW := y_i5 58 rfl rfl
theorem g_1020 : (Jvm.Cond.instanceMethod ({ cls := "WhoseGlassModel", name := "guestOn", desc := "(I)V" } : Jvm.MethodName)) ∈ yGW := y_i5 60 rfl rfl
theorem g_1021 : (Jvm.Cond.code ({ cls := "WhoseGlassModel", name := "guestOn", desc := "(I)V" } : Jvm.MethodName) prog_8_method_21_code (2 : Nat) (Option.none : Option Jvm.ClassFile.FieldType)) ∈ yGW := y_i5 61 rfl rfl
theorem g_1022 : (Jvm.Cond.methodLink "WhoseGlassModel" (160 : Nat) ({ cls := "WhoseGlassModel", name := "goOn", desc := "(I)V" } : Jvm.MethodName)) ∈ yGW := y_i5 62 rfl rfl
theorem g_1024 : (Jvm.Cond.instanceMethod ({ cls := "WhoseGlassModel", name := "goOn", desc := "(I)V" } : Jvm.MethodName)) ∈ yGW := y_i5 64 rfl rfl
theorem g_1025 : (Jvm.Cond.code ({ cls := "WhoseGlassModel", name := "goOn", desc := "(I)V" } : Jvm.MethodName) prog_8_method_20_code (3 : Nat) (Option.none : Option Jvm.ClassFile.FieldType)) ∈ yGW := y_i5 65 rfl rfl
theorem g_1026 : (Jvm.Cond.methodLink "WhoseGlassModel" (164 : Nat) ({ cls := "WhoseGlassModel", name := "takeOne", desc := "(I)I" } : Jvm.MethodName)) ∈ yGW := y_i5 66 rfl rfl
theorem g_1028 : (Jvm.Cond.instanceMethod ({ cls := "WhoseGlassModel", name := "takeOne", desc := "(I)I" } : Jvm.MethodName)) ∈ yGW := y_i5 68 rfl rfl
theorem g_1029 : (Jvm.Cond.code ({ cls := "WhoseGlassModel", name := "takeOne", desc := "(I)I" } : Jvm.MethodName) prog_8_method_19_code (3 : Nat) (Option.some Jvm.ClassFile.FieldType.int)) ∈ yGW := y_i5 69 rfl rfl
theorem g_1030 : (Jvm.Cond.methodLink "WhoseGlassModel" (143 : Nat) ({ cls := "WhoseGlassModel", name := "wouldTake", desc := "(I)I" } : Jvm.MethodName)) ∈ yGW := y_i5 70 rfl rfl
theorem g_1032 : (Jvm.Cond.instanceMethod ({ cls := "WhoseGlassModel", name := "wouldTake", desc := "(I)I" } : Jvm.MethodName)) ∈ yGW := y_i5 72 rfl rfl
theorem g_1033 : (Jvm.Cond.code ({ cls := "WhoseGlassModel", name := "wouldTake", desc := "(I)I" } : Jvm.MethodName) prog_8_method_16_code (9 : Nat) (Option.some Jvm.ClassFile.FieldType.int)) ∈ yGW := y_i5 73 rfl rfl
theorem g_1034 : (Jvm.Cond.methodLink "WhoseGlassModel" (136 : Nat) ({ cls := "WhoseGlassModel", name := "likeOf", desc := "(II)I" } : Jvm.MethodName)) ∈ yGW := y_i5 74 rfl rfl
theorem g_1036 : (Jvm.Cond.instanceMethod ({ cls := "WhoseGlassModel", name := "likeOf", desc := "(II)I" } : Jvm.MethodName)) ∈ yGW := y_i5 76 rfl rfl
theorem g_1037 : (Jvm.Cond.code ({ cls := "WhoseGlassModel", name := "likeOf", desc := "(II)I" } : Jvm.MethodName) prog_8_method_11_code (3 : Nat) (Option.some Jvm.ClassFile.FieldType.int)) ∈ yGW := y_i5 77 rfl rfl
theorem g_1038 : (Jvm.Cond.methodLink "WhoseGlassModel" (119 : Nat) ({ cls := "WhoseGlassModel", name := "plainly", desc := "(II)I" } : Jvm.MethodName)) ∈ yGW := y_i5 78 rfl rfl
theorem g_1040 : (Jvm.Cond.instanceMethod ({ cls := "WhoseGlassModel", name := "plainly", desc := "(II)I" } : Jvm.MethodName)) ∈ yGW := y_i5 80 rfl rfl
theorem g_1041 : (Jvm.Cond.code ({ cls := "WhoseGlassModel", name := "plainly", desc := "(II)I" } : Jvm.MethodName) prog_8_method_8_code (3 : Nat) (Option.some Jvm.ClassFile.FieldType.int)) ∈ yGW := y_i5 81 rfl rfl
theorem g_1042 : (Jvm.Cond.methodLink "WhoseGlassModel" (123 : Nat) ({ cls := "WhoseGlassModel", name := "tally", desc := "(II)I" } : Jvm.MethodName)) ∈ yGW := y_i5 82 rfl rfl
theorem g_1044 : (Jvm.Cond.instanceMethod ({ cls := "WhoseGlassModel", name := "tally", desc := "(II)I" } : Jvm.MethodName)) ∈ yGW := y_i5 84 rfl rfl
theorem g_1045 : (Jvm.Cond.code ({ cls := "WhoseGlassModel", name := "tally", desc := "(II)I" } : Jvm.MethodName) prog_8_method_10_code (3 : Nat) (Option.some Jvm.ClassFile.FieldType.int)) ∈ yGW := y_i5 85 rfl rfl
theorem g_1046 : (Jvm.Cond.methodLink "WhoseGlassModel" (126 : Nat) ({ cls := "WhoseGlassModel", name := "redly", desc := "(II)I" } : Jvm.MethodName)) ∈ yGW := y_i5 86 rfl rfl
theorem g_1048 : (Jvm.Cond.instanceMethod ({ cls := "WhoseGlassModel", name := "redly", desc := "(II)I" } : Jvm.MethodName)) ∈ yGW := y_i5 88 rfl rfl
theorem g_1049 : (Jvm.Cond.code ({ cls := "WhoseGlassModel", name := "redly", desc := "(II)I" } : Jvm.MethodName) prog_8_method_9_code (4 : Nat) (Option.some Jvm.ClassFile.FieldType.int)) ∈ yGW := y_i5 89 rfl rfl
theorem g_1050 : (Jvm.Cond.methodLink "WhoseGlassModel" (139 : Nat) ({ cls := "WhoseGlassModel", name := "isLater", desc := "(II)Z" } : Jvm.MethodName)) ∈ yGW := y_i5 90 rfl rfl
theorem g_1052 : (Jvm.Cond.instanceMethod ({ cls := "WhoseGlassModel", name := "isLater", desc := "(II)Z" } : Jvm.MethodName)) ∈ yGW := y_i5 92 rfl rfl
theorem g_1053 : (Jvm.Cond.code ({ cls := "WhoseGlassModel", name := "isLater", desc := "(II)Z" } : Jvm.MethodName) prog_8_method_15_code (3 : Nat) (Option.some Jvm.ClassFile.FieldType.boolean)) ∈ yGW := y_i5 93 rfl rfl
theorem g_1054 : (Jvm.Cond.methodLink "WhoseGlassModel" (167 : Nat) ({ cls := "WhoseGlassModel", name := "sipOne", desc := "(I)I" } : Jvm.MethodName)) ∈ yGW := y_i5 94 rfl rfl
theorem g_1056 : (Jvm.Cond.instanceMethod ({ cls := "WhoseGlassModel", name := "sipOne", desc := "(I)I" } : Jvm.MethodName)) ∈ yGW := y_i5 96 rfl rfl
theorem g_1057 : (Jvm.Cond.code ({ cls := "WhoseGlassModel", name := "sipOne", desc := "(I)I" } : Jvm.MethodName) prog_8_method_13_code (4 : Nat) (Option.some Jvm.ClassFile.FieldType.int)) ∈ yGW := y_i5 97 rfl rfl
theorem g_1058 : (Jvm.Cond.methodLink "WhoseGlassModel" (129 : Nat) ({ cls := "WhoseGlassModel", name := "strengthOf", desc := "(I)I" } : Jvm.MethodName)) ∈ yGW := y_i5 98 rfl rfl
theorem g_1060 : (Jvm.Cond.instanceMethod ({ cls := "WhoseGlassModel", name := "strengthOf", desc := "(I)I" } : Jvm.MethodName)) ∈ yGW := y_i5 100 rfl rfl
theorem g_1061 : (Jvm.Cond.code ({ cls := "WhoseGlassModel", name := "strengthOf", desc := "(I)I" } : Jvm.MethodName) prog_8_method_12_code (2 : Nat) (Option.some Jvm.ClassFile.FieldType.int)) ∈ yGW := y_i5 101 rfl rfl
theorem g_1062 : (Jvm.Cond.methodLink "WhoseGlassModel" (170 : Nat) ({ cls := "WhoseGlassModel", name := "layOne", desc := "(I)I" } : Jvm.MethodName)) ∈ yGW := y_i5 102 rfl rfl
theorem g_1064 : (Jvm.Cond.instanceMethod ({ cls := "WhoseGlassModel", name := "layOne", desc := "(I)I" } : Jvm.MethodName)) ∈ yGW := y_i5 104 rfl rfl
theorem g_1065 : (Jvm.Cond.code ({ cls := "WhoseGlassModel", name := "layOne", desc := "(I)I" } : Jvm.MethodName) prog_8_method_14_code (3 : Nat) (Option.some Jvm.ClassFile.FieldType.int)) ∈ yGW := y_i5 105 rfl rfl
theorem g_1066 : (Jvm.Cond.methodLink "WhoseGlassModel" (256 : Nat) ({ cls := "WhoseGlassModel", name := "again", desc := "()V" } : Jvm.MethodName)) ∈ yGW := y_i5 106 rfl rfl
theorem g_1068 : (Jvm.Cond.instanceMethod ({ cls := "WhoseGlassModel", name := "again", desc := "()V" } : Jvm.MethodName)) ∈ yGW := y_i5 108 rfl rfl
theorem g_1069 : (Jvm.Cond.code ({ cls := "WhoseGlassModel", name := "again", desc := "()V" } : Jvm.MethodName) prog_8_method_26_code (1 : Nat) (Option.none : Option Jvm.ClassFile.FieldType)) ∈ yGW := y_i5 109 rfl rfl
theorem g_1074 : (Jvm.Cond.constantLong "WhoseGlassModel" (259 : Nat) (6 : Int64)) ∈ yGW := y_i5 114 rfl rfl
theorem g_1079 : (Jvm.Cond.constantLong "WhoseGlassModel" (261 : Nat) (8 : Int64)) ∈ yGW := y_i5 119 rfl rfl
theorem g_1084 : (Jvm.Cond.methodLink "WhoseGlassModel" (265 : Nat) ({ cls := "WhoseGlassModel", name := "isPlace", desc := "(I)Z" } : Jvm.MethodName)) ∈ yGW := y_i5 124 rfl rfl
theorem g_1085 : (Jvm.Cond.static ({ cls := "WhoseGlassModel", name := "isPlace", desc := "(I)Z" } : Jvm.MethodName)) ∈ yGW := y_i5 125 rfl rfl
theorem g_1086 : (Jvm.Cond.code ({ cls := "WhoseGlassModel", name := "isPlace", desc := "(I)Z" } : Jvm.MethodName) prog_8_method_6_code (1 : Nat) (Option.some Jvm.ClassFile.FieldType.boolean)) ∈ yGW := y_i5 126 rfl rfl
theorem g_1087 : (Jvm.Cond.constantLong "WhoseGlassModel" (115 : Nat) (5 : Int64)) ∈ yGW := y_i5 127 rfl rfl
theorem g_1088 : (Jvm.Cond.methodLink "WhoseGlassModel" (268 : Nat) ({ cls := "WhoseGlassModel", name := "wrongKept", desc := "(I)I" } : Jvm.MethodName)) ∈ yGW := y_i5 128 rfl rfl
theorem g_1090 : (Jvm.Cond.instanceMethod ({ cls := "WhoseGlassModel", name := "wrongKept", desc := "(I)I" } : Jvm.MethodName)) ∈ yGW := y_i5 130 rfl rfl
theorem g_1091 : (Jvm.Cond.code ({ cls := "WhoseGlassModel", name := "wrongKept", desc := "(I)I" } : Jvm.MethodName) prog_8_method_41_code (2 : Nat) (Option.some Jvm.ClassFile.FieldType.int)) ∈ yGW := y_i5 131 rfl rfl
theorem g_1116 : (Jvm.Cond.constantLong "WhoseGlassModel" (271 : Nat) (99 : Int64)) ∈ yGW := y_i5 156 rfl rfl
theorem g_1117 : (Jvm.Cond.methodLink "WhoseGlassModel" (273 : Nat) ({ cls := "WhoseGlassModel", name := "sink", desc := "(I)V" } : Jvm.MethodName)) ∈ yGW := y_i5 157 rfl rfl
theorem g_1119 : (Jvm.Cond.instanceMethod ({ cls := "WhoseGlassModel", name := "sink", desc := "(I)V" } : Jvm.MethodName)) ∈ yGW := y_i5 159 rfl rfl
theorem g_1120 : (Jvm.Cond.code ({ cls := "WhoseGlassModel", name := "sink", desc := "(I)V" } : Jvm.MethodName) prog_8_method_48_code (2 : Nat) (Option.none : Option Jvm.ClassFile.FieldType)) ∈ yGW := y_i5 160 rfl rfl
theorem g_1125 : (Jvm.Cond.methodLink "WhoseGlassModel" (276 : Nat) ({ cls := "WhoseGlassModel", name := "goThrough", desc := "(I)V" } : Jvm.MethodName)) ∈ yGW := y_i5 165 rfl rfl
theorem g_1127 : (Jvm.Cond.instanceMethod ({ cls := "WhoseGlassModel", name := "goThrough", desc := "(I)V" } : Jvm.MethodName)) ∈ yGW := y_i5 167 rfl rfl
theorem g_1128 : (Jvm.Cond.code ({ cls := "WhoseGlassModel", name := "goThrough", desc := "(I)V" } : Jvm.MethodName) prog_8_method_27_code (3 : Nat) (Option.none : Option Jvm.ClassFile.FieldType)) ∈ yGW := y_i5 168 rfl rfl
theorem g_1141 : (Jvm.Cond.methodLink "WhoseGlassModel" (279 : Nat) ({ cls := "WhoseGlassModel", name := "divisor", desc := "(II)I" } : Jvm.MethodName)) ∈ yGW := y_i5 181 rfl rfl
theorem g_1142 : (Jvm.Cond.static ({ cls := "WhoseGlassModel", name := "divisor", desc := "(II)I" } : Jvm.MethodName)) ∈ yGW := y_i5 182 rfl rfl
theorem g_1143 : (Jvm.Cond.code ({ cls := "WhoseGlassModel", name := "divisor", desc := "(II)I" } : Jvm.MethodName) prog_8_method_53_code (5 : Nat) (Option.some Jvm.ClassFile.FieldType.int)) ∈ yGW := y_i5 183 rfl rfl
theorem g_1156 : (Jvm.Cond.methodLink "WhoseGlassModel" (282 : Nat) ({ cls := "WhoseGlassModel", name := "isMinutes", desc := "(I)Z" } : Jvm.MethodName)) ∈ yGW := y_i5 196 rfl rfl
theorem g_1157 : (Jvm.Cond.static ({ cls := "WhoseGlassModel", name := "isMinutes", desc := "(I)Z" } : Jvm.MethodName)) ∈ yGW := y_i5 197 rfl rfl
theorem g_1158 : (Jvm.Cond.code ({ cls := "WhoseGlassModel", name := "isMinutes", desc := "(I)Z" } : Jvm.MethodName) prog_8_method_7_code (1 : Nat) (Option.some Jvm.ClassFile.FieldType.boolean)) ∈ yGW := y_i5 198 rfl rfl
theorem g_1159 : (Jvm.Cond.constantLong "WhoseGlassModel" (117 : Nat) (60 : Int64)) ∈ yGW := y_i5 199 rfl rfl
theorem g_1168 : (Jvm.Cond.methodLink "WhoseGlassModel" (285 : Nat) ({ cls := "WhoseGlassModel", name := "coldBits", desc := "()I" } : Jvm.MethodName)) ∈ yGW := y_i5 208 rfl rfl
theorem g_1170 : (Jvm.Cond.instanceMethod ({ cls := "WhoseGlassModel", name := "coldBits", desc := "()I" } : Jvm.MethodName)) ∈ yGW := y_i5 210 rfl rfl
theorem g_1171 : (Jvm.Cond.code ({ cls := "WhoseGlassModel", name := "coldBits", desc := "()I" } : Jvm.MethodName) prog_8_method_57_code (3 : Nat) (Option.some Jvm.ClassFile.FieldType.int)) ∈ yGW := y_i5 211 rfl rfl
theorem g_1184 : (Jvm.Cond.methodLink "WhoseGlassModel" (288 : Nat) ({ cls := "WhoseGlassModel", name := "coldAlone", desc := "(I)V" } : Jvm.MethodName)) ∈ yGW := y_i5 224 rfl rfl
theorem g_1186 : (Jvm.Cond.instanceMethod ({ cls := "WhoseGlassModel", name := "coldAlone", desc := "(I)V" } : Jvm.MethodName)) ∈ yGW := y_i5 226 rfl rfl
theorem g_1187 : (Jvm.Cond.code ({ cls := "WhoseGlassModel", name := "coldAlone", desc := "(I)V" } : Jvm.MethodName) prog_8_method_63_code (3 : Nat) (Option.none : Option Jvm.ClassFile.FieldType)) ∈ yGW := y_i5 227 rfl rfl
theorem g_1208 : (Jvm.Cond.methodLink "WhoseGlassModel" (291 : Nat) ({ cls := "WhoseGlassModel", name := "isSomeEmpty", desc := "()Z" } : Jvm.MethodName)) ∈ yGW := y_i6 8 rfl rfl
theorem g_1210 : (Jvm.Cond.instanceMethod ({ cls := "WhoseGlassModel", name := "isSomeEmpty", desc := "()Z" } : Jvm.MethodName)) ∈ yGW := y_i6 10 rfl rfl
theorem g_1211 : (Jvm.Cond.code ({ cls := "WhoseGlassModel", name := "isSomeEmpty", desc := "()Z" } : Jvm.MethodName) prog_8_method_69_code (3 : Nat) (Option.some Jvm.ClassFile.FieldType.boolean)) ∈ yGW := y_i6 11 rfl rfl
theorem g_1216 : (Jvm.Cond.constantLong "WhoseGlassModel" (301 : Nat) (30 : Int64)) ∈ yGW := y_i6 16 rfl rfl
theorem g_1217 : (Jvm.Cond.methodLink "WhoseGlassModel" (303 : Nat) ({ cls := "WhoseGlassModel", name := "draw", desc := "(I)I" } : Jvm.MethodName)) ∈ yGW := y_i6 17 rfl rfl
theorem g_1219 : (Jvm.Cond.instanceMethod ({ cls := "WhoseGlassModel", name := "draw", desc := "(I)I" } : Jvm.MethodName)) ∈ yGW := y_i6 19 rfl rfl
theorem g_1220 : (Jvm.Cond.code ({ cls := "WhoseGlassModel", name := "draw", desc := "(I)I" } : Jvm.MethodName) prog_8_method_71_code (2 : Nat) (Option.some Jvm.ClassFile.FieldType.int)) ∈ yGW := y_i6 20 rfl rfl
theorem g_1221 : (Jvm.Cond.constant "WhoseGlassModel" (298 : Nat) (1103515245 : Int32)) ∈ yGW := y_i6 21 rfl rfl
theorem g_1222 : (Jvm.Cond.constant "WhoseGlassModel" (299 : Nat) (2147483647 : Int32)) ∈ yGW := y_i6 22 rfl rfl
theorem g_1223 : (Jvm.Cond.constant "WhoseGlassModel" (300 : Nat) (65536 : Int32)) ∈ yGW := y_i6 23 rfl rfl
theorem g_1228 : (Jvm.Cond.methodLink "WhoseGlassModel" (315 : Nat) ({ cls := "WhoseGlassModel", name := "skippedIn", desc := "(I)J" } : Jvm.MethodName)) ∈ yGW := y_i6 28 rfl rfl
theorem g_1230 : (Jvm.Cond.instanceMethod ({ cls := "WhoseGlassModel", name := "skippedIn", desc := "(I)J" } : Jvm.MethodName)) ∈ yGW := y_i6 30 rfl rfl
theorem g_1231 : (Jvm.Cond.code ({ cls := "WhoseGlassModel", name := "skippedIn", desc := "(I)J" } : Jvm.MethodName) prog_8_method_73_code (2 : Nat) (Option.some Jvm.ClassFile.FieldType.long)) ∈ yGW := y_i6 31 rfl rfl
theorem g_1232 : (Jvm.Cond.constantLong "WhoseGlassModel" (306 : Nat) (-128 : Int64)) ∈ yGW := y_i6 32 rfl rfl
theorem g_1233 : (Jvm.Cond.constantLong "WhoseGlassModel" (308 : Nat) (-32768 : Int64)) ∈ yGW := y_i6 33 rfl rfl
theorem g_1234 : (Jvm.Cond.constantLong "WhoseGlassModel" (310 : Nat) (-2147483648 : Int64)) ∈ yGW := y_i6 34 rfl rfl
theorem g_1243 : (Jvm.Cond.constantLong "WhoseGlassModel" (319 : Nat) (9 : Int64)) ∈ yGW := y_i6 43 rfl rfl
theorem g_1248 : (Jvm.Cond.constantLong "WhoseGlassModel" (321 : Nat) (2 : Int64)) ∈ yGW := y_i6 48 rfl rfl
theorem g_1253 : (Jvm.Cond.methodLink "WhoseGlassModel" (323 : Nat) ({ cls := "WhoseGlassModel", name := "narrowed", desc := "(II)J" } : Jvm.MethodName)) ∈ yGW := y_i6 53 rfl rfl
theorem g_1254 : (Jvm.Cond.static ({ cls := "WhoseGlassModel", name := "narrowed", desc := "(II)J" } : Jvm.MethodName)) ∈ yGW := y_i6 54 rfl rfl
theorem g_1255 : (Jvm.Cond.code ({ cls := "WhoseGlassModel", name := "narrowed", desc := "(II)J" } : Jvm.MethodName) prog_8_method_79_code (2 : Nat) (Option.some Jvm.ClassFile.FieldType.long)) ∈ yGW := y_i6 55 rfl rfl
theorem g_1268 : (Jvm.Cond.methodLink "WhoseGlassModel" (327 : Nat) ({ cls := "WhoseGlassModel", name := "costOf", desc := "(II)I" } : Jvm.MethodName)) ∈ yGW := y_i6 68 rfl rfl
theorem g_1269 : (Jvm.Cond.static ({ cls := "WhoseGlassModel", name := "costOf", desc := "(II)I" } : Jvm.MethodName)) ∈ yGW := y_i6 69 rfl rfl
theorem g_1270 : (Jvm.Cond.code ({ cls := "WhoseGlassModel", name := "costOf", desc := "(II)I" } : Jvm.MethodName) prog_8_method_84_code (2 : Nat) (Option.some Jvm.ClassFile.FieldType.int)) ∈ yGW := y_i6 70 rfl rfl
end
section
def m_X_shelfAt : MethodName := ⟨"WhoseGlass", "shelfAt", "(I)LWhoseGlass$Shelf;"⟩
abbrev ws_X_shelfAt : List Cond := yWs m_X_shelfAt prog_1_method_41_code 2 (some (.object "WhoseGlass$Shelf"))
theorem hd_X_shelfAt : m_X_shelfAt.cls = yR4 ∧ m_X_shelfAt.cls ≠ "java/lang/invoke/MethodHandle" ∧ m_X_shelfAt.cls ≠ "java/lang/invoke/VarHandle" ∧ (parseMethodDescriptor m_X_shelfAt.desc).map (fun d => d.parameters.length) = some 1 := ⟨rfl, by decide +kernel, by decide +kernel, by decide +kernel⟩
def m_S_whyNot : MethodName := ⟨"WhoseGlass$Shelf", "whyNot", "()I"⟩
abbrev ws_S_whyNot : List Cond := yWs m_S_whyNot prog_6_method_2_code 1 (some .int)
theorem hd_S_whyNot : m_S_whyNot.cls = yR3 ∧ m_S_whyNot.cls ≠ "java/lang/invoke/MethodHandle" ∧ m_S_whyNot.cls ≠ "java/lang/invoke/VarHandle" ∧ (parseMethodDescriptor m_S_whyNot.desc).map (fun d => d.parameters.length) = some 0 := ⟨rfl, by decide +kernel, by decide +kernel, by decide +kernel⟩
def m_S_elementAt : MethodName := ⟨"WhoseGlass$Shelf", "elementAt", "(I)I"⟩
abbrev ws_S_elementAt : List Cond := yWs m_S_elementAt prog_6_method_4_code 2 (some .int)
theorem hd_S_elementAt : m_S_elementAt.cls = yR3 ∧ m_S_elementAt.cls ≠ "java/lang/invoke/MethodHandle" ∧ m_S_elementAt.cls ≠ "java/lang/invoke/VarHandle" ∧ (parseMethodDescriptor m_S_elementAt.desc).map (fun d => d.parameters.length) = some 1 := ⟨rfl, by decide +kernel, by decide +kernel, by decide +kernel⟩
def m_T_mostDigits : MethodName := ⟨"WhoseGlass$HouseText", "mostDigits", "(I)I"⟩
abbrev ws_T_mostDigits : List Cond := yWs m_T_mostDigits prog_5_method_10_code 1 (some .int)
theorem hn_T_mostDigits : m_T_mostDigits.cls ≠ "java/lang/invoke/MethodHandle" ∧ m_T_mostDigits.cls ≠ "java/lang/invoke/VarHandle" ∧ (parseMethodDescriptor m_T_mostDigits.desc).map (fun d => d.parameters.length) = some 1 := ⟨by decide +kernel, by decide +kernel, by decide +kernel⟩
def m_T_isDigit : MethodName := ⟨"WhoseGlass$HouseText", "isDigit", "(LWhoseGlass$Shelf;I)Z"⟩
abbrev ws_T_isDigit : List Cond := yWs m_T_isDigit prog_5_method_8_code 2 (some .boolean)
theorem hn_T_isDigit : m_T_isDigit.cls ≠ "java/lang/invoke/MethodHandle" ∧ m_T_isDigit.cls ≠ "java/lang/invoke/VarHandle" ∧ (parseMethodDescriptor m_T_isDigit.desc).map (fun d => d.parameters.length) = some 2 := ⟨by decide +kernel, by decide +kernel, by decide +kernel⟩
def m_T_digitsEnd : MethodName := ⟨"WhoseGlass$HouseText", "digitsEnd", "(LWhoseGlass$Shelf;I)I"⟩
abbrev ws_T_digitsEnd : List Cond := yWs m_T_digitsEnd prog_5_method_6_code 4 (some .int)
theorem hn_T_digitsEnd : m_T_digitsEnd.cls ≠ "java/lang/invoke/MethodHandle" ∧ m_T_digitsEnd.cls ≠ "java/lang/invoke/VarHandle" ∧ (parseMethodDescriptor m_T_digitsEnd.desc).map (fun d => d.parameters.length) = some 2 := ⟨by decide +kernel, by decide +kernel, by decide +kernel⟩
def m_T_leastDigits : MethodName := ⟨"WhoseGlass$HouseText", "leastDigits", "(I)I"⟩
abbrev ws_T_leastDigits : List Cond := yWs m_T_leastDigits prog_5_method_9_code 1 (some .int)
theorem hn_T_leastDigits : m_T_leastDigits.cls ≠ "java/lang/invoke/MethodHandle" ∧ m_T_leastDigits.cls ≠ "java/lang/invoke/VarHandle" ∧ (parseMethodDescriptor m_T_leastDigits.desc).map (fun d => d.parameters.length) = some 1 := ⟨by decide +kernel, by decide +kernel, by decide +kernel⟩
def m_T_isAt : MethodName := ⟨"WhoseGlass$HouseText", "isAt", "(LWhoseGlass$Shelf;IC)Z"⟩
abbrev ws_T_isAt : List Cond := yWs m_T_isAt prog_5_method_7_code 3 (some .boolean)
theorem hn_T_isAt : m_T_isAt.cls ≠ "java/lang/invoke/MethodHandle" ∧ m_T_isAt.cls ≠ "java/lang/invoke/VarHandle" ∧ (parseMethodDescriptor m_T_isAt.desc).map (fun d => d.parameters.length) = some 3 := ⟨by decide +kernel, by decide +kernel, by decide +kernel⟩
def m_T_isWhole : MethodName := ⟨"WhoseGlass$HouseText", "isWhole", "(LWhoseGlass$Shelf;II)Z"⟩
abbrev ws_T_isWhole : List Cond := yWs m_T_isWhole prog_5_method_3_code 3 (some .boolean)
theorem hn_T_isWhole : m_T_isWhole.cls ≠ "java/lang/invoke/MethodHandle" ∧ m_T_isWhole.cls ≠ "java/lang/invoke/VarHandle" ∧ (parseMethodDescriptor m_T_isWhole.desc).map (fun d => d.parameters.length) = some 3 := ⟨by decide +kernel, by decide +kernel, by decide +kernel⟩
def m_T_breakIn : MethodName := ⟨"WhoseGlass$HouseText", "breakIn", "(LWhoseGlass$Shelf;)I"⟩
abbrev ws_T_breakIn : List Cond := yWs m_T_breakIn prog_5_method_2_code 4 (some .int)
theorem hn_T_breakIn : m_T_breakIn.cls ≠ "java/lang/invoke/MethodHandle" ∧ m_T_breakIn.cls ≠ "java/lang/invoke/VarHandle" ∧ (parseMethodDescriptor m_T_breakIn.desc).map (fun d => d.parameters.length) = some 1 := ⟨by decide +kernel, by decide +kernel, by decide +kernel⟩
def m_H_glassAt : MethodName := ⟨"WhoseGlass$House", "glassAt", "(I)LWhoseGlass$Glass;"⟩
abbrev ws_H_glassAt : List Cond := yWs m_H_glassAt prog_4_method_3_code 2 (some (.object "WhoseGlass$Glass"))
theorem hd_H_glassAt : m_H_glassAt.cls = yR2 ∧ m_H_glassAt.cls ≠ "java/lang/invoke/MethodHandle" ∧ m_H_glassAt.cls ≠ "java/lang/invoke/VarHandle" ∧ (parseMethodDescriptor m_H_glassAt.desc).map (fun d => d.parameters.length) = some 1 := ⟨rfl, by decide +kernel, by decide +kernel, by decide +kernel⟩
def m_G_become : MethodName := ⟨"WhoseGlass$Glass", "become", "(LWhoseGlass$Glass;)V"⟩
abbrev ws_G_become : List Cond := yWs m_G_become prog_2_method_3_code 2 none
theorem hd_G_become : m_G_become.cls = yR0 ∧ m_G_become.cls ≠ "java/lang/invoke/MethodHandle" ∧ m_G_become.cls ≠ "java/lang/invoke/VarHandle" ∧ (parseMethodDescriptor m_G_become.desc).map (fun d => d.parameters.length) = some 1 := ⟨rfl, by decide +kernel, by decide +kernel, by decide +kernel⟩
def m_H_guestAt : MethodName := ⟨"WhoseGlass$House", "guestAt", "(I)LWhoseGlass$Guest;"⟩
abbrev ws_H_guestAt : List Cond := yWs m_H_guestAt prog_4_method_4_code 2 (some (.object "WhoseGlass$Guest"))
theorem hd_H_guestAt : m_H_guestAt.cls = yR2 ∧ m_H_guestAt.cls ≠ "java/lang/invoke/MethodHandle" ∧ m_H_guestAt.cls ≠ "java/lang/invoke/VarHandle" ∧ (parseMethodDescriptor m_H_guestAt.desc).map (fun d => d.parameters.length) = some 1 := ⟨rfl, by decide +kernel, by decide +kernel, by decide +kernel⟩
def m_U_become : MethodName := ⟨"WhoseGlass$Guest", "become", "(LWhoseGlass$Guest;)V"⟩
abbrev ws_U_become : List Cond := yWs m_U_become prog_3_method_3_code 2 none
theorem hd_U_become : m_U_become.cls = yR1 ∧ m_U_become.cls ≠ "java/lang/invoke/MethodHandle" ∧ m_U_become.cls ≠ "java/lang/invoke/VarHandle" ∧ (parseMethodDescriptor m_U_become.desc).map (fun d => d.parameters.length) = some 1 := ⟨rfl, by decide +kernel, by decide +kernel, by decide +kernel⟩
def m_H_become : MethodName := ⟨"WhoseGlass$House", "become", "(LWhoseGlass$House;)V"⟩
abbrev ws_H_become : List Cond := yWs m_H_become prog_4_method_2_code 5 none
theorem hd_H_become : m_H_become.cls = yR2 ∧ m_H_become.cls ≠ "java/lang/invoke/MethodHandle" ∧ m_H_become.cls ≠ "java/lang/invoke/VarHandle" ∧ (parseMethodDescriptor m_H_become.desc).map (fun d => d.parameters.length) = some 1 := ⟨rfl, by decide +kernel, by decide +kernel, by decide +kernel⟩
def m_X_isMultiple : MethodName := ⟨"WhoseGlass", "isMultiple", "(II)Z"⟩
abbrev ws_X_isMultiple : List Cond := yWs m_X_isMultiple prog_1_method_44_code 2 (some .boolean)
theorem hn_X_isMultiple : m_X_isMultiple.cls ≠ "java/lang/invoke/MethodHandle" ∧ m_X_isMultiple.cls ≠ "java/lang/invoke/VarHandle" ∧ (parseMethodDescriptor m_X_isMultiple.desc).map (fun d => d.parameters.length) = some 2 := ⟨by decide +kernel, by decide +kernel, by decide +kernel⟩
def m_H_placeBehind : MethodName := ⟨"WhoseGlass$House", "placeBehind", "(I)I"⟩
abbrev ws_H_placeBehind : List Cond := yWs m_H_placeBehind prog_4_method_9_code 3 (some .int)
theorem hd_H_placeBehind : m_H_placeBehind.cls = yR2 ∧ m_H_placeBehind.cls ≠ "java/lang/invoke/MethodHandle" ∧ m_H_placeBehind.cls ≠ "java/lang/invoke/VarHandle" ∧ (parseMethodDescriptor m_H_placeBehind.desc).map (fun d => d.parameters.length) = some 1 := ⟨rfl, by decide +kernel, by decide +kernel, by decide +kernel⟩
def m_G_likeTo : MethodName := ⟨"WhoseGlass$Glass", "likeTo", "(LWhoseGlass$Glass;)I"⟩
abbrev ws_G_likeTo : List Cond := yWs m_G_likeTo prog_2_method_8_code 9 (some .int)
theorem hd_G_likeTo : m_G_likeTo.cls = yR0 ∧ m_G_likeTo.cls ≠ "java/lang/invoke/MethodHandle" ∧ m_G_likeTo.cls ≠ "java/lang/invoke/VarHandle" ∧ (parseMethodDescriptor m_G_likeTo.desc).map (fun d => d.parameters.length) = some 1 := ⟨rfl, by decide +kernel, by decide +kernel, by decide +kernel⟩
def m_H_choiceOf : MethodName := ⟨"WhoseGlass$House", "choiceOf", "(LWhoseGlass$Guest;)I"⟩
abbrev ws_H_choiceOf : List Cond := yWs m_H_choiceOf prog_4_method_12_code 9 (some .int)
theorem hd_H_choiceOf : m_H_choiceOf.cls = yR2 ∧ m_H_choiceOf.cls ≠ "java/lang/invoke/MethodHandle" ∧ m_H_choiceOf.cls ≠ "java/lang/invoke/VarHandle" ∧ (parseMethodDescriptor m_H_choiceOf.desc).map (fun d => d.parameters.length) = some 1 := ⟨rfl, by decide +kernel, by decide +kernel, by decide +kernel⟩
def m_U_hold : MethodName := ⟨"WhoseGlass$Guest", "hold", "(LWhoseGlass$Glass;)V"⟩
abbrev ws_U_hold : List Cond := yWs m_U_hold prog_3_method_5_code 2 none
theorem hd_U_hold : m_U_hold.cls = yR1 ∧ m_U_hold.cls ≠ "java/lang/invoke/MethodHandle" ∧ m_U_hold.cls ≠ "java/lang/invoke/VarHandle" ∧ (parseMethodDescriptor m_U_hold.desc).map (fun d => d.parameters.length) = some 1 := ⟨rfl, by decide +kernel, by decide +kernel, by decide +kernel⟩
def m_G_begin : MethodName := ⟨"WhoseGlass$Glass", "begin", "(III)V"⟩
abbrev ws_G_begin : List Cond := yWs m_G_begin prog_2_method_2_code 4 none
theorem hd_G_begin : m_G_begin.cls = yR0 ∧ m_G_begin.cls ≠ "java/lang/invoke/MethodHandle" ∧ m_G_begin.cls ≠ "java/lang/invoke/VarHandle" ∧ (parseMethodDescriptor m_G_begin.desc).map (fun d => d.parameters.length) = some 3 := ⟨rfl, by decide +kernel, by decide +kernel, by decide +kernel⟩
def m_H_addGlass : MethodName := ⟨"WhoseGlass$House", "addGlass", "(III)LWhoseGlass$Glass;"⟩
abbrev ws_H_addGlass : List Cond := yWs m_H_addGlass prog_4_method_5_code 5 (some (.object "WhoseGlass$Glass"))
theorem hd_H_addGlass : m_H_addGlass.cls = yR2 ∧ m_H_addGlass.cls ≠ "java/lang/invoke/MethodHandle" ∧ m_H_addGlass.cls ≠ "java/lang/invoke/VarHandle" ∧ (parseMethodDescriptor m_H_addGlass.desc).map (fun d => d.parameters.length) = some 3 := ⟨rfl, by decide +kernel, by decide +kernel, by decide +kernel⟩
def m_H_takeUp : MethodName := ⟨"WhoseGlass$House", "takeUp", "(LWhoseGlass$Guest;)I"⟩
abbrev ws_H_takeUp : List Cond := yWs m_H_takeUp prog_4_method_11_code 4 (some .int)
theorem hd_H_takeUp : m_H_takeUp.cls = yR2 ∧ m_H_takeUp.cls ≠ "java/lang/invoke/MethodHandle" ∧ m_H_takeUp.cls ≠ "java/lang/invoke/VarHandle" ∧ (parseMethodDescriptor m_H_takeUp.desc).map (fun d => d.parameters.length) = some 1 := ⟨rfl, by decide +kernel, by decide +kernel, by decide +kernel⟩
def m_G_strength : MethodName := ⟨"WhoseGlass$Glass", "strength", "()I"⟩
abbrev ws_G_strength : List Cond := yWs m_G_strength prog_2_method_9_code 1 (some .int)
theorem hd_G_strength : m_G_strength.cls = yR0 ∧ m_G_strength.cls ≠ "java/lang/invoke/MethodHandle" ∧ m_G_strength.cls ≠ "java/lang/invoke/VarHandle" ∧ (parseMethodDescriptor m_G_strength.desc).map (fun d => d.parameters.length) = some 0 := ⟨rfl, by decide +kernel, by decide +kernel, by decide +kernel⟩
def m_U_sipFrom : MethodName := ⟨"WhoseGlass$Guest", "sipFrom", "(LWhoseGlass$Glass;)I"⟩
abbrev ws_U_sipFrom : List Cond := yWs m_U_sipFrom prog_3_method_6_code 3 (some .int)
theorem hd_U_sipFrom : m_U_sipFrom.cls = yR1 ∧ m_U_sipFrom.cls ≠ "java/lang/invoke/MethodHandle" ∧ m_U_sipFrom.cls ≠ "java/lang/invoke/VarHandle" ∧ (parseMethodDescriptor m_U_sipFrom.desc).map (fun d => d.parameters.length) = some 1 := ⟨rfl, by decide +kernel, by decide +kernel, by decide +kernel⟩
def m_G_layAt : MethodName := ⟨"WhoseGlass$Glass", "layAt", "(II)V"⟩
abbrev ws_G_layAt : List Cond := yWs m_G_layAt prog_2_method_4_code 3 none
theorem hd_G_layAt : m_G_layAt.cls = yR0 ∧ m_G_layAt.cls ≠ "java/lang/invoke/MethodHandle" ∧ m_G_layAt.cls ≠ "java/lang/invoke/VarHandle" ∧ (parseMethodDescriptor m_G_layAt.desc).map (fun d => d.parameters.length) = some 2 := ⟨rfl, by decide +kernel, by decide +kernel, by decide +kernel⟩
def m_H_layDown : MethodName := ⟨"WhoseGlass$House", "layDown", "(LWhoseGlass$Guest;LWhoseGlass$Glass;)V"⟩
abbrev ws_H_layDown : List Cond := yWs m_H_layDown prog_4_method_10_code 3 none
theorem hd_H_layDown : m_H_layDown.cls = yR2 ∧ m_H_layDown.cls ≠ "java/lang/invoke/MethodHandle" ∧ m_H_layDown.cls ≠ "java/lang/invoke/VarHandle" ∧ (parseMethodDescriptor m_H_layDown.desc).map (fun d => d.parameters.length) = some 2 := ⟨rfl, by decide +kernel, by decide +kernel, by decide +kernel⟩
def m_H_liveMinute : MethodName := ⟨"WhoseGlass$House", "liveMinute", "(LWhoseGlass$Guest;)V"⟩
abbrev ws_H_liveMinute : List Cond := yWs m_H_liveMinute prog_4_method_8_code 3 none
theorem hd_H_liveMinute : m_H_liveMinute.cls = yR2 ∧ m_H_liveMinute.cls ≠ "java/lang/invoke/MethodHandle" ∧ m_H_liveMinute.cls ≠ "java/lang/invoke/VarHandle" ∧ (parseMethodDescriptor m_H_liveMinute.desc).map (fun d => d.parameters.length) = some 1 := ⟨rfl, by decide +kernel, by decide +kernel, by decide +kernel⟩
def m_H_passMinutes : MethodName := ⟨"WhoseGlass$House", "passMinutes", "(I)V"⟩
abbrev ws_H_passMinutes : List Cond := yWs m_H_passMinutes prog_4_method_7_code 5 none
theorem hd_H_passMinutes : m_H_passMinutes.cls = yR2 ∧ m_H_passMinutes.cls ≠ "java/lang/invoke/MethodHandle" ∧ m_H_passMinutes.cls ≠ "java/lang/invoke/VarHandle" ∧ (parseMethodDescriptor m_H_passMinutes.desc).map (fun d => d.parameters.length) = some 1 := ⟨rfl, by decide +kernel, by decide +kernel, by decide +kernel⟩
def m_T_digit : MethodName := ⟨"WhoseGlass$HouseText", "digit", "(LWhoseGlass$Shelf;I)I"⟩
abbrev ws_T_digit : List Cond := yWs m_T_digit prog_5_method_11_code 2 (some .int)
theorem hn_T_digit : m_T_digit.cls ≠ "java/lang/invoke/MethodHandle" ∧ m_T_digit.cls ≠ "java/lang/invoke/VarHandle" ∧ (parseMethodDescriptor m_T_digit.desc).map (fun d => d.parameters.length) = some 2 := ⟨by decide +kernel, by decide +kernel, by decide +kernel⟩
def m_X_isBelow : MethodName := ⟨"WhoseGlass", "isBelow", "(II)Z"⟩
abbrev ws_X_isBelow : List Cond := yWs m_X_isBelow prog_1_method_42_code 2 (some .boolean)
theorem hn_X_isBelow : m_X_isBelow.cls ≠ "java/lang/invoke/MethodHandle" ∧ m_X_isBelow.cls ≠ "java/lang/invoke/VarHandle" ∧ (parseMethodDescriptor m_X_isBelow.desc).map (fun d => d.parameters.length) = some 2 := ⟨by decide +kernel, by decide +kernel, by decide +kernel⟩
def m_T_glassStands : MethodName := ⟨"WhoseGlass$HouseText", "glassStands", "(LWhoseGlass$Shelf;ILWhoseGlass$House;)Z"⟩
abbrev ws_T_glassStands : List Cond := yWs m_T_glassStands prog_5_method_13_code 6 (some .boolean)
theorem hn_T_glassStands : m_T_glassStands.cls ≠ "java/lang/invoke/MethodHandle" ∧ m_T_glassStands.cls ≠ "java/lang/invoke/VarHandle" ∧ (parseMethodDescriptor m_T_glassStands.desc).map (fun d => d.parameters.length) = some 3 := ⟨by decide +kernel, by decide +kernel, by decide +kernel⟩
def m_U_begin : MethodName := ⟨"WhoseGlass$Guest", "begin", "(IIIII)V"⟩
abbrev ws_U_begin : List Cond := yWs m_U_begin prog_3_method_2_code 6 none
theorem hd_U_begin : m_U_begin.cls = yR1 ∧ m_U_begin.cls ≠ "java/lang/invoke/MethodHandle" ∧ m_U_begin.cls ≠ "java/lang/invoke/VarHandle" ∧ (parseMethodDescriptor m_U_begin.desc).map (fun d => d.parameters.length) = some 5 := ⟨rfl, by decide +kernel, by decide +kernel, by decide +kernel⟩
def m_H_addGuest : MethodName := ⟨"WhoseGlass$House", "addGuest", "(IIIII)LWhoseGlass$Guest;"⟩
abbrev ws_H_addGuest : List Cond := yWs m_H_addGuest prog_4_method_6_code 7 (some (.object "WhoseGlass$Guest"))
theorem hd_H_addGuest : m_H_addGuest.cls = yR2 ∧ m_H_addGuest.cls ≠ "java/lang/invoke/MethodHandle" ∧ m_H_addGuest.cls ≠ "java/lang/invoke/VarHandle" ∧ (parseMethodDescriptor m_H_addGuest.desc).map (fun d => d.parameters.length) = some 5 := ⟨rfl, by decide +kernel, by decide +kernel, by decide +kernel⟩
def m_T_guestEnters : MethodName := ⟨"WhoseGlass$HouseText", "guestEnters", "(LWhoseGlass$Shelf;ILWhoseGlass$House;)Z"⟩
abbrev ws_T_guestEnters : List Cond := yWs m_T_guestEnters prog_5_method_14_code 8 (some .boolean)
theorem hn_T_guestEnters : m_T_guestEnters.cls ≠ "java/lang/invoke/MethodHandle" ∧ m_T_guestEnters.cls ≠ "java/lang/invoke/VarHandle" ∧ (parseMethodDescriptor m_T_guestEnters.desc).map (fun d => d.parameters.length) = some 3 := ⟨by decide +kernel, by decide +kernel, by decide +kernel⟩
def m_G_isLaid : MethodName := ⟨"WhoseGlass$Glass", "isLaid", "()Z"⟩
abbrev ws_G_isLaid : List Cond := yWs m_G_isLaid prog_2_method_6_code 1 (some .boolean)
theorem hd_G_isLaid : m_G_isLaid.cls = yR0 ∧ m_G_isLaid.cls ≠ "java/lang/invoke/MethodHandle" ∧ m_G_isLaid.cls ≠ "java/lang/invoke/VarHandle" ∧ (parseMethodDescriptor m_G_isLaid.desc).map (fun d => d.parameters.length) = some 0 := ⟨rfl, by decide +kernel, by decide +kernel, by decide +kernel⟩
def m_T_guestHolds : MethodName := ⟨"WhoseGlass$HouseText", "guestHolds", "(LWhoseGlass$Shelf;ILWhoseGlass$House;)Z"⟩
abbrev ws_T_guestHolds : List Cond := yWs m_T_guestHolds prog_5_method_15_code 5 (some .boolean)
theorem hn_T_guestHolds : m_T_guestHolds.cls ≠ "java/lang/invoke/MethodHandle" ∧ m_T_guestHolds.cls ≠ "java/lang/invoke/VarHandle" ∧ (parseMethodDescriptor m_T_guestHolds.desc).map (fun d => d.parameters.length) = some 3 := ⟨by decide +kernel, by decide +kernel, by decide +kernel⟩
def m_T_coldTurns : MethodName := ⟨"WhoseGlass$HouseText", "coldTurns", "(LWhoseGlass$Shelf;ILWhoseGlass$House;)Z"⟩
abbrev ws_T_coldTurns : List Cond := yWs m_T_coldTurns prog_5_method_16_code 4 (some .boolean)
theorem hn_T_coldTurns : m_T_coldTurns.cls ≠ "java/lang/invoke/MethodHandle" ∧ m_T_coldTurns.cls ≠ "java/lang/invoke/VarHandle" ∧ (parseMethodDescriptor m_T_coldTurns.desc).map (fun d => d.parameters.length) = some 3 := ⟨by decide +kernel, by decide +kernel, by decide +kernel⟩
def m_T_setTray : MethodName := ⟨"WhoseGlass$HouseText", "setTray", "(LWhoseGlass$Shelf;ILWhoseGlass$House;)V"⟩
abbrev ws_T_setTray : List Cond := yWs m_T_setTray prog_5_method_17_code 5 none
theorem hn_T_setTray : m_T_setTray.cls ≠ "java/lang/invoke/MethodHandle" ∧ m_T_setTray.cls ≠ "java/lang/invoke/VarHandle" ∧ (parseMethodDescriptor m_T_setTray.desc).map (fun d => d.parameters.length) = some 3 := ⟨by decide +kernel, by decide +kernel, by decide +kernel⟩
def m_T_obeys : MethodName := ⟨"WhoseGlass$HouseText", "obeys", "(LWhoseGlass$House;LWhoseGlass$Shelf;I)Z"⟩
abbrev ws_T_obeys : List Cond := yWs m_T_obeys prog_5_method_12_code 3 (some .boolean)
theorem hn_T_obeys : m_T_obeys.cls ≠ "java/lang/invoke/MethodHandle" ∧ m_T_obeys.cls ≠ "java/lang/invoke/VarHandle" ∧ (parseMethodDescriptor m_T_obeys.desc).map (fun d => d.parameters.length) = some 3 := ⟨by decide +kernel, by decide +kernel, by decide +kernel⟩
def m_T_build : MethodName := ⟨"WhoseGlass$HouseText", "build", "(LWhoseGlass$Shelf;LWhoseGlass$House;)I"⟩
abbrev ws_T_build : List Cond := yWs m_T_build prog_5_method_4_code 4 (some .int)
theorem hn_T_build : m_T_build.cls ≠ "java/lang/invoke/MethodHandle" ∧ m_T_build.cls ≠ "java/lang/invoke/VarHandle" ∧ (parseMethodDescriptor m_T_build.desc).map (fun d => d.parameters.length) = some 2 := ⟨by decide +kernel, by decide +kernel, by decide +kernel⟩
def m_T_statementsIn : MethodName := ⟨"WhoseGlass$HouseText", "statementsIn", "(LWhoseGlass$Shelf;)I"⟩
abbrev ws_T_statementsIn : List Cond := yWs m_T_statementsIn prog_5_method_5_code 3 (some .int)
theorem hn_T_statementsIn : m_T_statementsIn.cls ≠ "java/lang/invoke/MethodHandle" ∧ m_T_statementsIn.cls ≠ "java/lang/invoke/VarHandle" ∧ (parseMethodDescriptor m_T_statementsIn.desc).map (fun d => d.parameters.length) = some 1 := ⟨by decide +kernel, by decide +kernel, by decide +kernel⟩
def m_X_house : MethodName := ⟨"WhoseGlass", "house", "(I)I"⟩
abbrev ws_X_house : List Cond := yWs m_X_house prog_1_method_2_code 5 (some .int)
theorem hd_X_house : m_X_house.cls = yR4 ∧ m_X_house.cls ≠ "java/lang/invoke/MethodHandle" ∧ m_X_house.cls ≠ "java/lang/invoke/VarHandle" ∧ (parseMethodDescriptor m_X_house.desc).map (fun d => d.parameters.length) = some 1 := ⟨rfl, by decide +kernel, by decide +kernel, by decide +kernel⟩
def m_G_told : MethodName := ⟨"WhoseGlass$Glass", "told", "(I)I"⟩
abbrev ws_G_told : List Cond := yWs m_G_told prog_2_method_7_code 2 (some .int)
theorem hd_G_told : m_G_told.cls = yR0 ∧ m_G_told.cls ≠ "java/lang/invoke/MethodHandle" ∧ m_G_told.cls ≠ "java/lang/invoke/VarHandle" ∧ (parseMethodDescriptor m_G_told.desc).map (fun d => d.parameters.length) = some 1 := ⟨rfl, by decide +kernel, by decide +kernel, by decide +kernel⟩
def m_X_glass : MethodName := ⟨"WhoseGlass", "glass", "(II)I"⟩
abbrev ws_X_glass : List Cond := yWs m_X_glass prog_1_method_3_code 4 (some .int)
theorem hd_X_glass : m_X_glass.cls = yR4 ∧ m_X_glass.cls ≠ "java/lang/invoke/MethodHandle" ∧ m_X_glass.cls ≠ "java/lang/invoke/VarHandle" ∧ (parseMethodDescriptor m_X_glass.desc).map (fun d => d.parameters.length) = some 2 := ⟨rfl, by decide +kernel, by decide +kernel, by decide +kernel⟩
def m_U_told : MethodName := ⟨"WhoseGlass$Guest", "told", "(I)I"⟩
abbrev ws_U_told : List Cond := yWs m_U_told prog_3_method_4_code 2 (some .int)
theorem hd_U_told : m_U_told.cls = yR1 ∧ m_U_told.cls ≠ "java/lang/invoke/MethodHandle" ∧ m_U_told.cls ≠ "java/lang/invoke/VarHandle" ∧ (parseMethodDescriptor m_U_told.desc).map (fun d => d.parameters.length) = some 1 := ⟨rfl, by decide +kernel, by decide +kernel, by decide +kernel⟩
def m_X_guest : MethodName := ⟨"WhoseGlass", "guest", "(II)I"⟩
abbrev ws_X_guest : List Cond := yWs m_X_guest prog_1_method_4_code 4 (some .int)
theorem hd_X_guest : m_X_guest.cls = yR4 ∧ m_X_guest.cls ≠ "java/lang/invoke/MethodHandle" ∧ m_X_guest.cls ≠ "java/lang/invoke/VarHandle" ∧ (parseMethodDescriptor m_X_guest.desc).map (fun d => d.parameters.length) = some 2 := ⟨rfl, by decide +kernel, by decide +kernel, by decide +kernel⟩
def m_X_comes : MethodName := ⟨"WhoseGlass", "comes", "(II)I"⟩
abbrev ws_X_comes : List Cond := yWs m_X_comes prog_1_method_5_code 5 (some .int)
theorem hd_X_comes : m_X_comes.cls = yR4 ∧ m_X_comes.cls ≠ "java/lang/invoke/MethodHandle" ∧ m_X_comes.cls ≠ "java/lang/invoke/VarHandle" ∧ (parseMethodDescriptor m_X_comes.desc).map (fun d => d.parameters.length) = some 2 := ⟨rfl, by decide +kernel, by decide +kernel, by decide +kernel⟩
def m_X_go : MethodName := ⟨"WhoseGlass", "go", "(II)I"⟩
abbrev ws_X_go : List Cond := yWs m_X_go prog_1_method_6_code 5 (some .int)
theorem hd_X_go : m_X_go.cls = yR4 ∧ m_X_go.cls ≠ "java/lang/invoke/MethodHandle" ∧ m_X_go.cls ≠ "java/lang/invoke/VarHandle" ∧ (parseMethodDescriptor m_X_go.desc).map (fun d => d.parameters.length) = some 2 := ⟨rfl, by decide +kernel, by decide +kernel, by decide +kernel⟩
def m_X_sip : MethodName := ⟨"WhoseGlass", "sip", "(I)I"⟩
abbrev ws_X_sip : List Cond := yWs m_X_sip prog_1_method_7_code 4 (some .int)
theorem hd_X_sip : m_X_sip.cls = yR4 ∧ m_X_sip.cls ≠ "java/lang/invoke/MethodHandle" ∧ m_X_sip.cls ≠ "java/lang/invoke/VarHandle" ∧ (parseMethodDescriptor m_X_sip.desc).map (fun d => d.parameters.length) = some 1 := ⟨rfl, by decide +kernel, by decide +kernel, by decide +kernel⟩
def m_X_lay : MethodName := ⟨"WhoseGlass", "lay", "(I)I"⟩
abbrev ws_X_lay : List Cond := yWs m_X_lay prog_1_method_8_code 4 (some .int)
theorem hd_X_lay : m_X_lay.cls = yR4 ∧ m_X_lay.cls ≠ "java/lang/invoke/MethodHandle" ∧ m_X_lay.cls ≠ "java/lang/invoke/VarHandle" ∧ (parseMethodDescriptor m_X_lay.desc).map (fun d => d.parameters.length) = some 1 := ⟨rfl, by decide +kernel, by decide +kernel, by decide +kernel⟩
def m_X_take : MethodName := ⟨"WhoseGlass", "take", "(I)I"⟩
abbrev ws_X_take : List Cond := yWs m_X_take prog_1_method_9_code 3 (some .int)
theorem hd_X_take : m_X_take.cls = yR4 ∧ m_X_take.cls ≠ "java/lang/invoke/MethodHandle" ∧ m_X_take.cls ≠ "java/lang/invoke/VarHandle" ∧ (parseMethodDescriptor m_X_take.desc).map (fun d => d.parameters.length) = some 1 := ⟨rfl, by decide +kernel, by decide +kernel, by decide +kernel⟩
def m_X_fill : MethodName := ⟨"WhoseGlass", "fill", "(I)I"⟩
abbrev ws_X_fill : List Cond := yWs m_X_fill prog_1_method_10_code 5 (some .int)
theorem hd_X_fill : m_X_fill.cls = yR4 ∧ m_X_fill.cls ≠ "java/lang/invoke/MethodHandle" ∧ m_X_fill.cls ≠ "java/lang/invoke/VarHandle" ∧ (parseMethodDescriptor m_X_fill.desc).map (fun d => d.parameters.length) = some 1 := ⟨rfl, by decide +kernel, by decide +kernel, by decide +kernel⟩
def m_G_sink : MethodName := ⟨"WhoseGlass$Glass", "sink", "()V"⟩
abbrev ws_G_sink : List Cond := yWs m_G_sink prog_2_method_5_code 1 none
theorem hd_G_sink : m_G_sink.cls = yR0 ∧ m_G_sink.cls ≠ "java/lang/invoke/MethodHandle" ∧ m_G_sink.cls ≠ "java/lang/invoke/VarHandle" ∧ (parseMethodDescriptor m_G_sink.desc).map (fun d => d.parameters.length) = some 0 := ⟨rfl, by decide +kernel, by decide +kernel, by decide +kernel⟩
def m_X_clear : MethodName := ⟨"WhoseGlass", "clear", "(II)I"⟩
abbrev ws_X_clear : List Cond := yWs m_X_clear prog_1_method_11_code 6 (some .int)
theorem hd_X_clear : m_X_clear.cls = yR4 ∧ m_X_clear.cls ≠ "java/lang/invoke/MethodHandle" ∧ m_X_clear.cls ≠ "java/lang/invoke/VarHandle" ∧ (parseMethodDescriptor m_X_clear.desc).map (fun d => d.parameters.length) = some 2 := ⟨rfl, by decide +kernel, by decide +kernel, by decide +kernel⟩
def m_X_minutes : MethodName := ⟨"WhoseGlass", "minutes", "(I)I"⟩
abbrev ws_X_minutes : List Cond := yWs m_X_minutes prog_1_method_12_code 2 (some .int)
theorem hd_X_minutes : m_X_minutes.cls = yR4 ∧ m_X_minutes.cls ≠ "java/lang/invoke/MethodHandle" ∧ m_X_minutes.cls ≠ "java/lang/invoke/VarHandle" ∧ (parseMethodDescriptor m_X_minutes.desc).map (fun d => d.parameters.length) = some 1 := ⟨rfl, by decide +kernel, by decide +kernel, by decide +kernel⟩
def m_X_like : MethodName := ⟨"WhoseGlass", "like", "(II)I"⟩
abbrev ws_X_like : List Cond := yWs m_X_like prog_1_method_13_code 5 (some .int)
theorem hd_X_like : m_X_like.cls = yR4 ∧ m_X_like.cls ≠ "java/lang/invoke/MethodHandle" ∧ m_X_like.cls ≠ "java/lang/invoke/VarHandle" ∧ (parseMethodDescriptor m_X_like.desc).map (fun d => d.parameters.length) = some 2 := ⟨rfl, by decide +kernel, by decide +kernel, by decide +kernel⟩
def m_X_mine : MethodName := ⟨"WhoseGlass", "mine", "(I)I"⟩
abbrev ws_X_mine : List Cond := yWs m_X_mine prog_1_method_14_code 3 (some .int)
theorem hd_X_mine : m_X_mine.cls = yR4 ∧ m_X_mine.cls ≠ "java/lang/invoke/MethodHandle" ∧ m_X_mine.cls ≠ "java/lang/invoke/VarHandle" ∧ (parseMethodDescriptor m_X_mine.desc).map (fun d => d.parameters.length) = some 1 := ⟨rfl, by decide +kernel, by decide +kernel, by decide +kernel⟩
def m_H_likeToAllAt : MethodName := ⟨"WhoseGlass$House", "likeToAllAt", "(LWhoseGlass$Glass;I)I"⟩
abbrev ws_H_likeToAllAt : List Cond := yWs m_H_likeToAllAt prog_4_method_13_code 6 (some .int)
theorem hd_H_likeToAllAt : m_H_likeToAllAt.cls = yR2 ∧ m_H_likeToAllAt.cls ≠ "java/lang/invoke/MethodHandle" ∧ m_H_likeToAllAt.cls ≠ "java/lang/invoke/VarHandle" ∧ (parseMethodDescriptor m_H_likeToAllAt.desc).map (fun d => d.parameters.length) = some 2 := ⟨rfl, by decide +kernel, by decide +kernel, by decide +kernel⟩
def m_X_reduced : MethodName := ⟨"WhoseGlass", "reduced", "(II)I"⟩
abbrev ws_X_reduced : List Cond := yWs m_X_reduced prog_1_method_45_code 3 (some .int)
theorem hn_X_reduced : m_X_reduced.cls ≠ "java/lang/invoke/MethodHandle" ∧ m_X_reduced.cls ≠ "java/lang/invoke/VarHandle" ∧ (parseMethodDescriptor m_X_reduced.desc).map (fun d => d.parameters.length) = some 2 := ⟨by decide +kernel, by decide +kernel, by decide +kernel⟩
def m_X_likely : MethodName := ⟨"WhoseGlass", "likely", "(III)I"⟩
abbrev ws_X_likely : List Cond := yWs m_X_likely prog_1_method_15_code 9 (some .int)
theorem hd_X_likely : m_X_likely.cls = yR4 ∧ m_X_likely.cls ≠ "java/lang/invoke/MethodHandle" ∧ m_X_likely.cls ≠ "java/lang/invoke/VarHandle" ∧ (parseMethodDescriptor m_X_likely.desc).map (fun d => d.parameters.length) = some 3 := ⟨rfl, by decide +kernel, by decide +kernel, by decide +kernel⟩
def m_H_isOwned : MethodName := ⟨"WhoseGlass$House", "isOwned", "(I)Z"⟩
abbrev ws_H_isOwned : List Cond := yWs m_H_isOwned prog_4_method_15_code 4 (some .boolean)
theorem hd_H_isOwned : m_H_isOwned.cls = yR2 ∧ m_H_isOwned.cls ≠ "java/lang/invoke/MethodHandle" ∧ m_H_isOwned.cls ≠ "java/lang/invoke/VarHandle" ∧ (parseMethodDescriptor m_H_isOwned.desc).map (fun d => d.parameters.length) = some 1 := ⟨rfl, by decide +kernel, by decide +kernel, by decide +kernel⟩
def m_H_idleAt : MethodName := ⟨"WhoseGlass$House", "idleAt", "(I)I"⟩
abbrev ws_H_idleAt : List Cond := yWs m_H_idleAt prog_4_method_14_code 5 (some .int)
theorem hd_H_idleAt : m_H_idleAt.cls = yR2 ∧ m_H_idleAt.cls ≠ "java/lang/invoke/MethodHandle" ∧ m_H_idleAt.cls ≠ "java/lang/invoke/VarHandle" ∧ (parseMethodDescriptor m_H_idleAt.desc).map (fun d => d.parameters.length) = some 1 := ⟨rfl, by decide +kernel, by decide +kernel, by decide +kernel⟩
def m_X_idle : MethodName := ⟨"WhoseGlass", "idle", "(I)I"⟩
abbrev ws_X_idle : List Cond := yWs m_X_idle prog_1_method_16_code 2 (some .int)
theorem hd_X_idle : m_X_idle.cls = yR4 ∧ m_X_idle.cls ≠ "java/lang/invoke/MethodHandle" ∧ m_X_idle.cls ≠ "java/lang/invoke/VarHandle" ∧ (parseMethodDescriptor m_X_idle.desc).map (fun d => d.parameters.length) = some 1 := ⟨rfl, by decide +kernel, by decide +kernel, by decide +kernel⟩
def m_H_oldestAt : MethodName := ⟨"WhoseGlass$House", "oldestAt", "(I)I"⟩
abbrev ws_H_oldestAt : List Cond := yWs m_H_oldestAt prog_4_method_16_code 5 (some .int)
theorem hd_H_oldestAt : m_H_oldestAt.cls = yR2 ∧ m_H_oldestAt.cls ≠ "java/lang/invoke/MethodHandle" ∧ m_H_oldestAt.cls ≠ "java/lang/invoke/VarHandle" ∧ (parseMethodDescriptor m_H_oldestAt.desc).map (fun d => d.parameters.length) = some 1 := ⟨rfl, by decide +kernel, by decide +kernel, by decide +kernel⟩
def m_X_oldest : MethodName := ⟨"WhoseGlass", "oldest", "(I)I"⟩
abbrev ws_X_oldest : List Cond := yWs m_X_oldest prog_1_method_17_code 2 (some .int)
theorem hd_X_oldest : m_X_oldest.cls = yR4 ∧ m_X_oldest.cls ≠ "java/lang/invoke/MethodHandle" ∧ m_X_oldest.cls ≠ "java/lang/invoke/VarHandle" ∧ (parseMethodDescriptor m_X_oldest.desc).map (fun d => d.parameters.length) = some 1 := ⟨rfl, by decide +kernel, by decide +kernel, by decide +kernel⟩
def m_X_isSpan : MethodName := ⟨"WhoseGlass", "isSpan", "(I)Z"⟩
abbrev ws_X_isSpan : List Cond := yWs m_X_isSpan prog_1_method_43_code 1 (some .boolean)
theorem hn_X_isSpan : m_X_isSpan.cls ≠ "java/lang/invoke/MethodHandle" ∧ m_X_isSpan.cls ≠ "java/lang/invoke/VarHandle" ∧ (parseMethodDescriptor m_X_isSpan.desc).map (fun d => d.parameters.length) = some 1 := ⟨by decide +kernel, by decide +kernel, by decide +kernel⟩
def m_X_ahead : MethodName := ⟨"WhoseGlass", "ahead", "(I)LWhoseGlass$House;"⟩
abbrev ws_X_ahead : List Cond := yWs m_X_ahead prog_1_method_46_code 2 (some (.object "WhoseGlass$House"))
theorem hd_X_ahead : m_X_ahead.cls = yR4 ∧ m_X_ahead.cls ≠ "java/lang/invoke/MethodHandle" ∧ m_X_ahead.cls ≠ "java/lang/invoke/VarHandle" ∧ (parseMethodDescriptor m_X_ahead.desc).map (fun d => d.parameters.length) = some 1 := ⟨rfl, by decide +kernel, by decide +kernel, by decide +kernel⟩
def m_X_mistakes : MethodName := ⟨"WhoseGlass", "mistakes", "(I)I"⟩
abbrev ws_X_mistakes : List Cond := yWs m_X_mistakes prog_1_method_18_code 2 (some .int)
theorem hd_X_mistakes : m_X_mistakes.cls = yR4 ∧ m_X_mistakes.cls ≠ "java/lang/invoke/MethodHandle" ∧ m_X_mistakes.cls ≠ "java/lang/invoke/VarHandle" ∧ (parseMethodDescriptor m_X_mistakes.desc).map (fun d => d.parameters.length) = some 1 := ⟨rfl, by decide +kernel, by decide +kernel, by decide +kernel⟩
def m_X_fresh : MethodName := ⟨"WhoseGlass", "fresh", "(I)I"⟩
abbrev ws_X_fresh : List Cond := yWs m_X_fresh prog_1_method_19_code 2 (some .int)
theorem hd_X_fresh : m_X_fresh.cls = yR4 ∧ m_X_fresh.cls ≠ "java/lang/invoke/MethodHandle" ∧ m_X_fresh.cls ≠ "java/lang/invoke/VarHandle" ∧ (parseMethodDescriptor m_X_fresh.desc).map (fun d => d.parameters.length) = some 1 := ⟨rfl, by decide +kernel, by decide +kernel, by decide +kernel⟩
def m_H_coldBits : MethodName := ⟨"WhoseGlass$House", "coldBits", "()I"⟩
abbrev ws_H_coldBits : List Cond := yWs m_H_coldBits prog_4_method_17_code 4 (some .int)
theorem hd_H_coldBits : m_H_coldBits.cls = yR2 ∧ m_H_coldBits.cls ≠ "java/lang/invoke/MethodHandle" ∧ m_H_coldBits.cls ≠ "java/lang/invoke/VarHandle" ∧ (parseMethodDescriptor m_H_coldBits.desc).map (fun d => d.parameters.length) = some 0 := ⟨rfl, by decide +kernel, by decide +kernel, by decide +kernel⟩
def m_X_colds : MethodName := ⟨"WhoseGlass", "colds", "(I)I"⟩
abbrev ws_X_colds : List Cond := yWs m_X_colds prog_1_method_20_code 2 (some .int)
theorem hd_X_colds : m_X_colds.cls = yR4 ∧ m_X_colds.cls ≠ "java/lang/invoke/MethodHandle" ∧ m_X_colds.cls ≠ "java/lang/invoke/VarHandle" ∧ (parseMethodDescriptor m_X_colds.desc).map (fun d => d.parameters.length) = some 1 := ⟨rfl, by decide +kernel, by decide +kernel, by decide +kernel⟩
def m_X_had : MethodName := ⟨"WhoseGlass", "had", "(II)I"⟩
abbrev ws_X_had : List Cond := yWs m_X_had prog_1_method_21_code 4 (some .int)
theorem hd_X_had : m_X_had.cls = yR4 ∧ m_X_had.cls ≠ "java/lang/invoke/MethodHandle" ∧ m_X_had.cls ≠ "java/lang/invoke/VarHandle" ∧ (parseMethodDescriptor m_X_had.desc).map (fun d => d.parameters.length) = some 2 := ⟨rfl, by decide +kernel, by decide +kernel, by decide +kernel⟩
def m_X_where : MethodName := ⟨"WhoseGlass", "where", "(II)I"⟩
abbrev ws_X_where : List Cond := yWs m_X_where prog_1_method_22_code 4 (some .int)
theorem hd_X_where : m_X_where.cls = yR4 ∧ m_X_where.cls ≠ "java/lang/invoke/MethodHandle" ∧ m_X_where.cls ≠ "java/lang/invoke/VarHandle" ∧ (parseMethodDescriptor m_X_where.desc).map (fun d => d.parameters.length) = some 2 := ⟨rfl, by decide +kernel, by decide +kernel, by decide +kernel⟩
def m_H_leaveColdTo : MethodName := ⟨"WhoseGlass$House", "leaveColdTo", "(I)V"⟩
abbrev ws_H_leaveColdTo : List Cond := yWs m_H_leaveColdTo prog_4_method_18_code 4 none
theorem hd_H_leaveColdTo : m_H_leaveColdTo.cls = yR2 ∧ m_H_leaveColdTo.cls ≠ "java/lang/invoke/MethodHandle" ∧ m_H_leaveColdTo.cls ≠ "java/lang/invoke/VarHandle" ∧ (parseMethodDescriptor m_H_leaveColdTo.desc).map (fun d => d.parameters.length) = some 1 := ⟨rfl, by decide +kernel, by decide +kernel, by decide +kernel⟩
def m_X_coldsBroughtBy : MethodName := ⟨"WhoseGlass", "coldsBroughtBy", "(II)I"⟩
abbrev ws_X_coldsBroughtBy : List Cond := yWs m_X_coldsBroughtBy prog_1_method_47_code 3 (some .int)
theorem hd_X_coldsBroughtBy : m_X_coldsBroughtBy.cls = yR4 ∧ m_X_coldsBroughtBy.cls ≠ "java/lang/invoke/MethodHandle" ∧ m_X_coldsBroughtBy.cls ≠ "java/lang/invoke/VarHandle" ∧ (parseMethodDescriptor m_X_coldsBroughtBy.desc).map (fun d => d.parameters.length) = some 2 := ⟨rfl, by decide +kernel, by decide +kernel, by decide +kernel⟩
def m_X_brought : MethodName := ⟨"WhoseGlass", "brought", "(II)I"⟩
abbrev ws_X_brought : List Cond := yWs m_X_brought prog_1_method_23_code 5 (some .int)
theorem hd_X_brought : m_X_brought.cls = yR4 ∧ m_X_brought.cls ≠ "java/lang/invoke/MethodHandle" ∧ m_X_brought.cls ≠ "java/lang/invoke/VarHandle" ∧ (parseMethodDescriptor m_X_brought.desc).map (fun d => d.parameters.length) = some 2 := ⟨rfl, by decide +kernel, by decide +kernel, by decide +kernel⟩
def m_H_careAlike : MethodName := ⟨"WhoseGlass$House", "careAlike", "(I)V"⟩
abbrev ws_H_careAlike : List Cond := yWs m_H_careAlike prog_4_method_19_code 4 none
theorem hd_H_careAlike : m_H_careAlike.cls = yR2 ∧ m_H_careAlike.cls ≠ "java/lang/invoke/MethodHandle" ∧ m_H_careAlike.cls ≠ "java/lang/invoke/VarHandle" ∧ (parseMethodDescriptor m_H_careAlike.desc).map (fun d => d.parameters.length) = some 1 := ⟨rfl, by decide +kernel, by decide +kernel, by decide +kernel⟩
def m_X_coldsByCare : MethodName := ⟨"WhoseGlass", "coldsByCare", "(II)I"⟩
abbrev ws_X_coldsByCare : List Cond := yWs m_X_coldsByCare prog_1_method_48_code 3 (some .int)
theorem hd_X_coldsByCare : m_X_coldsByCare.cls = yR4 ∧ m_X_coldsByCare.cls ≠ "java/lang/invoke/MethodHandle" ∧ m_X_coldsByCare.cls ≠ "java/lang/invoke/VarHandle" ∧ (parseMethodDescriptor m_X_coldsByCare.desc).map (fun d => d.parameters.length) = some 2 := ⟨rfl, by decide +kernel, by decide +kernel, by decide +kernel⟩
def m_X_particular : MethodName := ⟨"WhoseGlass", "particular", "(I)I"⟩
abbrev ws_X_particular : List Cond := yWs m_X_particular prog_1_method_24_code 4 (some .int)
theorem hd_X_particular : m_X_particular.cls = yR4 ∧ m_X_particular.cls ≠ "java/lang/invoke/MethodHandle" ∧ m_X_particular.cls ≠ "java/lang/invoke/VarHandle" ∧ (parseMethodDescriptor m_X_particular.desc).map (fun d => d.parameters.length) = some 1 := ⟨rfl, by decide +kernel, by decide +kernel, by decide +kernel⟩
def m_X_mistakesIfMarked : MethodName := ⟨"WhoseGlass", "mistakesIfMarked", "(II)I"⟩
abbrev ws_X_mistakesIfMarked : List Cond := yWs m_X_mistakesIfMarked prog_1_method_49_code 4 (some .int)
theorem hd_X_mistakesIfMarked : m_X_mistakesIfMarked.cls = yR4 ∧ m_X_mistakesIfMarked.cls ≠ "java/lang/invoke/MethodHandle" ∧ m_X_mistakesIfMarked.cls ≠ "java/lang/invoke/VarHandle" ∧ (parseMethodDescriptor m_X_mistakesIfMarked.desc).map (fun d => d.parameters.length) = some 2 := ⟨rfl, by decide +kernel, by decide +kernel, by decide +kernel⟩
def m_X_mark : MethodName := ⟨"WhoseGlass", "mark", "(I)I"⟩
abbrev ws_X_mark : List Cond := yWs m_X_mark prog_1_method_25_code 6 (some .int)
theorem hd_X_mark : m_X_mark.cls = yR4 ∧ m_X_mark.cls ≠ "java/lang/invoke/MethodHandle" ∧ m_X_mark.cls ≠ "java/lang/invoke/VarHandle" ∧ (parseMethodDescriptor m_X_mark.desc).map (fun d => d.parameters.length) = some 1 := ⟨rfl, by decide +kernel, by decide +kernel, by decide +kernel⟩
def m_X_freshIfLeftOut : MethodName := ⟨"WhoseGlass", "freshIfLeftOut", "(II)I"⟩
abbrev ws_X_freshIfLeftOut : List Cond := yWs m_X_freshIfLeftOut prog_1_method_50_code 3 (some .int)
theorem hd_X_freshIfLeftOut : m_X_freshIfLeftOut.cls = yR4 ∧ m_X_freshIfLeftOut.cls ≠ "java/lang/invoke/MethodHandle" ∧ m_X_freshIfLeftOut.cls ≠ "java/lang/invoke/VarHandle" ∧ (parseMethodDescriptor m_X_freshIfLeftOut.desc).map (fun d => d.parameters.length) = some 2 := ⟨rfl, by decide +kernel, by decide +kernel, by decide +kernel⟩
def m_X_close : MethodName := ⟨"WhoseGlass", "close", "(I)I"⟩
abbrev ws_X_close : List Cond := yWs m_X_close prog_1_method_26_code 6 (some .int)
theorem hd_X_close : m_X_close.cls = yR4 ∧ m_X_close.cls ≠ "java/lang/invoke/MethodHandle" ∧ m_X_close.cls ≠ "java/lang/invoke/VarHandle" ∧ (parseMethodDescriptor m_X_close.desc).map (fun d => d.parameters.length) = some 1 := ⟨rfl, by decide +kernel, by decide +kernel, by decide +kernel⟩
def m_H_soberest : MethodName := ⟨"WhoseGlass$House", "soberest", "()I"⟩
abbrev ws_H_soberest : List Cond := yWs m_H_soberest prog_4_method_20_code 4 (some .int)
theorem hd_H_soberest : m_H_soberest.cls = yR2 ∧ m_H_soberest.cls ≠ "java/lang/invoke/MethodHandle" ∧ m_H_soberest.cls ≠ "java/lang/invoke/VarHandle" ∧ (parseMethodDescriptor m_H_soberest.desc).map (fun d => d.parameters.length) = some 0 := ⟨rfl, by decide +kernel, by decide +kernel, by decide +kernel⟩
def m_X_driver : MethodName := ⟨"WhoseGlass", "driver", "(I)I"⟩
abbrev ws_X_driver : List Cond := yWs m_X_driver prog_1_method_27_code 2 (some .int)
theorem hd_X_driver : m_X_driver.cls = yR4 ∧ m_X_driver.cls ≠ "java/lang/invoke/MethodHandle" ∧ m_X_driver.cls ≠ "java/lang/invoke/VarHandle" ∧ (parseMethodDescriptor m_X_driver.desc).map (fun d => d.parameters.length) = some 1 := ⟨rfl, by decide +kernel, by decide +kernel, by decide +kernel⟩
def m_H_hasEmptyGlass : MethodName := ⟨"WhoseGlass$House", "hasEmptyGlass", "()Z"⟩
abbrev ws_H_hasEmptyGlass : List Cond := yWs m_H_hasEmptyGlass prog_4_method_21_code 3 (some .boolean)
theorem hd_H_hasEmptyGlass : m_H_hasEmptyGlass.cls = yR2 ∧ m_H_hasEmptyGlass.cls ≠ "java/lang/invoke/MethodHandle" ∧ m_H_hasEmptyGlass.cls ≠ "java/lang/invoke/VarHandle" ∧ (parseMethodDescriptor m_H_hasEmptyGlass.desc).map (fun d => d.parameters.length) = some 0 := ⟨rfl, by decide +kernel, by decide +kernel, by decide +kernel⟩
def m_X_full : MethodName := ⟨"WhoseGlass", "full", "()I"⟩
abbrev ws_X_full : List Cond := yWs m_X_full prog_1_method_28_code 2 (some .int)
theorem hd_X_full : m_X_full.cls = yR4 ∧ m_X_full.cls ≠ "java/lang/invoke/MethodHandle" ∧ m_X_full.cls ≠ "java/lang/invoke/VarHandle" ∧ (parseMethodDescriptor m_X_full.desc).map (fun d => d.parameters.length) = some 0 := ⟨rfl, by decide +kernel, by decide +kernel, by decide +kernel⟩
def m_H_scatter : MethodName := ⟨"WhoseGlass$House", "scatter", "(I)I"⟩
abbrev ws_H_scatter : List Cond := yWs m_H_scatter prog_4_method_22_code 5 (some .int)
theorem hd_H_scatter : m_H_scatter.cls = yR2 ∧ m_H_scatter.cls ≠ "java/lang/invoke/MethodHandle" ∧ m_H_scatter.cls ≠ "java/lang/invoke/VarHandle" ∧ (parseMethodDescriptor m_H_scatter.desc).map (fun d => d.parameters.length) = some 1 := ⟨rfl, by decide +kernel, by decide +kernel, by decide +kernel⟩
def m_X_seeded : MethodName := ⟨"WhoseGlass", "seeded", "(III)I"⟩
abbrev ws_X_seeded : List Cond := yWs m_X_seeded prog_1_method_29_code 6 (some .int)
theorem hd_X_seeded : m_X_seeded.cls = yR4 ∧ m_X_seeded.cls ≠ "java/lang/invoke/MethodHandle" ∧ m_X_seeded.cls ≠ "java/lang/invoke/VarHandle" ∧ (parseMethodDescriptor m_X_seeded.desc).map (fun d => d.parameters.length) = some 3 := ⟨rfl, by decide +kernel, by decide +kernel, by decide +kernel⟩
def m_S_leastNumber : MethodName := ⟨"WhoseGlass$Shelf", "leastNumber", "()I"⟩
abbrev ws_S_leastNumber : List Cond := yWs m_S_leastNumber prog_6_method_7_code 1 (some .int)
theorem hd_S_leastNumber : m_S_leastNumber.cls = yR3 ∧ m_S_leastNumber.cls ≠ "java/lang/invoke/MethodHandle" ∧ m_S_leastNumber.cls ≠ "java/lang/invoke/VarHandle" ∧ (parseMethodDescriptor m_S_leastNumber.desc).map (fun d => d.parameters.length) = some 0 := ⟨rfl, by decide +kernel, by decide +kernel, by decide +kernel⟩
def m_X_judge : MethodName := ⟨"WhoseGlass", "judge", "(II)I"⟩
abbrev ws_X_judge : List Cond := yWs m_X_judge prog_1_method_30_code 7 (some .int)
theorem hd_X_judge : m_X_judge.cls = yR4 ∧ m_X_judge.cls ≠ "java/lang/invoke/MethodHandle" ∧ m_X_judge.cls ≠ "java/lang/invoke/VarHandle" ∧ (parseMethodDescriptor m_X_judge.desc).map (fun d => d.parameters.length) = some 2 := ⟨rfl, by decide +kernel, by decide +kernel, by decide +kernel⟩
def m_X_image : MethodName := ⟨"WhoseGlass", "image", "()I"⟩
abbrev ws_X_image : List Cond := yWs m_X_image prog_1_method_31_code 1 (some .int)
theorem hd_X_image : m_X_image.cls = yR4 ∧ m_X_image.cls ≠ "java/lang/invoke/MethodHandle" ∧ m_X_image.cls ≠ "java/lang/invoke/VarHandle" ∧ (parseMethodDescriptor m_X_image.desc).map (fun d => d.parameters.length) = some 0 := ⟨rfl, by decide +kernel, by decide +kernel, by decide +kernel⟩
def m_X_restore : MethodName := ⟨"WhoseGlass", "restore", "()I"⟩
abbrev ws_X_restore : List Cond := yWs m_X_restore prog_1_method_32_code 1 (some .int)
theorem hd_X_restore : m_X_restore.cls = yR4 ∧ m_X_restore.cls ≠ "java/lang/invoke/MethodHandle" ∧ m_X_restore.cls ≠ "java/lang/invoke/VarHandle" ∧ (parseMethodDescriptor m_X_restore.desc).map (fun d => d.parameters.length) = some 0 := ⟨rfl, by decide +kernel, by decide +kernel, by decide +kernel⟩
def m_H_allFills : MethodName := ⟨"WhoseGlass$House", "allFills", "()I"⟩
abbrev ws_H_allFills : List Cond := yWs m_H_allFills prog_4_method_23_code 4 (some .int)
theorem hd_H_allFills : m_H_allFills.cls = yR2 ∧ m_H_allFills.cls ≠ "java/lang/invoke/MethodHandle" ∧ m_H_allFills.cls ≠ "java/lang/invoke/VarHandle" ∧ (parseMethodDescriptor m_H_allFills.desc).map (fun d => d.parameters.length) = some 0 := ⟨rfl, by decide +kernel, by decide +kernel, by decide +kernel⟩
def m_H_countInSink : MethodName := ⟨"WhoseGlass$House", "countInSink", "()I"⟩
abbrev ws_H_countInSink : List Cond := yWs m_H_countInSink prog_4_method_24_code 4 (some .int)
theorem hd_H_countInSink : m_H_countInSink.cls = yR2 ∧ m_H_countInSink.cls ≠ "java/lang/invoke/MethodHandle" ∧ m_H_countInSink.cls ≠ "java/lang/invoke/VarHandle" ∧ (parseMethodDescriptor m_H_countInSink.desc).map (fun d => d.parameters.length) = some 0 := ⟨rfl, by decide +kernel, by decide +kernel, by decide +kernel⟩
def m_X_count : MethodName := ⟨"WhoseGlass", "count", "(I)I"⟩
abbrev ws_X_count : List Cond := yWs m_X_count prog_1_method_33_code 2 (some .int)
theorem hd_X_count : m_X_count.cls = yR4 ∧ m_X_count.cls ≠ "java/lang/invoke/MethodHandle" ∧ m_X_count.cls ≠ "java/lang/invoke/VarHandle" ∧ (parseMethodDescriptor m_X_count.desc).map (fun d => d.parameters.length) = some 1 := ⟨rfl, by decide +kernel, by decide +kernel, by decide +kernel⟩
def m_X_keep : MethodName := ⟨"WhoseGlass", "keep", "(IIII)I"⟩
abbrev ws_X_keep : List Cond := yWs m_X_keep prog_1_method_34_code 6 (some .int)
theorem hd_X_keep : m_X_keep.cls = yR4 ∧ m_X_keep.cls ≠ "java/lang/invoke/MethodHandle" ∧ m_X_keep.cls ≠ "java/lang/invoke/VarHandle" ∧ (parseMethodDescriptor m_X_keep.desc).map (fun d => d.parameters.length) = some 4 := ⟨rfl, by decide +kernel, by decide +kernel, by decide +kernel⟩
def m_S_beginRow : MethodName := ⟨"WhoseGlass$Shelf", "beginRow", "(II)V"⟩
abbrev ws_S_beginRow : List Cond := yWs m_S_beginRow prog_6_method_3_code 4 none
theorem hd_S_beginRow : m_S_beginRow.cls = yR3 ∧ m_S_beginRow.cls ≠ "java/lang/invoke/MethodHandle" ∧ m_S_beginRow.cls ≠ "java/lang/invoke/VarHandle" ∧ (parseMethodDescriptor m_S_beginRow.desc).map (fun d => d.parameters.length) = some 2 := ⟨rfl, by decide +kernel, by decide +kernel, by decide +kernel⟩
def m_X_row : MethodName := ⟨"WhoseGlass", "row", "(III)I"⟩
abbrev ws_X_row : List Cond := yWs m_X_row prog_1_method_35_code 5 (some .int)
theorem hd_X_row : m_X_row.cls = yR4 ∧ m_X_row.cls ≠ "java/lang/invoke/MethodHandle" ∧ m_X_row.cls ≠ "java/lang/invoke/VarHandle" ∧ (parseMethodDescriptor m_X_row.desc).map (fun d => d.parameters.length) = some 3 := ⟨rfl, by decide +kernel, by decide +kernel, by decide +kernel⟩
def m_S_lowestBits : MethodName := ⟨"WhoseGlass$Shelf", "lowestBits", "(I)I"⟩
abbrev ws_S_lowestBits : List Cond := yWs m_S_lowestBits prog_6_method_6_code 2 (some .int)
theorem hd_S_lowestBits : m_S_lowestBits.cls = yR3 ∧ m_S_lowestBits.cls ≠ "java/lang/invoke/MethodHandle" ∧ m_S_lowestBits.cls ≠ "java/lang/invoke/VarHandle" ∧ (parseMethodDescriptor m_S_lowestBits.desc).map (fun d => d.parameters.length) = some 1 := ⟨rfl, by decide +kernel, by decide +kernel, by decide +kernel⟩
def m_S_set : MethodName := ⟨"WhoseGlass$Shelf", "set", "(II)V"⟩
abbrev ws_S_set : List Cond := yWs m_S_set prog_6_method_5_code 3 none
theorem hd_S_set : m_S_set.cls = yR3 ∧ m_S_set.cls ≠ "java/lang/invoke/MethodHandle" ∧ m_S_set.cls ≠ "java/lang/invoke/VarHandle" ∧ (parseMethodDescriptor m_S_set.desc).map (fun d => d.parameters.length) = some 2 := ⟨rfl, by decide +kernel, by decide +kernel, by decide +kernel⟩
def m_X_put : MethodName := ⟨"WhoseGlass", "put", "(III)I"⟩
abbrev ws_X_put : List Cond := yWs m_X_put prog_1_method_36_code 5 (some .int)
theorem hd_X_put : m_X_put.cls = yR4 ∧ m_X_put.cls ≠ "java/lang/invoke/MethodHandle" ∧ m_X_put.cls ≠ "java/lang/invoke/VarHandle" ∧ (parseMethodDescriptor m_X_put.desc).map (fun d => d.parameters.length) = some 3 := ⟨rfl, by decide +kernel, by decide +kernel, by decide +kernel⟩
def m_S_hasStretch : MethodName := ⟨"WhoseGlass$Shelf", "hasStretch", "(II)Z"⟩
abbrev ws_S_hasStretch : List Cond := yWs m_S_hasStretch prog_6_method_8_code 3 (some .boolean)
theorem hd_S_hasStretch : m_S_hasStretch.cls = yR3 ∧ m_S_hasStretch.cls ≠ "java/lang/invoke/MethodHandle" ∧ m_S_hasStretch.cls ≠ "java/lang/invoke/VarHandle" ∧ (parseMethodDescriptor m_S_hasStretch.desc).map (fun d => d.parameters.length) = some 2 := ⟨rfl, by decide +kernel, by decide +kernel, by decide +kernel⟩
def m_X_copy : MethodName := ⟨"WhoseGlass", "copy", "(IIIII)I"⟩
abbrev ws_X_copy : List Cond := yWs m_X_copy prog_1_method_38_code 8 (some .int)
theorem hd_X_copy : m_X_copy.cls = yR4 ∧ m_X_copy.cls ≠ "java/lang/invoke/MethodHandle" ∧ m_X_copy.cls ≠ "java/lang/invoke/VarHandle" ∧ (parseMethodDescriptor m_X_copy.desc).map (fun d => d.parameters.length) = some 5 := ⟨rfl, by decide +kernel, by decide +kernel, by decide +kernel⟩
def m_S_glassCost : MethodName := ⟨"WhoseGlass$Shelf", "glassCost", "()I"⟩
abbrev ws_S_glassCost : List Cond := yWs m_S_glassCost prog_6_method_9_code 1 (some .int)
theorem hd_S_glassCost : m_S_glassCost.cls = yR3 ∧ m_S_glassCost.cls ≠ "java/lang/invoke/MethodHandle" ∧ m_S_glassCost.cls ≠ "java/lang/invoke/VarHandle" ∧ (parseMethodDescriptor m_S_glassCost.desc).map (fun d => d.parameters.length) = some 0 := ⟨rfl, by decide +kernel, by decide +kernel, by decide +kernel⟩
def m_X_cost : MethodName := ⟨"WhoseGlass", "cost", "(I)I"⟩
abbrev ws_X_cost : List Cond := yWs m_X_cost prog_1_method_39_code 3 (some .int)
theorem hd_X_cost : m_X_cost.cls = yR4 ∧ m_X_cost.cls ≠ "java/lang/invoke/MethodHandle" ∧ m_X_cost.cls ≠ "java/lang/invoke/VarHandle" ∧ (parseMethodDescriptor m_X_cost.desc).map (fun d => d.parameters.length) = some 1 := ⟨rfl, by decide +kernel, by decide +kernel, by decide +kernel⟩
def m_M_thrown : MethodName := ⟨"WhoseGlassModel", "thrown", "()I"⟩
abbrev ws_M_thrown : List Cond := yWs m_M_thrown prog_8_method_2_code 1 (some .int)
theorem hd_M_thrown : m_M_thrown.cls = yR5 ∧ m_M_thrown.cls ≠ "java/lang/invoke/MethodHandle" ∧ m_M_thrown.cls ≠ "java/lang/invoke/VarHandle" ∧ (parseMethodDescriptor m_M_thrown.desc).map (fun d => d.parameters.length) = some 0 := ⟨rfl, by decide +kernel, by decide +kernel, by decide +kernel⟩
def m_M_carry : MethodName := ⟨"WhoseGlassModel", "carry", "(I)I"⟩
abbrev ws_M_carry : List Cond := yWs m_M_carry prog_8_method_23_code 2 (some .int)
theorem hd_M_carry : m_M_carry.cls = yR5 ∧ m_M_carry.cls ≠ "java/lang/invoke/MethodHandle" ∧ m_M_carry.cls ≠ "java/lang/invoke/VarHandle" ∧ (parseMethodDescriptor m_M_carry.desc).map (fun d => d.parameters.length) = some 1 := ⟨rfl, by decide +kernel, by decide +kernel, by decide +kernel⟩
def m_M_carryAll : MethodName := ⟨"WhoseGlassModel", "carryAll", "([IZ)V"⟩
abbrev ws_M_carryAll : List Cond := yWs m_M_carryAll prog_8_method_24_code 4 none
theorem hd_M_carryAll : m_M_carryAll.cls = yR5 ∧ m_M_carryAll.cls ≠ "java/lang/invoke/MethodHandle" ∧ m_M_carryAll.cls ≠ "java/lang/invoke/VarHandle" ∧ (parseMethodDescriptor m_M_carryAll.desc).map (fun d => d.parameters.length) = some 2 := ⟨rfl, by decide +kernel, by decide +kernel, by decide +kernel⟩
def m_M_image : MethodName := ⟨"WhoseGlassModel", "image", "()I"⟩
abbrev ws_M_image : List Cond := yWs m_M_image prog_8_method_28_code 1 (some .int)
theorem hd_M_image : m_M_image.cls = yR5 ∧ m_M_image.cls ≠ "java/lang/invoke/MethodHandle" ∧ m_M_image.cls ≠ "java/lang/invoke/VarHandle" ∧ (parseMethodDescriptor m_M_image.desc).map (fun d => d.parameters.length) = some 0 := ⟨rfl, by decide +kernel, by decide +kernel, by decide +kernel⟩
def m_M_restore : MethodName := ⟨"WhoseGlassModel", "restore", "()I"⟩
abbrev ws_M_restore : List Cond := yWs m_M_restore prog_8_method_29_code 1 (some .int)
theorem hd_M_restore : m_M_restore.cls = yR5 ∧ m_M_restore.cls ≠ "java/lang/invoke/MethodHandle" ∧ m_M_restore.cls ≠ "java/lang/invoke/VarHandle" ∧ (parseMethodDescriptor m_M_restore.desc).map (fun d => d.parameters.length) = some 0 := ⟨rfl, by decide +kernel, by decide +kernel, by decide +kernel⟩
def m_M_in : MethodName := ⟨"WhoseGlassModel", "in", "(JJJ)Z"⟩
abbrev ws_M_in : List Cond := yWs m_M_in prog_8_method_3_code 6 (some .boolean)
theorem hn_M_in : m_M_in.cls ≠ "java/lang/invoke/MethodHandle" ∧ m_M_in.cls ≠ "java/lang/invoke/VarHandle" ∧ (parseMethodDescriptor m_M_in.desc).map (fun d => d.parameters.length) = some 3 := ⟨by decide +kernel, by decide +kernel, by decide +kernel⟩
def m_M_wrongRow : MethodName := ⟨"WhoseGlassModel", "wrongRow", "(I)I"⟩
abbrev ws_M_wrongRow : List Cond := yWs m_M_wrongRow prog_8_method_78_code 2 (some .int)
theorem hd_M_wrongRow : m_M_wrongRow.cls = yR5 ∧ m_M_wrongRow.cls ≠ "java/lang/invoke/MethodHandle" ∧ m_M_wrongRow.cls ≠ "java/lang/invoke/VarHandle" ∧ (parseMethodDescriptor m_M_wrongRow.desc).map (fun d => d.parameters.length) = some 1 := ⟨rfl, by decide +kernel, by decide +kernel, by decide +kernel⟩
def m_M_wrongSort : MethodName := ⟨"WhoseGlassModel", "wrongSort", "(II)I"⟩
abbrev ws_M_wrongSort : List Cond := yWs m_M_wrongSort prog_8_method_76_code 3 (some .int)
theorem hd_M_wrongSort : m_M_wrongSort.cls = yR5 ∧ m_M_wrongSort.cls ≠ "java/lang/invoke/MethodHandle" ∧ m_M_wrongSort.cls ≠ "java/lang/invoke/VarHandle" ∧ (parseMethodDescriptor m_M_wrongSort.desc).map (fun d => d.parameters.length) = some 2 := ⟨rfl, by decide +kernel, by decide +kernel, by decide +kernel⟩
def m_M_here : MethodName := ⟨"WhoseGlassModel", "here", "()I"⟩
abbrev ws_M_here : List Cond := yWs m_M_here prog_8_method_30_code 1 (some .int)
theorem hd_M_here : m_M_here.cls = yR5 ∧ m_M_here.cls ≠ "java/lang/invoke/MethodHandle" ∧ m_M_here.cls ≠ "java/lang/invoke/VarHandle" ∧ (parseMethodDescriptor m_M_here.desc).map (fun d => d.parameters.length) = some 0 := ⟨rfl, by decide +kernel, by decide +kernel, by decide +kernel⟩
def m_M_readDigit : MethodName := ⟨"WhoseGlassModel", "readDigit", "()I"⟩
abbrev ws_M_readDigit : List Cond := yWs m_M_readDigit prog_8_method_31_code 1 (some .int)
theorem hd_M_readDigit : m_M_readDigit.cls = yR5 ∧ m_M_readDigit.cls ≠ "java/lang/invoke/MethodHandle" ∧ m_M_readDigit.cls ≠ "java/lang/invoke/VarHandle" ∧ (parseMethodDescriptor m_M_readDigit.desc).map (fun d => d.parameters.length) = some 0 := ⟨rfl, by decide +kernel, by decide +kernel, by decide +kernel⟩
def m_M_readTwo : MethodName := ⟨"WhoseGlassModel", "readTwo", "()I"⟩
abbrev ws_M_readTwo : List Cond := yWs m_M_readTwo prog_8_method_32_code 2 (some .int)
theorem hd_M_readTwo : m_M_readTwo.cls = yR5 ∧ m_M_readTwo.cls ≠ "java/lang/invoke/MethodHandle" ∧ m_M_readTwo.cls ≠ "java/lang/invoke/VarHandle" ∧ (parseMethodDescriptor m_M_readTwo.desc).map (fun d => d.parameters.length) = some 0 := ⟨rfl, by decide +kernel, by decide +kernel, by decide +kernel⟩
def m_M_readStatement : MethodName := ⟨"WhoseGlassModel", "readStatement", "()V"⟩
abbrev ws_M_readStatement : List Cond := yWs m_M_readStatement prog_8_method_33_code 5 none
theorem hd_M_readStatement : m_M_readStatement.cls = yR5 ∧ m_M_readStatement.cls ≠ "java/lang/invoke/MethodHandle" ∧ m_M_readStatement.cls ≠ "java/lang/invoke/VarHandle" ∧ (parseMethodDescriptor m_M_readStatement.desc).map (fun d => d.parameters.length) = some 0 := ⟨rfl, by decide +kernel, by decide +kernel, by decide +kernel⟩
def m_M_open : MethodName := ⟨"WhoseGlassModel", "open", "()V"⟩
abbrev ws_M_open : List Cond := yWs m_M_open prog_8_method_25_code 1 none
theorem hd_M_open : m_M_open.cls = yR5 ∧ m_M_open.cls ≠ "java/lang/invoke/MethodHandle" ∧ m_M_open.cls ≠ "java/lang/invoke/VarHandle" ∧ (parseMethodDescriptor m_M_open.desc).map (fun d => d.parameters.length) = some 0 := ⟨rfl, by decide +kernel, by decide +kernel, by decide +kernel⟩
def m_M_bring : MethodName := ⟨"WhoseGlassModel", "bring", "(IIII)I"⟩
abbrev ws_M_bring : List Cond := yWs m_M_bring prog_8_method_17_code 6 (some .int)
theorem hd_M_bring : m_M_bring.cls = yR5 ∧ m_M_bring.cls ≠ "java/lang/invoke/MethodHandle" ∧ m_M_bring.cls ≠ "java/lang/invoke/VarHandle" ∧ (parseMethodDescriptor m_M_bring.desc).map (fun d => d.parameters.length) = some 4 := ⟨rfl, by decide +kernel, by decide +kernel, by decide +kernel⟩
def m_M_glassComes : MethodName := ⟨"WhoseGlassModel", "glassComes", "(I)Z"⟩
abbrev ws_M_glassComes : List Cond := yWs m_M_glassComes prog_8_method_34_code 3 (some .boolean)
theorem hd_M_glassComes : m_M_glassComes.cls = yR5 ∧ m_M_glassComes.cls ≠ "java/lang/invoke/MethodHandle" ∧ m_M_glassComes.cls ≠ "java/lang/invoke/VarHandle" ∧ (parseMethodDescriptor m_M_glassComes.desc).map (fun d => d.parameters.length) = some 1 := ⟨rfl, by decide +kernel, by decide +kernel, by decide +kernel⟩
def m_M_guestComes : MethodName := ⟨"WhoseGlassModel", "guestComes", "(I)Z"⟩
abbrev ws_M_guestComes : List Cond := yWs m_M_guestComes prog_8_method_35_code 3 (some .boolean)
theorem hd_M_guestComes : m_M_guestComes.cls = yR5 ∧ m_M_guestComes.cls ≠ "java/lang/invoke/MethodHandle" ∧ m_M_guestComes.cls ≠ "java/lang/invoke/VarHandle" ∧ (parseMethodDescriptor m_M_guestComes.desc).map (fun d => d.parameters.length) = some 1 := ⟨rfl, by decide +kernel, by decide +kernel, by decide +kernel⟩
def m_M_isGuest : MethodName := ⟨"WhoseGlassModel", "isGuest", "(I)Z"⟩
abbrev ws_M_isGuest : List Cond := yWs m_M_isGuest prog_8_method_5_code 2 (some .boolean)
theorem hd_M_isGuest : m_M_isGuest.cls = yR5 ∧ m_M_isGuest.cls ≠ "java/lang/invoke/MethodHandle" ∧ m_M_isGuest.cls ≠ "java/lang/invoke/VarHandle" ∧ (parseMethodDescriptor m_M_isGuest.desc).map (fun d => d.parameters.length) = some 1 := ⟨rfl, by decide +kernel, by decide +kernel, by decide +kernel⟩
def m_M_isGlass : MethodName := ⟨"WhoseGlassModel", "isGlass", "(I)Z"⟩
abbrev ws_M_isGlass : List Cond := yWs m_M_isGlass prog_8_method_4_code 2 (some .boolean)
theorem hd_M_isGlass : m_M_isGlass.cls = yR5 ∧ m_M_isGlass.cls ≠ "java/lang/invoke/MethodHandle" ∧ m_M_isGlass.cls ≠ "java/lang/invoke/VarHandle" ∧ (parseMethodDescriptor m_M_isGlass.desc).map (fun d => d.parameters.length) = some 1 := ⟨rfl, by decide +kernel, by decide +kernel, by decide +kernel⟩
def m_M_hold : MethodName := ⟨"WhoseGlassModel", "hold", "(II)V"⟩
abbrev ws_M_hold : List Cond := yWs m_M_hold prog_8_method_18_code 3 none
theorem hd_M_hold : m_M_hold.cls = yR5 ∧ m_M_hold.cls ≠ "java/lang/invoke/MethodHandle" ∧ m_M_hold.cls ≠ "java/lang/invoke/VarHandle" ∧ (parseMethodDescriptor m_M_hold.desc).map (fun d => d.parameters.length) = some 2 := ⟨rfl, by decide +kernel, by decide +kernel, by decide +kernel⟩
def m_M_holdComes : MethodName := ⟨"WhoseGlassModel", "holdComes", "(II)Z"⟩
abbrev ws_M_holdComes : List Cond := yWs m_M_holdComes prog_8_method_36_code 4 (some .boolean)
theorem hd_M_holdComes : m_M_holdComes.cls = yR5 ∧ m_M_holdComes.cls ≠ "java/lang/invoke/MethodHandle" ∧ m_M_holdComes.cls ≠ "java/lang/invoke/VarHandle" ∧ (parseMethodDescriptor m_M_holdComes.desc).map (fun d => d.parameters.length) = some 2 := ⟨rfl, by decide +kernel, by decide +kernel, by decide +kernel⟩
def m_M_goOn : MethodName := ⟨"WhoseGlassModel", "goOn", "(I)V"⟩
abbrev ws_M_goOn : List Cond := yWs m_M_goOn prog_8_method_20_code 3 none
theorem hd_M_goOn : m_M_goOn.cls = yR5 ∧ m_M_goOn.cls ≠ "java/lang/invoke/MethodHandle" ∧ m_M_goOn.cls ≠ "java/lang/invoke/VarHandle" ∧ (parseMethodDescriptor m_M_goOn.desc).map (fun d => d.parameters.length) = some 1 := ⟨rfl, by decide +kernel, by decide +kernel, by decide +kernel⟩
def m_M_plainly : MethodName := ⟨"WhoseGlassModel", "plainly", "(II)I"⟩
abbrev ws_M_plainly : List Cond := yWs m_M_plainly prog_8_method_8_code 3 (some .int)
theorem hd_M_plainly : m_M_plainly.cls = yR5 ∧ m_M_plainly.cls ≠ "java/lang/invoke/MethodHandle" ∧ m_M_plainly.cls ≠ "java/lang/invoke/VarHandle" ∧ (parseMethodDescriptor m_M_plainly.desc).map (fun d => d.parameters.length) = some 2 := ⟨rfl, by decide +kernel, by decide +kernel, by decide +kernel⟩
def m_M_tally : MethodName := ⟨"WhoseGlassModel", "tally", "(II)I"⟩
abbrev ws_M_tally : List Cond := yWs m_M_tally prog_8_method_10_code 3 (some .int)
theorem hd_M_tally : m_M_tally.cls = yR5 ∧ m_M_tally.cls ≠ "java/lang/invoke/MethodHandle" ∧ m_M_tally.cls ≠ "java/lang/invoke/VarHandle" ∧ (parseMethodDescriptor m_M_tally.desc).map (fun d => d.parameters.length) = some 2 := ⟨rfl, by decide +kernel, by decide +kernel, by decide +kernel⟩
def m_M_redly : MethodName := ⟨"WhoseGlassModel", "redly", "(II)I"⟩
abbrev ws_M_redly : List Cond := yWs m_M_redly prog_8_method_9_code 4 (some .int)
theorem hd_M_redly : m_M_redly.cls = yR5 ∧ m_M_redly.cls ≠ "java/lang/invoke/MethodHandle" ∧ m_M_redly.cls ≠ "java/lang/invoke/VarHandle" ∧ (parseMethodDescriptor m_M_redly.desc).map (fun d => d.parameters.length) = some 2 := ⟨rfl, by decide +kernel, by decide +kernel, by decide +kernel⟩
def m_M_likeOf : MethodName := ⟨"WhoseGlassModel", "likeOf", "(II)I"⟩
abbrev ws_M_likeOf : List Cond := yWs m_M_likeOf prog_8_method_11_code 3 (some .int)
theorem hd_M_likeOf : m_M_likeOf.cls = yR5 ∧ m_M_likeOf.cls ≠ "java/lang/invoke/MethodHandle" ∧ m_M_likeOf.cls ≠ "java/lang/invoke/VarHandle" ∧ (parseMethodDescriptor m_M_likeOf.desc).map (fun d => d.parameters.length) = some 2 := ⟨rfl, by decide +kernel, by decide +kernel, by decide +kernel⟩
def m_M_isLater : MethodName := ⟨"WhoseGlassModel", "isLater", "(II)Z"⟩
abbrev ws_M_isLater : List Cond := yWs m_M_isLater prog_8_method_15_code 3 (some .boolean)
theorem hd_M_isLater : m_M_isLater.cls = yR5 ∧ m_M_isLater.cls ≠ "java/lang/invoke/MethodHandle" ∧ m_M_isLater.cls ≠ "java/lang/invoke/VarHandle" ∧ (parseMethodDescriptor m_M_isLater.desc).map (fun d => d.parameters.length) = some 2 := ⟨rfl, by decide +kernel, by decide +kernel, by decide +kernel⟩
def m_M_wouldTake : MethodName := ⟨"WhoseGlassModel", "wouldTake", "(I)I"⟩
abbrev ws_M_wouldTake : List Cond := yWs m_M_wouldTake prog_8_method_16_code 9 (some .int)
theorem hd_M_wouldTake : m_M_wouldTake.cls = yR5 ∧ m_M_wouldTake.cls ≠ "java/lang/invoke/MethodHandle" ∧ m_M_wouldTake.cls ≠ "java/lang/invoke/VarHandle" ∧ (parseMethodDescriptor m_M_wouldTake.desc).map (fun d => d.parameters.length) = some 1 := ⟨rfl, by decide +kernel, by decide +kernel, by decide +kernel⟩
def m_M_takeOne : MethodName := ⟨"WhoseGlassModel", "takeOne", "(I)I"⟩
abbrev ws_M_takeOne : List Cond := yWs m_M_takeOne prog_8_method_19_code 3 (some .int)
theorem hd_M_takeOne : m_M_takeOne.cls = yR5 ∧ m_M_takeOne.cls ≠ "java/lang/invoke/MethodHandle" ∧ m_M_takeOne.cls ≠ "java/lang/invoke/VarHandle" ∧ (parseMethodDescriptor m_M_takeOne.desc).map (fun d => d.parameters.length) = some 1 := ⟨rfl, by decide +kernel, by decide +kernel, by decide +kernel⟩
def m_M_strengthOf : MethodName := ⟨"WhoseGlassModel", "strengthOf", "(I)I"⟩
abbrev ws_M_strengthOf : List Cond := yWs m_M_strengthOf prog_8_method_12_code 2 (some .int)
theorem hd_M_strengthOf : m_M_strengthOf.cls = yR5 ∧ m_M_strengthOf.cls ≠ "java/lang/invoke/MethodHandle" ∧ m_M_strengthOf.cls ≠ "java/lang/invoke/VarHandle" ∧ (parseMethodDescriptor m_M_strengthOf.desc).map (fun d => d.parameters.length) = some 1 := ⟨rfl, by decide +kernel, by decide +kernel, by decide +kernel⟩
def m_M_sipOne : MethodName := ⟨"WhoseGlassModel", "sipOne", "(I)I"⟩
abbrev ws_M_sipOne : List Cond := yWs m_M_sipOne prog_8_method_13_code 4 (some .int)
theorem hd_M_sipOne : m_M_sipOne.cls = yR5 ∧ m_M_sipOne.cls ≠ "java/lang/invoke/MethodHandle" ∧ m_M_sipOne.cls ≠ "java/lang/invoke/VarHandle" ∧ (parseMethodDescriptor m_M_sipOne.desc).map (fun d => d.parameters.length) = some 1 := ⟨rfl, by decide +kernel, by decide +kernel, by decide +kernel⟩
def m_M_layOne : MethodName := ⟨"WhoseGlassModel", "layOne", "(I)I"⟩
abbrev ws_M_layOne : List Cond := yWs m_M_layOne prog_8_method_14_code 3 (some .int)
theorem hd_M_layOne : m_M_layOne.cls = yR5 ∧ m_M_layOne.cls ≠ "java/lang/invoke/MethodHandle" ∧ m_M_layOne.cls ≠ "java/lang/invoke/VarHandle" ∧ (parseMethodDescriptor m_M_layOne.desc).map (fun d => d.parameters.length) = some 1 := ⟨rfl, by decide +kernel, by decide +kernel, by decide +kernel⟩
def m_M_guestOn : MethodName := ⟨"WhoseGlassModel", "guestOn", "(I)V"⟩
abbrev ws_M_guestOn : List Cond := yWs m_M_guestOn prog_8_method_21_code 2 none
theorem hd_M_guestOn : m_M_guestOn.cls = yR5 ∧ m_M_guestOn.cls ≠ "java/lang/invoke/MethodHandle" ∧ m_M_guestOn.cls ≠ "java/lang/invoke/VarHandle" ∧ (parseMethodDescriptor m_M_guestOn.desc).map (fun d => d.parameters.length) = some 1 := ⟨rfl, by decide +kernel, by decide +kernel, by decide +kernel⟩
def m_M_minuteOn : MethodName := ⟨"WhoseGlassModel", "minuteOn", "()V"⟩
abbrev ws_M_minuteOn : List Cond := yWs m_M_minuteOn prog_8_method_22_code 2 none
theorem hd_M_minuteOn : m_M_minuteOn.cls = yR5 ∧ m_M_minuteOn.cls ≠ "java/lang/invoke/MethodHandle" ∧ m_M_minuteOn.cls ≠ "java/lang/invoke/VarHandle" ∧ (parseMethodDescriptor m_M_minuteOn.desc).map (fun d => d.parameters.length) = some 0 := ⟨rfl, by decide +kernel, by decide +kernel, by decide +kernel⟩
def m_M_comesAll : MethodName := ⟨"WhoseGlassModel", "comesAll", "(I)Z"⟩
abbrev ws_M_comesAll : List Cond := yWs m_M_comesAll prog_8_method_37_code 3 (some .boolean)
theorem hd_M_comesAll : m_M_comesAll.cls = yR5 ∧ m_M_comesAll.cls ≠ "java/lang/invoke/MethodHandle" ∧ m_M_comesAll.cls ≠ "java/lang/invoke/VarHandle" ∧ (parseMethodDescriptor m_M_comesAll.desc).map (fun d => d.parameters.length) = some 1 := ⟨rfl, by decide +kernel, by decide +kernel, by decide +kernel⟩
def m_M_again : MethodName := ⟨"WhoseGlassModel", "again", "()V"⟩
abbrev ws_M_again : List Cond := yWs m_M_again prog_8_method_26_code 1 none
theorem hd_M_again : m_M_again.cls = yR5 ∧ m_M_again.cls ≠ "java/lang/invoke/MethodHandle" ∧ m_M_again.cls ≠ "java/lang/invoke/VarHandle" ∧ (parseMethodDescriptor m_M_again.desc).map (fun d => d.parameters.length) = some 0 := ⟨rfl, by decide +kernel, by decide +kernel, by decide +kernel⟩
def m_M_house : MethodName := ⟨"WhoseGlassModel", "house", "(I)I"⟩
abbrev ws_M_house : List Cond := yWs m_M_house prog_8_method_38_code 4 (some .int)
theorem hd_M_house : m_M_house.cls = yR5 ∧ m_M_house.cls ≠ "java/lang/invoke/MethodHandle" ∧ m_M_house.cls ≠ "java/lang/invoke/VarHandle" ∧ (parseMethodDescriptor m_M_house.desc).map (fun d => d.parameters.length) = some 1 := ⟨rfl, by decide +kernel, by decide +kernel, by decide +kernel⟩
def m_M_glass : MethodName := ⟨"WhoseGlassModel", "glass", "(II)I"⟩
abbrev ws_M_glass : List Cond := yWs m_M_glass prog_8_method_39_code 3 (some .int)
theorem hd_M_glass : m_M_glass.cls = yR5 ∧ m_M_glass.cls ≠ "java/lang/invoke/MethodHandle" ∧ m_M_glass.cls ≠ "java/lang/invoke/VarHandle" ∧ (parseMethodDescriptor m_M_glass.desc).map (fun d => d.parameters.length) = some 2 := ⟨rfl, by decide +kernel, by decide +kernel, by decide +kernel⟩
def m_M_guest : MethodName := ⟨"WhoseGlassModel", "guest", "(II)I"⟩
abbrev ws_M_guest : List Cond := yWs m_M_guest prog_8_method_40_code 3 (some .int)
theorem hd_M_guest : m_M_guest.cls = yR5 ∧ m_M_guest.cls ≠ "java/lang/invoke/MethodHandle" ∧ m_M_guest.cls ≠ "java/lang/invoke/VarHandle" ∧ (parseMethodDescriptor m_M_guest.desc).map (fun d => d.parameters.length) = some 2 := ⟨rfl, by decide +kernel, by decide +kernel, by decide +kernel⟩
def m_M_isPlace : MethodName := ⟨"WhoseGlassModel", "isPlace", "(I)Z"⟩
abbrev ws_M_isPlace : List Cond := yWs m_M_isPlace prog_8_method_6_code 1 (some .boolean)
theorem hn_M_isPlace : m_M_isPlace.cls ≠ "java/lang/invoke/MethodHandle" ∧ m_M_isPlace.cls ≠ "java/lang/invoke/VarHandle" ∧ (parseMethodDescriptor m_M_isPlace.desc).map (fun d => d.parameters.length) = some 1 := ⟨by decide +kernel, by decide +kernel, by decide +kernel⟩
def m_M_wrongKept : MethodName := ⟨"WhoseGlassModel", "wrongKept", "(I)I"⟩
abbrev ws_M_wrongKept : List Cond := yWs m_M_wrongKept prog_8_method_41_code 2 (some .int)
theorem hd_M_wrongKept : m_M_wrongKept.cls = yR5 ∧ m_M_wrongKept.cls ≠ "java/lang/invoke/MethodHandle" ∧ m_M_wrongKept.cls ≠ "java/lang/invoke/VarHandle" ∧ (parseMethodDescriptor m_M_wrongKept.desc).map (fun d => d.parameters.length) = some 1 := ⟨rfl, by decide +kernel, by decide +kernel, by decide +kernel⟩
def m_M_comes : MethodName := ⟨"WhoseGlassModel", "comes", "(II)I"⟩
abbrev ws_M_comes : List Cond := yWs m_M_comes prog_8_method_42_code 4 (some .int)
theorem hd_M_comes : m_M_comes.cls = yR5 ∧ m_M_comes.cls ≠ "java/lang/invoke/MethodHandle" ∧ m_M_comes.cls ≠ "java/lang/invoke/VarHandle" ∧ (parseMethodDescriptor m_M_comes.desc).map (fun d => d.parameters.length) = some 2 := ⟨rfl, by decide +kernel, by decide +kernel, by decide +kernel⟩
def m_M_go : MethodName := ⟨"WhoseGlassModel", "go", "(II)I"⟩
abbrev ws_M_go : List Cond := yWs m_M_go prog_8_method_43_code 4 (some .int)
theorem hd_M_go : m_M_go.cls = yR5 ∧ m_M_go.cls ≠ "java/lang/invoke/MethodHandle" ∧ m_M_go.cls ≠ "java/lang/invoke/VarHandle" ∧ (parseMethodDescriptor m_M_go.desc).map (fun d => d.parameters.length) = some 2 := ⟨rfl, by decide +kernel, by decide +kernel, by decide +kernel⟩
def m_M_sip : MethodName := ⟨"WhoseGlassModel", "sip", "(I)I"⟩
abbrev ws_M_sip : List Cond := yWs m_M_sip prog_8_method_44_code 2 (some .int)
theorem hd_M_sip : m_M_sip.cls = yR5 ∧ m_M_sip.cls ≠ "java/lang/invoke/MethodHandle" ∧ m_M_sip.cls ≠ "java/lang/invoke/VarHandle" ∧ (parseMethodDescriptor m_M_sip.desc).map (fun d => d.parameters.length) = some 1 := ⟨rfl, by decide +kernel, by decide +kernel, by decide +kernel⟩
def m_M_lay : MethodName := ⟨"WhoseGlassModel", "lay", "(I)I"⟩
abbrev ws_M_lay : List Cond := yWs m_M_lay prog_8_method_45_code 2 (some .int)
theorem hd_M_lay : m_M_lay.cls = yR5 ∧ m_M_lay.cls ≠ "java/lang/invoke/MethodHandle" ∧ m_M_lay.cls ≠ "java/lang/invoke/VarHandle" ∧ (parseMethodDescriptor m_M_lay.desc).map (fun d => d.parameters.length) = some 1 := ⟨rfl, by decide +kernel, by decide +kernel, by decide +kernel⟩
def m_M_take : MethodName := ⟨"WhoseGlassModel", "take", "(I)I"⟩
abbrev ws_M_take : List Cond := yWs m_M_take prog_8_method_46_code 2 (some .int)
theorem hd_M_take : m_M_take.cls = yR5 ∧ m_M_take.cls ≠ "java/lang/invoke/MethodHandle" ∧ m_M_take.cls ≠ "java/lang/invoke/VarHandle" ∧ (parseMethodDescriptor m_M_take.desc).map (fun d => d.parameters.length) = some 1 := ⟨rfl, by decide +kernel, by decide +kernel, by decide +kernel⟩
def m_M_fill : MethodName := ⟨"WhoseGlassModel", "fill", "(I)I"⟩
abbrev ws_M_fill : List Cond := yWs m_M_fill prog_8_method_47_code 5 (some .int)
theorem hd_M_fill : m_M_fill.cls = yR5 ∧ m_M_fill.cls ≠ "java/lang/invoke/MethodHandle" ∧ m_M_fill.cls ≠ "java/lang/invoke/VarHandle" ∧ (parseMethodDescriptor m_M_fill.desc).map (fun d => d.parameters.length) = some 1 := ⟨rfl, by decide +kernel, by decide +kernel, by decide +kernel⟩
def m_M_sink : MethodName := ⟨"WhoseGlassModel", "sink", "(I)V"⟩
abbrev ws_M_sink : List Cond := yWs m_M_sink prog_8_method_48_code 2 none
theorem hd_M_sink : m_M_sink.cls = yR5 ∧ m_M_sink.cls ≠ "java/lang/invoke/MethodHandle" ∧ m_M_sink.cls ≠ "java/lang/invoke/VarHandle" ∧ (parseMethodDescriptor m_M_sink.desc).map (fun d => d.parameters.length) = some 1 := ⟨rfl, by decide +kernel, by decide +kernel, by decide +kernel⟩
def m_M_clear : MethodName := ⟨"WhoseGlassModel", "clear", "(II)I"⟩
abbrev ws_M_clear : List Cond := yWs m_M_clear prog_8_method_49_code 5 (some .int)
theorem hd_M_clear : m_M_clear.cls = yR5 ∧ m_M_clear.cls ≠ "java/lang/invoke/MethodHandle" ∧ m_M_clear.cls ≠ "java/lang/invoke/VarHandle" ∧ (parseMethodDescriptor m_M_clear.desc).map (fun d => d.parameters.length) = some 2 := ⟨rfl, by decide +kernel, by decide +kernel, by decide +kernel⟩
def m_M_goThrough : MethodName := ⟨"WhoseGlassModel", "goThrough", "(I)V"⟩
abbrev ws_M_goThrough : List Cond := yWs m_M_goThrough prog_8_method_27_code 3 none
theorem hd_M_goThrough : m_M_goThrough.cls = yR5 ∧ m_M_goThrough.cls ≠ "java/lang/invoke/MethodHandle" ∧ m_M_goThrough.cls ≠ "java/lang/invoke/VarHandle" ∧ (parseMethodDescriptor m_M_goThrough.desc).map (fun d => d.parameters.length) = some 1 := ⟨rfl, by decide +kernel, by decide +kernel, by decide +kernel⟩
def m_M_minutes : MethodName := ⟨"WhoseGlassModel", "minutes", "(I)I"⟩
abbrev ws_M_minutes : List Cond := yWs m_M_minutes prog_8_method_50_code 2 (some .int)
theorem hd_M_minutes : m_M_minutes.cls = yR5 ∧ m_M_minutes.cls ≠ "java/lang/invoke/MethodHandle" ∧ m_M_minutes.cls ≠ "java/lang/invoke/VarHandle" ∧ (parseMethodDescriptor m_M_minutes.desc).map (fun d => d.parameters.length) = some 1 := ⟨rfl, by decide +kernel, by decide +kernel, by decide +kernel⟩
def m_M_like : MethodName := ⟨"WhoseGlassModel", "like", "(II)I"⟩
abbrev ws_M_like : List Cond := yWs m_M_like prog_8_method_51_code 3 (some .int)
theorem hd_M_like : m_M_like.cls = yR5 ∧ m_M_like.cls ≠ "java/lang/invoke/MethodHandle" ∧ m_M_like.cls ≠ "java/lang/invoke/VarHandle" ∧ (parseMethodDescriptor m_M_like.desc).map (fun d => d.parameters.length) = some 2 := ⟨rfl, by decide +kernel, by decide +kernel, by decide +kernel⟩
def m_M_mine : MethodName := ⟨"WhoseGlassModel", "mine", "(I)I"⟩
abbrev ws_M_mine : List Cond := yWs m_M_mine prog_8_method_52_code 2 (some .int)
theorem hd_M_mine : m_M_mine.cls = yR5 ∧ m_M_mine.cls ≠ "java/lang/invoke/MethodHandle" ∧ m_M_mine.cls ≠ "java/lang/invoke/VarHandle" ∧ (parseMethodDescriptor m_M_mine.desc).map (fun d => d.parameters.length) = some 1 := ⟨rfl, by decide +kernel, by decide +kernel, by decide +kernel⟩
def m_M_divisor : MethodName := ⟨"WhoseGlassModel", "divisor", "(II)I"⟩
abbrev ws_M_divisor : List Cond := yWs m_M_divisor prog_8_method_53_code 5 (some .int)
theorem hn_M_divisor : m_M_divisor.cls ≠ "java/lang/invoke/MethodHandle" ∧ m_M_divisor.cls ≠ "java/lang/invoke/VarHandle" ∧ (parseMethodDescriptor m_M_divisor.desc).map (fun d => d.parameters.length) = some 2 := ⟨by decide +kernel, by decide +kernel, by decide +kernel⟩
def m_M_likely : MethodName := ⟨"WhoseGlassModel", "likely", "(III)I"⟩
abbrev ws_M_likely : List Cond := yWs m_M_likely prog_8_method_54_code 7 (some .int)
theorem hd_M_likely : m_M_likely.cls = yR5 ∧ m_M_likely.cls ≠ "java/lang/invoke/MethodHandle" ∧ m_M_likely.cls ≠ "java/lang/invoke/VarHandle" ∧ (parseMethodDescriptor m_M_likely.desc).map (fun d => d.parameters.length) = some 3 := ⟨rfl, by decide +kernel, by decide +kernel, by decide +kernel⟩
def m_M_idle : MethodName := ⟨"WhoseGlassModel", "idle", "(I)I"⟩
abbrev ws_M_idle : List Cond := yWs m_M_idle prog_8_method_55_code 6 (some .int)
theorem hd_M_idle : m_M_idle.cls = yR5 ∧ m_M_idle.cls ≠ "java/lang/invoke/MethodHandle" ∧ m_M_idle.cls ≠ "java/lang/invoke/VarHandle" ∧ (parseMethodDescriptor m_M_idle.desc).map (fun d => d.parameters.length) = some 1 := ⟨rfl, by decide +kernel, by decide +kernel, by decide +kernel⟩
def m_M_oldest : MethodName := ⟨"WhoseGlassModel", "oldest", "(I)I"⟩
abbrev ws_M_oldest : List Cond := yWs m_M_oldest prog_8_method_56_code 4 (some .int)
theorem hd_M_oldest : m_M_oldest.cls = yR5 ∧ m_M_oldest.cls ≠ "java/lang/invoke/MethodHandle" ∧ m_M_oldest.cls ≠ "java/lang/invoke/VarHandle" ∧ (parseMethodDescriptor m_M_oldest.desc).map (fun d => d.parameters.length) = some 1 := ⟨rfl, by decide +kernel, by decide +kernel, by decide +kernel⟩
def m_M_isMinutes : MethodName := ⟨"WhoseGlassModel", "isMinutes", "(I)Z"⟩
abbrev ws_M_isMinutes : List Cond := yWs m_M_isMinutes prog_8_method_7_code 1 (some .boolean)
theorem hn_M_isMinutes : m_M_isMinutes.cls ≠ "java/lang/invoke/MethodHandle" ∧ m_M_isMinutes.cls ≠ "java/lang/invoke/VarHandle" ∧ (parseMethodDescriptor m_M_isMinutes.desc).map (fun d => d.parameters.length) = some 1 := ⟨by decide +kernel, by decide +kernel, by decide +kernel⟩
def m_M_mistakes : MethodName := ⟨"WhoseGlassModel", "mistakes", "(I)I"⟩
abbrev ws_M_mistakes : List Cond := yWs m_M_mistakes prog_8_method_58_code 2 (some .int)
theorem hd_M_mistakes : m_M_mistakes.cls = yR5 ∧ m_M_mistakes.cls ≠ "java/lang/invoke/MethodHandle" ∧ m_M_mistakes.cls ≠ "java/lang/invoke/VarHandle" ∧ (parseMethodDescriptor m_M_mistakes.desc).map (fun d => d.parameters.length) = some 1 := ⟨rfl, by decide +kernel, by decide +kernel, by decide +kernel⟩
def m_M_fresh : MethodName := ⟨"WhoseGlassModel", "fresh", "(I)I"⟩
abbrev ws_M_fresh : List Cond := yWs m_M_fresh prog_8_method_59_code 2 (some .int)
theorem hd_M_fresh : m_M_fresh.cls = yR5 ∧ m_M_fresh.cls ≠ "java/lang/invoke/MethodHandle" ∧ m_M_fresh.cls ≠ "java/lang/invoke/VarHandle" ∧ (parseMethodDescriptor m_M_fresh.desc).map (fun d => d.parameters.length) = some 1 := ⟨rfl, by decide +kernel, by decide +kernel, by decide +kernel⟩
def m_M_coldBits : MethodName := ⟨"WhoseGlassModel", "coldBits", "()I"⟩
abbrev ws_M_coldBits : List Cond := yWs m_M_coldBits prog_8_method_57_code 3 (some .int)
theorem hd_M_coldBits : m_M_coldBits.cls = yR5 ∧ m_M_coldBits.cls ≠ "java/lang/invoke/MethodHandle" ∧ m_M_coldBits.cls ≠ "java/lang/invoke/VarHandle" ∧ (parseMethodDescriptor m_M_coldBits.desc).map (fun d => d.parameters.length) = some 0 := ⟨rfl, by decide +kernel, by decide +kernel, by decide +kernel⟩
def m_M_colds : MethodName := ⟨"WhoseGlassModel", "colds", "(I)I"⟩
abbrev ws_M_colds : List Cond := yWs m_M_colds prog_8_method_60_code 3 (some .int)
theorem hd_M_colds : m_M_colds.cls = yR5 ∧ m_M_colds.cls ≠ "java/lang/invoke/MethodHandle" ∧ m_M_colds.cls ≠ "java/lang/invoke/VarHandle" ∧ (parseMethodDescriptor m_M_colds.desc).map (fun d => d.parameters.length) = some 1 := ⟨rfl, by decide +kernel, by decide +kernel, by decide +kernel⟩
def m_M_had : MethodName := ⟨"WhoseGlassModel", "had", "(II)I"⟩
abbrev ws_M_had : List Cond := yWs m_M_had prog_8_method_61_code 4 (some .int)
theorem hd_M_had : m_M_had.cls = yR5 ∧ m_M_had.cls ≠ "java/lang/invoke/MethodHandle" ∧ m_M_had.cls ≠ "java/lang/invoke/VarHandle" ∧ (parseMethodDescriptor m_M_had.desc).map (fun d => d.parameters.length) = some 2 := ⟨rfl, by decide +kernel, by decide +kernel, by decide +kernel⟩
def m_M_where : MethodName := ⟨"WhoseGlassModel", "where", "(II)I"⟩
abbrev ws_M_where : List Cond := yWs m_M_where prog_8_method_62_code 4 (some .int)
theorem hd_M_where : m_M_where.cls = yR5 ∧ m_M_where.cls ≠ "java/lang/invoke/MethodHandle" ∧ m_M_where.cls ≠ "java/lang/invoke/VarHandle" ∧ (parseMethodDescriptor m_M_where.desc).map (fun d => d.parameters.length) = some 2 := ⟨rfl, by decide +kernel, by decide +kernel, by decide +kernel⟩
def m_M_coldAlone : MethodName := ⟨"WhoseGlassModel", "coldAlone", "(I)V"⟩
abbrev ws_M_coldAlone : List Cond := yWs m_M_coldAlone prog_8_method_63_code 3 none
theorem hd_M_coldAlone : m_M_coldAlone.cls = yR5 ∧ m_M_coldAlone.cls ≠ "java/lang/invoke/MethodHandle" ∧ m_M_coldAlone.cls ≠ "java/lang/invoke/VarHandle" ∧ (parseMethodDescriptor m_M_coldAlone.desc).map (fun d => d.parameters.length) = some 1 := ⟨rfl, by decide +kernel, by decide +kernel, by decide +kernel⟩
def m_M_brought : MethodName := ⟨"WhoseGlassModel", "brought", "(II)I"⟩
abbrev ws_M_brought : List Cond := yWs m_M_brought prog_8_method_64_code 5 (some .int)
theorem hd_M_brought : m_M_brought.cls = yR5 ∧ m_M_brought.cls ≠ "java/lang/invoke/MethodHandle" ∧ m_M_brought.cls ≠ "java/lang/invoke/VarHandle" ∧ (parseMethodDescriptor m_M_brought.desc).map (fun d => d.parameters.length) = some 2 := ⟨rfl, by decide +kernel, by decide +kernel, by decide +kernel⟩
def m_M_particular : MethodName := ⟨"WhoseGlassModel", "particular", "(I)I"⟩
abbrev ws_M_particular : List Cond := yWs m_M_particular prog_8_method_65_code 6 (some .int)
theorem hd_M_particular : m_M_particular.cls = yR5 ∧ m_M_particular.cls ≠ "java/lang/invoke/MethodHandle" ∧ m_M_particular.cls ≠ "java/lang/invoke/VarHandle" ∧ (parseMethodDescriptor m_M_particular.desc).map (fun d => d.parameters.length) = some 1 := ⟨rfl, by decide +kernel, by decide +kernel, by decide +kernel⟩
def m_M_mark : MethodName := ⟨"WhoseGlassModel", "mark", "(I)I"⟩
abbrev ws_M_mark : List Cond := yWs m_M_mark prog_8_method_66_code 6 (some .int)
theorem hd_M_mark : m_M_mark.cls = yR5 ∧ m_M_mark.cls ≠ "java/lang/invoke/MethodHandle" ∧ m_M_mark.cls ≠ "java/lang/invoke/VarHandle" ∧ (parseMethodDescriptor m_M_mark.desc).map (fun d => d.parameters.length) = some 1 := ⟨rfl, by decide +kernel, by decide +kernel, by decide +kernel⟩
def m_M_close : MethodName := ⟨"WhoseGlassModel", "close", "(I)I"⟩
abbrev ws_M_close : List Cond := yWs m_M_close prog_8_method_67_code 5 (some .int)
theorem hd_M_close : m_M_close.cls = yR5 ∧ m_M_close.cls ≠ "java/lang/invoke/MethodHandle" ∧ m_M_close.cls ≠ "java/lang/invoke/VarHandle" ∧ (parseMethodDescriptor m_M_close.desc).map (fun d => d.parameters.length) = some 1 := ⟨rfl, by decide +kernel, by decide +kernel, by decide +kernel⟩
def m_M_driver : MethodName := ⟨"WhoseGlassModel", "driver", "(I)I"⟩
abbrev ws_M_driver : List Cond := yWs m_M_driver prog_8_method_68_code 4 (some .int)
theorem hd_M_driver : m_M_driver.cls = yR5 ∧ m_M_driver.cls ≠ "java/lang/invoke/MethodHandle" ∧ m_M_driver.cls ≠ "java/lang/invoke/VarHandle" ∧ (parseMethodDescriptor m_M_driver.desc).map (fun d => d.parameters.length) = some 1 := ⟨rfl, by decide +kernel, by decide +kernel, by decide +kernel⟩
def m_M_isSomeEmpty : MethodName := ⟨"WhoseGlassModel", "isSomeEmpty", "()Z"⟩
abbrev ws_M_isSomeEmpty : List Cond := yWs m_M_isSomeEmpty prog_8_method_69_code 3 (some .boolean)
theorem hd_M_isSomeEmpty : m_M_isSomeEmpty.cls = yR5 ∧ m_M_isSomeEmpty.cls ≠ "java/lang/invoke/MethodHandle" ∧ m_M_isSomeEmpty.cls ≠ "java/lang/invoke/VarHandle" ∧ (parseMethodDescriptor m_M_isSomeEmpty.desc).map (fun d => d.parameters.length) = some 0 := ⟨rfl, by decide +kernel, by decide +kernel, by decide +kernel⟩
def m_M_full : MethodName := ⟨"WhoseGlassModel", "full", "()I"⟩
abbrev ws_M_full : List Cond := yWs m_M_full prog_8_method_70_code 3 (some .int)
theorem hd_M_full : m_M_full.cls = yR5 ∧ m_M_full.cls ≠ "java/lang/invoke/MethodHandle" ∧ m_M_full.cls ≠ "java/lang/invoke/VarHandle" ∧ (parseMethodDescriptor m_M_full.desc).map (fun d => d.parameters.length) = some 0 := ⟨rfl, by decide +kernel, by decide +kernel, by decide +kernel⟩
def m_M_draw : MethodName := ⟨"WhoseGlassModel", "draw", "(I)I"⟩
abbrev ws_M_draw : List Cond := yWs m_M_draw prog_8_method_71_code 2 (some .int)
theorem hd_M_draw : m_M_draw.cls = yR5 ∧ m_M_draw.cls ≠ "java/lang/invoke/MethodHandle" ∧ m_M_draw.cls ≠ "java/lang/invoke/VarHandle" ∧ (parseMethodDescriptor m_M_draw.desc).map (fun d => d.parameters.length) = some 1 := ⟨rfl, by decide +kernel, by decide +kernel, by decide +kernel⟩
def m_M_seeded : MethodName := ⟨"WhoseGlassModel", "seeded", "(III)I"⟩
abbrev ws_M_seeded : List Cond := yWs m_M_seeded prog_8_method_72_code 6 (some .int)
theorem hd_M_seeded : m_M_seeded.cls = yR5 ∧ m_M_seeded.cls ≠ "java/lang/invoke/MethodHandle" ∧ m_M_seeded.cls ≠ "java/lang/invoke/VarHandle" ∧ (parseMethodDescriptor m_M_seeded.desc).map (fun d => d.parameters.length) = some 3 := ⟨rfl, by decide +kernel, by decide +kernel, by decide +kernel⟩
def m_M_skippedIn : MethodName := ⟨"WhoseGlassModel", "skippedIn", "(I)J"⟩
abbrev ws_M_skippedIn : List Cond := yWs m_M_skippedIn prog_8_method_73_code 2 (some .long)
theorem hd_M_skippedIn : m_M_skippedIn.cls = yR5 ∧ m_M_skippedIn.cls ≠ "java/lang/invoke/MethodHandle" ∧ m_M_skippedIn.cls ≠ "java/lang/invoke/VarHandle" ∧ (parseMethodDescriptor m_M_skippedIn.desc).map (fun d => d.parameters.length) = some 1 := ⟨rfl, by decide +kernel, by decide +kernel, by decide +kernel⟩
def m_M_judge : MethodName := ⟨"WhoseGlassModel", "judge", "(II)I"⟩
abbrev ws_M_judge : List Cond := yWs m_M_judge prog_8_method_74_code 8 (some .int)
theorem hd_M_judge : m_M_judge.cls = yR5 ∧ m_M_judge.cls ≠ "java/lang/invoke/MethodHandle" ∧ m_M_judge.cls ≠ "java/lang/invoke/VarHandle" ∧ (parseMethodDescriptor m_M_judge.desc).map (fun d => d.parameters.length) = some 2 := ⟨rfl, by decide +kernel, by decide +kernel, by decide +kernel⟩
def m_M_count : MethodName := ⟨"WhoseGlassModel", "count", "(I)I"⟩
abbrev ws_M_count : List Cond := yWs m_M_count prog_8_method_75_code 5 (some .int)
theorem hd_M_count : m_M_count.cls = yR5 ∧ m_M_count.cls ≠ "java/lang/invoke/MethodHandle" ∧ m_M_count.cls ≠ "java/lang/invoke/VarHandle" ∧ (parseMethodDescriptor m_M_count.desc).map (fun d => d.parameters.length) = some 1 := ⟨rfl, by decide +kernel, by decide +kernel, by decide +kernel⟩
def m_M_keep : MethodName := ⟨"WhoseGlassModel", "keep", "(IIII)I"⟩
abbrev ws_M_keep : List Cond := yWs m_M_keep prog_8_method_77_code 5 (some .int)
theorem hd_M_keep : m_M_keep.cls = yR5 ∧ m_M_keep.cls ≠ "java/lang/invoke/MethodHandle" ∧ m_M_keep.cls ≠ "java/lang/invoke/VarHandle" ∧ (parseMethodDescriptor m_M_keep.desc).map (fun d => d.parameters.length) = some 4 := ⟨rfl, by decide +kernel, by decide +kernel, by decide +kernel⟩
def m_M_row : MethodName := ⟨"WhoseGlassModel", "row", "(III)I"⟩
abbrev ws_M_row : List Cond := yWs m_M_row prog_8_method_80_code 5 (some .int)
theorem hd_M_row : m_M_row.cls = yR5 ∧ m_M_row.cls ≠ "java/lang/invoke/MethodHandle" ∧ m_M_row.cls ≠ "java/lang/invoke/VarHandle" ∧ (parseMethodDescriptor m_M_row.desc).map (fun d => d.parameters.length) = some 3 := ⟨rfl, by decide +kernel, by decide +kernel, by decide +kernel⟩
def m_M_narrowed : MethodName := ⟨"WhoseGlassModel", "narrowed", "(II)J"⟩
abbrev ws_M_narrowed : List Cond := yWs m_M_narrowed prog_8_method_79_code 2 (some .long)
theorem hn_M_narrowed : m_M_narrowed.cls ≠ "java/lang/invoke/MethodHandle" ∧ m_M_narrowed.cls ≠ "java/lang/invoke/VarHandle" ∧ (parseMethodDescriptor m_M_narrowed.desc).map (fun d => d.parameters.length) = some 2 := ⟨by decide +kernel, by decide +kernel, by decide +kernel⟩
def m_M_put : MethodName := ⟨"WhoseGlassModel", "put", "(III)I"⟩
abbrev ws_M_put : List Cond := yWs m_M_put prog_8_method_81_code 5 (some .int)
theorem hd_M_put : m_M_put.cls = yR5 ∧ m_M_put.cls ≠ "java/lang/invoke/MethodHandle" ∧ m_M_put.cls ≠ "java/lang/invoke/VarHandle" ∧ (parseMethodDescriptor m_M_put.desc).map (fun d => d.parameters.length) = some 3 := ⟨rfl, by decide +kernel, by decide +kernel, by decide +kernel⟩
def m_M_element : MethodName := ⟨"WhoseGlassModel", "element", "(II)J"⟩
abbrev ws_M_element : List Cond := yWs m_M_element prog_8_method_82_code 4 (some .long)
theorem hd_M_element : m_M_element.cls = yR5 ∧ m_M_element.cls ≠ "java/lang/invoke/MethodHandle" ∧ m_M_element.cls ≠ "java/lang/invoke/VarHandle" ∧ (parseMethodDescriptor m_M_element.desc).map (fun d => d.parameters.length) = some 2 := ⟨rfl, by decide +kernel, by decide +kernel, by decide +kernel⟩
def m_M_copy : MethodName := ⟨"WhoseGlassModel", "copy", "(IIIII)I"⟩
abbrev ws_M_copy : List Cond := yWs m_M_copy prog_8_method_83_code 7 (some .int)
theorem hd_M_copy : m_M_copy.cls = yR5 ∧ m_M_copy.cls ≠ "java/lang/invoke/MethodHandle" ∧ m_M_copy.cls ≠ "java/lang/invoke/VarHandle" ∧ (parseMethodDescriptor m_M_copy.desc).map (fun d => d.parameters.length) = some 5 := ⟨rfl, by decide +kernel, by decide +kernel, by decide +kernel⟩
def m_M_costOf : MethodName := ⟨"WhoseGlassModel", "costOf", "(II)I"⟩
abbrev ws_M_costOf : List Cond := yWs m_M_costOf prog_8_method_84_code 2 (some .int)
theorem hn_M_costOf : m_M_costOf.cls ≠ "java/lang/invoke/MethodHandle" ∧ m_M_costOf.cls ≠ "java/lang/invoke/VarHandle" ∧ (parseMethodDescriptor m_M_costOf.desc).map (fun d => d.parameters.length) = some 2 := ⟨by decide +kernel, by decide +kernel, by decide +kernel⟩
def m_M_cost : MethodName := ⟨"WhoseGlassModel", "cost", "(I)I"⟩
abbrev ws_M_cost : List Cond := yWs m_M_cost prog_8_method_85_code 2 (some .int)
theorem hd_M_cost : m_M_cost.cls = yR5 ∧ m_M_cost.cls ≠ "java/lang/invoke/MethodHandle" ∧ m_M_cost.cls ≠ "java/lang/invoke/VarHandle" ∧ (parseMethodDescriptor m_M_cost.desc).map (fun d => d.parameters.length) = some 1 := ⟨rfl, by decide +kernel, by decide +kernel, by decide +kernel⟩
def m_M_toss : MethodName := ⟨"WhoseGlassModel", "toss", "(I)I"⟩
abbrev ws_M_toss : List Cond := yWs m_M_toss prog_8_method_86_code 4 (some .int)
theorem hd_M_toss : m_M_toss.cls = yR5 ∧ m_M_toss.cls ≠ "java/lang/invoke/MethodHandle" ∧ m_M_toss.cls ≠ "java/lang/invoke/VarHandle" ∧ (parseMethodDescriptor m_M_toss.desc).map (fun d => d.parameters.length) = some 1 := ⟨rfl, by decide +kernel, by decide +kernel, by decide +kernel⟩
end
section
/-! X_shelfAt -/
theorem d_X_shelfAt_0 : decode prog_1_method_41_code 0 = .ok (.iload_n 1, 1) := by decide +kernel
theorem d_X_shelfAt_1 : decode prog_1_method_41_code 1 = .ok (.ifCond .lt 21, 3) := by decide +kernel
theorem d_X_shelfAt_4 : decode prog_1_method_41_code 4 = .ok (.iload_n 1, 1) := by decide +kernel
theorem d_X_shelfAt_5 : decode prog_1_method_41_code 5 = .ok (.aload_n 0, 1) := by decide +kernel
theorem d_X_shelfAt_6 : decode prog_1_method_41_code 6 = .ok (.getfield 24, 3) := by decide +kernel
theorem d_X_shelfAt_9 : decode prog_1_method_41_code 9 = .ok (.arraylength, 1) := by decide +kernel
theorem d_X_shelfAt_10 : decode prog_1_method_41_code 10 = .ok (.if_icmp .ge 12, 3) := by decide +kernel
theorem d_X_shelfAt_13 : decode prog_1_method_41_code 13 = .ok (.aload_n 0, 1) := by decide +kernel
theorem d_X_shelfAt_14 : decode prog_1_method_41_code 14 = .ok (.getfield 24, 3) := by decide +kernel
theorem d_X_shelfAt_17 : decode prog_1_method_41_code 17 = .ok (.iload_n 1, 1) := by decide +kernel
theorem d_X_shelfAt_18 : decode prog_1_method_41_code 18 = .ok (.aaload, 1) := by decide +kernel
theorem d_X_shelfAt_19 : decode prog_1_method_41_code 19 = .ok (.goto 4, 3) := by decide +kernel
theorem d_X_shelfAt_22 : decode prog_1_method_41_code 22 = .ok (.aconst_null, 1) := by decide +kernel
theorem d_X_shelfAt_23 : decode prog_1_method_41_code 23 = .ok (.areturn, 1) := by decide +kernel
set_option maxRecDepth 100000 in
def f_X_shelfAt (F : Nat) (u : Mm) (o : Nat) (a1 : Int32) : Option (Option Nat × Mm) := (if a1 < 0 then some (none, u) else ob (jgr YX 4 4 (some o)) fun (r2 : Option Nat) => ob (jln YX 10 r2) fun (x3 : Int32) => (if x3 ≤ a1 then some (none, u) else ob (jgr YX 4 4 (some o)) fun (r5 : Option Nat) => ob (jaa YX 10 r5 a1) fun (r6 : Option Nat) => some (r6, u)))
set_option maxHeartbeats 4000000 in
set_option maxRecDepth 100000 in
theorem c_X_shelfAt (l : Launch) (w : WP) (F : Nat) (u : Mm) (o : Nat) (a1 : Int32) (out : Option Nat × Mm) (h : f_X_shelfAt F u o a1 = some out) : yMet l m_X_shelfAt ws_X_shelfAt ({ frames := 0, cells := 0, slots := 0, locals := 0 } : Room) YX w u [va_re w.1 (some o), .int a1] (yfr w) out := by
  refine y_entry (own := "WhoseGlass") (lv := [(0, va_re w.1 (some o)), (1, .int a1)]) (by decide +kernel) rfl (by simp [lv_args, y_cat, y_catI, y_catJ]) (by simp [lg_sl, y_cat, y_catI, y_catJ]) ?_
  intro p e s m args below meth c C hr hlocks
  unfold f_X_shelfAt at h
  refine y_iload_n C (i := 1) 1 d_X_shelfAt_0 rfl rfl ?_
  refine y_if_lt C 22 d_X_shelfAt_1 (by decide) h (fun k1 h => ?_) (fun k1 h => ?_)
  · refine y_null C d_X_shelfAt_22 ?_
    exact y_aret C hr hlocks d_X_shelfAt_23 h
  · refine y_iload_n C (i := 1) 1 d_X_shelfAt_4 rfl rfl ?_
    refine y_aload_n C (i := 0) 0 d_X_shelfAt_5 rfl rfl ?_
    refine y_gr C (q := (yR4, yT4, 5)) (ci := 4) (k := 4) rfl (by decide) rfl (by decide) g_206 d_X_shelfAt_6 h (fun r2 h => ?_)
    refine y_lnr C (ki := 2) rfl d_X_shelfAt_9 h (fun x3 h => ?_)
    refine y_ic_ge C 22 d_X_shelfAt_10 (by decide) h (fun k4 h => ?_) (fun k4 h => ?_)
    · refine y_null C d_X_shelfAt_22 ?_
      exact y_aret C hr hlocks d_X_shelfAt_23 h
    · refine y_aload_n C (i := 0) 0 d_X_shelfAt_13 rfl rfl ?_
      refine y_gr C (q := (yR4, yT4, 5)) (ci := 4) (k := 4) rfl (by decide) rfl (by decide) g_206 d_X_shelfAt_14 h (fun r5 h => ?_)
      refine y_iload_n C (i := 1) 1 d_X_shelfAt_17 rfl rfl ?_
      refine y_aa C (ki := 2) rfl d_X_shelfAt_18 h (fun r6 h => ?_)
      refine y_goto C (tgt := 23) d_X_shelfAt_19 (by decide) ?_
      exact y_aret C hr hlocks d_X_shelfAt_23 h
/-! S_whyNot -/
theorem d_S_whyNot_0 : decode prog_6_method_2_code 0 = .ok (.aload_n 0, 1) := by decide +kernel
theorem d_S_whyNot_1 : decode prog_6_method_2_code 1 = .ok (.getfield 9, 3) := by decide +kernel
theorem d_S_whyNot_4 : decode prog_6_method_2_code 4 = .ok (.ifCond .ne 8, 3) := by decide +kernel
theorem d_S_whyNot_7 : decode prog_6_method_2_code 7 = .ok (.bipush (-11), 2) := by decide +kernel
theorem d_S_whyNot_9 : decode prog_6_method_2_code 9 = .ok (.goto 5, 3) := by decide +kernel
theorem d_S_whyNot_12 : decode prog_6_method_2_code 12 = .ok (.bipush (-12), 2) := by decide +kernel
theorem d_S_whyNot_14 : decode prog_6_method_2_code 14 = .ok (.ireturn, 1) := by decide +kernel
set_option maxRecDepth 100000 in
def f_S_whyNot (F : Nat) (u : Mm) (o : Nat) : Option (Int32 × Mm) := ob (jgi YX 3 0 u (some o)) fun (x1 : Int32) => (if x1 = 0 then some ((-11 : Int32), u) else some ((-12 : Int32), u))
set_option maxHeartbeats 4000000 in
set_option maxRecDepth 100000 in
theorem c_S_whyNot (l : Launch) (w : WP) (F : Nat) (u : Mm) (o : Nat) (out : Int32 × Mm) (h : f_S_whyNot F u o = some out) : yMet l m_S_whyNot ws_S_whyNot ({ frames := 0, cells := 0, slots := 0, locals := 0 } : Room) YX w u [va_re w.1 (some o)] yfi out := by
  refine y_entry (own := "WhoseGlass$Shelf") (lv := [(0, va_re w.1 (some o))]) (by decide +kernel) rfl (by simp [lv_args, y_cat, y_catI, y_catJ]) (by simp [lg_sl, y_cat, y_catI, y_catJ]) ?_
  intro p e s m args below meth c C hr hlocks
  unfold f_S_whyNot at h
  refine y_aload_n C (i := 0) 0 d_S_whyNot_0 rfl rfl ?_
  refine y_gi C (q := (yR3, yT3, 6)) (ci := 3) (k := 0) rfl (by decide) rfl g_175 d_S_whyNot_1 h (fun x1 h => ?_)
  refine y_if_ne C 12 d_S_whyNot_4 (by decide) h (fun k2 h => ?_) (fun k2 h => ?_)
  · refine y_bipush C (v := -11) d_S_whyNot_7 (by decide) ?_
    refine y_goto C (tgt := 14) d_S_whyNot_9 (by decide) ?_
    exact y_iret C hr hlocks d_S_whyNot_14 h
  · refine y_bipush C (v := -12) d_S_whyNot_12 (by decide) ?_
    exact y_iret C hr hlocks d_S_whyNot_14 h
/-! S_elementAt -/
theorem d_S_elementAt_0 : decode prog_6_method_4_code 0 = .ok (.iload_n 1, 1) := by decide +kernel
theorem d_S_elementAt_1 : decode prog_6_method_4_code 1 = .ok (.ifCond .lt 21, 3) := by decide +kernel
theorem d_S_elementAt_4 : decode prog_6_method_4_code 4 = .ok (.iload_n 1, 1) := by decide +kernel
theorem d_S_elementAt_5 : decode prog_6_method_4_code 5 = .ok (.aload_n 0, 1) := by decide +kernel
theorem d_S_elementAt_6 : decode prog_6_method_4_code 6 = .ok (.getfield 15, 3) := by decide +kernel
theorem d_S_elementAt_9 : decode prog_6_method_4_code 9 = .ok (.arraylength, 1) := by decide +kernel
theorem d_S_elementAt_10 : decode prog_6_method_4_code 10 = .ok (.if_icmp .ge 12, 3) := by decide +kernel
theorem d_S_elementAt_13 : decode prog_6_method_4_code 13 = .ok (.aload_n 0, 1) := by decide +kernel
theorem d_S_elementAt_14 : decode prog_6_method_4_code 14 = .ok (.getfield 15, 3) := by decide +kernel
theorem d_S_elementAt_17 : decode prog_6_method_4_code 17 = .ok (.iload_n 1, 1) := by decide +kernel
theorem d_S_elementAt_18 : decode prog_6_method_4_code 18 = .ok (.iaload, 1) := by decide +kernel
theorem d_S_elementAt_19 : decode prog_6_method_4_code 19 = .ok (.goto 4, 3) := by decide +kernel
theorem d_S_elementAt_22 : decode prog_6_method_4_code 22 = .ok (.iconst 0, 1) := by decide +kernel
theorem d_S_elementAt_23 : decode prog_6_method_4_code 23 = .ok (.ireturn, 1) := by decide +kernel
set_option maxRecDepth 100000 in
def f_S_elementAt (F : Nat) (u : Mm) (o : Nat) (a1 : Int32) : Option (Int32 × Mm) := (if a1 < 0 then some ((0 : Int32), u) else ob (jgr YX 3 5 (some o)) fun (r2 : Option Nat) => ob (jln YX 6 r2) fun (x3 : Int32) => (if x3 ≤ a1 then some ((0 : Int32), u) else ob (jgr YX 3 5 (some o)) fun (r5 : Option Nat) => ob (jal YX u r5 a1) fun (x6 : Int32) => some (x6, u)))
set_option maxHeartbeats 4000000 in
set_option maxRecDepth 100000 in
theorem c_S_elementAt (l : Launch) (w : WP) (F : Nat) (u : Mm) (o : Nat) (a1 : Int32) (out : Int32 × Mm) (h : f_S_elementAt F u o a1 = some out) : yMet l m_S_elementAt ws_S_elementAt ({ frames := 0, cells := 0, slots := 0, locals := 0 } : Room) YX w u [va_re w.1 (some o), .int a1] yfi out := by
  refine y_entry (own := "WhoseGlass$Shelf") (lv := [(0, va_re w.1 (some o)), (1, .int a1)]) (by decide +kernel) rfl (by simp [lv_args, y_cat, y_catI, y_catJ]) (by simp [lg_sl, y_cat, y_catI, y_catJ]) ?_
  intro p e s m args below meth c C hr hlocks
  unfold f_S_elementAt at h
  refine y_iload_n C (i := 1) 1 d_S_elementAt_0 rfl rfl ?_
  refine y_if_lt C 22 d_S_elementAt_1 (by decide) h (fun k1 h => ?_) (fun k1 h => ?_)
  · refine y_iconst C (v := 0) d_S_elementAt_22 (by decide) ?_
    exact y_iret C hr hlocks d_S_elementAt_23 h
  · refine y_iload_n C (i := 1) 1 d_S_elementAt_4 rfl rfl ?_
    refine y_aload_n C (i := 0) 0 d_S_elementAt_5 rfl rfl ?_
    refine y_gr C (q := (yR3, yT3, 6)) (ci := 3) (k := 5) rfl (by decide) rfl (by decide) g_186 d_S_elementAt_6 h (fun r2 h => ?_)
    refine y_lni C d_S_elementAt_9 h (fun x3 h => ?_)
    refine y_ic_ge C 22 d_S_elementAt_10 (by decide) h (fun k4 h => ?_) (fun k4 h => ?_)
    · refine y_iconst C (v := 0) d_S_elementAt_22 (by decide) ?_
      exact y_iret C hr hlocks d_S_elementAt_23 h
    · refine y_aload_n C (i := 0) 0 d_S_elementAt_13 rfl rfl ?_
      refine y_gr C (q := (yR3, yT3, 6)) (ci := 3) (k := 5) rfl (by decide) rfl (by decide) g_186 d_S_elementAt_14 h (fun r5 h => ?_)
      refine y_iload_n C (i := 1) 1 d_S_elementAt_17 rfl rfl ?_
      refine y_al C d_S_elementAt_18 h (fun x6 h => ?_)
      refine y_goto C (tgt := 23) d_S_elementAt_19 (by decide) ?_
      exact y_iret C hr hlocks d_S_elementAt_23 h
/-! T_mostDigits -/
theorem d_T_mostDigits_0 : decode prog_5_method_10_code 0 = .ok (.iload_n 0, 1) := by decide +kernel
theorem d_T_mostDigits_1 : decode prog_5_method_10_code 1 = .ok (.tableswitch 99 99 116 #[93, 99, 99, 99, 87, 91, 99, 99, 99, 99, 97, 99, 99, 89, 99, 99, 99, 95], 87) := by decide +kernel
theorem d_T_mostDigits_88 : decode prog_5_method_10_code 88 = .ok (.iconst 4, 1) := by decide +kernel
theorem d_T_mostDigits_89 : decode prog_5_method_10_code 89 = .ok (.ireturn, 1) := by decide +kernel
theorem d_T_mostDigits_90 : decode prog_5_method_10_code 90 = .ok (.iconst 5, 1) := by decide +kernel
theorem d_T_mostDigits_91 : decode prog_5_method_10_code 91 = .ok (.ireturn, 1) := by decide +kernel
theorem d_T_mostDigits_92 : decode prog_5_method_10_code 92 = .ok (.iconst 3, 1) := by decide +kernel
theorem d_T_mostDigits_93 : decode prog_5_method_10_code 93 = .ok (.ireturn, 1) := by decide +kernel
theorem d_T_mostDigits_94 : decode prog_5_method_10_code 94 = .ok (.iconst 1, 1) := by decide +kernel
theorem d_T_mostDigits_95 : decode prog_5_method_10_code 95 = .ok (.ireturn, 1) := by decide +kernel
theorem d_T_mostDigits_96 : decode prog_5_method_10_code 96 = .ok (.iconst 2, 1) := by decide +kernel
theorem d_T_mostDigits_97 : decode prog_5_method_10_code 97 = .ok (.ireturn, 1) := by decide +kernel
theorem d_T_mostDigits_98 : decode prog_5_method_10_code 98 = .ok (.iconst 0, 1) := by decide +kernel
theorem d_T_mostDigits_99 : decode prog_5_method_10_code 99 = .ok (.ireturn, 1) := by decide +kernel
theorem d_T_mostDigits_100 : decode prog_5_method_10_code 100 = .ok (.iconst (-1), 1) := by decide +kernel
theorem d_T_mostDigits_101 : decode prog_5_method_10_code 101 = .ok (.ireturn, 1) := by decide +kernel
set_option maxRecDepth 100000 in
def f_T_mostDigits (F : Nat) (u : Mm) (a0 : Int32) : Option (Int32 × Mm) := (if a0 = (99 : Int32) then some ((1 : Int32), u) else (if a0 = (103 : Int32) then some ((4 : Int32), u) else (if a0 = (104 : Int32) then some ((3 : Int32), u) else (if a0 = (109 : Int32) then some ((0 : Int32), u) else (if a0 = (112 : Int32) then some ((5 : Int32), u) else (if a0 = (116 : Int32) then some ((2 : Int32), u) else some ((-1 : Int32), u)))))))
set_option maxHeartbeats 4000000 in
set_option maxRecDepth 100000 in
theorem c_T_mostDigits (l : Launch) (w : WP) (F : Nat) (u : Mm) (a0 : Int32) (out : Int32 × Mm) (h : f_T_mostDigits F u a0 = some out) : yMet l m_T_mostDigits ws_T_mostDigits ({ frames := 0, cells := 0, slots := 0, locals := 0 } : Room) YX w u [.int a0] yfi out := by
  refine y_entry (own := "WhoseGlass$HouseText") (lv := [(0, .int a0)]) (by decide +kernel) rfl (by simp [lv_args, y_cat, y_catI, y_catJ]) (by simp [lg_sl, y_cat, y_catI, y_catJ]) ?_
  intro p e s m args below meth c C hr hlocks
  unfold f_T_mostDigits at h
  refine y_iload_n C (i := 0) 0 d_T_mostDigits_0 rfl rfl ?_
  refine y_sp h (fun k1 h => ?_) (fun k1 h => ?_)
  · refine y_tsw C (off := 93) 94 d_T_mostDigits_1 (Or.inr ⟨by rw [k1]; decide, by rw [k1]; decide, by rw [k1]; rfl⟩) (by decide) ?_
    refine y_iconst C (v := 1) d_T_mostDigits_94 (by decide) ?_
    exact y_iret C hr hlocks d_T_mostDigits_95 h
  refine y_sp h (fun k2 h => ?_) (fun k2 h => ?_)
  · refine y_tsw C (off := 87) 88 d_T_mostDigits_1 (Or.inr ⟨by rw [k2]; decide, by rw [k2]; decide, by rw [k2]; rfl⟩) (by decide) ?_
    refine y_iconst C (v := 4) d_T_mostDigits_88 (by decide) ?_
    exact y_iret C hr hlocks d_T_mostDigits_89 h
  refine y_sp h (fun k3 h => ?_) (fun k3 h => ?_)
  · refine y_tsw C (off := 91) 92 d_T_mostDigits_1 (Or.inr ⟨by rw [k3]; decide, by rw [k3]; decide, by rw [k3]; rfl⟩) (by decide) ?_
    refine y_iconst C (v := 3) d_T_mostDigits_92 (by decide) ?_
    exact y_iret C hr hlocks d_T_mostDigits_93 h
  refine y_sp h (fun k4 h => ?_) (fun k4 h => ?_)
  · refine y_tsw C (off := 97) 98 d_T_mostDigits_1 (Or.inr ⟨by rw [k4]; decide, by rw [k4]; decide, by rw [k4]; rfl⟩) (by decide) ?_
    refine y_iconst C (v := 0) d_T_mostDigits_98 (by decide) ?_
    exact y_iret C hr hlocks d_T_mostDigits_99 h
  refine y_sp h (fun k5 h => ?_) (fun k5 h => ?_)
  · refine y_tsw C (off := 89) 90 d_T_mostDigits_1 (Or.inr ⟨by rw [k5]; decide, by rw [k5]; decide, by rw [k5]; rfl⟩) (by decide) ?_
    refine y_iconst C (v := 5) d_T_mostDigits_90 (by decide) ?_
    exact y_iret C hr hlocks d_T_mostDigits_91 h
  refine y_sp h (fun k6 h => ?_) (fun k6 h => ?_)
  · refine y_tsw C (off := 95) 96 d_T_mostDigits_1 (Or.inr ⟨by rw [k6]; decide, by rw [k6]; decide, by rw [k6]; rfl⟩) (by decide) ?_
    refine y_iconst C (v := 2) d_T_mostDigits_96 (by decide) ?_
    exact y_iret C hr hlocks d_T_mostDigits_97 h
  refine y_tsw C (off := 99) 100 d_T_mostDigits_1 (y_tdef 17 (by decide) (fun i hi0 => ?_)) (by decide) ?_
  · rcases (by omega : i = 0 ∨ i = 1 ∨ i = 2 ∨ i = 3 ∨ i = 4 ∨ i = 5 ∨ i = 6 ∨ i = 7 ∨ i = 8 ∨ i = 9 ∨ i = 10 ∨ i = 11 ∨ i = 12 ∨ i = 13 ∨ i = 14 ∨ i = 15 ∨ i = 16 ∨ i = 17) with rfl | rfl | rfl | rfl | rfl | rfl | rfl | rfl | rfl | rfl | rfl | rfl | rfl | rfl | rfl | rfl | rfl | rfl
    · exact Or.inl (lv_neT (a := 99) k1 rfl)
    · exact Or.inr rfl
    · exact Or.inr rfl
    · exact Or.inr rfl
    · exact Or.inl (lv_neT (a := 103) k2 rfl)
    · exact Or.inl (lv_neT (a := 104) k3 rfl)
    · exact Or.inr rfl
    · exact Or.inr rfl
    · exact Or.inr rfl
    · exact Or.inr rfl
    · exact Or.inl (lv_neT (a := 109) k4 rfl)
    · exact Or.inr rfl
    · exact Or.inr rfl
    · exact Or.inl (lv_neT (a := 112) k5 rfl)
    · exact Or.inr rfl
    · exact Or.inr rfl
    · exact Or.inr rfl
    · exact Or.inl (lv_neT (a := 116) k6 rfl)
  refine y_iconst C (v := -1) d_T_mostDigits_100 (by decide) ?_
  exact y_iret C hr hlocks d_T_mostDigits_101 h
/-! T_isDigit -/
theorem d_T_isDigit_0 : decode prog_5_method_8_code 0 = .ok (.iload_n 1, 1) := by decide +kernel
theorem d_T_isDigit_1 : decode prog_5_method_8_code 1 = .ok (.aload_n 0, 1) := by decide +kernel
theorem d_T_isDigit_2 : decode prog_5_method_8_code 2 = .ok (.getfield 9, 3) := by decide +kernel
theorem d_T_isDigit_5 : decode prog_5_method_8_code 5 = .ok (.if_icmp .ge 27, 3) := by decide +kernel
theorem d_T_isDigit_8 : decode prog_5_method_8_code 8 = .ok (.aload_n 0, 1) := by decide +kernel
theorem d_T_isDigit_9 : decode prog_5_method_8_code 9 = .ok (.iload_n 1, 1) := by decide +kernel
theorem d_T_isDigit_10 : decode prog_5_method_8_code 10 = .ok (.invokevirtual 25, 3) := by decide +kernel
theorem d_T_isDigit_13 : decode prog_5_method_8_code 13 = .ok (.bipush 48, 2) := by decide +kernel
theorem d_T_isDigit_15 : decode prog_5_method_8_code 15 = .ok (.if_icmp .lt 17, 3) := by decide +kernel
theorem d_T_isDigit_18 : decode prog_5_method_8_code 18 = .ok (.aload_n 0, 1) := by decide +kernel
theorem d_T_isDigit_19 : decode prog_5_method_8_code 19 = .ok (.iload_n 1, 1) := by decide +kernel
theorem d_T_isDigit_20 : decode prog_5_method_8_code 20 = .ok (.invokevirtual 25, 3) := by decide +kernel
theorem d_T_isDigit_23 : decode prog_5_method_8_code 23 = .ok (.bipush 57, 2) := by decide +kernel
theorem d_T_isDigit_25 : decode prog_5_method_8_code 25 = .ok (.if_icmp .gt 7, 3) := by decide +kernel
theorem d_T_isDigit_28 : decode prog_5_method_8_code 28 = .ok (.iconst 1, 1) := by decide +kernel
theorem d_T_isDigit_29 : decode prog_5_method_8_code 29 = .ok (.goto 4, 3) := by decide +kernel
theorem d_T_isDigit_32 : decode prog_5_method_8_code 32 = .ok (.iconst 0, 1) := by decide +kernel
theorem d_T_isDigit_33 : decode prog_5_method_8_code 33 = .ok (.ireturn, 1) := by decide +kernel
theorem gc_T_isDigit_25 : GoodIn yGW (wsV "WhoseGlass$HouseText" 25 yR3 m_S_elementAt ws_S_elementAt) := y_gV g_236 g_237 g_238 g_5 g_239
set_option maxRecDepth 100000 in
def f_T_isDigit (F : Nat) (u : Mm) (a0 : Option Nat) (a1 : Int32) : Option (Int32 × Mm) := ob (jgi YX 3 4 u a0) fun (x1 : Int32) => (if x1 ≤ a1 then ob (jz (0 : Int32)) (fun v => some (v, u)) else ob (jk YX 3 a0) fun t => yb (f_S_elementAt F u t a1) fun x3 u4 => (if x3 < (48 : Int32) then ob (jz (0 : Int32)) (fun v => some (v, u4)) else ob (jk YX 3 a0) fun t => yb (f_S_elementAt F u4 t a1) fun x6 u7 => (if (57 : Int32) < x6 then ob (jz (0 : Int32)) (fun v => some (v, u7)) else ob (jz (1 : Int32)) (fun v => some (v, u7)))))
set_option maxHeartbeats 4000000 in
set_option maxRecDepth 100000 in
theorem c_T_isDigit (l : Launch) (w : WP) (F : Nat) (u : Mm) (a0 : Option Nat) (a1 : Int32) (out : Int32 × Mm) (h : f_T_isDigit F u a0 a1 = some out) : yMet l m_T_isDigit ws_T_isDigit ({ frames := 1, cells := 0, slots := 0, locals := 21 } : Room) YX w u [va_re w.1 a0, .int a1] yfi out := by
  refine y_entry (own := "WhoseGlass$HouseText") (lv := [(0, va_re w.1 a0), (1, .int a1)]) (by decide +kernel) rfl (by simp [lv_args, y_cat, y_catI, y_catJ]) (by simp [lg_sl, y_cat, y_catI, y_catJ]) ?_
  intro p e s m args below meth c C hr hlocks
  unfold f_T_isDigit at h
  refine y_iload_n C (i := 1) 1 d_T_isDigit_0 rfl rfl ?_
  refine y_aload_n C (i := 0) 0 d_T_isDigit_1 rfl rfl ?_
  refine y_gi C (q := (yR3, yT3, 6)) (ci := 3) (k := 4) rfl (by decide) rfl g_183 d_T_isDigit_2 h (fun x1 h => ?_)
  refine y_ic_ge C 32 d_T_isDigit_5 (by decide) h (fun k2 h => ?_) (fun k2 h => ?_)
  · refine y_iconst C (v := 0) d_T_isDigit_32 (by decide) ?_
    exact y_zret C hr hlocks d_T_isDigit_33 h
  · refine y_aload_n C (i := 0) 0 d_T_isDigit_8 rfl rfl ?_
    refine y_iload_n C (i := 1) 1 d_T_isDigit_9 rfl rfl ?_
    refine y_callV 1 C (q := (yR3, yT3, 6)) (ci := 3) (fun t out hh => c_S_elementAt l w F u t a1 out hh) gc_T_isDigit_25 rfl (by decide) hd_S_elementAt ⟨Nat.le_of_ble_eq_true rfl, Nat.le_of_ble_eq_true rfl⟩ rfl rfl rfl rfl (by simp [y_cat, y_catI, y_catJ]) d_T_isDigit_10 h (fun x3 u4 h => ?_)
    refine y_stk (stp0 := [.int x3]) rfl ?_
    refine y_bipush C (v := 48) d_T_isDigit_13 (by decide) ?_
    refine y_ic_lt C 32 d_T_isDigit_15 (by decide) h (fun k5 h => ?_) (fun k5 h => ?_)
    · refine y_iconst C (v := 0) d_T_isDigit_32 (by decide) ?_
      exact y_zret C hr hlocks d_T_isDigit_33 h
    · refine y_aload_n C (i := 0) 0 d_T_isDigit_18 rfl rfl ?_
      refine y_iload_n C (i := 1) 1 d_T_isDigit_19 rfl rfl ?_
      refine y_callV 1 C (q := (yR3, yT3, 6)) (ci := 3) (fun t out hh => c_S_elementAt l w F u4 t a1 out hh) gc_T_isDigit_25 rfl (by decide) hd_S_elementAt ⟨Nat.le_of_ble_eq_true rfl, Nat.le_of_ble_eq_true rfl⟩ rfl rfl rfl rfl (by simp [y_cat, y_catI, y_catJ]) d_T_isDigit_20 h (fun x6 u7 h => ?_)
      refine y_stk (stp0 := [.int x6]) rfl ?_
      refine y_bipush C (v := 57) d_T_isDigit_23 (by decide) ?_
      refine y_ic_gt C 32 d_T_isDigit_25 (by decide) h (fun k8 h => ?_) (fun k8 h => ?_)
      · refine y_iconst C (v := 0) d_T_isDigit_32 (by decide) ?_
        exact y_zret C hr hlocks d_T_isDigit_33 h
      · refine y_iconst C (v := 1) d_T_isDigit_28 (by decide) ?_
        refine y_goto C (tgt := 33) d_T_isDigit_29 (by decide) ?_
        exact y_zret C hr hlocks d_T_isDigit_33 h
/-! T_digitsEnd -/
theorem d_T_digitsEnd_0 : decode prog_5_method_6_code 0 = .ok (.iload_n 1, 1) := by decide +kernel
theorem d_T_digitsEnd_1 : decode prog_5_method_6_code 1 = .ok (.aload_n 0, 1) := by decide +kernel
theorem d_T_digitsEnd_2 : decode prog_5_method_6_code 2 = .ok (.getfield 9, 3) := by decide +kernel
theorem d_T_digitsEnd_5 : decode prog_5_method_6_code 5 = .ok (.if_icmp .ge 14, 3) := by decide +kernel
theorem d_T_digitsEnd_8 : decode prog_5_method_6_code 8 = .ok (.aload_n 0, 1) := by decide +kernel
theorem d_T_digitsEnd_9 : decode prog_5_method_6_code 9 = .ok (.iload_n 1, 1) := by decide +kernel
theorem d_T_digitsEnd_10 : decode prog_5_method_6_code 10 = .ok (.invokevirtual 25, 3) := by decide +kernel
theorem d_T_digitsEnd_13 : decode prog_5_method_6_code 13 = .ok (.invokestatic 49, 3) := by decide +kernel
theorem d_T_digitsEnd_16 : decode prog_5_method_6_code 16 = .ok (.goto 4, 3) := by decide +kernel
theorem d_T_digitsEnd_19 : decode prog_5_method_6_code 19 = .ok (.iconst (-1), 1) := by decide +kernel
theorem d_T_digitsEnd_20 : decode prog_5_method_6_code 20 = .ok (.istore_n 2, 1) := by decide +kernel
theorem d_T_digitsEnd_21 : decode prog_5_method_6_code 21 = .ok (.iload_n 2, 1) := by decide +kernel
theorem d_T_digitsEnd_22 : decode prog_5_method_6_code 22 = .ok (.iconst (-1), 1) := by decide +kernel
theorem d_T_digitsEnd_23 : decode prog_5_method_6_code 23 = .ok (.if_icmp .ne 5, 3) := by decide +kernel
theorem d_T_digitsEnd_26 : decode prog_5_method_6_code 26 = .ok (.iload_n 1, 1) := by decide +kernel
theorem d_T_digitsEnd_27 : decode prog_5_method_6_code 27 = .ok (.ireturn, 1) := by decide +kernel
theorem d_T_digitsEnd_28 : decode prog_5_method_6_code 28 = .ok (.iconst 0, 1) := by decide +kernel
theorem d_T_digitsEnd_29 : decode prog_5_method_6_code 29 = .ok (.istore_n 3, 1) := by decide +kernel
theorem d_T_digitsEnd_30 : decode prog_5_method_6_code 30 = .ok (.iload_n 3, 1) := by decide +kernel
theorem d_T_digitsEnd_31 : decode prog_5_method_6_code 31 = .ok (.iload_n 2, 1) := by decide +kernel
theorem d_T_digitsEnd_32 : decode prog_5_method_6_code 32 = .ok (.if_icmp .ge 21, 3) := by decide +kernel
theorem d_T_digitsEnd_35 : decode prog_5_method_6_code 35 = .ok (.aload_n 0, 1) := by decide +kernel
theorem d_T_digitsEnd_36 : decode prog_5_method_6_code 36 = .ok (.iload_n 1, 1) := by decide +kernel
theorem d_T_digitsEnd_37 : decode prog_5_method_6_code 37 = .ok (.iconst 1, 1) := by decide +kernel
theorem d_T_digitsEnd_38 : decode prog_5_method_6_code 38 = .ok (.iadd, 1) := by decide +kernel
theorem d_T_digitsEnd_39 : decode prog_5_method_6_code 39 = .ok (.iload_n 3, 1) := by decide +kernel
theorem d_T_digitsEnd_40 : decode prog_5_method_6_code 40 = .ok (.iadd, 1) := by decide +kernel
theorem d_T_digitsEnd_41 : decode prog_5_method_6_code 41 = .ok (.invokestatic 52, 3) := by decide +kernel
theorem d_T_digitsEnd_44 : decode prog_5_method_6_code 44 = .ok (.ifCond .eq 9, 3) := by decide +kernel
theorem d_T_digitsEnd_47 : decode prog_5_method_6_code 47 = .ok (.iinc 3 1, 3) := by decide +kernel
theorem d_T_digitsEnd_50 : decode prog_5_method_6_code 50 = .ok (.goto (-20), 3) := by decide +kernel
theorem d_T_digitsEnd_53 : decode prog_5_method_6_code 53 = .ok (.iload_n 1, 1) := by decide +kernel
theorem d_T_digitsEnd_54 : decode prog_5_method_6_code 54 = .ok (.iconst 1, 1) := by decide +kernel
theorem d_T_digitsEnd_55 : decode prog_5_method_6_code 55 = .ok (.iadd, 1) := by decide +kernel
theorem d_T_digitsEnd_56 : decode prog_5_method_6_code 56 = .ok (.iload_n 3, 1) := by decide +kernel
theorem d_T_digitsEnd_57 : decode prog_5_method_6_code 57 = .ok (.iadd, 1) := by decide +kernel
theorem d_T_digitsEnd_58 : decode prog_5_method_6_code 58 = .ok (.ireturn, 1) := by decide +kernel
theorem gc_T_digitsEnd_25 : GoodIn yGW (wsV "WhoseGlass$HouseText" 25 yR3 m_S_elementAt ws_S_elementAt) := y_gV g_236 g_237 g_238 g_5 g_239
set_option maxHeartbeats 4000000 in
set_option maxRecDepth 100000 in
def f_T_digitsEnd_L30 (F : Nat) (a0 : Option Nat) (a1 : Int32) (a2 : Int32) (k : Mm → Int32 → Option (Int32 × Mm)) : Nat → Mm → Int32 → Option (Int32 × Mm)
  | 0, _, _ => none
  | n + 1, u, a3 => (if a2 ≤ a3 then k u a3 else yb (f_T_isDigit F u a0 ((a1 + (1 : Int32)) + a3)) fun x10 u11 => (if x10 = 0 then k u11 a3 else ob (some (a3 + (1 : Int32))) fun (x13 : Int32) => f_T_digitsEnd_L30 F a0 a1 a2 k n u11 x13))
set_option maxHeartbeats 4000000 in
set_option maxRecDepth 100000 in
theorem w_T_digitsEnd_L30 {p : Program} {l : Launch} {e : Env} {s : State} {m : MethodId} {args : Array Value} {below : List Frame} {meth : Method} {c : Code} {w : WP} {Q : State → Prop} (F : Nat) (C : yX p e ({ frames := 2, cells := 0, slots := 0, locals := 42 } : Room) s m args c YX w 4 prog_5_method_6_code "WhoseGlass$HouseText") (hr : meth.sig.returnType = (some .int)) (hlocks : meth.locks = false) (a0 : Option Nat) (a1 : Int32) (a2 : Int32) {out : Int32 × Mm} (k : Mm → Int32 → Option (Int32 × Mm)) (hk : ∀ (u : Mm) (a3 : Int32), k u a3 = some out → yG p l e ({ frames := 2, cells := 0, slots := 0, locals := 42 } : Room) s m args below meth c YX w 4 Q u 53 [(1, .int a1), (3, .int a3)] []) : ∀ (n : Nat) (u : Mm) (a3 : Int32), f_T_digitsEnd_L30 F a0 a1 a2 k n u a3 = some out → yG p l e ({ frames := 2, cells := 0, slots := 0, locals := 42 } : Room) s m args below meth c YX w 4 Q u 30 [(0, va_re w.1 a0), (1, .int a1), (2, .int a2), (3, .int a3)] [] := by
  intro n
  induction n with
  | zero => intro u a3 h; rw [f_T_digitsEnd_L30] at h; cases h
  | succ n ih =>
    intro u a3 h
    rw [f_T_digitsEnd_L30] at h
    refine y_iload_n C (i := 3) 3 d_T_digitsEnd_30 rfl rfl ?_
    refine y_iload_n C (i := 2) 2 d_T_digitsEnd_31 rfl rfl ?_
    refine y_ic_ge C 53 d_T_digitsEnd_32 (by decide) h (fun k9 h => ?_) (fun k9 h => ?_)
    · exact y_sub [1, 3] rfl (hk _ _ h)
    · refine y_aload_n C (i := 0) 0 d_T_digitsEnd_35 rfl rfl ?_
      refine y_iload_n C (i := 1) 1 d_T_digitsEnd_36 rfl rfl ?_
      refine y_iconst C (v := 1) d_T_digitsEnd_37 (by decide) ?_
      refine y_iadd C d_T_digitsEnd_38 ?_
      refine y_iload_n C (i := 3) 3 d_T_digitsEnd_39 rfl rfl ?_
      refine y_iadd C d_T_digitsEnd_40 ?_
      refine y_callS 2 C (fun out hh => c_T_isDigit l w F u a0 ((a1 + (1 : Int32)) + a3) out hh) (y_gc g_245) g_243 g_7 g_244 hn_T_isDigit ⟨Nat.le_of_ble_eq_true rfl, Nat.le_of_ble_eq_true rfl⟩ rfl rfl rfl rfl (by simp [y_cat, y_catI, y_catJ]) d_T_digitsEnd_41 h (fun x10 u11 h => ?_)
      refine y_stk (stp0 := [.int x10]) rfl ?_
      refine y_if_eq C 53 d_T_digitsEnd_44 (by decide) h (fun k12 h => ?_) (fun k12 h => ?_)
      · exact y_sub [1, 3] rfl (hk _ _ h)
      · refine y_iinc C (j := 3) (v := 1) (lvp := [(0, va_re w.1 a0), (1, .int a1), (2, .int a2)]) d_T_digitsEnd_47 rfl (by decide) (by decide) rfl h (fun x13 h => ?_)
        refine y_goto C (tgt := 30) d_T_digitsEnd_50 (by decide) ?_
        exact y_sub [1, 2, 3, 0] rfl (ih _ _ h)
set_option maxRecDepth 100000 in
def f_T_digitsEnd (F : Nat) (u : Mm) (a0 : Option Nat) (a1 : Int32) : Option (Int32 × Mm) := ob (jgi YX 3 4 u a0) fun (x1 : Int32) => ob ((if x1 ≤ a1 then some ((-1 : Int32), u) else ob (jk YX 3 a0) fun t => yb (f_S_elementAt F u t a1) fun x4 u5 => yb (f_T_mostDigits F u5 x4) fun x6 u7 => some (x6, u7)) : Option (Int32 × Mm)) fun q2 => (if q2.1 = (-1 : Int32) then some (a1, q2.2) else f_T_digitsEnd_L30 F a0 a1 q2.1 (fun (u14 : Mm) (x15 : Int32) => some (((a1 + (1 : Int32)) + x15), u14)) F q2.2 (0 : Int32))
set_option maxHeartbeats 4000000 in
set_option maxRecDepth 100000 in
theorem c_T_digitsEnd (l : Launch) (w : WP) (F : Nat) (u : Mm) (a0 : Option Nat) (a1 : Int32) (out : Int32 × Mm) (h : f_T_digitsEnd F u a0 a1 = some out) : yMet l m_T_digitsEnd ws_T_digitsEnd ({ frames := 2, cells := 0, slots := 0, locals := 42 } : Room) YX w u [va_re w.1 a0, .int a1] yfi out := by
  refine y_entry (own := "WhoseGlass$HouseText") (lv := [(0, va_re w.1 a0), (1, .int a1)]) (by decide +kernel) rfl (by simp [lv_args, y_cat, y_catI, y_catJ]) (by simp [lg_sl, y_cat, y_catI, y_catJ]) ?_
  intro p e s m args below meth c C hr hlocks
  unfold f_T_digitsEnd at h
  refine y_iload_n C (i := 1) 1 d_T_digitsEnd_0 rfl rfl ?_
  refine y_aload_n C (i := 0) 0 d_T_digitsEnd_1 rfl rfl ?_
  refine y_gi C (q := (yR3, yT3, 6)) (ci := 3) (k := 4) rfl (by decide) rfl g_183 d_T_digitsEnd_2 h (fun x1 h => ?_)
  obtain ⟨q2, hq2, h⟩ := ob_e h
  have hJq2 : yG p l e ({ frames := 2, cells := 0, slots := 0, locals := 42 } : Room) s m args below meth c YX w 4 (MQ below (yQ YX w yfi out) args s 0 0 (yA YX w)) q2.2 20 [(0, va_re w.1 a0), (1, .int a1)] [.int q2.1] := by
    refine y_istore_n C (i := 2) (lvp := [(0, va_re w.1 a0), (1, .int a1)]) d_T_digitsEnd_20 rfl (by decide) rfl ?_
    refine y_iload_n C (i := 2) 0 d_T_digitsEnd_21 rfl rfl ?_
    refine y_iconst C (v := -1) d_T_digitsEnd_22 (by decide) ?_
    refine y_ic_ne C 28 d_T_digitsEnd_23 (by decide) h (fun k8 h => ?_) (fun k8 h => ?_)
    · refine y_iload_n C (i := 1) 2 d_T_digitsEnd_26 rfl rfl ?_
      exact y_iret C hr hlocks d_T_digitsEnd_27 h
    · refine y_iconst C (v := 0) d_T_digitsEnd_28 (by decide) ?_
      refine y_istore_n C (i := 3) (lvp := [(2, .int q2.1), (0, va_re w.1 a0), (1, .int a1)]) d_T_digitsEnd_29 rfl (by decide) rfl ?_
      refine y_sub [2, 3, 1, 0] rfl (w_T_digitsEnd_L30 F C hr hlocks _ _ _ _ (fun u14 x15 h => ?_) _ _ _ h)
      refine y_iload_n C (i := 1) 0 d_T_digitsEnd_53 rfl rfl ?_
      refine y_iconst C (v := 1) d_T_digitsEnd_54 (by decide) ?_
      refine y_iadd C d_T_digitsEnd_55 ?_
      refine y_iload_n C (i := 3) 1 d_T_digitsEnd_56 rfl rfl ?_
      refine y_iadd C d_T_digitsEnd_57 ?_
      exact y_iret C hr hlocks d_T_digitsEnd_58 h
  refine y_ic_ge C 19 d_T_digitsEnd_5 (by decide) hq2 (fun k3 hq2 => ?_) (fun k3 hq2 => ?_)
  · refine y_iconst C (v := -1) d_T_digitsEnd_19 (by decide) ?_
    cases hq2
    exact y_sub [0, 1] rfl hJq2
  · refine y_aload_n C (i := 0) 0 d_T_digitsEnd_8 rfl rfl ?_
    refine y_iload_n C (i := 1) 1 d_T_digitsEnd_9 rfl rfl ?_
    refine y_callV 1 C (q := (yR3, yT3, 6)) (ci := 3) (fun t out hh => c_S_elementAt l w F u t a1 out hh) gc_T_digitsEnd_25 rfl (by decide) hd_S_elementAt ⟨Nat.le_of_ble_eq_true rfl, Nat.le_of_ble_eq_true rfl⟩ rfl rfl rfl rfl (by simp [y_cat, y_catI, y_catJ]) d_T_digitsEnd_10 hq2 (fun x4 u5 hq2 => ?_)
    refine y_stk (stp0 := [.int x4]) rfl ?_
    refine y_callS 1 C (fun out hh => c_T_mostDigits l w F u5 x4 out hh) (y_gc g_242) g_240 g_7 g_241 hn_T_mostDigits ⟨Nat.le_of_ble_eq_true rfl, Nat.le_of_ble_eq_true rfl⟩ rfl rfl rfl rfl (by simp [y_cat, y_catI, y_catJ]) d_T_digitsEnd_13 hq2 (fun x6 u7 hq2 => ?_)
    refine y_stk (stp0 := [.int x6]) rfl ?_
    refine y_goto C (tgt := 20) d_T_digitsEnd_16 (by decide) ?_
    cases hq2
    exact y_sub [0, 1] rfl hJq2
/-! T_leastDigits -/
theorem d_T_leastDigits_0 : decode prog_5_method_9_code 0 = .ok (.iload_n 0, 1) := by decide +kernel
theorem d_T_leastDigits_1 : decode prog_5_method_9_code 1 = .ok (.bipush 116, 2) := by decide +kernel
theorem d_T_leastDigits_3 : decode prog_5_method_9_code 3 = .ok (.if_icmp .ne 7, 3) := by decide +kernel
theorem d_T_leastDigits_6 : decode prog_5_method_9_code 6 = .ok (.iconst 1, 1) := by decide +kernel
theorem d_T_leastDigits_7 : decode prog_5_method_9_code 7 = .ok (.goto 7, 3) := by decide +kernel
theorem d_T_leastDigits_10 : decode prog_5_method_9_code 10 = .ok (.iload_n 0, 1) := by decide +kernel
theorem d_T_leastDigits_11 : decode prog_5_method_9_code 11 = .ok (.invokestatic 49, 3) := by decide +kernel
theorem d_T_leastDigits_14 : decode prog_5_method_9_code 14 = .ok (.ireturn, 1) := by decide +kernel
set_option maxRecDepth 100000 in
def f_T_leastDigits (F : Nat) (u : Mm) (a0 : Int32) : Option (Int32 × Mm) := (if a0 = (116 : Int32) then some ((1 : Int32), u) else yb (f_T_mostDigits F u a0) fun x2 u3 => some (x2, u3))
set_option maxHeartbeats 4000000 in
set_option maxRecDepth 100000 in
theorem c_T_leastDigits (l : Launch) (w : WP) (F : Nat) (u : Mm) (a0 : Int32) (out : Int32 × Mm) (h : f_T_leastDigits F u a0 = some out) : yMet l m_T_leastDigits ws_T_leastDigits ({ frames := 1, cells := 0, slots := 0, locals := 20 } : Room) YX w u [.int a0] yfi out := by
  refine y_entry (own := "WhoseGlass$HouseText") (lv := [(0, .int a0)]) (by decide +kernel) rfl (by simp [lv_args, y_cat, y_catI, y_catJ]) (by simp [lg_sl, y_cat, y_catI, y_catJ]) ?_
  intro p e s m args below meth c C hr hlocks
  unfold f_T_leastDigits at h
  refine y_iload_n C (i := 0) 0 d_T_leastDigits_0 rfl rfl ?_
  refine y_bipush C (v := 116) d_T_leastDigits_1 (by decide) ?_
  refine y_ic_ne C 10 d_T_leastDigits_3 (by decide) h (fun k1 h => ?_) (fun k1 h => ?_)
  · refine y_iconst C (v := 1) d_T_leastDigits_6 (by decide) ?_
    refine y_goto C (tgt := 14) d_T_leastDigits_7 (by decide) ?_
    exact y_iret C hr hlocks d_T_leastDigits_14 h
  · refine y_iload_n C (i := 0) 0 d_T_leastDigits_10 rfl rfl ?_
    refine y_callS 1 C (fun out hh => c_T_mostDigits l w F u a0 out hh) (y_gc g_242) g_240 g_7 g_241 hn_T_mostDigits ⟨Nat.le_of_ble_eq_true rfl, Nat.le_of_ble_eq_true rfl⟩ rfl rfl rfl rfl (by simp [y_cat, y_catI, y_catJ]) d_T_leastDigits_11 h (fun x2 u3 h => ?_)
    refine y_stk (stp0 := [.int x2]) rfl ?_
    exact y_iret C hr hlocks d_T_leastDigits_14 h
/-! T_isAt -/
theorem d_T_isAt_0 : decode prog_5_method_7_code 0 = .ok (.iload_n 1, 1) := by decide +kernel
theorem d_T_isAt_1 : decode prog_5_method_7_code 1 = .ok (.aload_n 0, 1) := by decide +kernel
theorem d_T_isAt_2 : decode prog_5_method_7_code 2 = .ok (.getfield 9, 3) := by decide +kernel
theorem d_T_isAt_5 : decode prog_5_method_7_code 5 = .ok (.if_icmp .ge 16, 3) := by decide +kernel
theorem d_T_isAt_8 : decode prog_5_method_7_code 8 = .ok (.aload_n 0, 1) := by decide +kernel
theorem d_T_isAt_9 : decode prog_5_method_7_code 9 = .ok (.iload_n 1, 1) := by decide +kernel
theorem d_T_isAt_10 : decode prog_5_method_7_code 10 = .ok (.invokevirtual 25, 3) := by decide +kernel
theorem d_T_isAt_13 : decode prog_5_method_7_code 13 = .ok (.iload_n 2, 1) := by decide +kernel
theorem d_T_isAt_14 : decode prog_5_method_7_code 14 = .ok (.if_icmp .ne 7, 3) := by decide +kernel
theorem d_T_isAt_17 : decode prog_5_method_7_code 17 = .ok (.iconst 1, 1) := by decide +kernel
theorem d_T_isAt_18 : decode prog_5_method_7_code 18 = .ok (.goto 4, 3) := by decide +kernel
theorem d_T_isAt_21 : decode prog_5_method_7_code 21 = .ok (.iconst 0, 1) := by decide +kernel
theorem d_T_isAt_22 : decode prog_5_method_7_code 22 = .ok (.ireturn, 1) := by decide +kernel
theorem gc_T_isAt_25 : GoodIn yGW (wsV "WhoseGlass$HouseText" 25 yR3 m_S_elementAt ws_S_elementAt) := y_gV g_236 g_237 g_238 g_5 g_239
set_option maxRecDepth 100000 in
def f_T_isAt (F : Nat) (u : Mm) (a0 : Option Nat) (a1 : Int32) (a2 : Int32) : Option (Int32 × Mm) := ob (jgi YX 3 4 u a0) fun (x1 : Int32) => (if x1 ≤ a1 then ob (jz (0 : Int32)) (fun v => some (v, u)) else ob (jk YX 3 a0) fun t => yb (f_S_elementAt F u t a1) fun x3 u4 => (if x3 = a2 then ob (jz (1 : Int32)) (fun v => some (v, u4)) else ob (jz (0 : Int32)) (fun v => some (v, u4))))
set_option maxHeartbeats 4000000 in
set_option maxRecDepth 100000 in
theorem c_T_isAt (l : Launch) (w : WP) (F : Nat) (u : Mm) (a0 : Option Nat) (a1 : Int32) (a2 : Int32) (out : Int32 × Mm) (h : f_T_isAt F u a0 a1 a2 = some out) : yMet l m_T_isAt ws_T_isAt ({ frames := 1, cells := 0, slots := 0, locals := 21 } : Room) YX w u [va_re w.1 a0, .int a1, .int a2] yfi out := by
  refine y_entry (own := "WhoseGlass$HouseText") (lv := [(0, va_re w.1 a0), (1, .int a1), (2, .int a2)]) (by decide +kernel) rfl (by simp [lv_args, y_cat, y_catI, y_catJ]) (by simp [lg_sl, y_cat, y_catI, y_catJ]) ?_
  intro p e s m args below meth c C hr hlocks
  unfold f_T_isAt at h
  refine y_iload_n C (i := 1) 1 d_T_isAt_0 rfl rfl ?_
  refine y_aload_n C (i := 0) 0 d_T_isAt_1 rfl rfl ?_
  refine y_gi C (q := (yR3, yT3, 6)) (ci := 3) (k := 4) rfl (by decide) rfl g_183 d_T_isAt_2 h (fun x1 h => ?_)
  refine y_ic_ge C 21 d_T_isAt_5 (by decide) h (fun k2 h => ?_) (fun k2 h => ?_)
  · refine y_iconst C (v := 0) d_T_isAt_21 (by decide) ?_
    exact y_zret C hr hlocks d_T_isAt_22 h
  · refine y_aload_n C (i := 0) 0 d_T_isAt_8 rfl rfl ?_
    refine y_iload_n C (i := 1) 1 d_T_isAt_9 rfl rfl ?_
    refine y_callV 1 C (q := (yR3, yT3, 6)) (ci := 3) (fun t out hh => c_S_elementAt l w F u t a1 out hh) gc_T_isAt_25 rfl (by decide) hd_S_elementAt ⟨Nat.le_of_ble_eq_true rfl, Nat.le_of_ble_eq_true rfl⟩ rfl rfl rfl rfl (by simp [y_cat, y_catI, y_catJ]) d_T_isAt_10 h (fun x3 u4 h => ?_)
    refine y_stk (stp0 := [.int x3]) rfl ?_
    refine y_iload_n C (i := 2) 2 d_T_isAt_13 rfl rfl ?_
    refine y_ic_ne C 21 d_T_isAt_14 (by decide) h (fun k5 h => ?_) (fun k5 h => ?_)
    · refine y_iconst C (v := 1) d_T_isAt_17 (by decide) ?_
      refine y_goto C (tgt := 22) d_T_isAt_18 (by decide) ?_
      exact y_zret C hr hlocks d_T_isAt_22 h
    · refine y_iconst C (v := 0) d_T_isAt_21 (by decide) ?_
      exact y_zret C hr hlocks d_T_isAt_22 h
/-! T_isWhole -/
theorem d_T_isWhole_0 : decode prog_5_method_3_code 0 = .ok (.iload_n 2, 1) := by decide +kernel
theorem d_T_isWhole_1 : decode prog_5_method_3_code 1 = .ok (.iload_n 1, 1) := by decide +kernel
theorem d_T_isWhole_2 : decode prog_5_method_3_code 2 = .ok (.if_icmp .le 33, 3) := by decide +kernel
theorem d_T_isWhole_5 : decode prog_5_method_3_code 5 = .ok (.iload_n 2, 1) := by decide +kernel
theorem d_T_isWhole_6 : decode prog_5_method_3_code 6 = .ok (.iload_n 1, 1) := by decide +kernel
theorem d_T_isWhole_7 : decode prog_5_method_3_code 7 = .ok (.isub, 1) := by decide +kernel
theorem d_T_isWhole_8 : decode prog_5_method_3_code 8 = .ok (.iconst 1, 1) := by decide +kernel
theorem d_T_isWhole_9 : decode prog_5_method_3_code 9 = .ok (.isub, 1) := by decide +kernel
theorem d_T_isWhole_10 : decode prog_5_method_3_code 10 = .ok (.aload_n 0, 1) := by decide +kernel
theorem d_T_isWhole_11 : decode prog_5_method_3_code 11 = .ok (.iload_n 1, 1) := by decide +kernel
theorem d_T_isWhole_12 : decode prog_5_method_3_code 12 = .ok (.invokevirtual 25, 3) := by decide +kernel
theorem d_T_isWhole_15 : decode prog_5_method_3_code 15 = .ok (.invokestatic 29, 3) := by decide +kernel
theorem d_T_isWhole_18 : decode prog_5_method_3_code 18 = .ok (.if_icmp .lt 17, 3) := by decide +kernel
theorem d_T_isWhole_21 : decode prog_5_method_3_code 21 = .ok (.aload_n 0, 1) := by decide +kernel
theorem d_T_isWhole_22 : decode prog_5_method_3_code 22 = .ok (.iload_n 2, 1) := by decide +kernel
theorem d_T_isWhole_23 : decode prog_5_method_3_code 23 = .ok (.bipush 59, 2) := by decide +kernel
theorem d_T_isWhole_25 : decode prog_5_method_3_code 25 = .ok (.invokestatic 32, 3) := by decide +kernel
theorem d_T_isWhole_28 : decode prog_5_method_3_code 28 = .ok (.ifCond .eq 7, 3) := by decide +kernel
theorem d_T_isWhole_31 : decode prog_5_method_3_code 31 = .ok (.iconst 1, 1) := by decide +kernel
theorem d_T_isWhole_32 : decode prog_5_method_3_code 32 = .ok (.goto 4, 3) := by decide +kernel
theorem d_T_isWhole_35 : decode prog_5_method_3_code 35 = .ok (.iconst 0, 1) := by decide +kernel
theorem d_T_isWhole_36 : decode prog_5_method_3_code 36 = .ok (.ireturn, 1) := by decide +kernel
theorem gc_T_isWhole_25 : GoodIn yGW (wsV "WhoseGlass$HouseText" 25 yR3 m_S_elementAt ws_S_elementAt) := y_gV g_236 g_237 g_238 g_5 g_239
set_option maxRecDepth 100000 in
def f_T_isWhole (F : Nat) (u : Mm) (a0 : Option Nat) (a1 : Int32) (a2 : Int32) : Option (Int32 × Mm) := (if a2 ≤ a1 then ob (jz (0 : Int32)) (fun v => some (v, u)) else ob (jk YX 3 a0) fun t => yb (f_S_elementAt F u t a1) fun x2 u3 => yb (f_T_leastDigits F u3 x2) fun x4 u5 => (if ((a2 - a1) - (1 : Int32)) < x4 then ob (jz (0 : Int32)) (fun v => some (v, u5)) else yb (f_T_isAt F u5 a0 a2 (59 : Int32)) fun x7 u8 => (if x7 = 0 then ob (jz (0 : Int32)) (fun v => some (v, u8)) else ob (jz (1 : Int32)) (fun v => some (v, u8)))))
set_option maxHeartbeats 4000000 in
set_option maxRecDepth 100000 in
theorem c_T_isWhole (l : Launch) (w : WP) (F : Nat) (u : Mm) (a0 : Option Nat) (a1 : Int32) (a2 : Int32) (out : Int32 × Mm) (h : f_T_isWhole F u a0 a1 a2 = some out) : yMet l m_T_isWhole ws_T_isWhole ({ frames := 2, cells := 0, slots := 0, locals := 43 } : Room) YX w u [va_re w.1 a0, .int a1, .int a2] yfi out := by
  refine y_entry (own := "WhoseGlass$HouseText") (lv := [(0, va_re w.1 a0), (1, .int a1), (2, .int a2)]) (by decide +kernel) rfl (by simp [lv_args, y_cat, y_catI, y_catJ]) (by simp [lg_sl, y_cat, y_catI, y_catJ]) ?_
  intro p e s m args below meth c C hr hlocks
  unfold f_T_isWhole at h
  refine y_iload_n C (i := 2) 2 d_T_isWhole_0 rfl rfl ?_
  refine y_iload_n C (i := 1) 1 d_T_isWhole_1 rfl rfl ?_
  refine y_ic_le C 35 d_T_isWhole_2 (by decide) h (fun k1 h => ?_) (fun k1 h => ?_)
  · refine y_iconst C (v := 0) d_T_isWhole_35 (by decide) ?_
    exact y_zret C hr hlocks d_T_isWhole_36 h
  · refine y_iload_n C (i := 2) 2 d_T_isWhole_5 rfl rfl ?_
    refine y_iload_n C (i := 1) 1 d_T_isWhole_6 rfl rfl ?_
    refine y_isub C d_T_isWhole_7 ?_
    refine y_iconst C (v := 1) d_T_isWhole_8 (by decide) ?_
    refine y_isub C d_T_isWhole_9 ?_
    refine y_aload_n C (i := 0) 0 d_T_isWhole_10 rfl rfl ?_
    refine y_iload_n C (i := 1) 1 d_T_isWhole_11 rfl rfl ?_
    refine y_callV 1 C (q := (yR3, yT3, 6)) (ci := 3) (fun t out hh => c_S_elementAt l w F u t a1 out hh) gc_T_isWhole_25 rfl (by decide) hd_S_elementAt ⟨Nat.le_of_ble_eq_true rfl, Nat.le_of_ble_eq_true rfl⟩ rfl rfl rfl rfl (by simp [y_cat, y_catI, y_catJ]) d_T_isWhole_12 h (fun x2 u3 h => ?_)
    refine y_stk (stp0 := [.int x2, .int ((a2 - a1) - (1 : Int32))]) rfl ?_
    refine y_callS 1 C (fun out hh => c_T_leastDigits l w F u3 x2 out hh) (y_gc g_251) g_249 g_7 g_250 hn_T_leastDigits ⟨Nat.le_of_ble_eq_true rfl, Nat.le_of_ble_eq_true rfl⟩ rfl rfl rfl rfl (by simp [y_cat, y_catI, y_catJ]) d_T_isWhole_15 h (fun x4 u5 h => ?_)
    refine y_stk (stp0 := [.int x4, .int ((a2 - a1) - (1 : Int32))]) rfl ?_
    refine y_ic_lt C 35 d_T_isWhole_18 (by decide) h (fun k6 h => ?_) (fun k6 h => ?_)
    · refine y_iconst C (v := 0) d_T_isWhole_35 (by decide) ?_
      exact y_zret C hr hlocks d_T_isWhole_36 h
    · refine y_aload_n C (i := 0) 0 d_T_isWhole_21 rfl rfl ?_
      refine y_iload_n C (i := 2) 2 d_T_isWhole_22 rfl rfl ?_
      refine y_bipush C (v := 59) d_T_isWhole_23 (by decide) ?_
      refine y_callS 3 C (fun out hh => c_T_isAt l w F u5 a0 a2 (59 : Int32) out hh) (y_gc g_254) g_252 g_7 g_253 hn_T_isAt ⟨Nat.le_of_ble_eq_true rfl, Nat.le_of_ble_eq_true rfl⟩ rfl rfl rfl rfl (by simp [y_cat, y_catI, y_catJ]) d_T_isWhole_25 h (fun x7 u8 h => ?_)
      refine y_stk (stp0 := [.int x7]) rfl ?_
      refine y_if_eq C 35 d_T_isWhole_28 (by decide) h (fun k9 h => ?_) (fun k9 h => ?_)
      · refine y_iconst C (v := 0) d_T_isWhole_35 (by decide) ?_
        exact y_zret C hr hlocks d_T_isWhole_36 h
      · refine y_iconst C (v := 1) d_T_isWhole_31 (by decide) ?_
        refine y_goto C (tgt := 36) d_T_isWhole_32 (by decide) ?_
        exact y_zret C hr hlocks d_T_isWhole_36 h
/-! T_breakIn -/
theorem d_T_breakIn_0 : decode prog_5_method_2_code 0 = .ok (.iconst 0, 1) := by decide +kernel
theorem d_T_breakIn_1 : decode prog_5_method_2_code 1 = .ok (.istore_n 1, 1) := by decide +kernel
theorem d_T_breakIn_2 : decode prog_5_method_2_code 2 = .ok (.iconst 0, 1) := by decide +kernel
theorem d_T_breakIn_3 : decode prog_5_method_2_code 3 = .ok (.istore_n 2, 1) := by decide +kernel
theorem d_T_breakIn_4 : decode prog_5_method_2_code 4 = .ok (.iload_n 2, 1) := by decide +kernel
theorem d_T_breakIn_5 : decode prog_5_method_2_code 5 = .ok (.aload_n 0, 1) := by decide +kernel
theorem d_T_breakIn_6 : decode prog_5_method_2_code 6 = .ok (.getfield 9, 3) := by decide +kernel
theorem d_T_breakIn_9 : decode prog_5_method_2_code 9 = .ok (.if_icmp .gt 41, 3) := by decide +kernel
theorem d_T_breakIn_12 : decode prog_5_method_2_code 12 = .ok (.aload_n 0, 1) := by decide +kernel
theorem d_T_breakIn_13 : decode prog_5_method_2_code 13 = .ok (.iload_n 1, 1) := by decide +kernel
theorem d_T_breakIn_14 : decode prog_5_method_2_code 14 = .ok (.invokestatic 15, 3) := by decide +kernel
theorem d_T_breakIn_17 : decode prog_5_method_2_code 17 = .ok (.istore_n 3, 1) := by decide +kernel
theorem d_T_breakIn_18 : decode prog_5_method_2_code 18 = .ok (.aload_n 0, 1) := by decide +kernel
theorem d_T_breakIn_19 : decode prog_5_method_2_code 19 = .ok (.iload_n 1, 1) := by decide +kernel
theorem d_T_breakIn_20 : decode prog_5_method_2_code 20 = .ok (.iload_n 3, 1) := by decide +kernel
theorem d_T_breakIn_21 : decode prog_5_method_2_code 21 = .ok (.invokestatic 21, 3) := by decide +kernel
theorem d_T_breakIn_24 : decode prog_5_method_2_code 24 = .ok (.ifCond .ne 5, 3) := by decide +kernel
theorem d_T_breakIn_27 : decode prog_5_method_2_code 27 = .ok (.iload_n 3, 1) := by decide +kernel
theorem d_T_breakIn_28 : decode prog_5_method_2_code 28 = .ok (.ireturn, 1) := by decide +kernel
theorem d_T_breakIn_29 : decode prog_5_method_2_code 29 = .ok (.iload_n 3, 1) := by decide +kernel
theorem d_T_breakIn_30 : decode prog_5_method_2_code 30 = .ok (.iconst 1, 1) := by decide +kernel
theorem d_T_breakIn_31 : decode prog_5_method_2_code 31 = .ok (.iadd, 1) := by decide +kernel
theorem d_T_breakIn_32 : decode prog_5_method_2_code 32 = .ok (.istore_n 1, 1) := by decide +kernel
theorem d_T_breakIn_33 : decode prog_5_method_2_code 33 = .ok (.iload_n 1, 1) := by decide +kernel
theorem d_T_breakIn_34 : decode prog_5_method_2_code 34 = .ok (.aload_n 0, 1) := by decide +kernel
theorem d_T_breakIn_35 : decode prog_5_method_2_code 35 = .ok (.getfield 9, 3) := by decide +kernel
theorem d_T_breakIn_38 : decode prog_5_method_2_code 38 = .ok (.if_icmp .lt 6, 3) := by decide +kernel
theorem d_T_breakIn_41 : decode prog_5_method_2_code 41 = .ok (.bipush (-4), 2) := by decide +kernel
theorem d_T_breakIn_43 : decode prog_5_method_2_code 43 = .ok (.ireturn, 1) := by decide +kernel
theorem d_T_breakIn_44 : decode prog_5_method_2_code 44 = .ok (.iinc 2 1, 3) := by decide +kernel
theorem d_T_breakIn_47 : decode prog_5_method_2_code 47 = .ok (.goto (-43), 3) := by decide +kernel
theorem d_T_breakIn_50 : decode prog_5_method_2_code 50 = .ok (.bipush (-4), 2) := by decide +kernel
theorem d_T_breakIn_52 : decode prog_5_method_2_code 52 = .ok (.ireturn, 1) := by decide +kernel
set_option maxHeartbeats 4000000 in
set_option maxRecDepth 100000 in
def f_T_breakIn_L4 (F : Nat) (a0 : Option Nat) (k : Mm → Option (Int32 × Mm)) : Nat → Mm → Int32 → Int32 → Option (Int32 × Mm)
  | 0, _, _, _ => none
  | n + 1, u, a1, a2 => ob (jgi YX 3 4 u a0) fun (x1 : Int32) => (if x1 < a2 then k u  else yb (f_T_digitsEnd F u a0 a1) fun x3 u4 => yb (f_T_isWhole F u4 a0 a1 x3) fun x5 u6 => (if x5 = 0 then some (x3, u6) else ob (some (x3 + (1 : Int32))) fun (x8 : Int32) => ob (jgi YX 3 4 u6 a0) fun (x9 : Int32) => (if x8 < x9 then ob (some (a2 + (1 : Int32))) fun (x11 : Int32) => f_T_breakIn_L4 F a0 k n u6 x8 x11 else some ((-4 : Int32), u6))))
set_option maxHeartbeats 4000000 in
set_option maxRecDepth 100000 in
theorem w_T_breakIn_L4 {p : Program} {l : Launch} {e : Env} {s : State} {m : MethodId} {args : Array Value} {below : List Frame} {meth : Method} {c : Code} {w : WP} (F : Nat) (C : yX p e ({ frames := 3, cells := 0, slots := 0, locals := 65 } : Room) s m args c YX w 4 prog_5_method_2_code "WhoseGlass$HouseText") (hr : meth.sig.returnType = (some .int)) (hlocks : meth.locks = false) (a0 : Option Nat) {out : Int32 × Mm} (k : Mm → Option (Int32 × Mm)) (hk : ∀ (u : Mm), k u  = some out → yG p l e ({ frames := 3, cells := 0, slots := 0, locals := 65 } : Room) s m args below meth c YX w 4 (MQ below (yQ YX w yfi out) args s 0 0 (yA YX w)) u 50 [] []) : ∀ (n : Nat) (u : Mm) (a1 : Int32) (a2 : Int32), f_T_breakIn_L4 F a0 k n u a1 a2 = some out → yG p l e ({ frames := 3, cells := 0, slots := 0, locals := 65 } : Room) s m args below meth c YX w 4 (MQ below (yQ YX w yfi out) args s 0 0 (yA YX w)) u 4 [(0, va_re w.1 a0), (1, .int a1), (2, .int a2)] [] := by
  intro n
  induction n with
  | zero => intro u a1 a2 h; rw [f_T_breakIn_L4] at h; cases h
  | succ n ih =>
    intro u a1 a2 h
    rw [f_T_breakIn_L4] at h
    refine y_iload_n C (i := 2) 2 d_T_breakIn_4 rfl rfl ?_
    refine y_aload_n C (i := 0) 0 d_T_breakIn_5 rfl rfl ?_
    refine y_gi C (q := (yR3, yT3, 6)) (ci := 3) (k := 4) rfl (by decide) rfl g_183 d_T_breakIn_6 h (fun x1 h => ?_)
    refine y_ic_gt C 50 d_T_breakIn_9 (by decide) h (fun k2 h => ?_) (fun k2 h => ?_)
    · exact y_sub [] rfl (hk _ h)
    · refine y_aload_n C (i := 0) 0 d_T_breakIn_12 rfl rfl ?_
      refine y_iload_n C (i := 1) 1 d_T_breakIn_13 rfl rfl ?_
      refine y_callS 2 C (fun out hh => c_T_digitsEnd l w F u a0 a1 out hh) (y_gc g_235) g_233 g_7 g_234 hn_T_digitsEnd ⟨Nat.le_of_ble_eq_true rfl, Nat.le_of_ble_eq_true rfl⟩ rfl rfl rfl rfl (by simp [y_cat, y_catI, y_catJ]) d_T_breakIn_14 h (fun x3 u4 h => ?_)
      refine y_stk (stp0 := [.int x3]) rfl ?_
      refine y_istore_n C (i := 3) (lvp := [(0, va_re w.1 a0), (1, .int a1), (2, .int a2)]) d_T_breakIn_17 rfl (by decide) rfl ?_
      refine y_aload_n C (i := 0) 1 d_T_breakIn_18 rfl rfl ?_
      refine y_iload_n C (i := 1) 2 d_T_breakIn_19 rfl rfl ?_
      refine y_iload_n C (i := 3) 0 d_T_breakIn_20 rfl rfl ?_
      refine y_callS 3 C (fun out hh => c_T_isWhole l w F u4 a0 a1 x3 out hh) (y_gc g_248) g_246 g_7 g_247 hn_T_isWhole ⟨Nat.le_of_ble_eq_true rfl, Nat.le_of_ble_eq_true rfl⟩ rfl rfl rfl rfl (by simp [y_cat, y_catI, y_catJ]) d_T_breakIn_21 h (fun x5 u6 h => ?_)
      refine y_stk (stp0 := [.int x5]) rfl ?_
      refine y_if_ne C 29 d_T_breakIn_24 (by decide) h (fun k7 h => ?_) (fun k7 h => ?_)
      · refine y_iload_n C (i := 3) 0 d_T_breakIn_27 rfl rfl ?_
        exact y_iret C hr hlocks d_T_breakIn_28 h
      · refine y_iload_n C (i := 3) 0 d_T_breakIn_29 rfl rfl ?_
        refine y_iconst C (v := 1) d_T_breakIn_30 (by decide) ?_
        refine y_iadd C d_T_breakIn_31 ?_
        refine y_istore_nB C (i := 1) (lvp := [(3, .int x3), (0, va_re w.1 a0), (2, .int a2)]) d_T_breakIn_32 rfl (by decide) (by simp [List.filter, y_cat, y_catI, y_catJ]) h (fun x8 h => ?_)
        refine y_iload_n C (i := 1) 0 d_T_breakIn_33 rfl rfl ?_
        refine y_aload_n C (i := 0) 2 d_T_breakIn_34 rfl rfl ?_
        refine y_gi C (q := (yR3, yT3, 6)) (ci := 3) (k := 4) rfl (by decide) rfl g_183 d_T_breakIn_35 h (fun x9 h => ?_)
        refine y_ic_lt C 44 d_T_breakIn_38 (by decide) h (fun k10 h => ?_) (fun k10 h => ?_)
        · refine y_iinc C (j := 3) (v := 1) (lvp := [(1, .int x8), (3, .int x3), (0, va_re w.1 a0)]) d_T_breakIn_44 rfl (by decide) (by decide) rfl h (fun x11 h => ?_)
          refine y_goto C (tgt := 4) d_T_breakIn_47 (by decide) ?_
          exact y_sub [3, 1, 0] rfl (ih _ _ _ h)
        · refine y_bipush C (v := -4) d_T_breakIn_41 (by decide) ?_
          exact y_iret C hr hlocks d_T_breakIn_43 h
set_option maxRecDepth 100000 in
def f_T_breakIn (F : Nat) (u : Mm) (a0 : Option Nat) : Option (Int32 × Mm) := f_T_breakIn_L4 F a0 (fun (u12 : Mm) => some ((-4 : Int32), u12)) F u (0 : Int32) (0 : Int32)
set_option maxHeartbeats 4000000 in
set_option maxRecDepth 100000 in
theorem c_T_breakIn (l : Launch) (w : WP) (F : Nat) (u : Mm) (a0 : Option Nat) (out : Int32 × Mm) (h : f_T_breakIn F u a0 = some out) : yMet l m_T_breakIn ws_T_breakIn ({ frames := 3, cells := 0, slots := 0, locals := 65 } : Room) YX w u [va_re w.1 a0] yfi out := by
  refine y_entry (own := "WhoseGlass$HouseText") (lv := [(0, va_re w.1 a0)]) (by decide +kernel) rfl (by simp [lv_args, y_cat, y_catI, y_catJ]) (by simp [lg_sl, y_cat, y_catI, y_catJ]) ?_
  intro p e s m args below meth c C hr hlocks
  unfold f_T_breakIn at h
  refine y_iconst C (v := 0) d_T_breakIn_0 (by decide) ?_
  refine y_istore_n C (i := 1) (lvp := [(0, va_re w.1 a0)]) d_T_breakIn_1 rfl (by decide) (by simp [List.filter, y_cat, y_catI, y_catJ]) ?_
  refine y_iconst C (v := 0) d_T_breakIn_2 (by decide) ?_
  refine y_istore_n C (i := 2) (lvp := [(1, .int (0 : Int32)), (0, va_re w.1 a0)]) d_T_breakIn_3 rfl (by decide) rfl ?_
  refine y_sub [2, 1, 0] rfl (w_T_breakIn_L4 F C hr hlocks _ _ (fun u12 h => ?_) _ _ _ _ h)
  refine y_bipush C (v := -4) d_T_breakIn_50 (by decide) ?_
  exact y_iret C hr hlocks d_T_breakIn_52 h
/-! H_glassAt -/
theorem d_H_glassAt_0 : decode prog_4_method_3_code 0 = .ok (.iload_n 1, 1) := by decide +kernel
theorem d_H_glassAt_1 : decode prog_4_method_3_code 1 = .ok (.ifCond .lt 29, 3) := by decide +kernel
theorem d_H_glassAt_4 : decode prog_4_method_3_code 4 = .ok (.iload_n 1, 1) := by decide +kernel
theorem d_H_glassAt_5 : decode prog_4_method_3_code 5 = .ok (.aload_n 0, 1) := by decide +kernel
theorem d_H_glassAt_6 : decode prog_4_method_3_code 6 = .ok (.getfield 34, 3) := by decide +kernel
theorem d_H_glassAt_9 : decode prog_4_method_3_code 9 = .ok (.if_icmp .ge 21, 3) := by decide +kernel
theorem d_H_glassAt_12 : decode prog_4_method_3_code 12 = .ok (.iload_n 1, 1) := by decide +kernel
theorem d_H_glassAt_13 : decode prog_4_method_3_code 13 = .ok (.aload_n 0, 1) := by decide +kernel
theorem d_H_glassAt_14 : decode prog_4_method_3_code 14 = .ok (.getfield 11, 3) := by decide +kernel
theorem d_H_glassAt_17 : decode prog_4_method_3_code 17 = .ok (.arraylength, 1) := by decide +kernel
theorem d_H_glassAt_18 : decode prog_4_method_3_code 18 = .ok (.if_icmp .ge 12, 3) := by decide +kernel
theorem d_H_glassAt_21 : decode prog_4_method_3_code 21 = .ok (.aload_n 0, 1) := by decide +kernel
theorem d_H_glassAt_22 : decode prog_4_method_3_code 22 = .ok (.getfield 11, 3) := by decide +kernel
theorem d_H_glassAt_25 : decode prog_4_method_3_code 25 = .ok (.iload_n 1, 1) := by decide +kernel
theorem d_H_glassAt_26 : decode prog_4_method_3_code 26 = .ok (.aaload, 1) := by decide +kernel
theorem d_H_glassAt_27 : decode prog_4_method_3_code 27 = .ok (.goto 4, 3) := by decide +kernel
theorem d_H_glassAt_30 : decode prog_4_method_3_code 30 = .ok (.aconst_null, 1) := by decide +kernel
theorem d_H_glassAt_31 : decode prog_4_method_3_code 31 = .ok (.areturn, 1) := by decide +kernel
set_option maxRecDepth 100000 in
def f_H_glassAt (F : Nat) (u : Mm) (o : Nat) (a1 : Int32) : Option (Option Nat × Mm) := (if a1 < 0 then some (none, u) else ob (jgi YX 2 2 u (some o)) fun (x2 : Int32) => (if x2 ≤ a1 then some (none, u) else ob (jgr YX 2 0 (some o)) fun (r4 : Option Nat) => ob (jln YX 8 r4) fun (x5 : Int32) => (if x5 ≤ a1 then some (none, u) else ob (jgr YX 2 0 (some o)) fun (r7 : Option Nat) => ob (jaa YX 8 r7 a1) fun (r8 : Option Nat) => some (r8, u))))
set_option maxHeartbeats 4000000 in
set_option maxRecDepth 100000 in
theorem c_H_glassAt (l : Launch) (w : WP) (F : Nat) (u : Mm) (o : Nat) (a1 : Int32) (out : Option Nat × Mm) (h : f_H_glassAt F u o a1 = some out) : yMet l m_H_glassAt ws_H_glassAt ({ frames := 0, cells := 0, slots := 0, locals := 0 } : Room) YX w u [va_re w.1 (some o), .int a1] (yfr w) out := by
  refine y_entry (own := "WhoseGlass$House") (lv := [(0, va_re w.1 (some o)), (1, .int a1)]) (by decide +kernel) rfl (by simp [lv_args, y_cat, y_catI, y_catJ]) (by simp [lg_sl, y_cat, y_catI, y_catJ]) ?_
  intro p e s m args below meth c C hr hlocks
  unfold f_H_glassAt at h
  refine y_iload_n C (i := 1) 1 d_H_glassAt_0 rfl rfl ?_
  refine y_if_lt C 30 d_H_glassAt_1 (by decide) h (fun k1 h => ?_) (fun k1 h => ?_)
  · refine y_null C d_H_glassAt_30 ?_
    exact y_aret C hr hlocks d_H_glassAt_31 h
  · refine y_iload_n C (i := 1) 1 d_H_glassAt_4 rfl rfl ?_
    refine y_aload_n C (i := 0) 0 d_H_glassAt_5 rfl rfl ?_
    refine y_gi C (q := (yR2, yT2, 9)) (ci := 2) (k := 2) rfl (by decide) rfl g_133 d_H_glassAt_6 h (fun x2 h => ?_)
    refine y_ic_ge C 30 d_H_glassAt_9 (by decide) h (fun k3 h => ?_) (fun k3 h => ?_)
    · refine y_null C d_H_glassAt_30 ?_
      exact y_aret C hr hlocks d_H_glassAt_31 h
    · refine y_iload_n C (i := 1) 1 d_H_glassAt_12 rfl rfl ?_
      refine y_aload_n C (i := 0) 0 d_H_glassAt_13 rfl rfl ?_
      refine y_gr C (q := (yR2, yT2, 9)) (ci := 2) (k := 0) rfl (by decide) rfl (by decide) g_131 d_H_glassAt_14 h (fun r4 h => ?_)
      refine y_lnr C (ki := 0) rfl d_H_glassAt_17 h (fun x5 h => ?_)
      refine y_ic_ge C 30 d_H_glassAt_18 (by decide) h (fun k6 h => ?_) (fun k6 h => ?_)
      · refine y_null C d_H_glassAt_30 ?_
        exact y_aret C hr hlocks d_H_glassAt_31 h
      · refine y_aload_n C (i := 0) 0 d_H_glassAt_21 rfl rfl ?_
        refine y_gr C (q := (yR2, yT2, 9)) (ci := 2) (k := 0) rfl (by decide) rfl (by decide) g_131 d_H_glassAt_22 h (fun r7 h => ?_)
        refine y_iload_n C (i := 1) 1 d_H_glassAt_25 rfl rfl ?_
        refine y_aa C (ki := 0) rfl d_H_glassAt_26 h (fun r8 h => ?_)
        refine y_goto C (tgt := 31) d_H_glassAt_27 (by decide) ?_
        exact y_aret C hr hlocks d_H_glassAt_31 h
/-! G_become -/
theorem d_G_become_0 : decode prog_2_method_3_code 0 = .ok (.aload_n 0, 1) := by decide +kernel
theorem d_G_become_1 : decode prog_2_method_3_code 1 = .ok (.aload_n 1, 1) := by decide +kernel
theorem d_G_become_2 : decode prog_2_method_3_code 2 = .ok (.getfield 15, 3) := by decide +kernel
theorem d_G_become_5 : decode prog_2_method_3_code 5 = .ok (.putfield 15, 3) := by decide +kernel
theorem d_G_become_8 : decode prog_2_method_3_code 8 = .ok (.aload_n 0, 1) := by decide +kernel
theorem d_G_become_9 : decode prog_2_method_3_code 9 = .ok (.aload_n 1, 1) := by decide +kernel
theorem d_G_become_10 : decode prog_2_method_3_code 10 = .ok (.getfield 18, 3) := by decide +kernel
theorem d_G_become_13 : decode prog_2_method_3_code 13 = .ok (.putfield 18, 3) := by decide +kernel
theorem d_G_become_16 : decode prog_2_method_3_code 16 = .ok (.aload_n 0, 1) := by decide +kernel
theorem d_G_become_17 : decode prog_2_method_3_code 17 = .ok (.aload_n 1, 1) := by decide +kernel
theorem d_G_become_18 : decode prog_2_method_3_code 18 = .ok (.getfield 21, 3) := by decide +kernel
theorem d_G_become_21 : decode prog_2_method_3_code 21 = .ok (.putfield 21, 3) := by decide +kernel
theorem d_G_become_24 : decode prog_2_method_3_code 24 = .ok (.aload_n 0, 1) := by decide +kernel
theorem d_G_become_25 : decode prog_2_method_3_code 25 = .ok (.aload_n 1, 1) := by decide +kernel
theorem d_G_become_26 : decode prog_2_method_3_code 26 = .ok (.getfield 31, 3) := by decide +kernel
theorem d_G_become_29 : decode prog_2_method_3_code 29 = .ok (.putfield 31, 3) := by decide +kernel
theorem d_G_become_32 : decode prog_2_method_3_code 32 = .ok (.aload_n 0, 1) := by decide +kernel
theorem d_G_become_33 : decode prog_2_method_3_code 33 = .ok (.aload_n 1, 1) := by decide +kernel
theorem d_G_become_34 : decode prog_2_method_3_code 34 = .ok (.getfield 34, 3) := by decide +kernel
theorem d_G_become_37 : decode prog_2_method_3_code 37 = .ok (.putfield 34, 3) := by decide +kernel
theorem d_G_become_40 : decode prog_2_method_3_code 40 = .ok (.aload_n 0, 1) := by decide +kernel
theorem d_G_become_41 : decode prog_2_method_3_code 41 = .ok (.aload_n 1, 1) := by decide +kernel
theorem d_G_become_42 : decode prog_2_method_3_code 42 = .ok (.getfield 24, 3) := by decide +kernel
theorem d_G_become_45 : decode prog_2_method_3_code 45 = .ok (.putfield 24, 3) := by decide +kernel
theorem d_G_become_48 : decode prog_2_method_3_code 48 = .ok (.aload_n 0, 1) := by decide +kernel
theorem d_G_become_49 : decode prog_2_method_3_code 49 = .ok (.aload_n 1, 1) := by decide +kernel
theorem d_G_become_50 : decode prog_2_method_3_code 50 = .ok (.getfield 27, 3) := by decide +kernel
theorem d_G_become_53 : decode prog_2_method_3_code 53 = .ok (.putfield 27, 3) := by decide +kernel
theorem d_G_become_56 : decode prog_2_method_3_code 56 = .ok (.return_, 1) := by decide +kernel
set_option maxRecDepth 100000 in
def f_G_become (F : Nat) (u : Mm) (o : Nat) (a1 : Option Nat) : Option (Unit × Mm) := ob (jgi YX 0 1 u a1) fun (x1 : Int32) => ob (jpi YX 0 1 u (some o) x1) fun (u2 : Mm) => ob (jgi YX 0 2 u2 a1) fun (x3 : Int32) => ob (jpi YX 0 2 u2 (some o) x3) fun (u4 : Mm) => ob (jgi YX 0 3 u4 a1) fun (x5 : Int32) => ob (jpi YX 0 3 u4 (some o) x5) fun (u6 : Mm) => ob (jgi YX 0 4 u6 a1) fun (x7 : Int32) => ob (jpi YX 0 4 u6 (some o) x7) fun (u8 : Mm) => ob (jgi YX 0 5 u8 a1) fun (x9 : Int32) => ob (jpi YX 0 5 u8 (some o) x9) fun (u10 : Mm) => ob (jgi YX 0 6 u10 a1) fun (x11 : Int32) => ob (jpi YX 0 6 u10 (some o) x11) fun (u12 : Mm) => ob (jgi YX 0 7 u12 a1) fun (x13 : Int32) => ob (jpz YX 0 7 u12 (some o) x13) fun (u14 : Mm) => some ((), u14)
set_option maxHeartbeats 4000000 in
set_option maxRecDepth 100000 in
theorem c_G_become (l : Launch) (w : WP) (F : Nat) (u : Mm) (o : Nat) (a1 : Option Nat) (out : Unit × Mm) (h : f_G_become F u o a1 = some out) : yMet l m_G_become ws_G_become ({ frames := 0, cells := 0, slots := 0, locals := 0 } : Room) YX w u [va_re w.1 (some o), va_re w.1 a1] yfv out := by
  refine y_entry (own := "WhoseGlass$Glass") (lv := [(0, va_re w.1 (some o)), (1, va_re w.1 a1)]) (by decide +kernel) rfl (by simp [lv_args, y_cat, y_catI, y_catJ]) (by simp [lg_sl, y_cat, y_catI, y_catJ]) ?_
  intro p e s m args below meth c C hr hlocks
  unfold f_G_become at h
  refine y_aload_n C (i := 0) 0 d_G_become_0 rfl rfl ?_
  refine y_aload_n C (i := 1) 1 d_G_become_1 rfl rfl ?_
  refine y_gi C (q := (yR0, yT0, 8)) (ci := 0) (k := 1) rfl (by decide) rfl g_43 d_G_become_2 h (fun x1 h => ?_)
  refine y_pi C (q := (yR0, yT0, 8)) (ci := 0) (k := 1) rfl (by decide) rfl rfl (by decide +kernel) g_43 d_G_become_5 h (fun u2 h => ?_)
  refine y_aload_n C (i := 0) 0 d_G_become_8 rfl rfl ?_
  refine y_aload_n C (i := 1) 1 d_G_become_9 rfl rfl ?_
  refine y_gi C (q := (yR0, yT0, 8)) (ci := 0) (k := 2) rfl (by decide) rfl g_45 d_G_become_10 h (fun x3 h => ?_)
  refine y_pi C (q := (yR0, yT0, 8)) (ci := 0) (k := 2) rfl (by decide) rfl rfl (by decide +kernel) g_45 d_G_become_13 h (fun u4 h => ?_)
  refine y_aload_n C (i := 0) 0 d_G_become_16 rfl rfl ?_
  refine y_aload_n C (i := 1) 1 d_G_become_17 rfl rfl ?_
  refine y_gi C (q := (yR0, yT0, 8)) (ci := 0) (k := 3) rfl (by decide) rfl g_46 d_G_become_18 h (fun x5 h => ?_)
  refine y_pi C (q := (yR0, yT0, 8)) (ci := 0) (k := 3) rfl (by decide) rfl rfl (by decide +kernel) g_46 d_G_become_21 h (fun u6 h => ?_)
  refine y_aload_n C (i := 0) 0 d_G_become_24 rfl rfl ?_
  refine y_aload_n C (i := 1) 1 d_G_become_25 rfl rfl ?_
  refine y_gi C (q := (yR0, yT0, 8)) (ci := 0) (k := 4) rfl (by decide) rfl g_50 d_G_become_26 h (fun x7 h => ?_)
  refine y_pi C (q := (yR0, yT0, 8)) (ci := 0) (k := 4) rfl (by decide) rfl rfl (by decide +kernel) g_50 d_G_become_29 h (fun u8 h => ?_)
  refine y_aload_n C (i := 0) 0 d_G_become_32 rfl rfl ?_
  refine y_aload_n C (i := 1) 1 d_G_become_33 rfl rfl ?_
  refine y_gi C (q := (yR0, yT0, 8)) (ci := 0) (k := 5) rfl (by decide) rfl g_54 d_G_become_34 h (fun x9 h => ?_)
  refine y_pi C (q := (yR0, yT0, 8)) (ci := 0) (k := 5) rfl (by decide) rfl rfl (by decide +kernel) g_54 d_G_become_37 h (fun u10 h => ?_)
  refine y_aload_n C (i := 0) 0 d_G_become_40 rfl rfl ?_
  refine y_aload_n C (i := 1) 1 d_G_become_41 rfl rfl ?_
  refine y_gi C (q := (yR0, yT0, 8)) (ci := 0) (k := 6) rfl (by decide) rfl g_57 d_G_become_42 h (fun x11 h => ?_)
  refine y_pi C (q := (yR0, yT0, 8)) (ci := 0) (k := 6) rfl (by decide) rfl rfl (by decide +kernel) g_57 d_G_become_45 h (fun u12 h => ?_)
  refine y_aload_n C (i := 0) 0 d_G_become_48 rfl rfl ?_
  refine y_aload_n C (i := 1) 1 d_G_become_49 rfl rfl ?_
  refine y_gi C (q := (yR0, yT0, 8)) (ci := 0) (k := 7) rfl (by decide) rfl g_59 d_G_become_50 h (fun x13 h => ?_)
  refine y_pz C (q := (yR0, yT0, 8)) (ci := 0) (k := 7) rfl (by decide) rfl rfl (by decide +kernel) g_59 d_G_become_53 h (fun u14 h => ?_)
  exact y_vret C hr hlocks d_G_become_56 h
/-! H_guestAt -/
theorem d_H_guestAt_0 : decode prog_4_method_4_code 0 = .ok (.iload_n 1, 1) := by decide +kernel
theorem d_H_guestAt_1 : decode prog_4_method_4_code 1 = .ok (.ifCond .lt 29, 3) := by decide +kernel
theorem d_H_guestAt_4 : decode prog_4_method_4_code 4 = .ok (.iload_n 1, 1) := by decide +kernel
theorem d_H_guestAt_5 : decode prog_4_method_4_code 5 = .ok (.aload_n 0, 1) := by decide +kernel
theorem d_H_guestAt_6 : decode prog_4_method_4_code 6 = .ok (.getfield 37, 3) := by decide +kernel
theorem d_H_guestAt_9 : decode prog_4_method_4_code 9 = .ok (.if_icmp .ge 21, 3) := by decide +kernel
theorem d_H_guestAt_12 : decode prog_4_method_4_code 12 = .ok (.iload_n 1, 1) := by decide +kernel
theorem d_H_guestAt_13 : decode prog_4_method_4_code 13 = .ok (.aload_n 0, 1) := by decide +kernel
theorem d_H_guestAt_14 : decode prog_4_method_4_code 14 = .ok (.getfield 19, 3) := by decide +kernel
theorem d_H_guestAt_17 : decode prog_4_method_4_code 17 = .ok (.arraylength, 1) := by decide +kernel
theorem d_H_guestAt_18 : decode prog_4_method_4_code 18 = .ok (.if_icmp .ge 12, 3) := by decide +kernel
theorem d_H_guestAt_21 : decode prog_4_method_4_code 21 = .ok (.aload_n 0, 1) := by decide +kernel
theorem d_H_guestAt_22 : decode prog_4_method_4_code 22 = .ok (.getfield 19, 3) := by decide +kernel
theorem d_H_guestAt_25 : decode prog_4_method_4_code 25 = .ok (.iload_n 1, 1) := by decide +kernel
theorem d_H_guestAt_26 : decode prog_4_method_4_code 26 = .ok (.aaload, 1) := by decide +kernel
theorem d_H_guestAt_27 : decode prog_4_method_4_code 27 = .ok (.goto 4, 3) := by decide +kernel
theorem d_H_guestAt_30 : decode prog_4_method_4_code 30 = .ok (.aconst_null, 1) := by decide +kernel
theorem d_H_guestAt_31 : decode prog_4_method_4_code 31 = .ok (.areturn, 1) := by decide +kernel
set_option maxRecDepth 100000 in
def f_H_guestAt (F : Nat) (u : Mm) (o : Nat) (a1 : Int32) : Option (Option Nat × Mm) := (if a1 < 0 then some (none, u) else ob (jgi YX 2 3 u (some o)) fun (x2 : Int32) => (if x2 ≤ a1 then some (none, u) else ob (jgr YX 2 1 (some o)) fun (r4 : Option Nat) => ob (jln YX 9 r4) fun (x5 : Int32) => (if x5 ≤ a1 then some (none, u) else ob (jgr YX 2 1 (some o)) fun (r7 : Option Nat) => ob (jaa YX 9 r7 a1) fun (r8 : Option Nat) => some (r8, u))))
set_option maxHeartbeats 4000000 in
set_option maxRecDepth 100000 in
theorem c_H_guestAt (l : Launch) (w : WP) (F : Nat) (u : Mm) (o : Nat) (a1 : Int32) (out : Option Nat × Mm) (h : f_H_guestAt F u o a1 = some out) : yMet l m_H_guestAt ws_H_guestAt ({ frames := 0, cells := 0, slots := 0, locals := 0 } : Room) YX w u [va_re w.1 (some o), .int a1] (yfr w) out := by
  refine y_entry (own := "WhoseGlass$House") (lv := [(0, va_re w.1 (some o)), (1, .int a1)]) (by decide +kernel) rfl (by simp [lv_args, y_cat, y_catI, y_catJ]) (by simp [lg_sl, y_cat, y_catI, y_catJ]) ?_
  intro p e s m args below meth c C hr hlocks
  unfold f_H_guestAt at h
  refine y_iload_n C (i := 1) 1 d_H_guestAt_0 rfl rfl ?_
  refine y_if_lt C 30 d_H_guestAt_1 (by decide) h (fun k1 h => ?_) (fun k1 h => ?_)
  · refine y_null C d_H_guestAt_30 ?_
    exact y_aret C hr hlocks d_H_guestAt_31 h
  · refine y_iload_n C (i := 1) 1 d_H_guestAt_4 rfl rfl ?_
    refine y_aload_n C (i := 0) 0 d_H_guestAt_5 rfl rfl ?_
    refine y_gi C (q := (yR2, yT2, 9)) (ci := 2) (k := 3) rfl (by decide) rfl g_135 d_H_guestAt_6 h (fun x2 h => ?_)
    refine y_ic_ge C 30 d_H_guestAt_9 (by decide) h (fun k3 h => ?_) (fun k3 h => ?_)
    · refine y_null C d_H_guestAt_30 ?_
      exact y_aret C hr hlocks d_H_guestAt_31 h
    · refine y_iload_n C (i := 1) 1 d_H_guestAt_12 rfl rfl ?_
      refine y_aload_n C (i := 0) 0 d_H_guestAt_13 rfl rfl ?_
      refine y_gr C (q := (yR2, yT2, 9)) (ci := 2) (k := 1) rfl (by decide) rfl (by decide) g_132 d_H_guestAt_14 h (fun r4 h => ?_)
      refine y_lnr C (ki := 1) rfl d_H_guestAt_17 h (fun x5 h => ?_)
      refine y_ic_ge C 30 d_H_guestAt_18 (by decide) h (fun k6 h => ?_) (fun k6 h => ?_)
      · refine y_null C d_H_guestAt_30 ?_
        exact y_aret C hr hlocks d_H_guestAt_31 h
      · refine y_aload_n C (i := 0) 0 d_H_guestAt_21 rfl rfl ?_
        refine y_gr C (q := (yR2, yT2, 9)) (ci := 2) (k := 1) rfl (by decide) rfl (by decide) g_132 d_H_guestAt_22 h (fun r7 h => ?_)
        refine y_iload_n C (i := 1) 1 d_H_guestAt_25 rfl rfl ?_
        refine y_aa C (ki := 1) rfl d_H_guestAt_26 h (fun r8 h => ?_)
        refine y_goto C (tgt := 31) d_H_guestAt_27 (by decide) ?_
        exact y_aret C hr hlocks d_H_guestAt_31 h
/-! U_become -/
theorem d_U_become_0 : decode prog_3_method_3_code 0 = .ok (.aload_n 0, 1) := by decide +kernel
theorem d_U_become_1 : decode prog_3_method_3_code 1 = .ok (.aload_n 1, 1) := by decide +kernel
theorem d_U_become_2 : decode prog_3_method_3_code 2 = .ok (.getfield 15, 3) := by decide +kernel
theorem d_U_become_5 : decode prog_3_method_3_code 5 = .ok (.putfield 15, 3) := by decide +kernel
theorem d_U_become_8 : decode prog_3_method_3_code 8 = .ok (.aload_n 0, 1) := by decide +kernel
theorem d_U_become_9 : decode prog_3_method_3_code 9 = .ok (.aload_n 1, 1) := by decide +kernel
theorem d_U_become_10 : decode prog_3_method_3_code 10 = .ok (.getfield 18, 3) := by decide +kernel
theorem d_U_become_13 : decode prog_3_method_3_code 13 = .ok (.putfield 18, 3) := by decide +kernel
theorem d_U_become_16 : decode prog_3_method_3_code 16 = .ok (.aload_n 0, 1) := by decide +kernel
theorem d_U_become_17 : decode prog_3_method_3_code 17 = .ok (.aload_n 1, 1) := by decide +kernel
theorem d_U_become_18 : decode prog_3_method_3_code 18 = .ok (.getfield 21, 3) := by decide +kernel
theorem d_U_become_21 : decode prog_3_method_3_code 21 = .ok (.putfield 21, 3) := by decide +kernel
theorem d_U_become_24 : decode prog_3_method_3_code 24 = .ok (.aload_n 0, 1) := by decide +kernel
theorem d_U_become_25 : decode prog_3_method_3_code 25 = .ok (.aload_n 1, 1) := by decide +kernel
theorem d_U_become_26 : decode prog_3_method_3_code 26 = .ok (.getfield 24, 3) := by decide +kernel
theorem d_U_become_29 : decode prog_3_method_3_code 29 = .ok (.putfield 24, 3) := by decide +kernel
theorem d_U_become_32 : decode prog_3_method_3_code 32 = .ok (.aload_n 0, 1) := by decide +kernel
theorem d_U_become_33 : decode prog_3_method_3_code 33 = .ok (.aload_n 1, 1) := by decide +kernel
theorem d_U_become_34 : decode prog_3_method_3_code 34 = .ok (.getfield 27, 3) := by decide +kernel
theorem d_U_become_37 : decode prog_3_method_3_code 37 = .ok (.putfield 27, 3) := by decide +kernel
theorem d_U_become_40 : decode prog_3_method_3_code 40 = .ok (.aload_n 0, 1) := by decide +kernel
theorem d_U_become_41 : decode prog_3_method_3_code 41 = .ok (.aload_n 1, 1) := by decide +kernel
theorem d_U_become_42 : decode prog_3_method_3_code 42 = .ok (.getfield 30, 3) := by decide +kernel
theorem d_U_become_45 : decode prog_3_method_3_code 45 = .ok (.putfield 30, 3) := by decide +kernel
theorem d_U_become_48 : decode prog_3_method_3_code 48 = .ok (.aload_n 0, 1) := by decide +kernel
theorem d_U_become_49 : decode prog_3_method_3_code 49 = .ok (.aload_n 1, 1) := by decide +kernel
theorem d_U_become_50 : decode prog_3_method_3_code 50 = .ok (.getfield 33, 3) := by decide +kernel
theorem d_U_become_53 : decode prog_3_method_3_code 53 = .ok (.putfield 33, 3) := by decide +kernel
theorem d_U_become_56 : decode prog_3_method_3_code 56 = .ok (.aload_n 0, 1) := by decide +kernel
theorem d_U_become_57 : decode prog_3_method_3_code 57 = .ok (.aload_n 1, 1) := by decide +kernel
theorem d_U_become_58 : decode prog_3_method_3_code 58 = .ok (.getfield 36, 3) := by decide +kernel
theorem d_U_become_61 : decode prog_3_method_3_code 61 = .ok (.putfield 36, 3) := by decide +kernel
theorem d_U_become_64 : decode prog_3_method_3_code 64 = .ok (.aload_n 0, 1) := by decide +kernel
theorem d_U_become_65 : decode prog_3_method_3_code 65 = .ok (.aload_n 1, 1) := by decide +kernel
theorem d_U_become_66 : decode prog_3_method_3_code 66 = .ok (.getfield 39, 3) := by decide +kernel
theorem d_U_become_69 : decode prog_3_method_3_code 69 = .ok (.putfield 39, 3) := by decide +kernel
theorem d_U_become_72 : decode prog_3_method_3_code 72 = .ok (.return_, 1) := by decide +kernel
set_option maxRecDepth 100000 in
def f_U_become (F : Nat) (u : Mm) (o : Nat) (a1 : Option Nat) : Option (Unit × Mm) := ob (jgi YX 1 1 u a1) fun (x1 : Int32) => ob (jpi YX 1 1 u (some o) x1) fun (u2 : Mm) => ob (jgi YX 1 2 u2 a1) fun (x3 : Int32) => ob (jpi YX 1 2 u2 (some o) x3) fun (u4 : Mm) => ob (jgi YX 1 3 u4 a1) fun (x5 : Int32) => ob (jpi YX 1 3 u4 (some o) x5) fun (u6 : Mm) => ob (jgi YX 1 4 u6 a1) fun (x7 : Int32) => ob (jpi YX 1 4 u6 (some o) x7) fun (u8 : Mm) => ob (jgi YX 1 5 u8 a1) fun (x9 : Int32) => ob (jpi YX 1 5 u8 (some o) x9) fun (u10 : Mm) => ob (jgi YX 1 6 u10 a1) fun (x11 : Int32) => ob (jpi YX 1 6 u10 (some o) x11) fun (u12 : Mm) => ob (jgi YX 1 7 u12 a1) fun (x13 : Int32) => ob (jpi YX 1 7 u12 (some o) x13) fun (u14 : Mm) => ob (jgi YX 1 8 u14 a1) fun (x15 : Int32) => ob (jpi YX 1 8 u14 (some o) x15) fun (u16 : Mm) => ob (jgi YX 1 9 u16 a1) fun (x17 : Int32) => ob (jpz YX 1 9 u16 (some o) x17) fun (u18 : Mm) => some ((), u18)
set_option maxHeartbeats 4000000 in
set_option maxRecDepth 100000 in
theorem c_U_become (l : Launch) (w : WP) (F : Nat) (u : Mm) (o : Nat) (a1 : Option Nat) (out : Unit × Mm) (h : f_U_become F u o a1 = some out) : yMet l m_U_become ws_U_become ({ frames := 0, cells := 0, slots := 0, locals := 0 } : Room) YX w u [va_re w.1 (some o), va_re w.1 a1] yfv out := by
  refine y_entry (own := "WhoseGlass$Guest") (lv := [(0, va_re w.1 (some o)), (1, va_re w.1 a1)]) (by decide +kernel) rfl (by simp [lv_args, y_cat, y_catI, y_catJ]) (by simp [lg_sl, y_cat, y_catI, y_catJ]) ?_
  intro p e s m args below meth c C hr hlocks
  unfold f_U_become at h
  refine y_aload_n C (i := 0) 0 d_U_become_0 rfl rfl ?_
  refine y_aload_n C (i := 1) 1 d_U_become_1 rfl rfl ?_
  refine y_gi C (q := (yR1, yT1, 10)) (ci := 1) (k := 1) rfl (by decide) rfl g_86 d_U_become_2 h (fun x1 h => ?_)
  refine y_pi C (q := (yR1, yT1, 10)) (ci := 1) (k := 1) rfl (by decide) rfl rfl (by decide +kernel) g_86 d_U_become_5 h (fun u2 h => ?_)
  refine y_aload_n C (i := 0) 0 d_U_become_8 rfl rfl ?_
  refine y_aload_n C (i := 1) 1 d_U_become_9 rfl rfl ?_
  refine y_gi C (q := (yR1, yT1, 10)) (ci := 1) (k := 2) rfl (by decide) rfl g_88 d_U_become_10 h (fun x3 h => ?_)
  refine y_pi C (q := (yR1, yT1, 10)) (ci := 1) (k := 2) rfl (by decide) rfl rfl (by decide +kernel) g_88 d_U_become_13 h (fun u4 h => ?_)
  refine y_aload_n C (i := 0) 0 d_U_become_16 rfl rfl ?_
  refine y_aload_n C (i := 1) 1 d_U_become_17 rfl rfl ?_
  refine y_gi C (q := (yR1, yT1, 10)) (ci := 1) (k := 3) rfl (by decide) rfl g_90 d_U_become_18 h (fun x5 h => ?_)
  refine y_pi C (q := (yR1, yT1, 10)) (ci := 1) (k := 3) rfl (by decide) rfl rfl (by decide +kernel) g_90 d_U_become_21 h (fun u6 h => ?_)
  refine y_aload_n C (i := 0) 0 d_U_become_24 rfl rfl ?_
  refine y_aload_n C (i := 1) 1 d_U_become_25 rfl rfl ?_
  refine y_gi C (q := (yR1, yT1, 10)) (ci := 1) (k := 4) rfl (by decide) rfl g_92 d_U_become_26 h (fun x7 h => ?_)
  refine y_pi C (q := (yR1, yT1, 10)) (ci := 1) (k := 4) rfl (by decide) rfl rfl (by decide +kernel) g_92 d_U_become_29 h (fun u8 h => ?_)
  refine y_aload_n C (i := 0) 0 d_U_become_32 rfl rfl ?_
  refine y_aload_n C (i := 1) 1 d_U_become_33 rfl rfl ?_
  refine y_gi C (q := (yR1, yT1, 10)) (ci := 1) (k := 5) rfl (by decide) rfl g_94 d_U_become_34 h (fun x9 h => ?_)
  refine y_pi C (q := (yR1, yT1, 10)) (ci := 1) (k := 5) rfl (by decide) rfl rfl (by decide +kernel) g_94 d_U_become_37 h (fun u10 h => ?_)
  refine y_aload_n C (i := 0) 0 d_U_become_40 rfl rfl ?_
  refine y_aload_n C (i := 1) 1 d_U_become_41 rfl rfl ?_
  refine y_gi C (q := (yR1, yT1, 10)) (ci := 1) (k := 6) rfl (by decide) rfl g_97 d_U_become_42 h (fun x11 h => ?_)
  refine y_pi C (q := (yR1, yT1, 10)) (ci := 1) (k := 6) rfl (by decide) rfl rfl (by decide +kernel) g_97 d_U_become_45 h (fun u12 h => ?_)
  refine y_aload_n C (i := 0) 0 d_U_become_48 rfl rfl ?_
  refine y_aload_n C (i := 1) 1 d_U_become_49 rfl rfl ?_
  refine y_gi C (q := (yR1, yT1, 10)) (ci := 1) (k := 7) rfl (by decide) rfl g_101 d_U_become_50 h (fun x13 h => ?_)
  refine y_pi C (q := (yR1, yT1, 10)) (ci := 1) (k := 7) rfl (by decide) rfl rfl (by decide +kernel) g_101 d_U_become_53 h (fun u14 h => ?_)
  refine y_aload_n C (i := 0) 0 d_U_become_56 rfl rfl ?_
  refine y_aload_n C (i := 1) 1 d_U_become_57 rfl rfl ?_
  refine y_gi C (q := (yR1, yT1, 10)) (ci := 1) (k := 8) rfl (by decide) rfl g_104 d_U_become_58 h (fun x15 h => ?_)
  refine y_pi C (q := (yR1, yT1, 10)) (ci := 1) (k := 8) rfl (by decide) rfl rfl (by decide +kernel) g_104 d_U_become_61 h (fun u16 h => ?_)
  refine y_aload_n C (i := 0) 0 d_U_become_64 rfl rfl ?_
  refine y_aload_n C (i := 1) 1 d_U_become_65 rfl rfl ?_
  refine y_gi C (q := (yR1, yT1, 10)) (ci := 1) (k := 9) rfl (by decide) rfl g_107 d_U_become_66 h (fun x17 h => ?_)
  refine y_pz C (q := (yR1, yT1, 10)) (ci := 1) (k := 9) rfl (by decide) rfl rfl (by decide +kernel) g_107 d_U_become_69 h (fun u18 h => ?_)
  exact y_vret C hr hlocks d_U_become_72 h
/-! H_become -/
theorem d_H_become_0 : decode prog_4_method_2_code 0 = .ok (.aload_n 0, 1) := by decide +kernel
theorem d_H_become_1 : decode prog_4_method_2_code 1 = .ok (.aload_n 1, 1) := by decide +kernel
theorem d_H_become_2 : decode prog_4_method_2_code 2 = .ok (.getfield 34, 3) := by decide +kernel
theorem d_H_become_5 : decode prog_4_method_2_code 5 = .ok (.putfield 34, 3) := by decide +kernel
theorem d_H_become_8 : decode prog_4_method_2_code 8 = .ok (.aload_n 0, 1) := by decide +kernel
theorem d_H_become_9 : decode prog_4_method_2_code 9 = .ok (.aload_n 1, 1) := by decide +kernel
theorem d_H_become_10 : decode prog_4_method_2_code 10 = .ok (.getfield 37, 3) := by decide +kernel
theorem d_H_become_13 : decode prog_4_method_2_code 13 = .ok (.putfield 37, 3) := by decide +kernel
theorem d_H_become_16 : decode prog_4_method_2_code 16 = .ok (.aload_n 0, 1) := by decide +kernel
theorem d_H_become_17 : decode prog_4_method_2_code 17 = .ok (.aload_n 1, 1) := by decide +kernel
theorem d_H_become_18 : decode prog_4_method_2_code 18 = .ok (.getfield 23, 3) := by decide +kernel
theorem d_H_become_21 : decode prog_4_method_2_code 21 = .ok (.putfield 23, 3) := by decide +kernel
theorem d_H_become_24 : decode prog_4_method_2_code 24 = .ok (.aload_n 0, 1) := by decide +kernel
theorem d_H_become_25 : decode prog_4_method_2_code 25 = .ok (.aload_n 1, 1) := by decide +kernel
theorem d_H_become_26 : decode prog_4_method_2_code 26 = .ok (.getfield 40, 3) := by decide +kernel
theorem d_H_become_29 : decode prog_4_method_2_code 29 = .ok (.putfield 40, 3) := by decide +kernel
theorem d_H_become_32 : decode prog_4_method_2_code 32 = .ok (.aload_n 0, 1) := by decide +kernel
theorem d_H_become_33 : decode prog_4_method_2_code 33 = .ok (.iconst 0, 1) := by decide +kernel
theorem d_H_become_34 : decode prog_4_method_2_code 34 = .ok (.putfield 43, 3) := by decide +kernel
theorem d_H_become_37 : decode prog_4_method_2_code 37 = .ok (.aload_n 0, 1) := by decide +kernel
theorem d_H_become_38 : decode prog_4_method_2_code 38 = .ok (.iconst 0, 1) := by decide +kernel
theorem d_H_become_39 : decode prog_4_method_2_code 39 = .ok (.putfield 46, 3) := by decide +kernel
theorem d_H_become_42 : decode prog_4_method_2_code 42 = .ok (.aload_n 0, 1) := by decide +kernel
theorem d_H_become_43 : decode prog_4_method_2_code 43 = .ok (.bipush (-4), 2) := by decide +kernel
theorem d_H_become_45 : decode prog_4_method_2_code 45 = .ok (.putfield 27, 3) := by decide +kernel
theorem d_H_become_48 : decode prog_4_method_2_code 48 = .ok (.iconst 0, 1) := by decide +kernel
theorem d_H_become_49 : decode prog_4_method_2_code 49 = .ok (.istore_n 2, 1) := by decide +kernel
theorem d_H_become_50 : decode prog_4_method_2_code 50 = .ok (.iload_n 2, 1) := by decide +kernel
theorem d_H_become_51 : decode prog_4_method_2_code 51 = .ok (.aload_n 0, 1) := by decide +kernel
theorem d_H_become_52 : decode prog_4_method_2_code 52 = .ok (.getfield 34, 3) := by decide +kernel
theorem d_H_become_55 : decode prog_4_method_2_code 55 = .ok (.if_icmp .ge 37, 3) := by decide +kernel
theorem d_H_become_58 : decode prog_4_method_2_code 58 = .ok (.aload_n 0, 1) := by decide +kernel
theorem d_H_become_59 : decode prog_4_method_2_code 59 = .ok (.iload_n 2, 1) := by decide +kernel
theorem d_H_become_60 : decode prog_4_method_2_code 60 = .ok (.invokevirtual 49, 3) := by decide +kernel
theorem d_H_become_63 : decode prog_4_method_2_code 63 = .ok (.astore_n 3, 1) := by decide +kernel
theorem d_H_become_64 : decode prog_4_method_2_code 64 = .ok (.aload_n 1, 1) := by decide +kernel
theorem d_H_become_65 : decode prog_4_method_2_code 65 = .ok (.iload_n 2, 1) := by decide +kernel
theorem d_H_become_66 : decode prog_4_method_2_code 66 = .ok (.invokevirtual 49, 3) := by decide +kernel
theorem d_H_become_69 : decode prog_4_method_2_code 69 = .ok (.astore 4, 2) := by decide +kernel
theorem d_H_become_71 : decode prog_4_method_2_code 71 = .ok (.aload_n 3, 1) := by decide +kernel
theorem d_H_become_72 : decode prog_4_method_2_code 72 = .ok (.ifnull 14, 3) := by decide +kernel
theorem d_H_become_75 : decode prog_4_method_2_code 75 = .ok (.aload 4, 2) := by decide +kernel
theorem d_H_become_77 : decode prog_4_method_2_code 77 = .ok (.ifnull 9, 3) := by decide +kernel
theorem d_H_become_80 : decode prog_4_method_2_code 80 = .ok (.aload_n 3, 1) := by decide +kernel
theorem d_H_become_81 : decode prog_4_method_2_code 81 = .ok (.aload 4, 2) := by decide +kernel
theorem d_H_become_83 : decode prog_4_method_2_code 83 = .ok (.invokevirtual 53, 3) := by decide +kernel
theorem d_H_become_86 : decode prog_4_method_2_code 86 = .ok (.iinc 2 1, 3) := by decide +kernel
theorem d_H_become_89 : decode prog_4_method_2_code 89 = .ok (.goto (-39), 3) := by decide +kernel
theorem d_H_become_92 : decode prog_4_method_2_code 92 = .ok (.iconst 0, 1) := by decide +kernel
theorem d_H_become_93 : decode prog_4_method_2_code 93 = .ok (.istore_n 2, 1) := by decide +kernel
theorem d_H_become_94 : decode prog_4_method_2_code 94 = .ok (.iload_n 2, 1) := by decide +kernel
theorem d_H_become_95 : decode prog_4_method_2_code 95 = .ok (.aload_n 0, 1) := by decide +kernel
theorem d_H_become_96 : decode prog_4_method_2_code 96 = .ok (.getfield 37, 3) := by decide +kernel
theorem d_H_become_99 : decode prog_4_method_2_code 99 = .ok (.if_icmp .ge 37, 3) := by decide +kernel
theorem d_H_become_102 : decode prog_4_method_2_code 102 = .ok (.aload_n 0, 1) := by decide +kernel
theorem d_H_become_103 : decode prog_4_method_2_code 103 = .ok (.iload_n 2, 1) := by decide +kernel
theorem d_H_become_104 : decode prog_4_method_2_code 104 = .ok (.invokevirtual 57, 3) := by decide +kernel
theorem d_H_become_107 : decode prog_4_method_2_code 107 = .ok (.astore_n 3, 1) := by decide +kernel
theorem d_H_become_108 : decode prog_4_method_2_code 108 = .ok (.aload_n 1, 1) := by decide +kernel
theorem d_H_become_109 : decode prog_4_method_2_code 109 = .ok (.iload_n 2, 1) := by decide +kernel
theorem d_H_become_110 : decode prog_4_method_2_code 110 = .ok (.invokevirtual 57, 3) := by decide +kernel
theorem d_H_become_113 : decode prog_4_method_2_code 113 = .ok (.astore 4, 2) := by decide +kernel
theorem d_H_become_115 : decode prog_4_method_2_code 115 = .ok (.aload_n 3, 1) := by decide +kernel
theorem d_H_become_116 : decode prog_4_method_2_code 116 = .ok (.ifnull 14, 3) := by decide +kernel
theorem d_H_become_119 : decode prog_4_method_2_code 119 = .ok (.aload 4, 2) := by decide +kernel
theorem d_H_become_121 : decode prog_4_method_2_code 121 = .ok (.ifnull 9, 3) := by decide +kernel
theorem d_H_become_124 : decode prog_4_method_2_code 124 = .ok (.aload_n 3, 1) := by decide +kernel
theorem d_H_become_125 : decode prog_4_method_2_code 125 = .ok (.aload 4, 2) := by decide +kernel
theorem d_H_become_127 : decode prog_4_method_2_code 127 = .ok (.invokevirtual 61, 3) := by decide +kernel
theorem d_H_become_130 : decode prog_4_method_2_code 130 = .ok (.iinc 2 1, 3) := by decide +kernel
theorem d_H_become_133 : decode prog_4_method_2_code 133 = .ok (.goto (-39), 3) := by decide +kernel
theorem d_H_become_136 : decode prog_4_method_2_code 136 = .ok (.return_, 1) := by decide +kernel
theorem gc_H_become_49 : GoodIn yGW (wsV "WhoseGlass$House" 49 yR2 m_H_glassAt ws_H_glassAt) := y_gV g_259 g_260 g_261 g_2 g_262
theorem gc_H_become_53 : GoodIn yGW (wsV "WhoseGlass$House" 53 yR0 m_G_become ws_G_become) := y_gV g_263 g_264 g_265 g_3 g_266
theorem gc_H_become_57 : GoodIn yGW (wsV "WhoseGlass$House" 57 yR2 m_H_guestAt ws_H_guestAt) := y_gV g_267 g_268 g_269 g_2 g_270
theorem gc_H_become_61 : GoodIn yGW (wsV "WhoseGlass$House" 61 yR1 m_U_become ws_U_become) := y_gV g_271 g_272 g_273 g_4 g_274
set_option maxHeartbeats 4000000 in
set_option maxRecDepth 100000 in
def f_H_become_L50 (F : Nat) (a0 : Option Nat) (a1 : Option Nat) (k : Mm → Option (Unit × Mm)) : Nat → Mm → Int32 → Option (Unit × Mm)
  | 0, _, _ => none
  | n + 1, u, a2 => ob (jgi YX 2 2 u a0) fun (x12 : Int32) => (if x12 ≤ a2 then k u  else ob (jk YX 2 a0) fun t => yb (f_H_glassAt F u t a2) fun r14 u15 => ob (jk YX 2 a1) fun t => yb (f_H_glassAt F u15 t a2) fun r16 u17 => ob ((if r14 = none then some u17 else (if r16 = none then some u17 else ob (jk YX 0 r14) fun t => yb (f_G_become F u17 t r16) fun v21 u22 => some u22)) : Option (Mm)) fun q18 => ob (some (a2 + (1 : Int32))) fun (x23 : Int32) => f_H_become_L50 F a0 a1 k n q18 x23)
set_option maxHeartbeats 4000000 in
set_option maxRecDepth 100000 in
theorem w_H_become_L50 {p : Program} {l : Launch} {e : Env} {s : State} {m : MethodId} {args : Array Value} {below : List Frame} {meth : Method} {c : Code} {w : WP} {Q : State → Prop} (F : Nat) (C : yX p e ({ frames := 1, cells := 0, slots := 0, locals := 21 } : Room) s m args c YX w 5 prog_4_method_2_code "WhoseGlass$House") (hr : meth.sig.returnType = none) (hlocks : meth.locks = false) (a0 : Option Nat) (a1 : Option Nat) {out : Unit × Mm} (k : Mm → Option (Unit × Mm)) (hk : ∀ (u : Mm), k u  = some out → yG p l e ({ frames := 1, cells := 0, slots := 0, locals := 21 } : Room) s m args below meth c YX w 5 Q u 92 [(0, va_re w.1 a0), (1, va_re w.1 a1)] []) : ∀ (n : Nat) (u : Mm) (a2 : Int32), f_H_become_L50 F a0 a1 k n u a2 = some out → yG p l e ({ frames := 1, cells := 0, slots := 0, locals := 21 } : Room) s m args below meth c YX w 5 Q u 50 [(0, va_re w.1 a0), (1, va_re w.1 a1), (2, .int a2)] [] := by
  intro n
  induction n with
  | zero => intro u a2 h; rw [f_H_become_L50] at h; cases h
  | succ n ih =>
    intro u a2 h
    rw [f_H_become_L50] at h
    refine y_iload_n C (i := 2) 2 d_H_become_50 rfl rfl ?_
    refine y_aload_n C (i := 0) 0 d_H_become_51 rfl rfl ?_
    refine y_gi C (q := (yR2, yT2, 9)) (ci := 2) (k := 2) rfl (by decide) rfl g_133 d_H_become_52 h (fun x12 h => ?_)
    refine y_ic_ge C 92 d_H_become_55 (by decide) h (fun k13 h => ?_) (fun k13 h => ?_)
    · exact y_sub [0, 1] rfl (hk _ h)
    · refine y_aload_n C (i := 0) 0 d_H_become_58 rfl rfl ?_
      refine y_iload_n C (i := 2) 2 d_H_become_59 rfl rfl ?_
      refine y_callV 1 C (q := (yR2, yT2, 9)) (ci := 2) (fun t out hh => c_H_glassAt l w F u t a2 out hh) gc_H_become_49 rfl (by decide) hd_H_glassAt ⟨Nat.le_of_ble_eq_true rfl, Nat.le_of_ble_eq_true rfl⟩ rfl rfl rfl rfl (by simp [y_cat, y_catI, y_catJ]) d_H_become_60 h (fun r14 u15 h => ?_)
      refine y_stk (stp0 := [va_re w.1 r14]) rfl ?_
      refine y_astore_n C (i := 3) (lvp := [(0, va_re w.1 a0), (1, va_re w.1 a1), (2, .int a2)]) d_H_become_63 rfl (by decide) (by simp [List.filter, y_cat, y_catI, y_catJ]) ?_
      refine y_aload_n C (i := 1) 2 d_H_become_64 rfl rfl ?_
      refine y_iload_n C (i := 2) 3 d_H_become_65 rfl rfl ?_
      refine y_callV 1 C (q := (yR2, yT2, 9)) (ci := 2) (fun t out hh => c_H_glassAt l w F u15 t a2 out hh) gc_H_become_49 rfl (by decide) hd_H_glassAt ⟨Nat.le_of_ble_eq_true rfl, Nat.le_of_ble_eq_true rfl⟩ rfl rfl rfl rfl (by simp [y_cat, y_catI, y_catJ]) d_H_become_66 h (fun r16 u17 h => ?_)
      refine y_stk (stp0 := [va_re w.1 r16]) rfl ?_
      refine y_astore C (i := 4) (lvp := [(3, va_re w.1 r14), (0, va_re w.1 a0), (1, va_re w.1 a1), (2, .int a2)]) d_H_become_69 (by decide) (by simp [List.filter, y_cat, y_catI, y_catJ]) ?_
      refine y_aload_n C (i := 3) 1 d_H_become_71 rfl rfl ?_
      obtain ⟨q18, hq18, h⟩ := ob_e h
      have hJq18 : yG p l e ({ frames := 1, cells := 0, slots := 0, locals := 21 } : Room) s m args below meth c YX w 5 Q q18 86 [(0, va_re w.1 a0), (1, va_re w.1 a1), (2, .int a2)] [] := by
        refine y_iinc C (j := 2) (v := 1) (lvp := [(0, va_re w.1 a0), (1, va_re w.1 a1)]) d_H_become_86 rfl (by decide) (by decide) (by simp [List.filter, y_cat, y_catI, y_catJ]) h (fun x23 h => ?_)
        refine y_goto C (tgt := 50) d_H_become_89 (by decide) ?_
        exact y_sub [1, 2, 0] rfl (ih _ _ h)
      refine y_ifnull C 86 d_H_become_72 (by decide) hq18 (fun k19 hq18 => ?_) (fun k19 hq18 => ?_)
      · cases hq18
        exact y_sub [2, 3, 4] rfl hJq18
      · refine y_aload C (i := 4) 0 d_H_become_75 rfl ?_
        refine y_ifnull C 86 d_H_become_77 (by decide) hq18 (fun k20 hq18 => ?_) (fun k20 hq18 => ?_)
        · cases hq18
          exact y_sub [2, 3, 4] rfl hJq18
        · refine y_aload_n C (i := 3) 1 d_H_become_80 rfl rfl ?_
          refine y_aload C (i := 4) 0 d_H_become_81 rfl ?_
          refine y_callV 1 C (q := (yR0, yT0, 8)) (ci := 0) (fun t out hh => c_G_become l w F u17 t r16 out hh) gc_H_become_53 rfl (by decide) hd_G_become ⟨Nat.le_of_ble_eq_true rfl, Nat.le_of_ble_eq_true rfl⟩ rfl rfl rfl rfl (by simp [y_cat, y_catI, y_catJ]) d_H_become_83 hq18 (fun v21 u22 hq18 => ?_)
          refine y_stk (stp0 := []) rfl ?_
          cases hq18
          exact y_sub [2, 3, 4] rfl hJq18
set_option maxHeartbeats 4000000 in
set_option maxRecDepth 100000 in
def f_H_become_L94 (F : Nat) (a0 : Option Nat) (a1 : Option Nat) (k : Mm → Option (Unit × Mm)) : Nat → Mm → Int32 → Option (Unit × Mm)
  | 0, _, _ => none
  | n + 1, u, a2 => ob (jgi YX 2 3 u a0) fun (x25 : Int32) => (if x25 ≤ a2 then k u  else ob (jk YX 2 a0) fun t => yb (f_H_guestAt F u t a2) fun r27 u28 => ob (jk YX 2 a1) fun t => yb (f_H_guestAt F u28 t a2) fun r29 u30 => ob ((if r27 = none then some u30 else (if r29 = none then some u30 else ob (jk YX 1 r27) fun t => yb (f_U_become F u30 t r29) fun v34 u35 => some u35)) : Option (Mm)) fun q31 => ob (some (a2 + (1 : Int32))) fun (x36 : Int32) => f_H_become_L94 F a0 a1 k n q31 x36)
set_option maxHeartbeats 4000000 in
set_option maxRecDepth 100000 in
theorem w_H_become_L94 {p : Program} {l : Launch} {e : Env} {s : State} {m : MethodId} {args : Array Value} {below : List Frame} {meth : Method} {c : Code} {w : WP} {Q : State → Prop} (F : Nat) (C : yX p e ({ frames := 1, cells := 0, slots := 0, locals := 21 } : Room) s m args c YX w 5 prog_4_method_2_code "WhoseGlass$House") (hr : meth.sig.returnType = none) (hlocks : meth.locks = false) (a0 : Option Nat) (a1 : Option Nat) {out : Unit × Mm} (k : Mm → Option (Unit × Mm)) (hk : ∀ (u : Mm), k u  = some out → yG p l e ({ frames := 1, cells := 0, slots := 0, locals := 21 } : Room) s m args below meth c YX w 5 Q u 136 [] []) : ∀ (n : Nat) (u : Mm) (a2 : Int32), f_H_become_L94 F a0 a1 k n u a2 = some out → yG p l e ({ frames := 1, cells := 0, slots := 0, locals := 21 } : Room) s m args below meth c YX w 5 Q u 94 [(0, va_re w.1 a0), (1, va_re w.1 a1), (2, .int a2)] [] := by
  intro n
  induction n with
  | zero => intro u a2 h; rw [f_H_become_L94] at h; cases h
  | succ n ih =>
    intro u a2 h
    rw [f_H_become_L94] at h
    refine y_iload_n C (i := 2) 2 d_H_become_94 rfl rfl ?_
    refine y_aload_n C (i := 0) 0 d_H_become_95 rfl rfl ?_
    refine y_gi C (q := (yR2, yT2, 9)) (ci := 2) (k := 3) rfl (by decide) rfl g_135 d_H_become_96 h (fun x25 h => ?_)
    refine y_ic_ge C 136 d_H_become_99 (by decide) h (fun k26 h => ?_) (fun k26 h => ?_)
    · exact y_sub [] rfl (hk _ h)
    · refine y_aload_n C (i := 0) 0 d_H_become_102 rfl rfl ?_
      refine y_iload_n C (i := 2) 2 d_H_become_103 rfl rfl ?_
      refine y_callV 1 C (q := (yR2, yT2, 9)) (ci := 2) (fun t out hh => c_H_guestAt l w F u t a2 out hh) gc_H_become_57 rfl (by decide) hd_H_guestAt ⟨Nat.le_of_ble_eq_true rfl, Nat.le_of_ble_eq_true rfl⟩ rfl rfl rfl rfl (by simp [y_cat, y_catI, y_catJ]) d_H_become_104 h (fun r27 u28 h => ?_)
      refine y_stk (stp0 := [va_re w.1 r27]) rfl ?_
      refine y_astore_n C (i := 3) (lvp := [(0, va_re w.1 a0), (1, va_re w.1 a1), (2, .int a2)]) d_H_become_107 rfl (by decide) (by simp [List.filter, y_cat, y_catI, y_catJ]) ?_
      refine y_aload_n C (i := 1) 2 d_H_become_108 rfl rfl ?_
      refine y_iload_n C (i := 2) 3 d_H_become_109 rfl rfl ?_
      refine y_callV 1 C (q := (yR2, yT2, 9)) (ci := 2) (fun t out hh => c_H_guestAt l w F u28 t a2 out hh) gc_H_become_57 rfl (by decide) hd_H_guestAt ⟨Nat.le_of_ble_eq_true rfl, Nat.le_of_ble_eq_true rfl⟩ rfl rfl rfl rfl (by simp [y_cat, y_catI, y_catJ]) d_H_become_110 h (fun r29 u30 h => ?_)
      refine y_stk (stp0 := [va_re w.1 r29]) rfl ?_
      refine y_astore C (i := 4) (lvp := [(3, va_re w.1 r27), (0, va_re w.1 a0), (1, va_re w.1 a1), (2, .int a2)]) d_H_become_113 (by decide) (by simp [List.filter, y_cat, y_catI, y_catJ]) ?_
      refine y_aload_n C (i := 3) 1 d_H_become_115 rfl rfl ?_
      obtain ⟨q31, hq31, h⟩ := ob_e h
      have hJq31 : yG p l e ({ frames := 1, cells := 0, slots := 0, locals := 21 } : Room) s m args below meth c YX w 5 Q q31 130 [(0, va_re w.1 a0), (1, va_re w.1 a1), (2, .int a2)] [] := by
        refine y_iinc C (j := 2) (v := 1) (lvp := [(0, va_re w.1 a0), (1, va_re w.1 a1)]) d_H_become_130 rfl (by decide) (by decide) (by simp [List.filter, y_cat, y_catI, y_catJ]) h (fun x36 h => ?_)
        refine y_goto C (tgt := 94) d_H_become_133 (by decide) ?_
        exact y_sub [1, 2, 0] rfl (ih _ _ h)
      refine y_ifnull C 130 d_H_become_116 (by decide) hq31 (fun k32 hq31 => ?_) (fun k32 hq31 => ?_)
      · cases hq31
        exact y_sub [2, 3, 4] rfl hJq31
      · refine y_aload C (i := 4) 0 d_H_become_119 rfl ?_
        refine y_ifnull C 130 d_H_become_121 (by decide) hq31 (fun k33 hq31 => ?_) (fun k33 hq31 => ?_)
        · cases hq31
          exact y_sub [2, 3, 4] rfl hJq31
        · refine y_aload_n C (i := 3) 1 d_H_become_124 rfl rfl ?_
          refine y_aload C (i := 4) 0 d_H_become_125 rfl ?_
          refine y_callV 1 C (q := (yR1, yT1, 10)) (ci := 1) (fun t out hh => c_U_become l w F u30 t r29 out hh) gc_H_become_61 rfl (by decide) hd_U_become ⟨Nat.le_of_ble_eq_true rfl, Nat.le_of_ble_eq_true rfl⟩ rfl rfl rfl rfl (by simp [y_cat, y_catI, y_catJ]) d_H_become_127 hq31 (fun v34 u35 hq31 => ?_)
          refine y_stk (stp0 := []) rfl ?_
          cases hq31
          exact y_sub [2, 3, 4] rfl hJq31
set_option maxRecDepth 100000 in
def f_H_become (F : Nat) (u : Mm) (o : Nat) (a1 : Option Nat) : Option (Unit × Mm) := ob (jgi YX 2 2 u a1) fun (x1 : Int32) => ob (jpi YX 2 2 u (some o) x1) fun (u2 : Mm) => ob (jgi YX 2 3 u2 a1) fun (x3 : Int32) => ob (jpi YX 2 3 u2 (some o) x3) fun (u4 : Mm) => ob (jgi YX 2 4 u4 a1) fun (x5 : Int32) => ob (jpi YX 2 4 u4 (some o) x5) fun (u6 : Mm) => ob (jgi YX 2 5 u6 a1) fun (x7 : Int32) => ob (jpi YX 2 5 u6 (some o) x7) fun (u8 : Mm) => ob (jpi YX 2 6 u8 (some o) (0 : Int32)) fun (u9 : Mm) => ob (jpi YX 2 7 u9 (some o) (0 : Int32)) fun (u10 : Mm) => ob (jpi YX 2 8 u10 (some o) (-4 : Int32)) fun (u11 : Mm) => f_H_become_L50 F (some o) a1 (fun (u24 : Mm) => f_H_become_L94 F (some o) a1 (fun (u37 : Mm) => some ((), u37)) F u24 (0 : Int32)) F u11 (0 : Int32)
set_option maxHeartbeats 4000000 in
set_option maxRecDepth 100000 in
theorem c_H_become (l : Launch) (w : WP) (F : Nat) (u : Mm) (o : Nat) (a1 : Option Nat) (out : Unit × Mm) (h : f_H_become F u o a1 = some out) : yMet l m_H_become ws_H_become ({ frames := 1, cells := 0, slots := 0, locals := 21 } : Room) YX w u [va_re w.1 (some o), va_re w.1 a1] yfv out := by
  refine y_entry (own := "WhoseGlass$House") (lv := [(0, va_re w.1 (some o)), (1, va_re w.1 a1)]) (by decide +kernel) rfl (by simp [lv_args, y_cat, y_catI, y_catJ]) (by simp [lg_sl, y_cat, y_catI, y_catJ]) ?_
  intro p e s m args below meth c C hr hlocks
  unfold f_H_become at h
  refine y_aload_n C (i := 0) 0 d_H_become_0 rfl rfl ?_
  refine y_aload_n C (i := 1) 1 d_H_become_1 rfl rfl ?_
  refine y_gi C (q := (yR2, yT2, 9)) (ci := 2) (k := 2) rfl (by decide) rfl g_133 d_H_become_2 h (fun x1 h => ?_)
  refine y_pi C (q := (yR2, yT2, 9)) (ci := 2) (k := 2) rfl (by decide) rfl rfl (by decide +kernel) g_133 d_H_become_5 h (fun u2 h => ?_)
  refine y_aload_n C (i := 0) 0 d_H_become_8 rfl rfl ?_
  refine y_aload_n C (i := 1) 1 d_H_become_9 rfl rfl ?_
  refine y_gi C (q := (yR2, yT2, 9)) (ci := 2) (k := 3) rfl (by decide) rfl g_135 d_H_become_10 h (fun x3 h => ?_)
  refine y_pi C (q := (yR2, yT2, 9)) (ci := 2) (k := 3) rfl (by decide) rfl rfl (by decide +kernel) g_135 d_H_become_13 h (fun u4 h => ?_)
  refine y_aload_n C (i := 0) 0 d_H_become_16 rfl rfl ?_
  refine y_aload_n C (i := 1) 1 d_H_become_17 rfl rfl ?_
  refine y_gi C (q := (yR2, yT2, 9)) (ci := 2) (k := 4) rfl (by decide) rfl g_137 d_H_become_18 h (fun x5 h => ?_)
  refine y_pi C (q := (yR2, yT2, 9)) (ci := 2) (k := 4) rfl (by decide) rfl rfl (by decide +kernel) g_137 d_H_become_21 h (fun u6 h => ?_)
  refine y_aload_n C (i := 0) 0 d_H_become_24 rfl rfl ?_
  refine y_aload_n C (i := 1) 1 d_H_become_25 rfl rfl ?_
  refine y_gi C (q := (yR2, yT2, 9)) (ci := 2) (k := 5) rfl (by decide) rfl g_140 d_H_become_26 h (fun x7 h => ?_)
  refine y_pi C (q := (yR2, yT2, 9)) (ci := 2) (k := 5) rfl (by decide) rfl rfl (by decide +kernel) g_140 d_H_become_29 h (fun u8 h => ?_)
  refine y_aload_n C (i := 0) 0 d_H_become_32 rfl rfl ?_
  refine y_iconst C (v := 0) d_H_become_33 (by decide) ?_
  refine y_pi C (q := (yR2, yT2, 9)) (ci := 2) (k := 6) rfl (by decide) rfl rfl (by decide +kernel) g_143 d_H_become_34 h (fun u9 h => ?_)
  refine y_aload_n C (i := 0) 0 d_H_become_37 rfl rfl ?_
  refine y_iconst C (v := 0) d_H_become_38 (by decide) ?_
  refine y_pi C (q := (yR2, yT2, 9)) (ci := 2) (k := 7) rfl (by decide) rfl rfl (by decide +kernel) g_145 d_H_become_39 h (fun u10 h => ?_)
  refine y_aload_n C (i := 0) 0 d_H_become_42 rfl rfl ?_
  refine y_bipush C (v := -4) d_H_become_43 (by decide) ?_
  refine y_pi C (q := (yR2, yT2, 9)) (ci := 2) (k := 8) rfl (by decide) rfl rfl (by decide +kernel) g_147 d_H_become_45 h (fun u11 h => ?_)
  refine y_iconst C (v := 0) d_H_become_48 (by decide) ?_
  refine y_istore_n C (i := 2) (lvp := [(0, va_re w.1 (some o)), (1, va_re w.1 a1)]) d_H_become_49 rfl (by decide) (by simp [List.filter, y_cat, y_catI, y_catJ]) ?_
  refine y_sub [1, 2, 0] rfl (w_H_become_L50 F C hr hlocks _ _ _ (fun u24 h => ?_) _ _ _ h)
  refine y_iconst C (v := 0) d_H_become_92 (by decide) ?_
  refine y_istore_n C (i := 2) (lvp := [(0, va_re w.1 (some o)), (1, va_re w.1 a1)]) d_H_become_93 rfl (by decide) (by simp [List.filter, y_cat, y_catI, y_catJ]) ?_
  refine y_sub [1, 2, 0] rfl (w_H_become_L94 F C hr hlocks _ _ _ (fun u37 h => ?_) _ _ _ h)
  exact y_vret C hr hlocks d_H_become_136 h
/-! X_isMultiple -/
theorem d_X_isMultiple_0 : decode prog_1_method_44_code 0 = .ok (.iload_n 1, 1) := by decide +kernel
theorem d_X_isMultiple_1 : decode prog_1_method_44_code 1 = .ok (.ifCond .le 13, 3) := by decide +kernel
theorem d_X_isMultiple_4 : decode prog_1_method_44_code 4 = .ok (.iload_n 0, 1) := by decide +kernel
theorem d_X_isMultiple_5 : decode prog_1_method_44_code 5 = .ok (.iload_n 1, 1) := by decide +kernel
theorem d_X_isMultiple_6 : decode prog_1_method_44_code 6 = .ok (.irem, 1) := by decide +kernel
theorem d_X_isMultiple_7 : decode prog_1_method_44_code 7 = .ok (.ifCond .ne 7, 3) := by decide +kernel
theorem d_X_isMultiple_10 : decode prog_1_method_44_code 10 = .ok (.iconst 1, 1) := by decide +kernel
theorem d_X_isMultiple_11 : decode prog_1_method_44_code 11 = .ok (.goto 4, 3) := by decide +kernel
theorem d_X_isMultiple_14 : decode prog_1_method_44_code 14 = .ok (.iconst 0, 1) := by decide +kernel
theorem d_X_isMultiple_15 : decode prog_1_method_44_code 15 = .ok (.ireturn, 1) := by decide +kernel
set_option maxRecDepth 100000 in
def f_X_isMultiple (F : Nat) (u : Mm) (a0 : Int32) (a1 : Int32) : Option (Int32 × Mm) := (if a1 ≤ 0 then ob (jz (0 : Int32)) (fun v => some (v, u)) else ob (jrm a0 a1) fun (x2 : Int32) => (if x2 = 0 then ob (jz (1 : Int32)) (fun v => some (v, u)) else ob (jz (0 : Int32)) (fun v => some (v, u))))
set_option maxHeartbeats 4000000 in
set_option maxRecDepth 100000 in
theorem c_X_isMultiple (l : Launch) (w : WP) (F : Nat) (u : Mm) (a0 : Int32) (a1 : Int32) (out : Int32 × Mm) (h : f_X_isMultiple F u a0 a1 = some out) : yMet l m_X_isMultiple ws_X_isMultiple ({ frames := 0, cells := 0, slots := 0, locals := 0 } : Room) YX w u [.int a0, .int a1] yfi out := by
  refine y_entry (own := "WhoseGlass") (lv := [(0, .int a0), (1, .int a1)]) (by decide +kernel) rfl (by simp [lv_args, y_cat, y_catI, y_catJ]) (by simp [lg_sl, y_cat, y_catI, y_catJ]) ?_
  intro p e s m args below meth c C hr hlocks
  unfold f_X_isMultiple at h
  refine y_iload_n C (i := 1) 1 d_X_isMultiple_0 rfl rfl ?_
  refine y_if_le C 14 d_X_isMultiple_1 (by decide) h (fun k1 h => ?_) (fun k1 h => ?_)
  · refine y_iconst C (v := 0) d_X_isMultiple_14 (by decide) ?_
    exact y_zret C hr hlocks d_X_isMultiple_15 h
  · refine y_iload_n C (i := 0) 0 d_X_isMultiple_4 rfl rfl ?_
    refine y_iload_n C (i := 1) 1 d_X_isMultiple_5 rfl rfl ?_
    refine y_irem C d_X_isMultiple_6 h (fun x2 h => ?_)
    refine y_if_ne C 14 d_X_isMultiple_7 (by decide) h (fun k3 h => ?_) (fun k3 h => ?_)
    · refine y_iconst C (v := 1) d_X_isMultiple_10 (by decide) ?_
      refine y_goto C (tgt := 15) d_X_isMultiple_11 (by decide) ?_
      exact y_zret C hr hlocks d_X_isMultiple_15 h
    · refine y_iconst C (v := 0) d_X_isMultiple_14 (by decide) ?_
      exact y_zret C hr hlocks d_X_isMultiple_15 h
/-! H_placeBehind -/
theorem d_H_placeBehind_0 : decode prog_4_method_9_code 0 = .ok (.iload_n 1, 1) := by decide +kernel
theorem d_H_placeBehind_1 : decode prog_4_method_9_code 1 = .ok (.iconst 1, 1) := by decide +kernel
theorem d_H_placeBehind_2 : decode prog_4_method_9_code 2 = .ok (.iadd, 1) := by decide +kernel
theorem d_H_placeBehind_3 : decode prog_4_method_9_code 3 = .ok (.bipush 6, 2) := by decide +kernel
theorem d_H_placeBehind_5 : decode prog_4_method_9_code 5 = .ok (.irem, 1) := by decide +kernel
theorem d_H_placeBehind_6 : decode prog_4_method_9_code 6 = .ok (.istore_n 2, 1) := by decide +kernel
theorem d_H_placeBehind_7 : decode prog_4_method_9_code 7 = .ok (.iload_n 2, 1) := by decide +kernel
theorem d_H_placeBehind_8 : decode prog_4_method_9_code 8 = .ok (.aload_n 0, 1) := by decide +kernel
theorem d_H_placeBehind_9 : decode prog_4_method_9_code 9 = .ok (.getfield 27, 3) := by decide +kernel
theorem d_H_placeBehind_12 : decode prog_4_method_9_code 12 = .ok (.if_icmp .ne 12, 3) := by decide +kernel
theorem d_H_placeBehind_15 : decode prog_4_method_9_code 15 = .ok (.iload_n 2, 1) := by decide +kernel
theorem d_H_placeBehind_16 : decode prog_4_method_9_code 16 = .ok (.iconst 1, 1) := by decide +kernel
theorem d_H_placeBehind_17 : decode prog_4_method_9_code 17 = .ok (.iadd, 1) := by decide +kernel
theorem d_H_placeBehind_18 : decode prog_4_method_9_code 18 = .ok (.bipush 6, 2) := by decide +kernel
theorem d_H_placeBehind_20 : decode prog_4_method_9_code 20 = .ok (.irem, 1) := by decide +kernel
theorem d_H_placeBehind_21 : decode prog_4_method_9_code 21 = .ok (.goto 4, 3) := by decide +kernel
theorem d_H_placeBehind_24 : decode prog_4_method_9_code 24 = .ok (.iload_n 2, 1) := by decide +kernel
theorem d_H_placeBehind_25 : decode prog_4_method_9_code 25 = .ok (.ireturn, 1) := by decide +kernel
set_option maxRecDepth 100000 in
def f_H_placeBehind (F : Nat) (u : Mm) (o : Nat) (a1 : Int32) : Option (Int32 × Mm) := ob (jrm (a1 + (1 : Int32)) (6 : Int32)) fun (x1 : Int32) => ob (jgi YX 2 8 u (some o)) fun (x2 : Int32) => (if x1 = x2 then ob (jrm (x1 + (1 : Int32)) (6 : Int32)) fun (x4 : Int32) => some (x4, u) else some (x1, u))
set_option maxHeartbeats 4000000 in
set_option maxRecDepth 100000 in
theorem c_H_placeBehind (l : Launch) (w : WP) (F : Nat) (u : Mm) (o : Nat) (a1 : Int32) (out : Int32 × Mm) (h : f_H_placeBehind F u o a1 = some out) : yMet l m_H_placeBehind ws_H_placeBehind ({ frames := 0, cells := 0, slots := 0, locals := 0 } : Room) YX w u [va_re w.1 (some o), .int a1] yfi out := by
  refine y_entry (own := "WhoseGlass$House") (lv := [(0, va_re w.1 (some o)), (1, .int a1)]) (by decide +kernel) rfl (by simp [lv_args, y_cat, y_catI, y_catJ]) (by simp [lg_sl, y_cat, y_catI, y_catJ]) ?_
  intro p e s m args below meth c C hr hlocks
  unfold f_H_placeBehind at h
  refine y_iload_n C (i := 1) 1 d_H_placeBehind_0 rfl rfl ?_
  refine y_iconst C (v := 1) d_H_placeBehind_1 (by decide) ?_
  refine y_iadd C d_H_placeBehind_2 ?_
  refine y_bipush C (v := 6) d_H_placeBehind_3 (by decide) ?_
  refine y_irem C d_H_placeBehind_5 h (fun x1 h => ?_)
  refine y_istore_n C (i := 2) (lvp := [(0, va_re w.1 (some o)), (1, .int a1)]) d_H_placeBehind_6 rfl (by decide) rfl ?_
  refine y_iload_n C (i := 2) 0 d_H_placeBehind_7 rfl rfl ?_
  refine y_aload_n C (i := 0) 1 d_H_placeBehind_8 rfl rfl ?_
  refine y_gi C (q := (yR2, yT2, 9)) (ci := 2) (k := 8) rfl (by decide) rfl g_147 d_H_placeBehind_9 h (fun x2 h => ?_)
  refine y_ic_ne C 24 d_H_placeBehind_12 (by decide) h (fun k3 h => ?_) (fun k3 h => ?_)
  · refine y_iload_n C (i := 2) 0 d_H_placeBehind_15 rfl rfl ?_
    refine y_iconst C (v := 1) d_H_placeBehind_16 (by decide) ?_
    refine y_iadd C d_H_placeBehind_17 ?_
    refine y_bipush C (v := 6) d_H_placeBehind_18 (by decide) ?_
    refine y_irem C d_H_placeBehind_20 h (fun x4 h => ?_)
    refine y_goto C (tgt := 25) d_H_placeBehind_21 (by decide) ?_
    exact y_iret C hr hlocks d_H_placeBehind_25 h
  · refine y_iload_n C (i := 2) 0 d_H_placeBehind_24 rfl rfl ?_
    exact y_iret C hr hlocks d_H_placeBehind_25 h
/-! G_likeTo -/
theorem d_G_likeTo_0 : decode prog_2_method_8_code 0 = .ok (.aload_n 0, 1) := by decide +kernel
theorem d_G_likeTo_1 : decode prog_2_method_8_code 1 = .ok (.getfield 9, 3) := by decide +kernel
theorem d_G_likeTo_4 : decode prog_2_method_8_code 4 = .ok (.aload_n 1, 1) := by decide +kernel
theorem d_G_likeTo_5 : decode prog_2_method_8_code 5 = .ok (.getfield 9, 3) := by decide +kernel
theorem d_G_likeTo_8 : decode prog_2_method_8_code 8 = .ok (.if_icmp .ne 7, 3) := by decide +kernel
theorem d_G_likeTo_11 : decode prog_2_method_8_code 11 = .ok (.iconst 1, 1) := by decide +kernel
theorem d_G_likeTo_12 : decode prog_2_method_8_code 12 = .ok (.goto 4, 3) := by decide +kernel
theorem d_G_likeTo_15 : decode prog_2_method_8_code 15 = .ok (.iconst 0, 1) := by decide +kernel
theorem d_G_likeTo_16 : decode prog_2_method_8_code 16 = .ok (.istore_n 2, 1) := by decide +kernel
theorem d_G_likeTo_17 : decode prog_2_method_8_code 17 = .ok (.aload_n 0, 1) := by decide +kernel
theorem d_G_likeTo_18 : decode prog_2_method_8_code 18 = .ok (.getfield 18, 3) := by decide +kernel
theorem d_G_likeTo_21 : decode prog_2_method_8_code 21 = .ok (.aload_n 1, 1) := by decide +kernel
theorem d_G_likeTo_22 : decode prog_2_method_8_code 22 = .ok (.getfield 18, 3) := by decide +kernel
theorem d_G_likeTo_25 : decode prog_2_method_8_code 25 = .ok (.if_icmp .ne 7, 3) := by decide +kernel
theorem d_G_likeTo_28 : decode prog_2_method_8_code 28 = .ok (.iconst 3, 1) := by decide +kernel
theorem d_G_likeTo_29 : decode prog_2_method_8_code 29 = .ok (.goto 4, 3) := by decide +kernel
theorem d_G_likeTo_32 : decode prog_2_method_8_code 32 = .ok (.iconst 1, 1) := by decide +kernel
theorem d_G_likeTo_33 : decode prog_2_method_8_code 33 = .ok (.istore_n 3, 1) := by decide +kernel
theorem d_G_likeTo_34 : decode prog_2_method_8_code 34 = .ok (.aload_n 1, 1) := by decide +kernel
theorem d_G_likeTo_35 : decode prog_2_method_8_code 35 = .ok (.getfield 15, 3) := by decide +kernel
theorem d_G_likeTo_38 : decode prog_2_method_8_code 38 = .ok (.iconst 2, 1) := by decide +kernel
theorem d_G_likeTo_39 : decode prog_2_method_8_code 39 = .ok (.if_icmp .eq 11, 3) := by decide +kernel
theorem d_G_likeTo_42 : decode prog_2_method_8_code 42 = .ok (.aload_n 1, 1) := by decide +kernel
theorem d_G_likeTo_43 : decode prog_2_method_8_code 43 = .ok (.getfield 15, 3) := by decide +kernel
theorem d_G_likeTo_46 : decode prog_2_method_8_code 46 = .ok (.iconst 4, 1) := by decide +kernel
theorem d_G_likeTo_47 : decode prog_2_method_8_code 47 = .ok (.if_icmp .ne 7, 3) := by decide +kernel
theorem d_G_likeTo_50 : decode prog_2_method_8_code 50 = .ok (.iconst 1, 1) := by decide +kernel
theorem d_G_likeTo_51 : decode prog_2_method_8_code 51 = .ok (.goto 4, 3) := by decide +kernel
theorem d_G_likeTo_54 : decode prog_2_method_8_code 54 = .ok (.iconst 0, 1) := by decide +kernel
theorem d_G_likeTo_55 : decode prog_2_method_8_code 55 = .ok (.istore 4, 2) := by decide +kernel
theorem d_G_likeTo_57 : decode prog_2_method_8_code 57 = .ok (.aload_n 1, 1) := by decide +kernel
theorem d_G_likeTo_58 : decode prog_2_method_8_code 58 = .ok (.getfield 15, 3) := by decide +kernel
theorem d_G_likeTo_61 : decode prog_2_method_8_code 61 = .ok (.iconst 3, 1) := by decide +kernel
theorem d_G_likeTo_62 : decode prog_2_method_8_code 62 = .ok (.if_icmp .eq 21, 3) := by decide +kernel
theorem d_G_likeTo_65 : decode prog_2_method_8_code 65 = .ok (.aload_n 1, 1) := by decide +kernel
theorem d_G_likeTo_66 : decode prog_2_method_8_code 66 = .ok (.getfield 15, 3) := by decide +kernel
theorem d_G_likeTo_69 : decode prog_2_method_8_code 69 = .ok (.bipush 6, 2) := by decide +kernel
theorem d_G_likeTo_71 : decode prog_2_method_8_code 71 = .ok (.if_icmp .eq 12, 3) := by decide +kernel
theorem d_G_likeTo_74 : decode prog_2_method_8_code 74 = .ok (.aload_n 1, 1) := by decide +kernel
theorem d_G_likeTo_75 : decode prog_2_method_8_code 75 = .ok (.getfield 15, 3) := by decide +kernel
theorem d_G_likeTo_78 : decode prog_2_method_8_code 78 = .ok (.bipush 7, 2) := by decide +kernel
theorem d_G_likeTo_80 : decode prog_2_method_8_code 80 = .ok (.if_icmp .ne 7, 3) := by decide +kernel
theorem d_G_likeTo_83 : decode prog_2_method_8_code 83 = .ok (.iconst 1, 1) := by decide +kernel
theorem d_G_likeTo_84 : decode prog_2_method_8_code 84 = .ok (.goto 4, 3) := by decide +kernel
theorem d_G_likeTo_87 : decode prog_2_method_8_code 87 = .ok (.iconst 0, 1) := by decide +kernel
theorem d_G_likeTo_88 : decode prog_2_method_8_code 88 = .ok (.istore 5, 2) := by decide +kernel
theorem d_G_likeTo_90 : decode prog_2_method_8_code 90 = .ok (.iload 4, 2) := by decide +kernel
theorem d_G_likeTo_92 : decode prog_2_method_8_code 92 = .ok (.ifCond .eq 9, 3) := by decide +kernel
theorem d_G_likeTo_95 : decode prog_2_method_8_code 95 = .ok (.iload_n 3, 1) := by decide +kernel
theorem d_G_likeTo_96 : decode prog_2_method_8_code 96 = .ok (.iconst 3, 1) := by decide +kernel
theorem d_G_likeTo_97 : decode prog_2_method_8_code 97 = .ok (.iadd, 1) := by decide +kernel
theorem d_G_likeTo_98 : decode prog_2_method_8_code 98 = .ok (.goto 4, 3) := by decide +kernel
theorem d_G_likeTo_101 : decode prog_2_method_8_code 101 = .ok (.iload_n 3, 1) := by decide +kernel
theorem d_G_likeTo_102 : decode prog_2_method_8_code 102 = .ok (.istore 6, 2) := by decide +kernel
theorem d_G_likeTo_104 : decode prog_2_method_8_code 104 = .ok (.iload 5, 2) := by decide +kernel
theorem d_G_likeTo_106 : decode prog_2_method_8_code 106 = .ok (.ifCond .eq 9, 3) := by decide +kernel
theorem d_G_likeTo_109 : decode prog_2_method_8_code 109 = .ok (.iload_n 3, 1) := by decide +kernel
theorem d_G_likeTo_110 : decode prog_2_method_8_code 110 = .ok (.iconst 4, 1) := by decide +kernel
theorem d_G_likeTo_111 : decode prog_2_method_8_code 111 = .ok (.iadd, 1) := by decide +kernel
theorem d_G_likeTo_112 : decode prog_2_method_8_code 112 = .ok (.goto 4, 3) := by decide +kernel
theorem d_G_likeTo_115 : decode prog_2_method_8_code 115 = .ok (.iload_n 3, 1) := by decide +kernel
theorem d_G_likeTo_116 : decode prog_2_method_8_code 116 = .ok (.istore 7, 2) := by decide +kernel
theorem d_G_likeTo_118 : decode prog_2_method_8_code 118 = .ok (.iload_n 2, 1) := by decide +kernel
theorem d_G_likeTo_119 : decode prog_2_method_8_code 119 = .ok (.ifCond .eq 8, 3) := by decide +kernel
theorem d_G_likeTo_122 : decode prog_2_method_8_code 122 = .ok (.bipush 20, 2) := by decide +kernel
theorem d_G_likeTo_124 : decode prog_2_method_8_code 124 = .ok (.goto 4, 3) := by decide +kernel
theorem d_G_likeTo_127 : decode prog_2_method_8_code 127 = .ok (.iconst 0, 1) := by decide +kernel
theorem d_G_likeTo_128 : decode prog_2_method_8_code 128 = .ok (.istore 8, 2) := by decide +kernel
theorem d_G_likeTo_130 : decode prog_2_method_8_code 130 = .ok (.aload_n 0, 1) := by decide +kernel
theorem d_G_likeTo_131 : decode prog_2_method_8_code 131 = .ok (.getfield 15, 3) := by decide +kernel
theorem d_G_likeTo_134 : decode prog_2_method_8_code 134 = .ok (.tableswitch 116 1 7 #[42, 45, 48, 51, 69, 88, 102], 42) := by decide +kernel
theorem d_G_likeTo_176 : decode prog_2_method_8_code 176 = .ok (.iload 8, 2) := by decide +kernel
theorem d_G_likeTo_178 : decode prog_2_method_8_code 178 = .ok (.ireturn, 1) := by decide +kernel
theorem d_G_likeTo_179 : decode prog_2_method_8_code 179 = .ok (.iload 6, 2) := by decide +kernel
theorem d_G_likeTo_181 : decode prog_2_method_8_code 181 = .ok (.ireturn, 1) := by decide +kernel
theorem d_G_likeTo_182 : decode prog_2_method_8_code 182 = .ok (.iload 7, 2) := by decide +kernel
theorem d_G_likeTo_184 : decode prog_2_method_8_code 184 = .ok (.ireturn, 1) := by decide +kernel
theorem d_G_likeTo_185 : decode prog_2_method_8_code 185 = .ok (.aload_n 1, 1) := by decide +kernel
theorem d_G_likeTo_186 : decode prog_2_method_8_code 186 = .ok (.getfield 15, 3) := by decide +kernel
theorem d_G_likeTo_189 : decode prog_2_method_8_code 189 = .ok (.iconst 4, 1) := by decide +kernel
theorem d_G_likeTo_190 : decode prog_2_method_8_code 190 = .ok (.if_icmp .ne 10, 3) := by decide +kernel
theorem d_G_likeTo_193 : decode prog_2_method_8_code 193 = .ok (.iload 6, 2) := by decide +kernel
theorem d_G_likeTo_195 : decode prog_2_method_8_code 195 = .ok (.iconst 1, 1) := by decide +kernel
theorem d_G_likeTo_196 : decode prog_2_method_8_code 196 = .ok (.iadd, 1) := by decide +kernel
theorem d_G_likeTo_197 : decode prog_2_method_8_code 197 = .ok (.goto 5, 3) := by decide +kernel
theorem d_G_likeTo_200 : decode prog_2_method_8_code 200 = .ok (.iload 6, 2) := by decide +kernel
theorem d_G_likeTo_202 : decode prog_2_method_8_code 202 = .ok (.ireturn, 1) := by decide +kernel
theorem d_G_likeTo_203 : decode prog_2_method_8_code 203 = .ok (.aload_n 1, 1) := by decide +kernel
theorem d_G_likeTo_204 : decode prog_2_method_8_code 204 = .ok (.getfield 15, 3) := by decide +kernel
theorem d_G_likeTo_207 : decode prog_2_method_8_code 207 = .ok (.iconst 5, 1) := by decide +kernel
theorem d_G_likeTo_208 : decode prog_2_method_8_code 208 = .ok (.if_icmp .ne 11, 3) := by decide +kernel
theorem d_G_likeTo_211 : decode prog_2_method_8_code 211 = .ok (.iload_n 2, 1) := by decide +kernel
theorem d_G_likeTo_212 : decode prog_2_method_8_code 212 = .ok (.ifCond .ne 7, 3) := by decide +kernel
theorem d_G_likeTo_215 : decode prog_2_method_8_code 215 = .ok (.iconst 5, 1) := by decide +kernel
theorem d_G_likeTo_216 : decode prog_2_method_8_code 216 = .ok (.goto 5, 3) := by decide +kernel
theorem d_G_likeTo_219 : decode prog_2_method_8_code 219 = .ok (.iload 8, 2) := by decide +kernel
theorem d_G_likeTo_221 : decode prog_2_method_8_code 221 = .ok (.ireturn, 1) := by decide +kernel
theorem d_G_likeTo_222 : decode prog_2_method_8_code 222 = .ok (.iload_n 2, 1) := by decide +kernel
theorem d_G_likeTo_223 : decode prog_2_method_8_code 223 = .ok (.ifCond .eq 10, 3) := by decide +kernel
theorem d_G_likeTo_226 : decode prog_2_method_8_code 226 = .ok (.iconst 2, 1) := by decide +kernel
theorem d_G_likeTo_227 : decode prog_2_method_8_code 227 = .ok (.iload 7, 2) := by decide +kernel
theorem d_G_likeTo_229 : decode prog_2_method_8_code 229 = .ok (.imul, 1) := by decide +kernel
theorem d_G_likeTo_230 : decode prog_2_method_8_code 230 = .ok (.goto 5, 3) := by decide +kernel
theorem d_G_likeTo_233 : decode prog_2_method_8_code 233 = .ok (.iload 7, 2) := by decide +kernel
theorem d_G_likeTo_235 : decode prog_2_method_8_code 235 = .ok (.ireturn, 1) := by decide +kernel
theorem d_G_likeTo_236 : decode prog_2_method_8_code 236 = .ok (.aload_n 1, 1) := by decide +kernel
theorem d_G_likeTo_237 : decode prog_2_method_8_code 237 = .ok (.getfield 21, 3) := by decide +kernel
theorem d_G_likeTo_240 : decode prog_2_method_8_code 240 = .ok (.ifCond .ne 7, 3) := by decide +kernel
theorem d_G_likeTo_243 : decode prog_2_method_8_code 243 = .ok (.iconst 0, 1) := by decide +kernel
theorem d_G_likeTo_244 : decode prog_2_method_8_code 244 = .ok (.goto 5, 3) := by decide +kernel
theorem d_G_likeTo_247 : decode prog_2_method_8_code 247 = .ok (.iload 7, 2) := by decide +kernel
theorem d_G_likeTo_249 : decode prog_2_method_8_code 249 = .ok (.ireturn, 1) := by decide +kernel
theorem d_G_likeTo_250 : decode prog_2_method_8_code 250 = .ok (.iload_n 3, 1) := by decide +kernel
theorem d_G_likeTo_251 : decode prog_2_method_8_code 251 = .ok (.ireturn, 1) := by decide +kernel
set_option maxRecDepth 100000 in
def f_G_likeTo (F : Nat) (u : Mm) (o : Nat) (a1 : Option Nat) : Option (Int32 × Mm) := ob (jgi YX 0 0 u (some o)) fun (x1 : Int32) => ob (jgi YX 0 0 u a1) fun (x2 : Int32) => ob ((if x1 = x2 then some (1 : Int32) else some (0 : Int32)) : Option (Int32)) fun q3 => ob (jgi YX 0 2 u (some o)) fun (x5 : Int32) => ob (jgi YX 0 2 u a1) fun (x6 : Int32) => ob ((if x5 = x6 then some (3 : Int32) else some (1 : Int32)) : Option (Int32)) fun q7 => ob (jgi YX 0 1 u a1) fun (x9 : Int32) => ob ((if x9 = (2 : Int32) then some (1 : Int32) else ob (jgi YX 0 1 u a1) fun (x12 : Int32) => (if x12 = (4 : Int32) then some (1 : Int32) else some (0 : Int32))) : Option (Int32)) fun q10 => ob (jgi YX 0 1 u a1) fun (x14 : Int32) => ob ((if x14 = (3 : Int32) then some (1 : Int32) else ob (jgi YX 0 1 u a1) fun (x17 : Int32) => (if x17 = (6 : Int32) then some (1 : Int32) else ob (jgi YX 0 1 u a1) fun (x19 : Int32) => (if x19 = (7 : Int32) then some (1 : Int32) else some (0 : Int32)))) : Option (Int32)) fun q15 => ob ((if q10 = 0 then some q7 else some (q7 + (3 : Int32))) : Option (Int32)) fun q21 => ob ((if q15 = 0 then some q7 else some (q7 + (4 : Int32))) : Option (Int32)) fun q23 => ob ((if q3 = 0 then some (0 : Int32) else some (20 : Int32)) : Option (Int32)) fun q25 => ob (jgi YX 0 1 u (some o)) fun (x27 : Int32) => (if x27 = (1 : Int32) then some (q25, u) else (if x27 = (2 : Int32) then some (q21, u) else (if x27 = (3 : Int32) then some (q23, u) else (if x27 = (4 : Int32) then ob (jgi YX 0 1 u a1) fun (x32 : Int32) => (if x32 = (4 : Int32) then some ((q21 + (1 : Int32)), u) else some (q21, u)) else (if x27 = (5 : Int32) then ob (jgi YX 0 1 u a1) fun (x35 : Int32) => (if x35 = (5 : Int32) then (if q3 = 0 then some ((5 : Int32), u) else some (q25, u)) else some (q25, u)) else (if x27 = (6 : Int32) then (if q3 = 0 then some (q23, u) else some (((2 : Int32) * q23), u)) else (if x27 = (7 : Int32) then ob (jgi YX 0 3 u a1) fun (x41 : Int32) => (if x41 = 0 then some ((0 : Int32), u) else some (q23, u)) else some (q7, u))))))))
set_option maxHeartbeats 4000000 in
set_option maxRecDepth 100000 in
theorem c_G_likeTo (l : Launch) (w : WP) (F : Nat) (u : Mm) (o : Nat) (a1 : Option Nat) (out : Int32 × Mm) (h : f_G_likeTo F u o a1 = some out) : yMet l m_G_likeTo ws_G_likeTo ({ frames := 0, cells := 0, slots := 0, locals := 0 } : Room) YX w u [va_re w.1 (some o), va_re w.1 a1] yfi out := by
  refine y_entry (own := "WhoseGlass$Glass") (lv := [(0, va_re w.1 (some o)), (1, va_re w.1 a1)]) (by decide +kernel) rfl (by simp [lv_args, y_cat, y_catI, y_catJ]) (by simp [lg_sl, y_cat, y_catI, y_catJ]) ?_
  intro p e s m args below meth c C hr hlocks
  unfold f_G_likeTo at h
  refine y_aload_n C (i := 0) 0 d_G_likeTo_0 rfl rfl ?_
  refine y_gi C (q := (yR0, yT0, 8)) (ci := 0) (k := 0) rfl (by decide) rfl g_39 d_G_likeTo_1 h (fun x1 h => ?_)
  refine y_aload_n C (i := 1) 1 d_G_likeTo_4 rfl rfl ?_
  refine y_gi C (q := (yR0, yT0, 8)) (ci := 0) (k := 0) rfl (by decide) rfl g_39 d_G_likeTo_5 h (fun x2 h => ?_)
  obtain ⟨q3, hq3, h⟩ := ob_e h
  have hJq3 : yG p l e ({ frames := 0, cells := 0, slots := 0, locals := 0 } : Room) s m args below meth c YX w 9 (MQ below (yQ YX w yfi out) args s 0 0 (yA YX w)) u 16 [(0, va_re w.1 (some o)), (1, va_re w.1 a1)] [.int q3] := by
    refine y_istore_n C (i := 2) (lvp := [(0, va_re w.1 (some o)), (1, va_re w.1 a1)]) d_G_likeTo_16 rfl (by decide) (by simp [List.filter, y_cat, y_catI, y_catJ]) ?_
    refine y_aload_n C (i := 0) 1 d_G_likeTo_17 rfl rfl ?_
    refine y_gi C (q := (yR0, yT0, 8)) (ci := 0) (k := 2) rfl (by decide) rfl g_45 d_G_likeTo_18 h (fun x5 h => ?_)
    refine y_aload_n C (i := 1) 2 d_G_likeTo_21 rfl rfl ?_
    refine y_gi C (q := (yR0, yT0, 8)) (ci := 0) (k := 2) rfl (by decide) rfl g_45 d_G_likeTo_22 h (fun x6 h => ?_)
    obtain ⟨q7, hq7, h⟩ := ob_e h
    have hJq7 : yG p l e ({ frames := 0, cells := 0, slots := 0, locals := 0 } : Room) s m args below meth c YX w 9 (MQ below (yQ YX w yfi out) args s 0 0 (yA YX w)) u 33 [(0, va_re w.1 (some o)), (1, va_re w.1 a1), (2, .int q3)] [.int q7] := by
      refine y_istore_n C (i := 3) (lvp := [(0, va_re w.1 (some o)), (1, va_re w.1 a1), (2, .int q3)]) d_G_likeTo_33 rfl (by decide) rfl ?_
      refine y_aload_n C (i := 1) 2 d_G_likeTo_34 rfl rfl ?_
      refine y_gi C (q := (yR0, yT0, 8)) (ci := 0) (k := 1) rfl (by decide) rfl g_43 d_G_likeTo_35 h (fun x9 h => ?_)
      refine y_iconst C (v := 2) d_G_likeTo_38 (by decide) ?_
      obtain ⟨q10, hq10, h⟩ := ob_e h
      have hJq10 : yG p l e ({ frames := 0, cells := 0, slots := 0, locals := 0 } : Room) s m args below meth c YX w 9 (MQ below (yQ YX w yfi out) args s 0 0 (yA YX w)) u 55 [(0, va_re w.1 (some o)), (1, va_re w.1 a1), (2, .int q3), (3, .int q7)] [.int q10] := by
        refine y_istore C (i := 4) (lvp := [(0, va_re w.1 (some o)), (1, va_re w.1 a1), (2, .int q3), (3, .int q7)]) d_G_likeTo_55 (by decide) rfl ?_
        refine y_aload_n C (i := 1) 2 d_G_likeTo_57 rfl rfl ?_
        refine y_gi C (q := (yR0, yT0, 8)) (ci := 0) (k := 1) rfl (by decide) rfl g_43 d_G_likeTo_58 h (fun x14 h => ?_)
        refine y_iconst C (v := 3) d_G_likeTo_61 (by decide) ?_
        obtain ⟨q15, hq15, h⟩ := ob_e h
        have hJq15 : yG p l e ({ frames := 0, cells := 0, slots := 0, locals := 0 } : Room) s m args below meth c YX w 9 (MQ below (yQ YX w yfi out) args s 0 0 (yA YX w)) u 88 [(0, va_re w.1 (some o)), (1, va_re w.1 a1), (2, .int q3), (3, .int q7), (4, .int q10)] [.int q15] := by
          refine y_istore C (i := 5) (lvp := [(0, va_re w.1 (some o)), (1, va_re w.1 a1), (2, .int q3), (3, .int q7), (4, .int q10)]) d_G_likeTo_88 (by decide) rfl ?_
          refine y_iload C (i := 4) 5 d_G_likeTo_90 rfl ?_
          obtain ⟨q21, hq21, h⟩ := ob_e h
          have hJq21 : yG p l e ({ frames := 0, cells := 0, slots := 0, locals := 0 } : Room) s m args below meth c YX w 9 (MQ below (yQ YX w yfi out) args s 0 0 (yA YX w)) u 102 [(0, va_re w.1 (some o)), (1, va_re w.1 a1), (2, .int q3), (3, .int q7), (5, .int q15)] [.int q21] := by
            refine y_istore C (i := 6) (lvp := [(0, va_re w.1 (some o)), (1, va_re w.1 a1), (2, .int q3), (3, .int q7), (5, .int q15)]) d_G_likeTo_102 (by decide) rfl ?_
            refine y_iload C (i := 5) 5 d_G_likeTo_104 rfl ?_
            obtain ⟨q23, hq23, h⟩ := ob_e h
            have hJq23 : yG p l e ({ frames := 0, cells := 0, slots := 0, locals := 0 } : Room) s m args below meth c YX w 9 (MQ below (yQ YX w yfi out) args s 0 0 (yA YX w)) u 116 [(0, va_re w.1 (some o)), (1, va_re w.1 a1), (2, .int q3), (3, .int q7), (6, .int q21)] [.int q23] := by
              refine y_istore C (i := 7) (lvp := [(0, va_re w.1 (some o)), (1, va_re w.1 a1), (2, .int q3), (3, .int q7), (6, .int q21)]) d_G_likeTo_116 (by decide) rfl ?_
              refine y_iload_n C (i := 2) 3 d_G_likeTo_118 rfl rfl ?_
              obtain ⟨q25, hq25, h⟩ := ob_e h
              have hJq25 : yG p l e ({ frames := 0, cells := 0, slots := 0, locals := 0 } : Room) s m args below meth c YX w 9 (MQ below (yQ YX w yfi out) args s 0 0 (yA YX w)) u 128 [(0, va_re w.1 (some o)), (1, va_re w.1 a1), (2, .int q3), (3, .int q7), (6, .int q21), (7, .int q23)] [.int q25] := by
                refine y_istore C (i := 8) (lvp := [(0, va_re w.1 (some o)), (1, va_re w.1 a1), (2, .int q3), (3, .int q7), (6, .int q21), (7, .int q23)]) d_G_likeTo_128 (by decide) rfl ?_
                refine y_aload_n C (i := 0) 1 d_G_likeTo_130 rfl rfl ?_
                refine y_gi C (q := (yR0, yT0, 8)) (ci := 0) (k := 1) rfl (by decide) rfl g_43 d_G_likeTo_131 h (fun x27 h => ?_)
                refine y_sp h (fun k28 h => ?_) (fun k28 h => ?_)
                · refine y_tsw C (off := 42) 176 d_G_likeTo_134 (Or.inr ⟨by rw [k28]; decide, by rw [k28]; decide, by rw [k28]; rfl⟩) (by decide) ?_
                  refine y_iload C (i := 8) 0 d_G_likeTo_176 rfl ?_
                  exact y_iret C hr hlocks d_G_likeTo_178 h
                refine y_sp h (fun k29 h => ?_) (fun k29 h => ?_)
                · refine y_tsw C (off := 45) 179 d_G_likeTo_134 (Or.inr ⟨by rw [k29]; decide, by rw [k29]; decide, by rw [k29]; rfl⟩) (by decide) ?_
                  refine y_iload C (i := 6) 5 d_G_likeTo_179 rfl ?_
                  exact y_iret C hr hlocks d_G_likeTo_181 h
                refine y_sp h (fun k30 h => ?_) (fun k30 h => ?_)
                · refine y_tsw C (off := 48) 182 d_G_likeTo_134 (Or.inr ⟨by rw [k30]; decide, by rw [k30]; decide, by rw [k30]; rfl⟩) (by decide) ?_
                  refine y_iload C (i := 7) 6 d_G_likeTo_182 rfl ?_
                  exact y_iret C hr hlocks d_G_likeTo_184 h
                refine y_sp h (fun k31 h => ?_) (fun k31 h => ?_)
                · refine y_tsw C (off := 51) 185 d_G_likeTo_134 (Or.inr ⟨by rw [k31]; decide, by rw [k31]; decide, by rw [k31]; rfl⟩) (by decide) ?_
                  refine y_aload_n C (i := 1) 2 d_G_likeTo_185 rfl rfl ?_
                  refine y_gi C (q := (yR0, yT0, 8)) (ci := 0) (k := 1) rfl (by decide) rfl g_43 d_G_likeTo_186 h (fun x32 h => ?_)
                  refine y_iconst C (v := 4) d_G_likeTo_189 (by decide) ?_
                  refine y_ic_ne C 200 d_G_likeTo_190 (by decide) h (fun k33 h => ?_) (fun k33 h => ?_)
                  · refine y_iload C (i := 6) 5 d_G_likeTo_193 rfl ?_
                    refine y_iconst C (v := 1) d_G_likeTo_195 (by decide) ?_
                    refine y_iadd C d_G_likeTo_196 ?_
                    refine y_goto C (tgt := 202) d_G_likeTo_197 (by decide) ?_
                    exact y_iret C hr hlocks d_G_likeTo_202 h
                  · refine y_iload C (i := 6) 5 d_G_likeTo_200 rfl ?_
                    exact y_iret C hr hlocks d_G_likeTo_202 h
                refine y_sp h (fun k34 h => ?_) (fun k34 h => ?_)
                · refine y_tsw C (off := 69) 203 d_G_likeTo_134 (Or.inr ⟨by rw [k34]; decide, by rw [k34]; decide, by rw [k34]; rfl⟩) (by decide) ?_
                  refine y_aload_n C (i := 1) 2 d_G_likeTo_203 rfl rfl ?_
                  refine y_gi C (q := (yR0, yT0, 8)) (ci := 0) (k := 1) rfl (by decide) rfl g_43 d_G_likeTo_204 h (fun x35 h => ?_)
                  refine y_iconst C (v := 5) d_G_likeTo_207 (by decide) ?_
                  refine y_ic_ne C 219 d_G_likeTo_208 (by decide) h (fun k36 h => ?_) (fun k36 h => ?_)
                  · refine y_iload_n C (i := 2) 3 d_G_likeTo_211 rfl rfl ?_
                    refine y_if_ne C 219 d_G_likeTo_212 (by decide) h (fun k37 h => ?_) (fun k37 h => ?_)
                    · refine y_iconst C (v := 5) d_G_likeTo_215 (by decide) ?_
                      refine y_goto C (tgt := 221) d_G_likeTo_216 (by decide) ?_
                      exact y_iret C hr hlocks d_G_likeTo_221 h
                    · refine y_iload C (i := 8) 0 d_G_likeTo_219 rfl ?_
                      exact y_iret C hr hlocks d_G_likeTo_221 h
                  · refine y_iload C (i := 8) 0 d_G_likeTo_219 rfl ?_
                    exact y_iret C hr hlocks d_G_likeTo_221 h
                refine y_sp h (fun k38 h => ?_) (fun k38 h => ?_)
                · refine y_tsw C (off := 88) 222 d_G_likeTo_134 (Or.inr ⟨by rw [k38]; decide, by rw [k38]; decide, by rw [k38]; rfl⟩) (by decide) ?_
                  refine y_iload_n C (i := 2) 3 d_G_likeTo_222 rfl rfl ?_
                  refine y_if_eq C 233 d_G_likeTo_223 (by decide) h (fun k39 h => ?_) (fun k39 h => ?_)
                  · refine y_iload C (i := 7) 6 d_G_likeTo_233 rfl ?_
                    exact y_iret C hr hlocks d_G_likeTo_235 h
                  · refine y_iconst C (v := 2) d_G_likeTo_226 (by decide) ?_
                    refine y_iload C (i := 7) 6 d_G_likeTo_227 rfl ?_
                    refine y_imul C d_G_likeTo_229 ?_
                    refine y_goto C (tgt := 235) d_G_likeTo_230 (by decide) ?_
                    exact y_iret C hr hlocks d_G_likeTo_235 h
                refine y_sp h (fun k40 h => ?_) (fun k40 h => ?_)
                · refine y_tsw C (off := 102) 236 d_G_likeTo_134 (Or.inr ⟨by rw [k40]; decide, by rw [k40]; decide, by rw [k40]; rfl⟩) (by decide) ?_
                  refine y_aload_n C (i := 1) 2 d_G_likeTo_236 rfl rfl ?_
                  refine y_gi C (q := (yR0, yT0, 8)) (ci := 0) (k := 3) rfl (by decide) rfl g_46 d_G_likeTo_237 h (fun x41 h => ?_)
                  refine y_if_ne C 247 d_G_likeTo_240 (by decide) h (fun k42 h => ?_) (fun k42 h => ?_)
                  · refine y_iconst C (v := 0) d_G_likeTo_243 (by decide) ?_
                    refine y_goto C (tgt := 249) d_G_likeTo_244 (by decide) ?_
                    exact y_iret C hr hlocks d_G_likeTo_249 h
                  · refine y_iload C (i := 7) 6 d_G_likeTo_247 rfl ?_
                    exact y_iret C hr hlocks d_G_likeTo_249 h
                refine y_tsw C (off := 116) 250 d_G_likeTo_134 (Or.inl ⟨by have ak28 := lv_neT (a := 1) k28 rfl; have ak29 := lv_neT (a := 2) k29 rfl; have ak30 := lv_neT (a := 3) k30 rfl; have ak31 := lv_neT (a := 4) k31 rfl; have ak34 := lv_neT (a := 5) k34 rfl; have ak38 := lv_neT (a := 6) k38 rfl; have ak40 := lv_neT (a := 7) k40 rfl; omega, rfl⟩) (by decide) ?_
                refine y_iload_n C (i := 3) 4 d_G_likeTo_250 rfl rfl ?_
                exact y_iret C hr hlocks d_G_likeTo_251 h
              refine y_if_eq C 127 d_G_likeTo_119 (by decide) hq25 (fun k26 hq25 => ?_) (fun k26 hq25 => ?_)
              · refine y_iconst C (v := 0) d_G_likeTo_127 (by decide) ?_
                cases hq25
                exact y_sub [1, 2, 3, 4, 5, 0] rfl hJq25
              · refine y_bipush C (v := 20) d_G_likeTo_122 (by decide) ?_
                refine y_goto C (tgt := 128) d_G_likeTo_124 (by decide) ?_
                cases hq25
                exact y_sub [1, 2, 3, 4, 5, 0] rfl hJq25
            refine y_if_eq C 115 d_G_likeTo_106 (by decide) hq23 (fun k24 hq23 => ?_) (fun k24 hq23 => ?_)
            · refine y_iload_n C (i := 3) 4 d_G_likeTo_115 rfl rfl ?_
              cases hq23
              exact y_sub [1, 2, 3, 4, 0] rfl hJq23
            · refine y_iload_n C (i := 3) 4 d_G_likeTo_109 rfl rfl ?_
              refine y_iconst C (v := 4) d_G_likeTo_110 (by decide) ?_
              refine y_iadd C d_G_likeTo_111 ?_
              refine y_goto C (tgt := 116) d_G_likeTo_112 (by decide) ?_
              cases hq23
              exact y_sub [1, 2, 3, 4, 0] rfl hJq23
          refine y_if_eq C 101 d_G_likeTo_92 (by decide) hq21 (fun k22 hq21 => ?_) (fun k22 hq21 => ?_)
          · refine y_iload_n C (i := 3) 4 d_G_likeTo_101 rfl rfl ?_
            cases hq21
            exact y_sub [1, 2, 3, 4, 0] rfl hJq21
          · refine y_iload_n C (i := 3) 4 d_G_likeTo_95 rfl rfl ?_
            refine y_iconst C (v := 3) d_G_likeTo_96 (by decide) ?_
            refine y_iadd C d_G_likeTo_97 ?_
            refine y_goto C (tgt := 102) d_G_likeTo_98 (by decide) ?_
            cases hq21
            exact y_sub [1, 2, 3, 4, 0] rfl hJq21
        refine y_ic_eq C 83 d_G_likeTo_62 (by decide) hq15 (fun k16 hq15 => ?_) (fun k16 hq15 => ?_)
        · refine y_iconst C (v := 1) d_G_likeTo_83 (by decide) ?_
          refine y_goto C (tgt := 88) d_G_likeTo_84 (by decide) ?_
          cases hq15
          exact y_sub [1, 2, 3, 4, 0] rfl hJq15
        · refine y_aload_n C (i := 1) 2 d_G_likeTo_65 rfl rfl ?_
          refine y_gi C (q := (yR0, yT0, 8)) (ci := 0) (k := 1) rfl (by decide) rfl g_43 d_G_likeTo_66 hq15 (fun x17 hq15 => ?_)
          refine y_bipush C (v := 6) d_G_likeTo_69 (by decide) ?_
          refine y_ic_eq C 83 d_G_likeTo_71 (by decide) hq15 (fun k18 hq15 => ?_) (fun k18 hq15 => ?_)
          · refine y_iconst C (v := 1) d_G_likeTo_83 (by decide) ?_
            refine y_goto C (tgt := 88) d_G_likeTo_84 (by decide) ?_
            cases hq15
            exact y_sub [1, 2, 3, 4, 0] rfl hJq15
          · refine y_aload_n C (i := 1) 2 d_G_likeTo_74 rfl rfl ?_
            refine y_gi C (q := (yR0, yT0, 8)) (ci := 0) (k := 1) rfl (by decide) rfl g_43 d_G_likeTo_75 hq15 (fun x19 hq15 => ?_)
            refine y_bipush C (v := 7) d_G_likeTo_78 (by decide) ?_
            refine y_ic_ne C 87 d_G_likeTo_80 (by decide) hq15 (fun k20 hq15 => ?_) (fun k20 hq15 => ?_)
            · refine y_iconst C (v := 1) d_G_likeTo_83 (by decide) ?_
              refine y_goto C (tgt := 88) d_G_likeTo_84 (by decide) ?_
              cases hq15
              exact y_sub [1, 2, 3, 4, 0] rfl hJq15
            · refine y_iconst C (v := 0) d_G_likeTo_87 (by decide) ?_
              cases hq15
              exact y_sub [1, 2, 3, 4, 0] rfl hJq15
      refine y_ic_eq C 50 d_G_likeTo_39 (by decide) hq10 (fun k11 hq10 => ?_) (fun k11 hq10 => ?_)
      · refine y_iconst C (v := 1) d_G_likeTo_50 (by decide) ?_
        refine y_goto C (tgt := 55) d_G_likeTo_51 (by decide) ?_
        cases hq10
        exact y_sub [1, 2, 3, 0] rfl hJq10
      · refine y_aload_n C (i := 1) 2 d_G_likeTo_42 rfl rfl ?_
        refine y_gi C (q := (yR0, yT0, 8)) (ci := 0) (k := 1) rfl (by decide) rfl g_43 d_G_likeTo_43 hq10 (fun x12 hq10 => ?_)
        refine y_iconst C (v := 4) d_G_likeTo_46 (by decide) ?_
        refine y_ic_ne C 54 d_G_likeTo_47 (by decide) hq10 (fun k13 hq10 => ?_) (fun k13 hq10 => ?_)
        · refine y_iconst C (v := 1) d_G_likeTo_50 (by decide) ?_
          refine y_goto C (tgt := 55) d_G_likeTo_51 (by decide) ?_
          cases hq10
          exact y_sub [1, 2, 3, 0] rfl hJq10
        · refine y_iconst C (v := 0) d_G_likeTo_54 (by decide) ?_
          cases hq10
          exact y_sub [1, 2, 3, 0] rfl hJq10
    refine y_ic_ne C 32 d_G_likeTo_25 (by decide) hq7 (fun k8 hq7 => ?_) (fun k8 hq7 => ?_)
    · refine y_iconst C (v := 3) d_G_likeTo_28 (by decide) ?_
      refine y_goto C (tgt := 33) d_G_likeTo_29 (by decide) ?_
      cases hq7
      exact y_sub [1, 2, 0] rfl hJq7
    · refine y_iconst C (v := 1) d_G_likeTo_32 (by decide) ?_
      cases hq7
      exact y_sub [1, 2, 0] rfl hJq7
  refine y_ic_ne C 15 d_G_likeTo_8 (by decide) hq3 (fun k4 hq3 => ?_) (fun k4 hq3 => ?_)
  · refine y_iconst C (v := 1) d_G_likeTo_11 (by decide) ?_
    refine y_goto C (tgt := 16) d_G_likeTo_12 (by decide) ?_
    cases hq3
    exact y_sub [0, 1] rfl hJq3
  · refine y_iconst C (v := 0) d_G_likeTo_15 (by decide) ?_
    cases hq3
    exact y_sub [0, 1] rfl hJq3
end
section
/-! H_choiceOf -/
theorem d_H_choiceOf_0 : decode prog_4_method_12_code 0 = .ok (.aload_n 0, 1) := by decide +kernel
theorem d_H_choiceOf_1 : decode prog_4_method_12_code 1 = .ok (.aload_n 1, 1) := by decide +kernel
theorem d_H_choiceOf_2 : decode prog_4_method_12_code 2 = .ok (.getfield 122, 3) := by decide +kernel
theorem d_H_choiceOf_5 : decode prog_4_method_12_code 5 = .ok (.invokevirtual 49, 3) := by decide +kernel
theorem d_H_choiceOf_8 : decode prog_4_method_12_code 8 = .ok (.astore_n 2, 1) := by decide +kernel
theorem d_H_choiceOf_9 : decode prog_4_method_12_code 9 = .ok (.aload_n 2, 1) := by decide +kernel
theorem d_H_choiceOf_10 : decode prog_4_method_12_code 10 = .ok (.ifnull 12, 3) := by decide +kernel
theorem d_H_choiceOf_13 : decode prog_4_method_12_code 13 = .ok (.aload_n 2, 1) := by decide +kernel
theorem d_H_choiceOf_14 : decode prog_4_method_12_code 14 = .ok (.getfield 132, 3) := by decide +kernel
theorem d_H_choiceOf_17 : decode prog_4_method_12_code 17 = .ok (.bipush 20, 2) := by decide +kernel
theorem d_H_choiceOf_19 : decode prog_4_method_12_code 19 = .ok (.if_icmp .ne 6, 3) := by decide +kernel
theorem d_H_choiceOf_22 : decode prog_4_method_12_code 22 = .ok (.bipush (-4), 2) := by decide +kernel
theorem d_H_choiceOf_24 : decode prog_4_method_12_code 24 = .ok (.ireturn, 1) := by decide +kernel
theorem d_H_choiceOf_25 : decode prog_4_method_12_code 25 = .ok (.aconst_null, 1) := by decide +kernel
theorem d_H_choiceOf_26 : decode prog_4_method_12_code 26 = .ok (.astore_n 3, 1) := by decide +kernel
theorem d_H_choiceOf_27 : decode prog_4_method_12_code 27 = .ok (.iconst 0, 1) := by decide +kernel
theorem d_H_choiceOf_28 : decode prog_4_method_12_code 28 = .ok (.istore 4, 2) := by decide +kernel
theorem d_H_choiceOf_30 : decode prog_4_method_12_code 30 = .ok (.iconst 0, 1) := by decide +kernel
theorem d_H_choiceOf_31 : decode prog_4_method_12_code 31 = .ok (.istore 5, 2) := by decide +kernel
theorem d_H_choiceOf_33 : decode prog_4_method_12_code 33 = .ok (.iload 5, 2) := by decide +kernel
theorem d_H_choiceOf_35 : decode prog_4_method_12_code 35 = .ok (.aload_n 0, 1) := by decide +kernel
theorem d_H_choiceOf_36 : decode prog_4_method_12_code 36 = .ok (.getfield 34, 3) := by decide +kernel
theorem d_H_choiceOf_39 : decode prog_4_method_12_code 39 = .ok (.if_icmp .ge 94, 3) := by decide +kernel
theorem d_H_choiceOf_42 : decode prog_4_method_12_code 42 = .ok (.aload_n 0, 1) := by decide +kernel
theorem d_H_choiceOf_43 : decode prog_4_method_12_code 43 = .ok (.iload 5, 2) := by decide +kernel
theorem d_H_choiceOf_45 : decode prog_4_method_12_code 45 = .ok (.invokevirtual 49, 3) := by decide +kernel
theorem d_H_choiceOf_48 : decode prog_4_method_12_code 48 = .ok (.astore 6, 2) := by decide +kernel
theorem d_H_choiceOf_50 : decode prog_4_method_12_code 50 = .ok (.aload 6, 2) := by decide +kernel
theorem d_H_choiceOf_52 : decode prog_4_method_12_code 52 = .ok (.ifnull 75, 3) := by decide +kernel
theorem d_H_choiceOf_55 : decode prog_4_method_12_code 55 = .ok (.aload 6, 2) := by decide +kernel
theorem d_H_choiceOf_57 : decode prog_4_method_12_code 57 = .ok (.getfield 132, 3) := by decide +kernel
theorem d_H_choiceOf_60 : decode prog_4_method_12_code 60 = .ok (.aload_n 1, 1) := by decide +kernel
theorem d_H_choiceOf_61 : decode prog_4_method_12_code 61 = .ok (.getfield 81, 3) := by decide +kernel
theorem d_H_choiceOf_64 : decode prog_4_method_12_code 64 = .ok (.if_icmp .eq 6, 3) := by decide +kernel
theorem d_H_choiceOf_67 : decode prog_4_method_12_code 67 = .ok (.goto 60, 3) := by decide +kernel
theorem d_H_choiceOf_70 : decode prog_4_method_12_code 70 = .ok (.aload_n 2, 1) := by decide +kernel
theorem d_H_choiceOf_71 : decode prog_4_method_12_code 71 = .ok (.aload 6, 2) := by decide +kernel
theorem d_H_choiceOf_73 : decode prog_4_method_12_code 73 = .ok (.invokevirtual 135, 3) := by decide +kernel
theorem d_H_choiceOf_76 : decode prog_4_method_12_code 76 = .ok (.istore 7, 2) := by decide +kernel
theorem d_H_choiceOf_78 : decode prog_4_method_12_code 78 = .ok (.aload_n 3, 1) := by decide +kernel
theorem d_H_choiceOf_79 : decode prog_4_method_12_code 79 = .ok (.ifnull 26, 3) := by decide +kernel
theorem d_H_choiceOf_82 : decode prog_4_method_12_code 82 = .ok (.iload 7, 2) := by decide +kernel
theorem d_H_choiceOf_84 : decode prog_4_method_12_code 84 = .ok (.iload 4, 2) := by decide +kernel
theorem d_H_choiceOf_86 : decode prog_4_method_12_code 86 = .ok (.if_icmp .ne 19, 3) := by decide +kernel
theorem d_H_choiceOf_89 : decode prog_4_method_12_code 89 = .ok (.aload 6, 2) := by decide +kernel
theorem d_H_choiceOf_91 : decode prog_4_method_12_code 91 = .ok (.getfield 138, 3) := by decide +kernel
theorem d_H_choiceOf_94 : decode prog_4_method_12_code 94 = .ok (.aload_n 3, 1) := by decide +kernel
theorem d_H_choiceOf_95 : decode prog_4_method_12_code 95 = .ok (.getfield 138, 3) := by decide +kernel
theorem d_H_choiceOf_98 : decode prog_4_method_12_code 98 = .ok (.if_icmp .le 7, 3) := by decide +kernel
theorem d_H_choiceOf_101 : decode prog_4_method_12_code 101 = .ok (.iconst 1, 1) := by decide +kernel
theorem d_H_choiceOf_102 : decode prog_4_method_12_code 102 = .ok (.goto 4, 3) := by decide +kernel
theorem d_H_choiceOf_105 : decode prog_4_method_12_code 105 = .ok (.iconst 0, 1) := by decide +kernel
theorem d_H_choiceOf_106 : decode prog_4_method_12_code 106 = .ok (.istore 8, 2) := by decide +kernel
theorem d_H_choiceOf_108 : decode prog_4_method_12_code 108 = .ok (.iload 7, 2) := by decide +kernel
theorem d_H_choiceOf_110 : decode prog_4_method_12_code 110 = .ok (.iload 4, 2) := by decide +kernel
theorem d_H_choiceOf_112 : decode prog_4_method_12_code 112 = .ok (.if_icmp .gt 8, 3) := by decide +kernel
theorem d_H_choiceOf_115 : decode prog_4_method_12_code 115 = .ok (.iload 8, 2) := by decide +kernel
theorem d_H_choiceOf_117 : decode prog_4_method_12_code 117 = .ok (.ifCond .eq 10, 3) := by decide +kernel
theorem d_H_choiceOf_120 : decode prog_4_method_12_code 120 = .ok (.aload 6, 2) := by decide +kernel
theorem d_H_choiceOf_122 : decode prog_4_method_12_code 122 = .ok (.astore_n 3, 1) := by decide +kernel
theorem d_H_choiceOf_123 : decode prog_4_method_12_code 123 = .ok (.iload 7, 2) := by decide +kernel
theorem d_H_choiceOf_125 : decode prog_4_method_12_code 125 = .ok (.istore 4, 2) := by decide +kernel
theorem d_H_choiceOf_127 : decode prog_4_method_12_code 127 = .ok (.iinc 5 1, 3) := by decide +kernel
theorem d_H_choiceOf_130 : decode prog_4_method_12_code 130 = .ok (.goto (-97), 3) := by decide +kernel
theorem d_H_choiceOf_133 : decode prog_4_method_12_code 133 = .ok (.aload_n 3, 1) := by decide +kernel
theorem d_H_choiceOf_134 : decode prog_4_method_12_code 134 = .ok (.ifnull 12, 3) := by decide +kernel
theorem d_H_choiceOf_137 : decode prog_4_method_12_code 137 = .ok (.iload 4, 2) := by decide +kernel
theorem d_H_choiceOf_139 : decode prog_4_method_12_code 139 = .ok (.aload_n 1, 1) := by decide +kernel
theorem d_H_choiceOf_140 : decode prog_4_method_12_code 140 = .ok (.getfield 141, 3) := by decide +kernel
theorem d_H_choiceOf_143 : decode prog_4_method_12_code 143 = .ok (.if_icmp .ge 8, 3) := by decide +kernel
theorem d_H_choiceOf_146 : decode prog_4_method_12_code 146 = .ok (.bipush (-4), 2) := by decide +kernel
theorem d_H_choiceOf_148 : decode prog_4_method_12_code 148 = .ok (.goto 7, 3) := by decide +kernel
theorem d_H_choiceOf_151 : decode prog_4_method_12_code 151 = .ok (.aload_n 3, 1) := by decide +kernel
theorem d_H_choiceOf_152 : decode prog_4_method_12_code 152 = .ok (.getfield 119, 3) := by decide +kernel
theorem d_H_choiceOf_155 : decode prog_4_method_12_code 155 = .ok (.ireturn, 1) := by decide +kernel
theorem gc_H_choiceOf_49 : GoodIn yGW (wsV "WhoseGlass$House" 49 yR2 m_H_glassAt ws_H_glassAt) := y_gV g_259 g_260 g_261 g_2 g_262
theorem gc_H_choiceOf_135 : GoodIn yGW (wsV "WhoseGlass$House" 135 yR0 m_G_likeTo ws_G_likeTo) := y_gV g_301 g_302 g_303 g_3 g_304
set_option maxHeartbeats 4000000 in
set_option maxRecDepth 100000 in
def f_H_choiceOf_L33 (F : Nat) (a0 : Option Nat) (a1 : Option Nat) (a2 : Option Nat) (k : Mm → Option Nat → Int32 → Option (Int32 × Mm)) : Nat → Mm → Option Nat → Int32 → Int32 → Option (Int32 × Mm)
  | 0, _, _, _, _ => none
  | n + 1, u, a3, a4, a5 => ob (jgi YX 2 2 u a0) fun (x7 : Int32) => (if x7 ≤ a5 then k u a3 a4 else ob (jk YX 2 a0) fun t => yb (f_H_glassAt F u t a5) fun r9 u10 => ob ((if r9 = none then some (a3, a4, u10) else ob (jgi YX 0 4 u10 r9) fun (x13 : Int32) => ob (jgi YX 1 5 u10 a1) fun (x14 : Int32) => (if x13 = x14 then ob (jk YX 0 a2) fun t => yb (f_G_likeTo F u10 t r9) fun x16 u17 => ob ((if a3 = none then some (0 : Int32) else (if x16 = a4 then ob (jgi YX 0 5 u17 r9) fun (x21 : Int32) => ob (jgi YX 0 5 u17 a3) fun (x22 : Int32) => (if x21 ≤ x22 then some (0 : Int32) else some (1 : Int32)) else some (0 : Int32))) : Option (Int32)) fun q18 => (if a4 < x16 then some (r9, x16, u17) else (if q18 = 0 then some (a3, a4, u17) else some (r9, x16, u17))) else some (a3, a4, u10))) : Option ((Option Nat) × Int32 × Mm)) fun q11 => ob (some (a5 + (1 : Int32))) fun (x26 : Int32) => f_H_choiceOf_L33 F a0 a1 a2 k n q11.2.2 q11.1 q11.2.1 x26)
set_option maxHeartbeats 4000000 in
set_option maxRecDepth 100000 in
theorem w_H_choiceOf_L33 {p : Program} {l : Launch} {e : Env} {s : State} {m : MethodId} {args : Array Value} {below : List Frame} {meth : Method} {c : Code} {w : WP} {Q : State → Prop} (F : Nat) (C : yX p e ({ frames := 1, cells := 0, slots := 0, locals := 28 } : Room) s m args c YX w 9 prog_4_method_12_code "WhoseGlass$House") (hr : meth.sig.returnType = (some .int)) (hlocks : meth.locks = false) (a0 : Option Nat) (a1 : Option Nat) (a2 : Option Nat) {out : Int32 × Mm} (k : Mm → Option Nat → Int32 → Option (Int32 × Mm)) (hk : ∀ (u : Mm) (a3 : Option Nat) (a4 : Int32), k u a3 a4 = some out → yG p l e ({ frames := 1, cells := 0, slots := 0, locals := 28 } : Room) s m args below meth c YX w 9 Q u 133 [(1, va_re w.1 a1), (3, va_re w.1 a3), (4, .int a4)] []) : ∀ (n : Nat) (u : Mm) (a3 : Option Nat) (a4 : Int32) (a5 : Int32), f_H_choiceOf_L33 F a0 a1 a2 k n u a3 a4 a5 = some out → yG p l e ({ frames := 1, cells := 0, slots := 0, locals := 28 } : Room) s m args below meth c YX w 9 Q u 33 [(0, va_re w.1 a0), (1, va_re w.1 a1), (2, va_re w.1 a2), (3, va_re w.1 a3), (4, .int a4), (5, .int a5)] [] := by
  intro n
  induction n with
  | zero => intro u a3 a4 a5 h; rw [f_H_choiceOf_L33] at h; cases h
  | succ n ih =>
    intro u a3 a4 a5 h
    rw [f_H_choiceOf_L33] at h
    refine y_iload C (i := 5) 5 d_H_choiceOf_33 rfl ?_
    refine y_aload_n C (i := 0) 0 d_H_choiceOf_35 rfl rfl ?_
    refine y_gi C (q := (yR2, yT2, 9)) (ci := 2) (k := 2) rfl (by decide) rfl g_133 d_H_choiceOf_36 h (fun x7 h => ?_)
    refine y_ic_ge C 133 d_H_choiceOf_39 (by decide) h (fun k8 h => ?_) (fun k8 h => ?_)
    · exact y_sub [1, 3, 4] rfl (hk _ _ _ h)
    · refine y_aload_n C (i := 0) 0 d_H_choiceOf_42 rfl rfl ?_
      refine y_iload C (i := 5) 5 d_H_choiceOf_43 rfl ?_
      refine y_callV 1 C (q := (yR2, yT2, 9)) (ci := 2) (fun t out hh => c_H_glassAt l w F u t a5 out hh) gc_H_choiceOf_49 rfl (by decide) hd_H_glassAt ⟨Nat.le_of_ble_eq_true rfl, Nat.le_of_ble_eq_true rfl⟩ rfl rfl rfl rfl (by simp [y_cat, y_catI, y_catJ]) d_H_choiceOf_45 h (fun r9 u10 h => ?_)
      refine y_stk (stp0 := [va_re w.1 r9]) rfl ?_
      refine y_astore C (i := 6) (lvp := [(0, va_re w.1 a0), (1, va_re w.1 a1), (2, va_re w.1 a2), (3, va_re w.1 a3), (4, .int a4), (5, .int a5)]) d_H_choiceOf_48 (by decide) (by simp [List.filter, y_cat, y_catI, y_catJ]) ?_
      refine y_aload C (i := 6) 0 d_H_choiceOf_50 rfl ?_
      obtain ⟨q11, hq11, h⟩ := ob_e h
      have hJq11 : yG p l e ({ frames := 1, cells := 0, slots := 0, locals := 28 } : Room) s m args below meth c YX w 9 Q q11.2.2 127 [(0, va_re w.1 a0), (1, va_re w.1 a1), (2, va_re w.1 a2), (3, va_re w.1 q11.1), (4, .int q11.2.1), (5, .int a5)] [] := by
        refine y_iinc C (j := 5) (v := 1) (lvp := [(0, va_re w.1 a0), (1, va_re w.1 a1), (2, va_re w.1 a2), (3, va_re w.1 q11.1), (4, .int q11.2.1)]) d_H_choiceOf_127 rfl (by decide) (by decide) rfl h (fun x26 h => ?_)
        refine y_goto C (tgt := 33) d_H_choiceOf_130 (by decide) ?_
        exact y_sub [1, 2, 3, 4, 5, 0] rfl (ih _ _ _ _ h)
      refine y_ifnull C 127 d_H_choiceOf_52 (by decide) hq11 (fun k12 hq11 => ?_) (fun k12 hq11 => ?_)
      · cases hq11
        exact y_sub [1, 2, 3, 4, 5, 6] rfl hJq11
      · refine y_aload C (i := 6) 0 d_H_choiceOf_55 rfl ?_
        refine y_gi C (q := (yR0, yT0, 8)) (ci := 0) (k := 4) rfl (by decide) rfl g_53 d_H_choiceOf_57 hq11 (fun x13 hq11 => ?_)
        refine y_aload_n C (i := 1) 2 d_H_choiceOf_60 rfl rfl ?_
        refine y_gi C (q := (yR1, yT1, 10)) (ci := 1) (k := 5) rfl (by decide) rfl g_96 d_H_choiceOf_61 hq11 (fun x14 hq11 => ?_)
        refine y_ic_eq C 70 d_H_choiceOf_64 (by decide) hq11 (fun k15 hq11 => ?_) (fun k15 hq11 => ?_)
        · refine y_aload_n C (i := 2) 3 d_H_choiceOf_70 rfl rfl ?_
          refine y_aload C (i := 6) 0 d_H_choiceOf_71 rfl ?_
          refine y_callV 1 C (q := (yR0, yT0, 8)) (ci := 0) (fun t out hh => c_G_likeTo l w F u10 t r9 out hh) gc_H_choiceOf_135 rfl (by decide) hd_G_likeTo ⟨Nat.le_of_ble_eq_true rfl, Nat.le_of_ble_eq_true rfl⟩ rfl rfl rfl rfl (by simp [y_cat, y_catI, y_catJ]) d_H_choiceOf_73 hq11 (fun x16 u17 hq11 => ?_)
          refine y_stk (stp0 := [.int x16]) rfl ?_
          refine y_istore C (i := 7) (lvp := [(6, va_re w.1 r9), (0, va_re w.1 a0), (1, va_re w.1 a1), (2, va_re w.1 a2), (3, va_re w.1 a3), (4, .int a4), (5, .int a5)]) d_H_choiceOf_76 (by decide) (by simp [List.filter, y_cat, y_catI, y_catJ]) ?_
          refine y_aload_n C (i := 3) 5 d_H_choiceOf_78 rfl rfl ?_
          obtain ⟨q18, hq18, hq11⟩ := ob_e hq11
          have hJq18 : yG p l e ({ frames := 1, cells := 0, slots := 0, locals := 28 } : Room) s m args below meth c YX w 9 Q u17 106 [(0, va_re w.1 a0), (1, va_re w.1 a1), (2, va_re w.1 a2), (3, va_re w.1 a3), (4, .int a4), (5, .int a5), (6, va_re w.1 r9), (7, .int x16)] [.int q18] := by
            refine y_istore C (i := 8) (lvp := [(0, va_re w.1 a0), (1, va_re w.1 a1), (2, va_re w.1 a2), (3, va_re w.1 a3), (4, .int a4), (5, .int a5), (6, va_re w.1 r9), (7, .int x16)]) d_H_choiceOf_106 (by decide) rfl ?_
            refine y_iload C (i := 7) 8 d_H_choiceOf_108 rfl ?_
            refine y_iload C (i := 4) 5 d_H_choiceOf_110 rfl ?_
            refine y_ic_gt C 120 d_H_choiceOf_112 (by decide) hq11 (fun k24 hq11 => ?_) (fun k24 hq11 => ?_)
            · refine y_aload C (i := 6) 7 d_H_choiceOf_120 rfl ?_
              refine y_astore_n C (i := 3) (lvp := [(8, .int q18), (0, va_re w.1 a0), (1, va_re w.1 a1), (2, va_re w.1 a2), (4, .int a4), (5, .int a5), (6, va_re w.1 r9), (7, .int x16)]) d_H_choiceOf_122 rfl (by decide) (by simp [List.filter, y_cat, y_catI, y_catJ]) ?_
              refine y_iload C (i := 7) 8 d_H_choiceOf_123 rfl ?_
              refine y_istore C (i := 4) (lvp := [(3, va_re w.1 r9), (8, .int q18), (0, va_re w.1 a0), (1, va_re w.1 a1), (2, va_re w.1 a2), (5, .int a5), (6, va_re w.1 r9), (7, .int x16)]) d_H_choiceOf_125 (by decide) (by simp [List.filter, y_cat, y_catI, y_catJ]) ?_
              cases hq11
              exact y_sub [3, 4, 5, 1, 0, 6] rfl hJq11
            · refine y_iload C (i := 8) 0 d_H_choiceOf_115 rfl ?_
              refine y_if_eq C 127 d_H_choiceOf_117 (by decide) hq11 (fun k25 hq11 => ?_) (fun k25 hq11 => ?_)
              · cases hq11
                exact y_sub [1, 2, 3, 4, 5, 6] rfl hJq11
              · refine y_aload C (i := 6) 7 d_H_choiceOf_120 rfl ?_
                refine y_astore_n C (i := 3) (lvp := [(8, .int q18), (0, va_re w.1 a0), (1, va_re w.1 a1), (2, va_re w.1 a2), (4, .int a4), (5, .int a5), (6, va_re w.1 r9), (7, .int x16)]) d_H_choiceOf_122 rfl (by decide) (by simp [List.filter, y_cat, y_catI, y_catJ]) ?_
                refine y_iload C (i := 7) 8 d_H_choiceOf_123 rfl ?_
                refine y_istore C (i := 4) (lvp := [(3, va_re w.1 r9), (8, .int q18), (0, va_re w.1 a0), (1, va_re w.1 a1), (2, va_re w.1 a2), (5, .int a5), (6, va_re w.1 r9), (7, .int x16)]) d_H_choiceOf_125 (by decide) (by simp [List.filter, y_cat, y_catI, y_catJ]) ?_
                cases hq11
                exact y_sub [3, 4, 5, 1, 0, 6] rfl hJq11
          refine y_ifnull C 105 d_H_choiceOf_79 (by decide) hq18 (fun k19 hq18 => ?_) (fun k19 hq18 => ?_)
          · refine y_iconst C (v := 0) d_H_choiceOf_105 (by decide) ?_
            cases hq18
            exact y_sub [2, 3, 4, 5, 6, 7, 1, 0] rfl hJq18
          · refine y_iload C (i := 7) 0 d_H_choiceOf_82 rfl ?_
            refine y_iload C (i := 4) 6 d_H_choiceOf_84 rfl ?_
            refine y_ic_ne C 105 d_H_choiceOf_86 (by decide) hq18 (fun k20 hq18 => ?_) (fun k20 hq18 => ?_)
            · refine y_aload C (i := 6) 1 d_H_choiceOf_89 rfl ?_
              refine y_gi C (q := (yR0, yT0, 8)) (ci := 0) (k := 5) rfl (by decide) rfl g_56 d_H_choiceOf_91 hq18 (fun x21 hq18 => ?_)
              refine y_aload_n C (i := 3) 5 d_H_choiceOf_94 rfl rfl ?_
              refine y_gi C (q := (yR0, yT0, 8)) (ci := 0) (k := 5) rfl (by decide) rfl g_56 d_H_choiceOf_95 hq18 (fun x22 hq18 => ?_)
              refine y_ic_le C 105 d_H_choiceOf_98 (by decide) hq18 (fun k23 hq18 => ?_) (fun k23 hq18 => ?_)
              · refine y_iconst C (v := 0) d_H_choiceOf_105 (by decide) ?_
                cases hq18
                exact y_sub [2, 3, 4, 5, 6, 7, 1, 0] rfl hJq18
              · refine y_iconst C (v := 1) d_H_choiceOf_101 (by decide) ?_
                refine y_goto C (tgt := 106) d_H_choiceOf_102 (by decide) ?_
                cases hq18
                exact y_sub [2, 3, 4, 5, 6, 7, 1, 0] rfl hJq18
            · refine y_iconst C (v := 0) d_H_choiceOf_105 (by decide) ?_
              cases hq18
              exact y_sub [2, 3, 4, 5, 6, 7, 1, 0] rfl hJq18
        · refine y_goto C (tgt := 127) d_H_choiceOf_67 (by decide) ?_
          cases hq11
          exact y_sub [1, 2, 3, 4, 5, 6] rfl hJq11
set_option maxRecDepth 100000 in
def f_H_choiceOf (F : Nat) (u : Mm) (o : Nat) (a1 : Option Nat) : Option (Int32 × Mm) := ob (jgi YX 1 7 u a1) fun (x1 : Int32) => ob (jk YX 2 (some o)) fun t => yb (f_H_glassAt F u t x1) fun r2 u3 => (if r2 = none then some ((-4 : Int32), u3) else ob (jgi YX 0 4 u3 r2) fun (x5 : Int32) => (if x5 = (20 : Int32) then some ((-4 : Int32), u3) else f_H_choiceOf_L33 F (some o) a1 r2 (fun (u27 : Mm) (r28 : Option Nat) (x29 : Int32) => (if r28 = none then some ((-4 : Int32), u27) else ob (jgi YX 1 4 u27 a1) fun (x31 : Int32) => (if x31 ≤ x29 then ob (jgi YX 0 0 u27 r28) fun (x33 : Int32) => some (x33, u27) else some ((-4 : Int32), u27)))) F u3 none (0 : Int32) (0 : Int32)))
set_option maxHeartbeats 4000000 in
set_option maxRecDepth 100000 in
theorem c_H_choiceOf (l : Launch) (w : WP) (F : Nat) (u : Mm) (o : Nat) (a1 : Option Nat) (out : Int32 × Mm) (h : f_H_choiceOf F u o a1 = some out) : yMet l m_H_choiceOf ws_H_choiceOf ({ frames := 1, cells := 0, slots := 0, locals := 28 } : Room) YX w u [va_re w.1 (some o), va_re w.1 a1] yfi out := by
  refine y_entry (own := "WhoseGlass$House") (lv := [(0, va_re w.1 (some o)), (1, va_re w.1 a1)]) (by decide +kernel) rfl (by simp [lv_args, y_cat, y_catI, y_catJ]) (by simp [lg_sl, y_cat, y_catI, y_catJ]) ?_
  intro p e s m args below meth c C hr hlocks
  unfold f_H_choiceOf at h
  refine y_aload_n C (i := 0) 0 d_H_choiceOf_0 rfl rfl ?_
  refine y_aload_n C (i := 1) 1 d_H_choiceOf_1 rfl rfl ?_
  refine y_gi C (q := (yR1, yT1, 10)) (ci := 1) (k := 7) rfl (by decide) rfl g_102 d_H_choiceOf_2 h (fun x1 h => ?_)
  refine y_callV 1 C (q := (yR2, yT2, 9)) (ci := 2) (fun t out hh => c_H_glassAt l w F u t x1 out hh) gc_H_choiceOf_49 rfl (by decide) hd_H_glassAt ⟨Nat.le_of_ble_eq_true rfl, Nat.le_of_ble_eq_true rfl⟩ rfl rfl rfl rfl (by simp [y_cat, y_catI, y_catJ]) d_H_choiceOf_5 h (fun r2 u3 h => ?_)
  refine y_stk (stp0 := [va_re w.1 r2]) rfl ?_
  refine y_astore_n C (i := 2) (lvp := [(0, va_re w.1 (some o)), (1, va_re w.1 a1)]) d_H_choiceOf_8 rfl (by decide) (by simp [List.filter, y_cat, y_catI, y_catJ]) ?_
  refine y_aload_n C (i := 2) 0 d_H_choiceOf_9 rfl rfl ?_
  refine y_ifnull C 22 d_H_choiceOf_10 (by decide) h (fun k4 h => ?_) (fun k4 h => ?_)
  · refine y_bipush C (v := -4) d_H_choiceOf_22 (by decide) ?_
    exact y_iret C hr hlocks d_H_choiceOf_24 h
  · refine y_aload_n C (i := 2) 0 d_H_choiceOf_13 rfl rfl ?_
    refine y_gi C (q := (yR0, yT0, 8)) (ci := 0) (k := 4) rfl (by decide) rfl g_53 d_H_choiceOf_14 h (fun x5 h => ?_)
    refine y_bipush C (v := 20) d_H_choiceOf_17 (by decide) ?_
    refine y_ic_ne C 25 d_H_choiceOf_19 (by decide) h (fun k6 h => ?_) (fun k6 h => ?_)
    · refine y_bipush C (v := -4) d_H_choiceOf_22 (by decide) ?_
      exact y_iret C hr hlocks d_H_choiceOf_24 h
    · refine y_null C d_H_choiceOf_25 ?_
      refine y_astore_n C (i := 3) (lvp := [(2, va_re w.1 r2), (0, va_re w.1 (some o)), (1, va_re w.1 a1)]) d_H_choiceOf_26 rfl (by decide) (by simp [List.filter, y_cat, y_catI, y_catJ]) ?_
      refine y_iconst C (v := 0) d_H_choiceOf_27 (by decide) ?_
      refine y_istore C (i := 4) (lvp := [(3, va_re w.1 none), (2, va_re w.1 r2), (0, va_re w.1 (some o)), (1, va_re w.1 a1)]) d_H_choiceOf_28 (by decide) (by simp [List.filter, y_cat, y_catI, y_catJ]) ?_
      refine y_iconst C (v := 0) d_H_choiceOf_30 (by decide) ?_
      refine y_istore C (i := 5) (lvp := [(4, .int (0 : Int32)), (3, va_re w.1 none), (2, va_re w.1 r2), (0, va_re w.1 (some o)), (1, va_re w.1 a1)]) d_H_choiceOf_31 (by decide) rfl ?_
      refine y_sub [4, 5, 3, 2, 1, 0] rfl (w_H_choiceOf_L33 F C hr hlocks _ _ _ _ (fun u27 r28 x29 h => ?_) _ _ _ _ _ h)
      refine y_aload_n C (i := 3) 1 d_H_choiceOf_133 rfl rfl ?_
      refine y_ifnull C 146 d_H_choiceOf_134 (by decide) h (fun k30 h => ?_) (fun k30 h => ?_)
      · refine y_bipush C (v := -4) d_H_choiceOf_146 (by decide) ?_
        refine y_goto C (tgt := 155) d_H_choiceOf_148 (by decide) ?_
        exact y_iret C hr hlocks d_H_choiceOf_155 h
      · refine y_iload C (i := 4) 2 d_H_choiceOf_137 rfl ?_
        refine y_aload_n C (i := 1) 0 d_H_choiceOf_139 rfl rfl ?_
        refine y_gi C (q := (yR1, yT1, 10)) (ci := 1) (k := 4) rfl (by decide) rfl g_93 d_H_choiceOf_140 h (fun x31 h => ?_)
        refine y_ic_ge C 151 d_H_choiceOf_143 (by decide) h (fun k32 h => ?_) (fun k32 h => ?_)
        · refine y_aload_n C (i := 3) 1 d_H_choiceOf_151 rfl rfl ?_
          refine y_gi C (q := (yR0, yT0, 8)) (ci := 0) (k := 0) rfl (by decide) rfl g_42 d_H_choiceOf_152 h (fun x33 h => ?_)
          exact y_iret C hr hlocks d_H_choiceOf_155 h
        · refine y_bipush C (v := -4) d_H_choiceOf_146 (by decide) ?_
          refine y_goto C (tgt := 155) d_H_choiceOf_148 (by decide) ?_
          exact y_iret C hr hlocks d_H_choiceOf_155 h
/-! U_hold -/
theorem d_U_hold_0 : decode prog_3_method_5_code 0 = .ok (.aload_n 0, 1) := by decide +kernel
theorem d_U_hold_1 : decode prog_3_method_5_code 1 = .ok (.aload_n 1, 1) := by decide +kernel
theorem d_U_hold_2 : decode prog_3_method_5_code 2 = .ok (.getfield 43, 3) := by decide +kernel
theorem d_U_hold_5 : decode prog_3_method_5_code 5 = .ok (.putfield 30, 3) := by decide +kernel
theorem d_U_hold_8 : decode prog_3_method_5_code 8 = .ok (.aload_n 0, 1) := by decide +kernel
theorem d_U_hold_9 : decode prog_3_method_5_code 9 = .ok (.aload_n 1, 1) := by decide +kernel
theorem d_U_hold_10 : decode prog_3_method_5_code 10 = .ok (.getfield 43, 3) := by decide +kernel
theorem d_U_hold_13 : decode prog_3_method_5_code 13 = .ok (.putfield 33, 3) := by decide +kernel
theorem d_U_hold_16 : decode prog_3_method_5_code 16 = .ok (.aload_n 1, 1) := by decide +kernel
theorem d_U_hold_17 : decode prog_3_method_5_code 17 = .ok (.bipush 10, 2) := by decide +kernel
theorem d_U_hold_19 : decode prog_3_method_5_code 19 = .ok (.aload_n 0, 1) := by decide +kernel
theorem d_U_hold_20 : decode prog_3_method_5_code 20 = .ok (.getfield 9, 3) := by decide +kernel
theorem d_U_hold_23 : decode prog_3_method_5_code 23 = .ok (.iadd, 1) := by decide +kernel
theorem d_U_hold_24 : decode prog_3_method_5_code 24 = .ok (.putfield 46, 3) := by decide +kernel
theorem d_U_hold_27 : decode prog_3_method_5_code 27 = .ok (.return_, 1) := by decide +kernel
set_option maxRecDepth 100000 in
def f_U_hold (F : Nat) (u : Mm) (o : Nat) (a1 : Option Nat) : Option (Unit × Mm) := ob (jgi YX 0 0 u a1) fun (x1 : Int32) => ob (jpi YX 1 6 u (some o) x1) fun (u2 : Mm) => ob (jgi YX 0 0 u2 a1) fun (x3 : Int32) => ob (jpi YX 1 7 u2 (some o) x3) fun (u4 : Mm) => ob (jgi YX 1 0 u4 (some o)) fun (x5 : Int32) => ob (jpi YX 0 4 u4 a1 ((10 : Int32) + x5)) fun (u6 : Mm) => some ((), u6)
set_option maxHeartbeats 4000000 in
set_option maxRecDepth 100000 in
theorem c_U_hold (l : Launch) (w : WP) (F : Nat) (u : Mm) (o : Nat) (a1 : Option Nat) (out : Unit × Mm) (h : f_U_hold F u o a1 = some out) : yMet l m_U_hold ws_U_hold ({ frames := 0, cells := 0, slots := 0, locals := 0 } : Room) YX w u [va_re w.1 (some o), va_re w.1 a1] yfv out := by
  refine y_entry (own := "WhoseGlass$Guest") (lv := [(0, va_re w.1 (some o)), (1, va_re w.1 a1)]) (by decide +kernel) rfl (by simp [lv_args, y_cat, y_catI, y_catJ]) (by simp [lg_sl, y_cat, y_catI, y_catJ]) ?_
  intro p e s m args below meth c C hr hlocks
  unfold f_U_hold at h
  refine y_aload_n C (i := 0) 0 d_U_hold_0 rfl rfl ?_
  refine y_aload_n C (i := 1) 1 d_U_hold_1 rfl rfl ?_
  refine y_gi C (q := (yR0, yT0, 8)) (ci := 0) (k := 0) rfl (by decide) rfl g_40 d_U_hold_2 h (fun x1 h => ?_)
  refine y_pi C (q := (yR1, yT1, 10)) (ci := 1) (k := 6) rfl (by decide) rfl rfl (by decide +kernel) g_97 d_U_hold_5 h (fun u2 h => ?_)
  refine y_aload_n C (i := 0) 0 d_U_hold_8 rfl rfl ?_
  refine y_aload_n C (i := 1) 1 d_U_hold_9 rfl rfl ?_
  refine y_gi C (q := (yR0, yT0, 8)) (ci := 0) (k := 0) rfl (by decide) rfl g_40 d_U_hold_10 h (fun x3 h => ?_)
  refine y_pi C (q := (yR1, yT1, 10)) (ci := 1) (k := 7) rfl (by decide) rfl rfl (by decide +kernel) g_101 d_U_hold_13 h (fun u4 h => ?_)
  refine y_aload_n C (i := 1) 1 d_U_hold_16 rfl rfl ?_
  refine y_bipush C (v := 10) d_U_hold_17 (by decide) ?_
  refine y_aload_n C (i := 0) 0 d_U_hold_19 rfl rfl ?_
  refine y_gi C (q := (yR1, yT1, 10)) (ci := 1) (k := 0) rfl (by decide) rfl g_84 d_U_hold_20 h (fun x5 h => ?_)
  refine y_iadd C d_U_hold_23 ?_
  refine y_pi C (q := (yR0, yT0, 8)) (ci := 0) (k := 4) rfl (by decide) rfl rfl (by decide +kernel) g_51 d_U_hold_24 h (fun u6 h => ?_)
  exact y_vret C hr hlocks d_U_hold_27 h
/-! G_begin -/
theorem d_G_begin_0 : decode prog_2_method_2_code 0 = .ok (.aload_n 0, 1) := by decide +kernel
theorem d_G_begin_1 : decode prog_2_method_2_code 1 = .ok (.iload_n 1, 1) := by decide +kernel
theorem d_G_begin_2 : decode prog_2_method_2_code 2 = .ok (.putfield 15, 3) := by decide +kernel
theorem d_G_begin_5 : decode prog_2_method_2_code 5 = .ok (.aload_n 0, 1) := by decide +kernel
theorem d_G_begin_6 : decode prog_2_method_2_code 6 = .ok (.iload_n 2, 1) := by decide +kernel
theorem d_G_begin_7 : decode prog_2_method_2_code 7 = .ok (.putfield 18, 3) := by decide +kernel
theorem d_G_begin_10 : decode prog_2_method_2_code 10 = .ok (.aload_n 0, 1) := by decide +kernel
theorem d_G_begin_11 : decode prog_2_method_2_code 11 = .ok (.iload_n 3, 1) := by decide +kernel
theorem d_G_begin_12 : decode prog_2_method_2_code 12 = .ok (.putfield 21, 3) := by decide +kernel
theorem d_G_begin_15 : decode prog_2_method_2_code 15 = .ok (.aload_n 0, 1) := by decide +kernel
theorem d_G_begin_16 : decode prog_2_method_2_code 16 = .ok (.iconst 0, 1) := by decide +kernel
theorem d_G_begin_17 : decode prog_2_method_2_code 17 = .ok (.putfield 24, 3) := by decide +kernel
theorem d_G_begin_20 : decode prog_2_method_2_code 20 = .ok (.aload_n 0, 1) := by decide +kernel
theorem d_G_begin_21 : decode prog_2_method_2_code 21 = .ok (.iconst 0, 1) := by decide +kernel
theorem d_G_begin_22 : decode prog_2_method_2_code 22 = .ok (.putfield 27, 3) := by decide +kernel
theorem d_G_begin_25 : decode prog_2_method_2_code 25 = .ok (.return_, 1) := by decide +kernel
set_option maxRecDepth 100000 in
def f_G_begin (F : Nat) (u : Mm) (o : Nat) (a1 : Int32) (a2 : Int32) (a3 : Int32) : Option (Unit × Mm) := ob (jpi YX 0 1 u (some o) a1) fun (u1 : Mm) => ob (jpi YX 0 2 u1 (some o) a2) fun (u2 : Mm) => ob (jpi YX 0 3 u2 (some o) a3) fun (u3 : Mm) => ob (jpi YX 0 6 u3 (some o) (0 : Int32)) fun (u4 : Mm) => ob (jpz YX 0 7 u4 (some o) (0 : Int32)) fun (u5 : Mm) => some ((), u5)
set_option maxHeartbeats 4000000 in
set_option maxRecDepth 100000 in
theorem c_G_begin (l : Launch) (w : WP) (F : Nat) (u : Mm) (o : Nat) (a1 : Int32) (a2 : Int32) (a3 : Int32) (out : Unit × Mm) (h : f_G_begin F u o a1 a2 a3 = some out) : yMet l m_G_begin ws_G_begin ({ frames := 0, cells := 0, slots := 0, locals := 0 } : Room) YX w u [va_re w.1 (some o), .int a1, .int a2, .int a3] yfv out := by
  refine y_entry (own := "WhoseGlass$Glass") (lv := [(0, va_re w.1 (some o)), (1, .int a1), (2, .int a2), (3, .int a3)]) (by decide +kernel) rfl (by simp [lv_args, y_cat, y_catI, y_catJ]) (by simp [lg_sl, y_cat, y_catI, y_catJ]) ?_
  intro p e s m args below meth c C hr hlocks
  unfold f_G_begin at h
  refine y_aload_n C (i := 0) 0 d_G_begin_0 rfl rfl ?_
  refine y_iload_n C (i := 1) 1 d_G_begin_1 rfl rfl ?_
  refine y_pi C (q := (yR0, yT0, 8)) (ci := 0) (k := 1) rfl (by decide) rfl rfl (by decide +kernel) g_43 d_G_begin_2 h (fun u1 h => ?_)
  refine y_aload_n C (i := 0) 0 d_G_begin_5 rfl rfl ?_
  refine y_iload_n C (i := 2) 2 d_G_begin_6 rfl rfl ?_
  refine y_pi C (q := (yR0, yT0, 8)) (ci := 0) (k := 2) rfl (by decide) rfl rfl (by decide +kernel) g_45 d_G_begin_7 h (fun u2 h => ?_)
  refine y_aload_n C (i := 0) 0 d_G_begin_10 rfl rfl ?_
  refine y_iload_n C (i := 3) 3 d_G_begin_11 rfl rfl ?_
  refine y_pi C (q := (yR0, yT0, 8)) (ci := 0) (k := 3) rfl (by decide) rfl rfl (by decide +kernel) g_46 d_G_begin_12 h (fun u3 h => ?_)
  refine y_aload_n C (i := 0) 0 d_G_begin_15 rfl rfl ?_
  refine y_iconst C (v := 0) d_G_begin_16 (by decide) ?_
  refine y_pi C (q := (yR0, yT0, 8)) (ci := 0) (k := 6) rfl (by decide) rfl rfl (by decide +kernel) g_57 d_G_begin_17 h (fun u4 h => ?_)
  refine y_aload_n C (i := 0) 0 d_G_begin_20 rfl rfl ?_
  refine y_iconst C (v := 0) d_G_begin_21 (by decide) ?_
  refine y_pz C (q := (yR0, yT0, 8)) (ci := 0) (k := 7) rfl (by decide) rfl rfl (by decide +kernel) g_59 d_G_begin_22 h (fun u5 h => ?_)
  exact y_vret C hr hlocks d_G_begin_25 h
/-! H_addGlass -/
theorem d_H_addGlass_0 : decode prog_4_method_5_code 0 = .ok (.aload_n 0, 1) := by decide +kernel
theorem d_H_addGlass_1 : decode prog_4_method_5_code 1 = .ok (.getfield 34, 3) := by decide +kernel
theorem d_H_addGlass_4 : decode prog_4_method_5_code 4 = .ok (.bipush 12, 2) := by decide +kernel
theorem d_H_addGlass_6 : decode prog_4_method_5_code 6 = .ok (.if_icmp .lt 5, 3) := by decide +kernel
theorem d_H_addGlass_9 : decode prog_4_method_5_code 9 = .ok (.aconst_null, 1) := by decide +kernel
theorem d_H_addGlass_10 : decode prog_4_method_5_code 10 = .ok (.areturn, 1) := by decide +kernel
theorem d_H_addGlass_11 : decode prog_4_method_5_code 11 = .ok (.aload_n 0, 1) := by decide +kernel
theorem d_H_addGlass_12 : decode prog_4_method_5_code 12 = .ok (.dup, 1) := by decide +kernel
theorem d_H_addGlass_13 : decode prog_4_method_5_code 13 = .ok (.getfield 34, 3) := by decide +kernel
theorem d_H_addGlass_16 : decode prog_4_method_5_code 16 = .ok (.iconst 1, 1) := by decide +kernel
theorem d_H_addGlass_17 : decode prog_4_method_5_code 17 = .ok (.iadd, 1) := by decide +kernel
theorem d_H_addGlass_18 : decode prog_4_method_5_code 18 = .ok (.putfield 34, 3) := by decide +kernel
theorem d_H_addGlass_21 : decode prog_4_method_5_code 21 = .ok (.aload_n 0, 1) := by decide +kernel
theorem d_H_addGlass_22 : decode prog_4_method_5_code 22 = .ok (.aload_n 0, 1) := by decide +kernel
theorem d_H_addGlass_23 : decode prog_4_method_5_code 23 = .ok (.getfield 34, 3) := by decide +kernel
theorem d_H_addGlass_26 : decode prog_4_method_5_code 26 = .ok (.iconst 1, 1) := by decide +kernel
theorem d_H_addGlass_27 : decode prog_4_method_5_code 27 = .ok (.isub, 1) := by decide +kernel
theorem d_H_addGlass_28 : decode prog_4_method_5_code 28 = .ok (.invokevirtual 49, 3) := by decide +kernel
theorem d_H_addGlass_31 : decode prog_4_method_5_code 31 = .ok (.astore 4, 2) := by decide +kernel
theorem d_H_addGlass_33 : decode prog_4_method_5_code 33 = .ok (.aload 4, 2) := by decide +kernel
theorem d_H_addGlass_35 : decode prog_4_method_5_code 35 = .ok (.ifnull 11, 3) := by decide +kernel
theorem d_H_addGlass_38 : decode prog_4_method_5_code 38 = .ok (.aload 4, 2) := by decide +kernel
theorem d_H_addGlass_40 : decode prog_4_method_5_code 40 = .ok (.iload_n 1, 1) := by decide +kernel
theorem d_H_addGlass_41 : decode prog_4_method_5_code 41 = .ok (.iload_n 2, 1) := by decide +kernel
theorem d_H_addGlass_42 : decode prog_4_method_5_code 42 = .ok (.iload_n 3, 1) := by decide +kernel
theorem d_H_addGlass_43 : decode prog_4_method_5_code 43 = .ok (.invokevirtual 64, 3) := by decide +kernel
theorem d_H_addGlass_46 : decode prog_4_method_5_code 46 = .ok (.aload 4, 2) := by decide +kernel
theorem d_H_addGlass_48 : decode prog_4_method_5_code 48 = .ok (.areturn, 1) := by decide +kernel
theorem gc_H_addGlass_49 : GoodIn yGW (wsV "WhoseGlass$House" 49 yR2 m_H_glassAt ws_H_glassAt) := y_gV g_259 g_260 g_261 g_2 g_262
theorem gc_H_addGlass_64 : GoodIn yGW (wsV "WhoseGlass$House" 64 yR0 m_G_begin ws_G_begin) := y_gV g_313 g_314 g_315 g_3 g_316
set_option maxRecDepth 100000 in
def f_H_addGlass (F : Nat) (u : Mm) (o : Nat) (a1 : Int32) (a2 : Int32) (a3 : Int32) : Option (Option Nat × Mm) := ob (jgi YX 2 2 u (some o)) fun (x1 : Int32) => (if x1 < (12 : Int32) then ob (jgi YX 2 2 u (some o)) fun (x3 : Int32) => ob (jpi YX 2 2 u (some o) (x3 + (1 : Int32))) fun (u4 : Mm) => ob (jgi YX 2 2 u4 (some o)) fun (x5 : Int32) => ob (jk YX 2 (some o)) fun t => yb (f_H_glassAt F u4 t (x5 - (1 : Int32))) fun r6 u7 => ob ((if r6 = none then some u7 else ob (jk YX 0 r6) fun t => yb (f_G_begin F u7 t a1 a2 a3) fun v10 u11 => some u11) : Option (Mm)) fun q8 => some (r6, q8) else some (none, u))
set_option maxHeartbeats 4000000 in
set_option maxRecDepth 100000 in
theorem c_H_addGlass (l : Launch) (w : WP) (F : Nat) (u : Mm) (o : Nat) (a1 : Int32) (a2 : Int32) (a3 : Int32) (out : Option Nat × Mm) (h : f_H_addGlass F u o a1 a2 a3 = some out) : yMet l m_H_addGlass ws_H_addGlass ({ frames := 1, cells := 0, slots := 0, locals := 23 } : Room) YX w u [va_re w.1 (some o), .int a1, .int a2, .int a3] (yfr w) out := by
  refine y_entry (own := "WhoseGlass$House") (lv := [(0, va_re w.1 (some o)), (1, .int a1), (2, .int a2), (3, .int a3)]) (by decide +kernel) rfl (by simp [lv_args, y_cat, y_catI, y_catJ]) (by simp [lg_sl, y_cat, y_catI, y_catJ]) ?_
  intro p e s m args below meth c C hr hlocks
  unfold f_H_addGlass at h
  refine y_aload_n C (i := 0) 0 d_H_addGlass_0 rfl rfl ?_
  refine y_gi C (q := (yR2, yT2, 9)) (ci := 2) (k := 2) rfl (by decide) rfl g_133 d_H_addGlass_1 h (fun x1 h => ?_)
  refine y_bipush C (v := 12) d_H_addGlass_4 (by decide) ?_
  refine y_ic_lt C 11 d_H_addGlass_6 (by decide) h (fun k2 h => ?_) (fun k2 h => ?_)
  · refine y_aload_n C (i := 0) 0 d_H_addGlass_11 rfl rfl ?_
    refine y_dup C d_H_addGlass_12 (y_cat _ _) ?_
    refine y_gi C (q := (yR2, yT2, 9)) (ci := 2) (k := 2) rfl (by decide) rfl g_133 d_H_addGlass_13 h (fun x3 h => ?_)
    refine y_iconst C (v := 1) d_H_addGlass_16 (by decide) ?_
    refine y_iadd C d_H_addGlass_17 ?_
    refine y_pi C (q := (yR2, yT2, 9)) (ci := 2) (k := 2) rfl (by decide) rfl rfl (by decide +kernel) g_133 d_H_addGlass_18 h (fun u4 h => ?_)
    refine y_aload_n C (i := 0) 0 d_H_addGlass_21 rfl rfl ?_
    refine y_aload_n C (i := 0) 0 d_H_addGlass_22 rfl rfl ?_
    refine y_gi C (q := (yR2, yT2, 9)) (ci := 2) (k := 2) rfl (by decide) rfl g_133 d_H_addGlass_23 h (fun x5 h => ?_)
    refine y_iconst C (v := 1) d_H_addGlass_26 (by decide) ?_
    refine y_isub C d_H_addGlass_27 ?_
    refine y_callV 1 C (q := (yR2, yT2, 9)) (ci := 2) (fun t out hh => c_H_glassAt l w F u4 t (x5 - (1 : Int32)) out hh) gc_H_addGlass_49 rfl (by decide) hd_H_glassAt ⟨Nat.le_of_ble_eq_true rfl, Nat.le_of_ble_eq_true rfl⟩ rfl rfl rfl rfl (by simp [y_cat, y_catI, y_catJ]) d_H_addGlass_28 h (fun r6 u7 h => ?_)
    refine y_stk (stp0 := [va_re w.1 r6]) rfl ?_
    refine y_astore C (i := 4) (lvp := [(0, va_re w.1 (some o)), (1, .int a1), (2, .int a2), (3, .int a3)]) d_H_addGlass_31 (by decide) (by simp [List.filter, y_cat, y_catI, y_catJ]) ?_
    refine y_aload C (i := 4) 0 d_H_addGlass_33 rfl ?_
    obtain ⟨q8, hq8, h⟩ := ob_e h
    have hJq8 : yG p l e ({ frames := 1, cells := 0, slots := 0, locals := 23 } : Room) s m args below meth c YX w 5 (MQ below (yQ YX w (yfr w) out) args s 0 0 (yA YX w)) q8 46 [(4, va_re w.1 r6)] [] := by
      refine y_aload C (i := 4) 0 d_H_addGlass_46 rfl ?_
      exact y_aret C hr hlocks d_H_addGlass_48 h
    refine y_ifnull C 46 d_H_addGlass_35 (by decide) hq8 (fun k9 hq8 => ?_) (fun k9 hq8 => ?_)
    · cases hq8
      exact y_sub [0] rfl hJq8
    · refine y_aload C (i := 4) 0 d_H_addGlass_38 rfl ?_
      refine y_iload_n C (i := 1) 2 d_H_addGlass_40 rfl rfl ?_
      refine y_iload_n C (i := 2) 3 d_H_addGlass_41 rfl rfl ?_
      refine y_iload_n C (i := 3) 4 d_H_addGlass_42 rfl rfl ?_
      refine y_callV 3 C (q := (yR0, yT0, 8)) (ci := 0) (fun t out hh => c_G_begin l w F u7 t a1 a2 a3 out hh) gc_H_addGlass_64 rfl (by decide) hd_G_begin ⟨Nat.le_of_ble_eq_true rfl, Nat.le_of_ble_eq_true rfl⟩ rfl rfl rfl rfl (by simp [y_cat, y_catI, y_catJ]) d_H_addGlass_43 hq8 (fun v10 u11 hq8 => ?_)
      refine y_stk (stp0 := []) rfl ?_
      cases hq8
      exact y_sub [0] rfl hJq8
  · refine y_null C d_H_addGlass_9 ?_
    exact y_aret C hr hlocks d_H_addGlass_10 h
/-! H_takeUp -/
theorem d_H_takeUp_0 : decode prog_4_method_11_code 0 = .ok (.aload_n 0, 1) := by decide +kernel
theorem d_H_takeUp_1 : decode prog_4_method_11_code 1 = .ok (.aload_n 0, 1) := by decide +kernel
theorem d_H_takeUp_2 : decode prog_4_method_11_code 2 = .ok (.aload_n 1, 1) := by decide +kernel
theorem d_H_takeUp_3 : decode prog_4_method_11_code 3 = .ok (.invokevirtual 116, 3) := by decide +kernel
theorem d_H_takeUp_6 : decode prog_4_method_11_code 6 = .ok (.invokevirtual 49, 3) := by decide +kernel
theorem d_H_takeUp_9 : decode prog_4_method_11_code 9 = .ok (.astore_n 2, 1) := by decide +kernel
theorem d_H_takeUp_10 : decode prog_4_method_11_code 10 = .ok (.aload_n 2, 1) := by decide +kernel
theorem d_H_takeUp_11 : decode prog_4_method_11_code 11 = .ok (.ifnull 34, 3) := by decide +kernel
theorem d_H_takeUp_14 : decode prog_4_method_11_code 14 = .ok (.aload_n 2, 1) := by decide +kernel
theorem d_H_takeUp_15 : decode prog_4_method_11_code 15 = .ok (.getfield 119, 3) := by decide +kernel
theorem d_H_takeUp_18 : decode prog_4_method_11_code 18 = .ok (.aload_n 1, 1) := by decide +kernel
theorem d_H_takeUp_19 : decode prog_4_method_11_code 19 = .ok (.getfield 122, 3) := by decide +kernel
theorem d_H_takeUp_22 : decode prog_4_method_11_code 22 = .ok (.if_icmp .eq 13, 3) := by decide +kernel
theorem d_H_takeUp_25 : decode prog_4_method_11_code 25 = .ok (.aload_n 0, 1) := by decide +kernel
theorem d_H_takeUp_26 : decode prog_4_method_11_code 26 = .ok (.dup, 1) := by decide +kernel
theorem d_H_takeUp_27 : decode prog_4_method_11_code 27 = .ok (.getfield 43, 3) := by decide +kernel
theorem d_H_takeUp_30 : decode prog_4_method_11_code 30 = .ok (.iconst 1, 1) := by decide +kernel
theorem d_H_takeUp_31 : decode prog_4_method_11_code 31 = .ok (.iadd, 1) := by decide +kernel
theorem d_H_takeUp_32 : decode prog_4_method_11_code 32 = .ok (.putfield 43, 3) := by decide +kernel
theorem d_H_takeUp_35 : decode prog_4_method_11_code 35 = .ok (.aload_n 1, 1) := by decide +kernel
theorem d_H_takeUp_36 : decode prog_4_method_11_code 36 = .ok (.aload_n 2, 1) := by decide +kernel
theorem d_H_takeUp_37 : decode prog_4_method_11_code 37 = .ok (.invokevirtual 125, 3) := by decide +kernel
theorem d_H_takeUp_40 : decode prog_4_method_11_code 40 = .ok (.aload_n 2, 1) := by decide +kernel
theorem d_H_takeUp_41 : decode prog_4_method_11_code 41 = .ok (.getfield 119, 3) := by decide +kernel
theorem d_H_takeUp_44 : decode prog_4_method_11_code 44 = .ok (.ireturn, 1) := by decide +kernel
theorem d_H_takeUp_45 : decode prog_4_method_11_code 45 = .ok (.aload_n 0, 1) := by decide +kernel
theorem d_H_takeUp_46 : decode prog_4_method_11_code 46 = .ok (.getfield 23, 3) := by decide +kernel
theorem d_H_takeUp_49 : decode prog_4_method_11_code 49 = .ok (.ifCond .le 22, 3) := by decide +kernel
theorem d_H_takeUp_52 : decode prog_4_method_11_code 52 = .ok (.aload_n 0, 1) := by decide +kernel
theorem d_H_takeUp_53 : decode prog_4_method_11_code 53 = .ok (.iconst 0, 1) := by decide +kernel
theorem d_H_takeUp_54 : decode prog_4_method_11_code 54 = .ok (.aload_n 0, 1) := by decide +kernel
theorem d_H_takeUp_55 : decode prog_4_method_11_code 55 = .ok (.getfield 23, 3) := by decide +kernel
theorem d_H_takeUp_58 : decode prog_4_method_11_code 58 = .ok (.iconst 1, 1) := by decide +kernel
theorem d_H_takeUp_59 : decode prog_4_method_11_code 59 = .ok (.isub, 1) := by decide +kernel
theorem d_H_takeUp_60 : decode prog_4_method_11_code 60 = .ok (.bipush 10, 2) := by decide +kernel
theorem d_H_takeUp_62 : decode prog_4_method_11_code 62 = .ok (.irem, 1) := by decide +kernel
theorem d_H_takeUp_63 : decode prog_4_method_11_code 63 = .ok (.bipush 9, 2) := by decide +kernel
theorem d_H_takeUp_65 : decode prog_4_method_11_code 65 = .ok (.invokevirtual 128, 3) := by decide +kernel
theorem d_H_takeUp_68 : decode prog_4_method_11_code 68 = .ok (.goto 4, 3) := by decide +kernel
theorem d_H_takeUp_71 : decode prog_4_method_11_code 71 = .ok (.aconst_null, 1) := by decide +kernel
theorem d_H_takeUp_72 : decode prog_4_method_11_code 72 = .ok (.astore_n 3, 1) := by decide +kernel
theorem d_H_takeUp_73 : decode prog_4_method_11_code 73 = .ok (.aload_n 3, 1) := by decide +kernel
theorem d_H_takeUp_74 : decode prog_4_method_11_code 74 = .ok (.ifnonnull 6, 3) := by decide +kernel
theorem d_H_takeUp_77 : decode prog_4_method_11_code 77 = .ok (.bipush (-4), 2) := by decide +kernel
theorem d_H_takeUp_79 : decode prog_4_method_11_code 79 = .ok (.ireturn, 1) := by decide +kernel
theorem d_H_takeUp_80 : decode prog_4_method_11_code 80 = .ok (.aload_n 0, 1) := by decide +kernel
theorem d_H_takeUp_81 : decode prog_4_method_11_code 81 = .ok (.dup, 1) := by decide +kernel
theorem d_H_takeUp_82 : decode prog_4_method_11_code 82 = .ok (.getfield 23, 3) := by decide +kernel
theorem d_H_takeUp_85 : decode prog_4_method_11_code 85 = .ok (.iconst 1, 1) := by decide +kernel
theorem d_H_takeUp_86 : decode prog_4_method_11_code 86 = .ok (.isub, 1) := by decide +kernel
theorem d_H_takeUp_87 : decode prog_4_method_11_code 87 = .ok (.putfield 23, 3) := by decide +kernel
theorem d_H_takeUp_90 : decode prog_4_method_11_code 90 = .ok (.aload_n 0, 1) := by decide +kernel
theorem d_H_takeUp_91 : decode prog_4_method_11_code 91 = .ok (.dup, 1) := by decide +kernel
theorem d_H_takeUp_92 : decode prog_4_method_11_code 92 = .ok (.getfield 46, 3) := by decide +kernel
theorem d_H_takeUp_95 : decode prog_4_method_11_code 95 = .ok (.iconst 1, 1) := by decide +kernel
theorem d_H_takeUp_96 : decode prog_4_method_11_code 96 = .ok (.iadd, 1) := by decide +kernel
theorem d_H_takeUp_97 : decode prog_4_method_11_code 97 = .ok (.putfield 46, 3) := by decide +kernel
theorem d_H_takeUp_100 : decode prog_4_method_11_code 100 = .ok (.aload_n 1, 1) := by decide +kernel
theorem d_H_takeUp_101 : decode prog_4_method_11_code 101 = .ok (.aload_n 3, 1) := by decide +kernel
theorem d_H_takeUp_102 : decode prog_4_method_11_code 102 = .ok (.invokevirtual 125, 3) := by decide +kernel
theorem d_H_takeUp_105 : decode prog_4_method_11_code 105 = .ok (.aload_n 3, 1) := by decide +kernel
theorem d_H_takeUp_106 : decode prog_4_method_11_code 106 = .ok (.getfield 119, 3) := by decide +kernel
theorem d_H_takeUp_109 : decode prog_4_method_11_code 109 = .ok (.ireturn, 1) := by decide +kernel
theorem gc_H_takeUp_116 : GoodIn yGW (wsV "WhoseGlass$House" 116 yR2 m_H_choiceOf ws_H_choiceOf) := y_gV g_297 g_298 g_299 g_2 g_300
theorem gc_H_takeUp_49 : GoodIn yGW (wsV "WhoseGlass$House" 49 yR2 m_H_glassAt ws_H_glassAt) := y_gV g_259 g_260 g_261 g_2 g_262
theorem gc_H_takeUp_128 : GoodIn yGW (wsV "WhoseGlass$House" 128 yR2 m_H_addGlass ws_H_addGlass) := y_gV g_309 g_310 g_311 g_2 g_312
theorem gc_H_takeUp_125 : GoodIn yGW (wsV "WhoseGlass$House" 125 yR1 m_U_hold ws_U_hold) := y_gV g_305 g_306 g_307 g_4 g_308
set_option maxRecDepth 100000 in
def f_H_takeUp (F : Nat) (u : Mm) (o : Nat) (a1 : Option Nat) : Option (Int32 × Mm) := ob (jk YX 2 (some o)) fun t => yb (f_H_choiceOf F u t a1) fun x1 u2 => ob (jk YX 2 (some o)) fun t => yb (f_H_glassAt F u2 t x1) fun r3 u4 => (if r3 = none then ob (jgi YX 2 4 u4 (some o)) fun (x6 : Int32) => ob ((if x6 ≤ 0 then some (none, u4) else ob (jgi YX 2 4 u4 (some o)) fun (x9 : Int32) => ob (jrm (x9 - (1 : Int32)) (10 : Int32)) fun (x10 : Int32) => ob (jk YX 2 (some o)) fun t => yb (f_H_addGlass F u4 t (0 : Int32) x10 (9 : Int32)) fun r11 u12 => some (r11, u12)) : Option ((Option Nat) × Mm)) fun q7 => (if q7.1 = none then some ((-4 : Int32), q7.2) else ob (jgi YX 2 4 q7.2 (some o)) fun (x14 : Int32) => ob (jpi YX 2 4 q7.2 (some o) (x14 - (1 : Int32))) fun (u15 : Mm) => ob (jgi YX 2 7 u15 (some o)) fun (x16 : Int32) => ob (jpi YX 2 7 u15 (some o) (x16 + (1 : Int32))) fun (u17 : Mm) => ob (jk YX 1 a1) fun t => yb (f_U_hold F u17 t q7.1) fun v18 u19 => ob (jgi YX 0 0 u19 q7.1) fun (x20 : Int32) => some (x20, u19)) else ob (jgi YX 0 0 u4 r3) fun (x21 : Int32) => ob (jgi YX 1 7 u4 a1) fun (x22 : Int32) => ob ((if x21 = x22 then some u4 else ob (jgi YX 2 6 u4 (some o)) fun (x25 : Int32) => ob (jpi YX 2 6 u4 (some o) (x25 + (1 : Int32))) fun (u26 : Mm) => some u26) : Option (Mm)) fun q23 => ob (jk YX 1 a1) fun t => yb (f_U_hold F q23 t r3) fun v27 u28 => ob (jgi YX 0 0 u28 r3) fun (x29 : Int32) => some (x29, u28))
set_option maxHeartbeats 4000000 in
set_option maxRecDepth 100000 in
theorem c_H_takeUp (l : Launch) (w : WP) (F : Nat) (u : Mm) (o : Nat) (a1 : Option Nat) (out : Int32 × Mm) (h : f_H_takeUp F u o a1 = some out) : yMet l m_H_takeUp ws_H_takeUp ({ frames := 2, cells := 0, slots := 0, locals := 56 } : Room) YX w u [va_re w.1 (some o), va_re w.1 a1] yfi out := by
  refine y_entry (own := "WhoseGlass$House") (lv := [(0, va_re w.1 (some o)), (1, va_re w.1 a1)]) (by decide +kernel) rfl (by simp [lv_args, y_cat, y_catI, y_catJ]) (by simp [lg_sl, y_cat, y_catI, y_catJ]) ?_
  intro p e s m args below meth c C hr hlocks
  unfold f_H_takeUp at h
  refine y_aload_n C (i := 0) 0 d_H_takeUp_0 rfl rfl ?_
  refine y_aload_n C (i := 0) 0 d_H_takeUp_1 rfl rfl ?_
  refine y_aload_n C (i := 1) 1 d_H_takeUp_2 rfl rfl ?_
  refine y_callV 1 C (q := (yR2, yT2, 9)) (ci := 2) (fun t out hh => c_H_choiceOf l w F u t a1 out hh) gc_H_takeUp_116 rfl (by decide) hd_H_choiceOf ⟨Nat.le_of_ble_eq_true rfl, Nat.le_of_ble_eq_true rfl⟩ rfl rfl rfl rfl (by simp [y_cat, y_catI, y_catJ]) d_H_takeUp_3 h (fun x1 u2 h => ?_)
  refine y_stk (stp0 := [.int x1, va_re w.1 (some o)]) rfl ?_
  refine y_callV 1 C (q := (yR2, yT2, 9)) (ci := 2) (fun t out hh => c_H_glassAt l w F u2 t x1 out hh) gc_H_takeUp_49 rfl (by decide) hd_H_glassAt ⟨Nat.le_of_ble_eq_true rfl, Nat.le_of_ble_eq_true rfl⟩ rfl rfl rfl rfl (by simp [y_cat, y_catI, y_catJ]) d_H_takeUp_6 h (fun r3 u4 h => ?_)
  refine y_stk (stp0 := [va_re w.1 r3]) rfl ?_
  refine y_astore_n C (i := 2) (lvp := [(0, va_re w.1 (some o)), (1, va_re w.1 a1)]) d_H_takeUp_9 rfl (by decide) (by simp [List.filter, y_cat, y_catI, y_catJ]) ?_
  refine y_aload_n C (i := 2) 0 d_H_takeUp_10 rfl rfl ?_
  refine y_ifnull C 45 d_H_takeUp_11 (by decide) h (fun k5 h => ?_) (fun k5 h => ?_)
  · refine y_aload_n C (i := 0) 1 d_H_takeUp_45 rfl rfl ?_
    refine y_gi C (q := (yR2, yT2, 9)) (ci := 2) (k := 4) rfl (by decide) rfl g_137 d_H_takeUp_46 h (fun x6 h => ?_)
    obtain ⟨q7, hq7, h⟩ := ob_e h
    have hJq7 : yG p l e ({ frames := 2, cells := 0, slots := 0, locals := 56 } : Room) s m args below meth c YX w 4 (MQ below (yQ YX w yfi out) args s 0 0 (yA YX w)) q7.2 72 [(0, va_re w.1 (some o)), (1, va_re w.1 a1)] [va_re w.1 q7.1] := by
      refine y_astore_n C (i := 3) (lvp := [(0, va_re w.1 (some o)), (1, va_re w.1 a1)]) d_H_takeUp_72 rfl (by decide) (by simp [List.filter, y_cat, y_catI, y_catJ]) ?_
      refine y_aload_n C (i := 3) 0 d_H_takeUp_73 rfl rfl ?_
      refine y_ifnonnull C 80 d_H_takeUp_74 (by decide) h (fun k13 h => ?_) (fun k13 h => ?_)
      · refine y_bipush C (v := -4) d_H_takeUp_77 (by decide) ?_
        exact y_iret C hr hlocks d_H_takeUp_79 h
      · refine y_aload_n C (i := 0) 1 d_H_takeUp_80 rfl rfl ?_
        refine y_dup C d_H_takeUp_81 (y_cat _ _) ?_
        refine y_gi C (q := (yR2, yT2, 9)) (ci := 2) (k := 4) rfl (by decide) rfl g_137 d_H_takeUp_82 h (fun x14 h => ?_)
        refine y_iconst C (v := 1) d_H_takeUp_85 (by decide) ?_
        refine y_isub C d_H_takeUp_86 ?_
        refine y_pi C (q := (yR2, yT2, 9)) (ci := 2) (k := 4) rfl (by decide) rfl rfl (by decide +kernel) g_137 d_H_takeUp_87 h (fun u15 h => ?_)
        refine y_aload_n C (i := 0) 1 d_H_takeUp_90 rfl rfl ?_
        refine y_dup C d_H_takeUp_91 (y_cat _ _) ?_
        refine y_gi C (q := (yR2, yT2, 9)) (ci := 2) (k := 7) rfl (by decide) rfl g_145 d_H_takeUp_92 h (fun x16 h => ?_)
        refine y_iconst C (v := 1) d_H_takeUp_95 (by decide) ?_
        refine y_iadd C d_H_takeUp_96 ?_
        refine y_pi C (q := (yR2, yT2, 9)) (ci := 2) (k := 7) rfl (by decide) rfl rfl (by decide +kernel) g_145 d_H_takeUp_97 h (fun u17 h => ?_)
        refine y_aload_n C (i := 1) 2 d_H_takeUp_100 rfl rfl ?_
        refine y_aload_n C (i := 3) 0 d_H_takeUp_101 rfl rfl ?_
        refine y_callV 1 C (q := (yR1, yT1, 10)) (ci := 1) (fun t out hh => c_U_hold l w F u17 t q7.1 out hh) gc_H_takeUp_125 rfl (by decide) hd_U_hold ⟨Nat.le_of_ble_eq_true rfl, Nat.le_of_ble_eq_true rfl⟩ rfl rfl rfl rfl (by simp [y_cat, y_catI, y_catJ]) d_H_takeUp_102 h (fun v18 u19 h => ?_)
        refine y_stk (stp0 := []) rfl ?_
        refine y_aload_n C (i := 3) 0 d_H_takeUp_105 rfl rfl ?_
        refine y_gi C (q := (yR0, yT0, 8)) (ci := 0) (k := 0) rfl (by decide) rfl g_42 d_H_takeUp_106 h (fun x20 h => ?_)
        exact y_iret C hr hlocks d_H_takeUp_109 h
    refine y_if_le C 71 d_H_takeUp_49 (by decide) hq7 (fun k8 hq7 => ?_) (fun k8 hq7 => ?_)
    · refine y_null C d_H_takeUp_71 ?_
      cases hq7
      exact y_sub [1, 2] rfl hJq7
    · refine y_aload_n C (i := 0) 1 d_H_takeUp_52 rfl rfl ?_
      refine y_iconst C (v := 0) d_H_takeUp_53 (by decide) ?_
      refine y_aload_n C (i := 0) 1 d_H_takeUp_54 rfl rfl ?_
      refine y_gi C (q := (yR2, yT2, 9)) (ci := 2) (k := 4) rfl (by decide) rfl g_137 d_H_takeUp_55 hq7 (fun x9 hq7 => ?_)
      refine y_iconst C (v := 1) d_H_takeUp_58 (by decide) ?_
      refine y_isub C d_H_takeUp_59 ?_
      refine y_bipush C (v := 10) d_H_takeUp_60 (by decide) ?_
      refine y_irem C d_H_takeUp_62 hq7 (fun x10 hq7 => ?_)
      refine y_bipush C (v := 9) d_H_takeUp_63 (by decide) ?_
      refine y_callV 3 C (q := (yR2, yT2, 9)) (ci := 2) (fun t out hh => c_H_addGlass l w F u4 t (0 : Int32) x10 (9 : Int32) out hh) gc_H_takeUp_128 rfl (by decide) hd_H_addGlass ⟨Nat.le_of_ble_eq_true rfl, Nat.le_of_ble_eq_true rfl⟩ rfl rfl rfl rfl (by simp [y_cat, y_catI, y_catJ]) d_H_takeUp_65 hq7 (fun r11 u12 hq7 => ?_)
      refine y_stk (stp0 := [va_re w.1 r11]) rfl ?_
      refine y_goto C (tgt := 72) d_H_takeUp_68 (by decide) ?_
      cases hq7
      exact y_sub [1, 2] rfl hJq7
  · refine y_aload_n C (i := 2) 0 d_H_takeUp_14 rfl rfl ?_
    refine y_gi C (q := (yR0, yT0, 8)) (ci := 0) (k := 0) rfl (by decide) rfl g_42 d_H_takeUp_15 h (fun x21 h => ?_)
    refine y_aload_n C (i := 1) 2 d_H_takeUp_18 rfl rfl ?_
    refine y_gi C (q := (yR1, yT1, 10)) (ci := 1) (k := 7) rfl (by decide) rfl g_102 d_H_takeUp_19 h (fun x22 h => ?_)
    obtain ⟨q23, hq23, h⟩ := ob_e h
    have hJq23 : yG p l e ({ frames := 2, cells := 0, slots := 0, locals := 56 } : Room) s m args below meth c YX w 4 (MQ below (yQ YX w yfi out) args s 0 0 (yA YX w)) q23 35 [(1, va_re w.1 a1), (2, va_re w.1 r3)] [] := by
      refine y_aload_n C (i := 1) 0 d_H_takeUp_35 rfl rfl ?_
      refine y_aload_n C (i := 2) 1 d_H_takeUp_36 rfl rfl ?_
      refine y_callV 1 C (q := (yR1, yT1, 10)) (ci := 1) (fun t out hh => c_U_hold l w F q23 t r3 out hh) gc_H_takeUp_125 rfl (by decide) hd_U_hold ⟨Nat.le_of_ble_eq_true rfl, Nat.le_of_ble_eq_true rfl⟩ rfl rfl rfl rfl (by simp [y_cat, y_catI, y_catJ]) d_H_takeUp_37 h (fun v27 u28 h => ?_)
      refine y_stk (stp0 := []) rfl ?_
      refine y_aload_n C (i := 2) 1 d_H_takeUp_40 rfl rfl ?_
      refine y_gi C (q := (yR0, yT0, 8)) (ci := 0) (k := 0) rfl (by decide) rfl g_42 d_H_takeUp_41 h (fun x29 h => ?_)
      exact y_iret C hr hlocks d_H_takeUp_44 h
    refine y_ic_eq C 35 d_H_takeUp_22 (by decide) hq23 (fun k24 hq23 => ?_) (fun k24 hq23 => ?_)
    · cases hq23
      exact y_sub [2, 0] rfl hJq23
    · refine y_aload_n C (i := 0) 1 d_H_takeUp_25 rfl rfl ?_
      refine y_dup C d_H_takeUp_26 (y_cat _ _) ?_
      refine y_gi C (q := (yR2, yT2, 9)) (ci := 2) (k := 6) rfl (by decide) rfl g_143 d_H_takeUp_27 hq23 (fun x25 hq23 => ?_)
      refine y_iconst C (v := 1) d_H_takeUp_30 (by decide) ?_
      refine y_iadd C d_H_takeUp_31 ?_
      refine y_pi C (q := (yR2, yT2, 9)) (ci := 2) (k := 6) rfl (by decide) rfl rfl (by decide +kernel) g_143 d_H_takeUp_32 hq23 (fun u26 hq23 => ?_)
      cases hq23
      exact y_sub [2, 0] rfl hJq23
/-! G_strength -/
theorem d_G_strength_0 : decode prog_2_method_9_code 0 = .ok (.aload_n 0, 1) := by decide +kernel
theorem d_G_strength_1 : decode prog_2_method_9_code 1 = .ok (.getfield 15, 3) := by decide +kernel
theorem d_G_strength_4 : decode prog_2_method_9_code 4 = .ok (.tableswitch 78 2 7 #[40, 42, 49, 78, 51, 71], 40) := by decide +kernel
theorem d_G_strength_44 : decode prog_2_method_9_code 44 = .ok (.iconst 1, 1) := by decide +kernel
theorem d_G_strength_45 : decode prog_2_method_9_code 45 = .ok (.ireturn, 1) := by decide +kernel
theorem d_G_strength_46 : decode prog_2_method_9_code 46 = .ok (.iconst 2, 1) := by decide +kernel
theorem d_G_strength_47 : decode prog_2_method_9_code 47 = .ok (.aload_n 0, 1) := by decide +kernel
theorem d_G_strength_48 : decode prog_2_method_9_code 48 = .ok (.getfield 18, 3) := by decide +kernel
theorem d_G_strength_51 : decode prog_2_method_9_code 51 = .ok (.iadd, 1) := by decide +kernel
theorem d_G_strength_52 : decode prog_2_method_9_code 52 = .ok (.ireturn, 1) := by decide +kernel
theorem d_G_strength_53 : decode prog_2_method_9_code 53 = .ok (.iconst 0, 1) := by decide +kernel
theorem d_G_strength_54 : decode prog_2_method_9_code 54 = .ok (.ireturn, 1) := by decide +kernel
theorem d_G_strength_55 : decode prog_2_method_9_code 55 = .ok (.aload_n 0, 1) := by decide +kernel
theorem d_G_strength_56 : decode prog_2_method_9_code 56 = .ok (.getfield 21, 3) := by decide +kernel
theorem d_G_strength_59 : decode prog_2_method_9_code 59 = .ok (.iconst 2, 1) := by decide +kernel
theorem d_G_strength_60 : decode prog_2_method_9_code 60 = .ok (.irem, 1) := by decide +kernel
theorem d_G_strength_61 : decode prog_2_method_9_code 61 = .ok (.ifCond .ne 12, 3) := by decide +kernel
theorem d_G_strength_64 : decode prog_2_method_9_code 64 = .ok (.iconst 2, 1) := by decide +kernel
theorem d_G_strength_65 : decode prog_2_method_9_code 65 = .ok (.aload_n 0, 1) := by decide +kernel
theorem d_G_strength_66 : decode prog_2_method_9_code 66 = .ok (.getfield 18, 3) := by decide +kernel
theorem d_G_strength_69 : decode prog_2_method_9_code 69 = .ok (.iadd, 1) := by decide +kernel
theorem d_G_strength_70 : decode prog_2_method_9_code 70 = .ok (.goto 4, 3) := by decide +kernel
theorem d_G_strength_73 : decode prog_2_method_9_code 73 = .ok (.iconst 0, 1) := by decide +kernel
theorem d_G_strength_74 : decode prog_2_method_9_code 74 = .ok (.ireturn, 1) := by decide +kernel
theorem d_G_strength_75 : decode prog_2_method_9_code 75 = .ok (.iconst 3, 1) := by decide +kernel
theorem d_G_strength_76 : decode prog_2_method_9_code 76 = .ok (.aload_n 0, 1) := by decide +kernel
theorem d_G_strength_77 : decode prog_2_method_9_code 77 = .ok (.getfield 18, 3) := by decide +kernel
theorem d_G_strength_80 : decode prog_2_method_9_code 80 = .ok (.iadd, 1) := by decide +kernel
theorem d_G_strength_81 : decode prog_2_method_9_code 81 = .ok (.ireturn, 1) := by decide +kernel
theorem d_G_strength_82 : decode prog_2_method_9_code 82 = .ok (.iconst 2, 1) := by decide +kernel
theorem d_G_strength_83 : decode prog_2_method_9_code 83 = .ok (.ireturn, 1) := by decide +kernel
set_option maxRecDepth 100000 in
def f_G_strength (F : Nat) (u : Mm) (o : Nat) : Option (Int32 × Mm) := ob (jgi YX 0 1 u (some o)) fun (x1 : Int32) => (if x1 = (2 : Int32) then some ((1 : Int32), u) else (if x1 = (3 : Int32) then ob (jgi YX 0 2 u (some o)) fun (x4 : Int32) => some (((2 : Int32) + x4), u) else (if x1 = (4 : Int32) then some ((0 : Int32), u) else (if x1 = (6 : Int32) then ob (jgi YX 0 3 u (some o)) fun (x7 : Int32) => ob (jrm x7 (2 : Int32)) fun (x8 : Int32) => (if x8 = 0 then ob (jgi YX 0 2 u (some o)) fun (x10 : Int32) => some (((2 : Int32) + x10), u) else some ((0 : Int32), u)) else (if x1 = (7 : Int32) then ob (jgi YX 0 2 u (some o)) fun (x12 : Int32) => some (((3 : Int32) + x12), u) else some ((2 : Int32), u))))))
set_option maxHeartbeats 4000000 in
set_option maxRecDepth 100000 in
theorem c_G_strength (l : Launch) (w : WP) (F : Nat) (u : Mm) (o : Nat) (out : Int32 × Mm) (h : f_G_strength F u o = some out) : yMet l m_G_strength ws_G_strength ({ frames := 0, cells := 0, slots := 0, locals := 0 } : Room) YX w u [va_re w.1 (some o)] yfi out := by
  refine y_entry (own := "WhoseGlass$Glass") (lv := [(0, va_re w.1 (some o))]) (by decide +kernel) rfl (by simp [lv_args, y_cat, y_catI, y_catJ]) (by simp [lg_sl, y_cat, y_catI, y_catJ]) ?_
  intro p e s m args below meth c C hr hlocks
  unfold f_G_strength at h
  refine y_aload_n C (i := 0) 0 d_G_strength_0 rfl rfl ?_
  refine y_gi C (q := (yR0, yT0, 8)) (ci := 0) (k := 1) rfl (by decide) rfl g_43 d_G_strength_1 h (fun x1 h => ?_)
  refine y_sp h (fun k2 h => ?_) (fun k2 h => ?_)
  · refine y_tsw C (off := 40) 44 d_G_strength_4 (Or.inr ⟨by rw [k2]; decide, by rw [k2]; decide, by rw [k2]; rfl⟩) (by decide) ?_
    refine y_iconst C (v := 1) d_G_strength_44 (by decide) ?_
    exact y_iret C hr hlocks d_G_strength_45 h
  refine y_sp h (fun k3 h => ?_) (fun k3 h => ?_)
  · refine y_tsw C (off := 42) 46 d_G_strength_4 (Or.inr ⟨by rw [k3]; decide, by rw [k3]; decide, by rw [k3]; rfl⟩) (by decide) ?_
    refine y_iconst C (v := 2) d_G_strength_46 (by decide) ?_
    refine y_aload_n C (i := 0) 0 d_G_strength_47 rfl rfl ?_
    refine y_gi C (q := (yR0, yT0, 8)) (ci := 0) (k := 2) rfl (by decide) rfl g_45 d_G_strength_48 h (fun x4 h => ?_)
    refine y_iadd C d_G_strength_51 ?_
    exact y_iret C hr hlocks d_G_strength_52 h
  refine y_sp h (fun k5 h => ?_) (fun k5 h => ?_)
  · refine y_tsw C (off := 49) 53 d_G_strength_4 (Or.inr ⟨by rw [k5]; decide, by rw [k5]; decide, by rw [k5]; rfl⟩) (by decide) ?_
    refine y_iconst C (v := 0) d_G_strength_53 (by decide) ?_
    exact y_iret C hr hlocks d_G_strength_54 h
  refine y_sp h (fun k6 h => ?_) (fun k6 h => ?_)
  · refine y_tsw C (off := 51) 55 d_G_strength_4 (Or.inr ⟨by rw [k6]; decide, by rw [k6]; decide, by rw [k6]; rfl⟩) (by decide) ?_
    refine y_aload_n C (i := 0) 0 d_G_strength_55 rfl rfl ?_
    refine y_gi C (q := (yR0, yT0, 8)) (ci := 0) (k := 3) rfl (by decide) rfl g_46 d_G_strength_56 h (fun x7 h => ?_)
    refine y_iconst C (v := 2) d_G_strength_59 (by decide) ?_
    refine y_irem C d_G_strength_60 h (fun x8 h => ?_)
    refine y_if_ne C 73 d_G_strength_61 (by decide) h (fun k9 h => ?_) (fun k9 h => ?_)
    · refine y_iconst C (v := 2) d_G_strength_64 (by decide) ?_
      refine y_aload_n C (i := 0) 0 d_G_strength_65 rfl rfl ?_
      refine y_gi C (q := (yR0, yT0, 8)) (ci := 0) (k := 2) rfl (by decide) rfl g_45 d_G_strength_66 h (fun x10 h => ?_)
      refine y_iadd C d_G_strength_69 ?_
      refine y_goto C (tgt := 74) d_G_strength_70 (by decide) ?_
      exact y_iret C hr hlocks d_G_strength_74 h
    · refine y_iconst C (v := 0) d_G_strength_73 (by decide) ?_
      exact y_iret C hr hlocks d_G_strength_74 h
  refine y_sp h (fun k11 h => ?_) (fun k11 h => ?_)
  · refine y_tsw C (off := 71) 75 d_G_strength_4 (Or.inr ⟨by rw [k11]; decide, by rw [k11]; decide, by rw [k11]; rfl⟩) (by decide) ?_
    refine y_iconst C (v := 3) d_G_strength_75 (by decide) ?_
    refine y_aload_n C (i := 0) 0 d_G_strength_76 rfl rfl ?_
    refine y_gi C (q := (yR0, yT0, 8)) (ci := 0) (k := 2) rfl (by decide) rfl g_45 d_G_strength_77 h (fun x12 h => ?_)
    refine y_iadd C d_G_strength_80 ?_
    exact y_iret C hr hlocks d_G_strength_81 h
  refine y_tsw C (off := 78) 82 d_G_strength_4 (y_tdef 5 (by decide) (fun i hi0 => ?_)) (by decide) ?_
  · rcases (by omega : i = 0 ∨ i = 1 ∨ i = 2 ∨ i = 3 ∨ i = 4 ∨ i = 5) with rfl | rfl | rfl | rfl | rfl | rfl
    · exact Or.inl (lv_neT (a := 2) k2 rfl)
    · exact Or.inl (lv_neT (a := 3) k3 rfl)
    · exact Or.inl (lv_neT (a := 4) k5 rfl)
    · exact Or.inr rfl
    · exact Or.inl (lv_neT (a := 6) k6 rfl)
    · exact Or.inl (lv_neT (a := 7) k11 rfl)
  refine y_iconst C (v := 2) d_G_strength_82 (by decide) ?_
  exact y_iret C hr hlocks d_G_strength_83 h
/-! U_sipFrom -/
theorem d_U_sipFrom_0 : decode prog_3_method_6_code 0 = .ok (.aload_n 1, 1) := by decide +kernel
theorem d_U_sipFrom_1 : decode prog_3_method_6_code 1 = .ok (.invokevirtual 49, 3) := by decide +kernel
theorem d_U_sipFrom_4 : decode prog_3_method_6_code 4 = .ok (.istore_n 2, 1) := by decide +kernel
theorem d_U_sipFrom_5 : decode prog_3_method_6_code 5 = .ok (.aload_n 1, 1) := by decide +kernel
theorem d_U_sipFrom_6 : decode prog_3_method_6_code 6 = .ok (.dup, 1) := by decide +kernel
theorem d_U_sipFrom_7 : decode prog_3_method_6_code 7 = .ok (.getfield 53, 3) := by decide +kernel
theorem d_U_sipFrom_10 : decode prog_3_method_6_code 10 = .ok (.iconst 1, 1) := by decide +kernel
theorem d_U_sipFrom_11 : decode prog_3_method_6_code 11 = .ok (.isub, 1) := by decide +kernel
theorem d_U_sipFrom_12 : decode prog_3_method_6_code 12 = .ok (.putfield 53, 3) := by decide +kernel
theorem d_U_sipFrom_15 : decode prog_3_method_6_code 15 = .ok (.aload_n 0, 1) := by decide +kernel
theorem d_U_sipFrom_16 : decode prog_3_method_6_code 16 = .ok (.dup, 1) := by decide +kernel
theorem d_U_sipFrom_17 : decode prog_3_method_6_code 17 = .ok (.getfield 36, 3) := by decide +kernel
theorem d_U_sipFrom_20 : decode prog_3_method_6_code 20 = .ok (.iload_n 2, 1) := by decide +kernel
theorem d_U_sipFrom_21 : decode prog_3_method_6_code 21 = .ok (.iadd, 1) := by decide +kernel
theorem d_U_sipFrom_22 : decode prog_3_method_6_code 22 = .ok (.putfield 36, 3) := by decide +kernel
theorem d_U_sipFrom_25 : decode prog_3_method_6_code 25 = .ok (.aload_n 1, 1) := by decide +kernel
theorem d_U_sipFrom_26 : decode prog_3_method_6_code 26 = .ok (.dup, 1) := by decide +kernel
theorem d_U_sipFrom_27 : decode prog_3_method_6_code 27 = .ok (.getfield 56, 3) := by decide +kernel
theorem d_U_sipFrom_30 : decode prog_3_method_6_code 30 = .ok (.iconst 1, 1) := by decide +kernel
theorem d_U_sipFrom_31 : decode prog_3_method_6_code 31 = .ok (.aload_n 0, 1) := by decide +kernel
theorem d_U_sipFrom_32 : decode prog_3_method_6_code 32 = .ok (.getfield 9, 3) := by decide +kernel
theorem d_U_sipFrom_35 : decode prog_3_method_6_code 35 = .ok (.ishl, 1) := by decide +kernel
theorem d_U_sipFrom_36 : decode prog_3_method_6_code 36 = .ok (.ior, 1) := by decide +kernel
theorem d_U_sipFrom_37 : decode prog_3_method_6_code 37 = .ok (.putfield 56, 3) := by decide +kernel
theorem d_U_sipFrom_40 : decode prog_3_method_6_code 40 = .ok (.aload_n 0, 1) := by decide +kernel
theorem d_U_sipFrom_41 : decode prog_3_method_6_code 41 = .ok (.aload_n 0, 1) := by decide +kernel
theorem d_U_sipFrom_42 : decode prog_3_method_6_code 42 = .ok (.getfield 39, 3) := by decide +kernel
theorem d_U_sipFrom_45 : decode prog_3_method_6_code 45 = .ok (.ifCond .ne 10, 3) := by decide +kernel
theorem d_U_sipFrom_48 : decode prog_3_method_6_code 48 = .ok (.aload_n 1, 1) := by decide +kernel
theorem d_U_sipFrom_49 : decode prog_3_method_6_code 49 = .ok (.getfield 59, 3) := by decide +kernel
theorem d_U_sipFrom_52 : decode prog_3_method_6_code 52 = .ok (.ifCond .eq 7, 3) := by decide +kernel
theorem d_U_sipFrom_55 : decode prog_3_method_6_code 55 = .ok (.iconst 1, 1) := by decide +kernel
theorem d_U_sipFrom_56 : decode prog_3_method_6_code 56 = .ok (.goto 4, 3) := by decide +kernel
theorem d_U_sipFrom_59 : decode prog_3_method_6_code 59 = .ok (.iconst 0, 1) := by decide +kernel
theorem d_U_sipFrom_60 : decode prog_3_method_6_code 60 = .ok (.putfield 39, 3) := by decide +kernel
theorem d_U_sipFrom_63 : decode prog_3_method_6_code 63 = .ok (.aload_n 1, 1) := by decide +kernel
theorem d_U_sipFrom_64 : decode prog_3_method_6_code 64 = .ok (.aload_n 0, 1) := by decide +kernel
theorem d_U_sipFrom_65 : decode prog_3_method_6_code 65 = .ok (.getfield 39, 3) := by decide +kernel
theorem d_U_sipFrom_68 : decode prog_3_method_6_code 68 = .ok (.putfield 59, 3) := by decide +kernel
theorem d_U_sipFrom_71 : decode prog_3_method_6_code 71 = .ok (.iload_n 2, 1) := by decide +kernel
theorem d_U_sipFrom_72 : decode prog_3_method_6_code 72 = .ok (.ireturn, 1) := by decide +kernel
theorem gc_U_sipFrom_49 : GoodIn yGW (wsV "WhoseGlass$Guest" 49 yR0 m_G_strength ws_G_strength) := y_gV g_321 g_322 g_323 g_3 g_324
set_option maxRecDepth 100000 in
def f_U_sipFrom (F : Nat) (u : Mm) (o : Nat) (a1 : Option Nat) : Option (Int32 × Mm) := ob (jk YX 0 a1) fun t => yb (f_G_strength F u t ) fun x1 u2 => ob (jgi YX 0 3 u2 a1) fun (x3 : Int32) => ob (jpi YX 0 3 u2 a1 (x3 - (1 : Int32))) fun (u4 : Mm) => ob (jgi YX 1 8 u4 (some o)) fun (x5 : Int32) => ob (jpi YX 1 8 u4 (some o) (x5 + x1)) fun (u6 : Mm) => ob (jgi YX 0 6 u6 a1) fun (x7 : Int32) => ob (jgi YX 1 0 u6 (some o)) fun (x8 : Int32) => ob (jpi YX 0 6 u6 a1 (x7 ||| ((1 : Int32) <<< (x8 &&& 31)))) fun (u9 : Mm) => ob (jgi YX 1 9 u9 (some o)) fun (x10 : Int32) => ob ((if x10 = 0 then ob (jgi YX 0 7 u9 a1) fun (x13 : Int32) => (if x13 = 0 then some (0 : Int32) else some (1 : Int32)) else some (1 : Int32)) : Option (Int32)) fun q11 => ob (jpz YX 1 9 u9 (some o) q11) fun (u15 : Mm) => ob (jgi YX 1 9 u15 (some o)) fun (x16 : Int32) => ob (jpz YX 0 7 u15 a1 x16) fun (u17 : Mm) => some (x1, u17)
set_option maxHeartbeats 4000000 in
set_option maxRecDepth 100000 in
theorem c_U_sipFrom (l : Launch) (w : WP) (F : Nat) (u : Mm) (o : Nat) (a1 : Option Nat) (out : Int32 × Mm) (h : f_U_sipFrom F u o a1 = some out) : yMet l m_U_sipFrom ws_U_sipFrom ({ frames := 1, cells := 0, slots := 0, locals := 20 } : Room) YX w u [va_re w.1 (some o), va_re w.1 a1] yfi out := by
  refine y_entry (own := "WhoseGlass$Guest") (lv := [(0, va_re w.1 (some o)), (1, va_re w.1 a1)]) (by decide +kernel) rfl (by simp [lv_args, y_cat, y_catI, y_catJ]) (by simp [lg_sl, y_cat, y_catI, y_catJ]) ?_
  intro p e s m args below meth c C hr hlocks
  unfold f_U_sipFrom at h
  refine y_aload_n C (i := 1) 1 d_U_sipFrom_0 rfl rfl ?_
  refine y_callV 0 C (q := (yR0, yT0, 8)) (ci := 0) (fun t out hh => c_G_strength l w F u t out hh) gc_U_sipFrom_49 rfl (by decide) hd_G_strength ⟨Nat.le_of_ble_eq_true rfl, Nat.le_of_ble_eq_true rfl⟩ rfl rfl rfl rfl (by simp [y_cat, y_catI, y_catJ]) d_U_sipFrom_1 h (fun x1 u2 h => ?_)
  refine y_stk (stp0 := [.int x1]) rfl ?_
  refine y_istore_n C (i := 2) (lvp := [(0, va_re w.1 (some o)), (1, va_re w.1 a1)]) d_U_sipFrom_4 rfl (by decide) (by simp [List.filter, y_cat, y_catI, y_catJ]) ?_
  refine y_aload_n C (i := 1) 2 d_U_sipFrom_5 rfl rfl ?_
  refine y_dup C d_U_sipFrom_6 (y_cat _ _) ?_
  refine y_gi C (q := (yR0, yT0, 8)) (ci := 0) (k := 3) rfl (by decide) rfl g_47 d_U_sipFrom_7 h (fun x3 h => ?_)
  refine y_iconst C (v := 1) d_U_sipFrom_10 (by decide) ?_
  refine y_isub C d_U_sipFrom_11 ?_
  refine y_pi C (q := (yR0, yT0, 8)) (ci := 0) (k := 3) rfl (by decide) rfl rfl (by decide +kernel) g_47 d_U_sipFrom_12 h (fun u4 h => ?_)
  refine y_aload_n C (i := 0) 1 d_U_sipFrom_15 rfl rfl ?_
  refine y_dup C d_U_sipFrom_16 (y_cat _ _) ?_
  refine y_gi C (q := (yR1, yT1, 10)) (ci := 1) (k := 8) rfl (by decide) rfl g_104 d_U_sipFrom_17 h (fun x5 h => ?_)
  refine y_iload_n C (i := 2) 0 d_U_sipFrom_20 rfl rfl ?_
  refine y_iadd C d_U_sipFrom_21 ?_
  refine y_pi C (q := (yR1, yT1, 10)) (ci := 1) (k := 8) rfl (by decide) rfl rfl (by decide +kernel) g_104 d_U_sipFrom_22 h (fun u6 h => ?_)
  refine y_aload_n C (i := 1) 2 d_U_sipFrom_25 rfl rfl ?_
  refine y_dup C d_U_sipFrom_26 (y_cat _ _) ?_
  refine y_gi C (q := (yR0, yT0, 8)) (ci := 0) (k := 6) rfl (by decide) rfl g_58 d_U_sipFrom_27 h (fun x7 h => ?_)
  refine y_iconst C (v := 1) d_U_sipFrom_30 (by decide) ?_
  refine y_aload_n C (i := 0) 1 d_U_sipFrom_31 rfl rfl ?_
  refine y_gi C (q := (yR1, yT1, 10)) (ci := 1) (k := 0) rfl (by decide) rfl g_84 d_U_sipFrom_32 h (fun x8 h => ?_)
  refine y_ishl C d_U_sipFrom_35 ?_
  refine y_ior C d_U_sipFrom_36 ?_
  refine y_pi C (q := (yR0, yT0, 8)) (ci := 0) (k := 6) rfl (by decide) rfl rfl (by decide +kernel) g_58 d_U_sipFrom_37 h (fun u9 h => ?_)
  refine y_aload_n C (i := 0) 1 d_U_sipFrom_40 rfl rfl ?_
  refine y_aload_n C (i := 0) 1 d_U_sipFrom_41 rfl rfl ?_
  refine y_gi C (q := (yR1, yT1, 10)) (ci := 1) (k := 9) rfl (by decide) rfl g_107 d_U_sipFrom_42 h (fun x10 h => ?_)
  obtain ⟨q11, hq11, h⟩ := ob_e h
  have hJq11 : yG p l e ({ frames := 1, cells := 0, slots := 0, locals := 20 } : Room) s m args below meth c YX w 3 (MQ below (yQ YX w yfi out) args s 0 0 (yA YX w)) u9 60 [(0, va_re w.1 (some o)), (1, va_re w.1 a1), (2, .int x1)] [.int q11, va_re w.1 (some o)] := by
    refine y_pz C (q := (yR1, yT1, 10)) (ci := 1) (k := 9) rfl (by decide) rfl rfl (by decide +kernel) g_107 d_U_sipFrom_60 h (fun u15 h => ?_)
    refine y_aload_n C (i := 1) 1 d_U_sipFrom_63 rfl rfl ?_
    refine y_aload_n C (i := 0) 0 d_U_sipFrom_64 rfl rfl ?_
    refine y_gi C (q := (yR1, yT1, 10)) (ci := 1) (k := 9) rfl (by decide) rfl g_107 d_U_sipFrom_65 h (fun x16 h => ?_)
    refine y_pz C (q := (yR0, yT0, 8)) (ci := 0) (k := 7) rfl (by decide) rfl rfl (by decide +kernel) g_60 d_U_sipFrom_68 h (fun u17 h => ?_)
    refine y_iload_n C (i := 2) 2 d_U_sipFrom_71 rfl rfl ?_
    exact y_iret C hr hlocks d_U_sipFrom_72 h
  refine y_if_ne C 55 d_U_sipFrom_45 (by decide) hq11 (fun k12 hq11 => ?_) (fun k12 hq11 => ?_)
  · refine y_aload_n C (i := 1) 2 d_U_sipFrom_48 rfl rfl ?_
    refine y_gi C (q := (yR0, yT0, 8)) (ci := 0) (k := 7) rfl (by decide) rfl g_60 d_U_sipFrom_49 hq11 (fun x13 hq11 => ?_)
    refine y_if_eq C 59 d_U_sipFrom_52 (by decide) hq11 (fun k14 hq11 => ?_) (fun k14 hq11 => ?_)
    · refine y_iconst C (v := 0) d_U_sipFrom_59 (by decide) ?_
      cases hq11
      exact y_sub [1, 2, 0] rfl hJq11
    · refine y_iconst C (v := 1) d_U_sipFrom_55 (by decide) ?_
      refine y_goto C (tgt := 60) d_U_sipFrom_56 (by decide) ?_
      cases hq11
      exact y_sub [1, 2, 0] rfl hJq11
  · refine y_iconst C (v := 1) d_U_sipFrom_55 (by decide) ?_
    refine y_goto C (tgt := 60) d_U_sipFrom_56 (by decide) ?_
    cases hq11
    exact y_sub [1, 2, 0] rfl hJq11
/-! G_layAt -/
theorem d_G_layAt_0 : decode prog_2_method_4_code 0 = .ok (.aload_n 0, 1) := by decide +kernel
theorem d_G_layAt_1 : decode prog_2_method_4_code 1 = .ok (.iload_n 1, 1) := by decide +kernel
theorem d_G_layAt_2 : decode prog_2_method_4_code 2 = .ok (.putfield 31, 3) := by decide +kernel
theorem d_G_layAt_5 : decode prog_2_method_4_code 5 = .ok (.aload_n 0, 1) := by decide +kernel
theorem d_G_layAt_6 : decode prog_2_method_4_code 6 = .ok (.iload_n 2, 1) := by decide +kernel
theorem d_G_layAt_7 : decode prog_2_method_4_code 7 = .ok (.putfield 34, 3) := by decide +kernel
theorem d_G_layAt_10 : decode prog_2_method_4_code 10 = .ok (.return_, 1) := by decide +kernel
set_option maxRecDepth 100000 in
def f_G_layAt (F : Nat) (u : Mm) (o : Nat) (a1 : Int32) (a2 : Int32) : Option (Unit × Mm) := ob (jpi YX 0 4 u (some o) a1) fun (u1 : Mm) => ob (jpi YX 0 5 u1 (some o) a2) fun (u2 : Mm) => some ((), u2)
set_option maxHeartbeats 4000000 in
set_option maxRecDepth 100000 in
theorem c_G_layAt (l : Launch) (w : WP) (F : Nat) (u : Mm) (o : Nat) (a1 : Int32) (a2 : Int32) (out : Unit × Mm) (h : f_G_layAt F u o a1 a2 = some out) : yMet l m_G_layAt ws_G_layAt ({ frames := 0, cells := 0, slots := 0, locals := 0 } : Room) YX w u [va_re w.1 (some o), .int a1, .int a2] yfv out := by
  refine y_entry (own := "WhoseGlass$Glass") (lv := [(0, va_re w.1 (some o)), (1, .int a1), (2, .int a2)]) (by decide +kernel) rfl (by simp [lv_args, y_cat, y_catI, y_catJ]) (by simp [lg_sl, y_cat, y_catI, y_catJ]) ?_
  intro p e s m args below meth c C hr hlocks
  unfold f_G_layAt at h
  refine y_aload_n C (i := 0) 0 d_G_layAt_0 rfl rfl ?_
  refine y_iload_n C (i := 1) 1 d_G_layAt_1 rfl rfl ?_
  refine y_pi C (q := (yR0, yT0, 8)) (ci := 0) (k := 4) rfl (by decide) rfl rfl (by decide +kernel) g_50 d_G_layAt_2 h (fun u1 h => ?_)
  refine y_aload_n C (i := 0) 0 d_G_layAt_5 rfl rfl ?_
  refine y_iload_n C (i := 2) 2 d_G_layAt_6 rfl rfl ?_
  refine y_pi C (q := (yR0, yT0, 8)) (ci := 0) (k := 5) rfl (by decide) rfl rfl (by decide +kernel) g_54 d_G_layAt_7 h (fun u2 h => ?_)
  exact y_vret C hr hlocks d_G_layAt_10 h
/-! H_layDown -/
theorem d_H_layDown_0 : decode prog_4_method_10_code 0 = .ok (.aload_n 2, 1) := by decide +kernel
theorem d_H_layDown_1 : decode prog_4_method_10_code 1 = .ok (.aload_n 1, 1) := by decide +kernel
theorem d_H_layDown_2 : decode prog_4_method_10_code 2 = .ok (.getfield 81, 3) := by decide +kernel
theorem d_H_layDown_5 : decode prog_4_method_10_code 5 = .ok (.aload_n 0, 1) := by decide +kernel
theorem d_H_layDown_6 : decode prog_4_method_10_code 6 = .ok (.getfield 40, 3) := by decide +kernel
theorem d_H_layDown_9 : decode prog_4_method_10_code 9 = .ok (.invokevirtual 112, 3) := by decide +kernel
theorem d_H_layDown_12 : decode prog_4_method_10_code 12 = .ok (.aload_n 1, 1) := by decide +kernel
theorem d_H_layDown_13 : decode prog_4_method_10_code 13 = .ok (.bipush (-4), 2) := by decide +kernel
theorem d_H_layDown_15 : decode prog_4_method_10_code 15 = .ok (.putfield 88, 3) := by decide +kernel
theorem d_H_layDown_18 : decode prog_4_method_10_code 18 = .ok (.return_, 1) := by decide +kernel
theorem gc_H_layDown_112 : GoodIn yGW (wsV "WhoseGlass$House" 112 yR0 m_G_layAt ws_G_layAt) := y_gV g_329 g_330 g_331 g_3 g_332
set_option maxRecDepth 100000 in
def f_H_layDown (F : Nat) (u : Mm) (o : Nat) (a1 : Option Nat) (a2 : Option Nat) : Option (Unit × Mm) := ob (jgi YX 1 5 u a1) fun (x1 : Int32) => ob (jgi YX 2 5 u (some o)) fun (x2 : Int32) => ob (jk YX 0 a2) fun t => yb (f_G_layAt F u t x1 x2) fun v3 u4 => ob (jpi YX 1 6 u4 a1 (-4 : Int32)) fun (u5 : Mm) => some ((), u5)
set_option maxHeartbeats 4000000 in
set_option maxRecDepth 100000 in
theorem c_H_layDown (l : Launch) (w : WP) (F : Nat) (u : Mm) (o : Nat) (a1 : Option Nat) (a2 : Option Nat) (out : Unit × Mm) (h : f_H_layDown F u o a1 a2 = some out) : yMet l m_H_layDown ws_H_layDown ({ frames := 1, cells := 0, slots := 0, locals := 22 } : Room) YX w u [va_re w.1 (some o), va_re w.1 a1, va_re w.1 a2] yfv out := by
  refine y_entry (own := "WhoseGlass$House") (lv := [(0, va_re w.1 (some o)), (1, va_re w.1 a1), (2, va_re w.1 a2)]) (by decide +kernel) rfl (by simp [lv_args, y_cat, y_catI, y_catJ]) (by simp [lg_sl, y_cat, y_catI, y_catJ]) ?_
  intro p e s m args below meth c C hr hlocks
  unfold f_H_layDown at h
  refine y_aload_n C (i := 2) 2 d_H_layDown_0 rfl rfl ?_
  refine y_aload_n C (i := 1) 1 d_H_layDown_1 rfl rfl ?_
  refine y_gi C (q := (yR1, yT1, 10)) (ci := 1) (k := 5) rfl (by decide) rfl g_96 d_H_layDown_2 h (fun x1 h => ?_)
  refine y_aload_n C (i := 0) 0 d_H_layDown_5 rfl rfl ?_
  refine y_gi C (q := (yR2, yT2, 9)) (ci := 2) (k := 5) rfl (by decide) rfl g_140 d_H_layDown_6 h (fun x2 h => ?_)
  refine y_callV 2 C (q := (yR0, yT0, 8)) (ci := 0) (fun t out hh => c_G_layAt l w F u t x1 x2 out hh) gc_H_layDown_112 rfl (by decide) hd_G_layAt ⟨Nat.le_of_ble_eq_true rfl, Nat.le_of_ble_eq_true rfl⟩ rfl rfl rfl rfl (by simp [y_cat, y_catI, y_catJ]) d_H_layDown_9 h (fun v3 u4 h => ?_)
  refine y_stk (stp0 := []) rfl ?_
  refine y_aload_n C (i := 1) 1 d_H_layDown_12 rfl rfl ?_
  refine y_bipush C (v := -4) d_H_layDown_13 (by decide) ?_
  refine y_pi C (q := (yR1, yT1, 10)) (ci := 1) (k := 6) rfl (by decide) rfl rfl (by decide +kernel) g_99 d_H_layDown_15 h (fun u5 h => ?_)
  exact y_vret C hr hlocks d_H_layDown_18 h
/-! H_liveMinute -/
theorem d_H_liveMinute_0 : decode prog_4_method_8_code 0 = .ok (.aload_n 0, 1) := by decide +kernel
theorem d_H_liveMinute_1 : decode prog_4_method_8_code 1 = .ok (.getfield 40, 3) := by decide +kernel
theorem d_H_liveMinute_4 : decode prog_4_method_8_code 4 = .ok (.ifCond .eq 29, 3) := by decide +kernel
theorem d_H_liveMinute_7 : decode prog_4_method_8_code 7 = .ok (.aload_n 0, 1) := by decide +kernel
theorem d_H_liveMinute_8 : decode prog_4_method_8_code 8 = .ok (.getfield 40, 3) := by decide +kernel
theorem d_H_liveMinute_11 : decode prog_4_method_8_code 11 = .ok (.aload_n 1, 1) := by decide +kernel
theorem d_H_liveMinute_12 : decode prog_4_method_8_code 12 = .ok (.getfield 74, 3) := by decide +kernel
theorem d_H_liveMinute_15 : decode prog_4_method_8_code 15 = .ok (.invokestatic 77, 3) := by decide +kernel
theorem d_H_liveMinute_18 : decode prog_4_method_8_code 18 = .ok (.ifCond .eq 15, 3) := by decide +kernel
theorem d_H_liveMinute_21 : decode prog_4_method_8_code 21 = .ok (.aload_n 1, 1) := by decide +kernel
theorem d_H_liveMinute_22 : decode prog_4_method_8_code 22 = .ok (.aload_n 0, 1) := by decide +kernel
theorem d_H_liveMinute_23 : decode prog_4_method_8_code 23 = .ok (.aload_n 1, 1) := by decide +kernel
theorem d_H_liveMinute_24 : decode prog_4_method_8_code 24 = .ok (.getfield 81, 3) := by decide +kernel
theorem d_H_liveMinute_27 : decode prog_4_method_8_code 27 = .ok (.invokevirtual 84, 3) := by decide +kernel
theorem d_H_liveMinute_30 : decode prog_4_method_8_code 30 = .ok (.putfield 81, 3) := by decide +kernel
theorem d_H_liveMinute_33 : decode prog_4_method_8_code 33 = .ok (.aload_n 0, 1) := by decide +kernel
theorem d_H_liveMinute_34 : decode prog_4_method_8_code 34 = .ok (.aload_n 1, 1) := by decide +kernel
theorem d_H_liveMinute_35 : decode prog_4_method_8_code 35 = .ok (.getfield 88, 3) := by decide +kernel
theorem d_H_liveMinute_38 : decode prog_4_method_8_code 38 = .ok (.invokevirtual 49, 3) := by decide +kernel
theorem d_H_liveMinute_41 : decode prog_4_method_8_code 41 = .ok (.astore_n 2, 1) := by decide +kernel
theorem d_H_liveMinute_42 : decode prog_4_method_8_code 42 = .ok (.aload_n 2, 1) := by decide +kernel
theorem d_H_liveMinute_43 : decode prog_4_method_8_code 43 = .ok (.ifnonnull 10, 3) := by decide +kernel
theorem d_H_liveMinute_46 : decode prog_4_method_8_code 46 = .ok (.aload_n 0, 1) := by decide +kernel
theorem d_H_liveMinute_47 : decode prog_4_method_8_code 47 = .ok (.aload_n 1, 1) := by decide +kernel
theorem d_H_liveMinute_48 : decode prog_4_method_8_code 48 = .ok (.invokevirtual 91, 3) := by decide +kernel
theorem d_H_liveMinute_51 : decode prog_4_method_8_code 51 = .ok (.pop, 1) := by decide +kernel
theorem d_H_liveMinute_52 : decode prog_4_method_8_code 52 = .ok (.return_, 1) := by decide +kernel
theorem d_H_liveMinute_53 : decode prog_4_method_8_code 53 = .ok (.aload_n 0, 1) := by decide +kernel
theorem d_H_liveMinute_54 : decode prog_4_method_8_code 54 = .ok (.getfield 40, 3) := by decide +kernel
theorem d_H_liveMinute_57 : decode prog_4_method_8_code 57 = .ok (.aload_n 1, 1) := by decide +kernel
theorem d_H_liveMinute_58 : decode prog_4_method_8_code 58 = .ok (.getfield 95, 3) := by decide +kernel
theorem d_H_liveMinute_61 : decode prog_4_method_8_code 61 = .ok (.invokestatic 77, 3) := by decide +kernel
theorem d_H_liveMinute_64 : decode prog_4_method_8_code 64 = .ok (.ifCond .eq 16, 3) := by decide +kernel
theorem d_H_liveMinute_67 : decode prog_4_method_8_code 67 = .ok (.aload_n 2, 1) := by decide +kernel
theorem d_H_liveMinute_68 : decode prog_4_method_8_code 68 = .ok (.getfield 98, 3) := by decide +kernel
theorem d_H_liveMinute_71 : decode prog_4_method_8_code 71 = .ok (.ifCond .le 9, 3) := by decide +kernel
theorem d_H_liveMinute_74 : decode prog_4_method_8_code 74 = .ok (.aload_n 1, 1) := by decide +kernel
theorem d_H_liveMinute_75 : decode prog_4_method_8_code 75 = .ok (.aload_n 2, 1) := by decide +kernel
theorem d_H_liveMinute_76 : decode prog_4_method_8_code 76 = .ok (.invokevirtual 101, 3) := by decide +kernel
theorem d_H_liveMinute_79 : decode prog_4_method_8_code 79 = .ok (.pop, 1) := by decide +kernel
theorem d_H_liveMinute_80 : decode prog_4_method_8_code 80 = .ok (.aload_n 0, 1) := by decide +kernel
theorem d_H_liveMinute_81 : decode prog_4_method_8_code 81 = .ok (.getfield 40, 3) := by decide +kernel
theorem d_H_liveMinute_84 : decode prog_4_method_8_code 84 = .ok (.ifCond .eq 23, 3) := by decide +kernel
theorem d_H_liveMinute_87 : decode prog_4_method_8_code 87 = .ok (.aload_n 0, 1) := by decide +kernel
theorem d_H_liveMinute_88 : decode prog_4_method_8_code 88 = .ok (.getfield 40, 3) := by decide +kernel
theorem d_H_liveMinute_91 : decode prog_4_method_8_code 91 = .ok (.aload_n 1, 1) := by decide +kernel
theorem d_H_liveMinute_92 : decode prog_4_method_8_code 92 = .ok (.getfield 105, 3) := by decide +kernel
theorem d_H_liveMinute_95 : decode prog_4_method_8_code 95 = .ok (.invokestatic 77, 3) := by decide +kernel
theorem d_H_liveMinute_98 : decode prog_4_method_8_code 98 = .ok (.ifCond .eq 9, 3) := by decide +kernel
theorem d_H_liveMinute_101 : decode prog_4_method_8_code 101 = .ok (.aload_n 0, 1) := by decide +kernel
theorem d_H_liveMinute_102 : decode prog_4_method_8_code 102 = .ok (.aload_n 1, 1) := by decide +kernel
theorem d_H_liveMinute_103 : decode prog_4_method_8_code 103 = .ok (.aload_n 2, 1) := by decide +kernel
theorem d_H_liveMinute_104 : decode prog_4_method_8_code 104 = .ok (.invokevirtual 108, 3) := by decide +kernel
theorem d_H_liveMinute_107 : decode prog_4_method_8_code 107 = .ok (.return_, 1) := by decide +kernel
theorem gc_H_liveMinute_84 : GoodIn yGW (wsV "WhoseGlass$House" 84 yR2 m_H_placeBehind ws_H_placeBehind) := y_gV g_289 g_291 gs_2 g_2 g_292
theorem gc_H_liveMinute_49 : GoodIn yGW (wsV "WhoseGlass$House" 49 yR2 m_H_glassAt ws_H_glassAt) := y_gV g_259 g_260 g_261 g_2 g_262
theorem gc_H_liveMinute_91 : GoodIn yGW (wsV "WhoseGlass$House" 91 yR2 m_H_takeUp ws_H_takeUp) := y_gV g_293 g_294 g_295 g_2 g_296
theorem gc_H_liveMinute_101 : GoodIn yGW (wsV "WhoseGlass$House" 101 yR1 m_U_sipFrom ws_U_sipFrom) := y_gV g_317 g_318 g_319 g_4 g_320
theorem gc_H_liveMinute_108 : GoodIn yGW (wsV "WhoseGlass$House" 108 yR2 m_H_layDown ws_H_layDown) := y_gV g_325 g_326 g_327 g_2 g_328
set_option maxRecDepth 100000 in
def f_H_liveMinute (F : Nat) (u : Mm) (o : Nat) (a1 : Option Nat) : Option (Unit × Mm) := ob (jgi YX 2 5 u (some o)) fun (x1 : Int32) => ob ((if x1 = 0 then some u else ob (jgi YX 2 5 u (some o)) fun (x4 : Int32) => ob (jgi YX 1 3 u a1) fun (x5 : Int32) => yb (f_X_isMultiple F u x4 x5) fun x6 u7 => (if x6 = 0 then some u7 else ob (jgi YX 1 5 u7 a1) fun (x9 : Int32) => ob (jk YX 2 (some o)) fun t => yb (f_H_placeBehind F u7 t x9) fun x10 u11 => ob (jpi YX 1 5 u11 a1 x10) fun (u12 : Mm) => some u12)) : Option (Mm)) fun q2 => ob (jgi YX 1 6 q2 a1) fun (x13 : Int32) => ob (jk YX 2 (some o)) fun t => yb (f_H_glassAt F q2 t x13) fun r14 u15 => (if r14 = none then ob (jk YX 2 (some o)) fun t => yb (f_H_takeUp F u15 t a1) fun x17 u18 => some ((), u18) else ob (jgi YX 2 5 u15 (some o)) fun (x19 : Int32) => ob (jgi YX 1 1 u15 a1) fun (x20 : Int32) => yb (f_X_isMultiple F u15 x19 x20) fun x21 u22 => ob ((if x21 = 0 then some u22 else ob (jgi YX 0 3 u22 r14) fun (x25 : Int32) => (if x25 ≤ 0 then some u22 else ob (jk YX 1 a1) fun t => yb (f_U_sipFrom F u22 t r14) fun x27 u28 => some u28)) : Option (Mm)) fun q23 => ob (jgi YX 2 5 q23 (some o)) fun (x29 : Int32) => (if x29 = 0 then some ((), q23) else ob (jgi YX 2 5 q23 (some o)) fun (x31 : Int32) => ob (jgi YX 1 2 q23 a1) fun (x32 : Int32) => yb (f_X_isMultiple F q23 x31 x32) fun x33 u34 => (if x33 = 0 then some ((), u34) else ob (jk YX 2 (some o)) fun t => yb (f_H_layDown F u34 t a1 r14) fun v36 u37 => some ((), u37))))
set_option maxHeartbeats 4000000 in
set_option maxRecDepth 100000 in
theorem c_H_liveMinute (l : Launch) (w : WP) (F : Nat) (u : Mm) (o : Nat) (a1 : Option Nat) (out : Unit × Mm) (h : f_H_liveMinute F u o a1 = some out) : yMet l m_H_liveMinute ws_H_liveMinute ({ frames := 3, cells := 0, slots := 0, locals := 79 } : Room) YX w u [va_re w.1 (some o), va_re w.1 a1] yfv out := by
  refine y_entry (own := "WhoseGlass$House") (lv := [(0, va_re w.1 (some o)), (1, va_re w.1 a1)]) (by decide +kernel) rfl (by simp [lv_args, y_cat, y_catI, y_catJ]) (by simp [lg_sl, y_cat, y_catI, y_catJ]) ?_
  intro p e s m args below meth c C hr hlocks
  unfold f_H_liveMinute at h
  refine y_aload_n C (i := 0) 0 d_H_liveMinute_0 rfl rfl ?_
  refine y_gi C (q := (yR2, yT2, 9)) (ci := 2) (k := 5) rfl (by decide) rfl g_140 d_H_liveMinute_1 h (fun x1 h => ?_)
  obtain ⟨q2, hq2, h⟩ := ob_e h
  have hJq2 : yG p l e ({ frames := 3, cells := 0, slots := 0, locals := 79 } : Room) s m args below meth c YX w 3 (MQ below (yQ YX w yfv out) args s 0 0 (yA YX w)) q2 33 [(0, va_re w.1 (some o)), (1, va_re w.1 a1)] [] := by
    refine y_aload_n C (i := 0) 0 d_H_liveMinute_33 rfl rfl ?_
    refine y_aload_n C (i := 1) 1 d_H_liveMinute_34 rfl rfl ?_
    refine y_gi C (q := (yR1, yT1, 10)) (ci := 1) (k := 6) rfl (by decide) rfl g_99 d_H_liveMinute_35 h (fun x13 h => ?_)
    refine y_callV 1 C (q := (yR2, yT2, 9)) (ci := 2) (fun t out hh => c_H_glassAt l w F q2 t x13 out hh) gc_H_liveMinute_49 rfl (by decide) hd_H_glassAt ⟨Nat.le_of_ble_eq_true rfl, Nat.le_of_ble_eq_true rfl⟩ rfl rfl rfl rfl (by simp [y_cat, y_catI, y_catJ]) d_H_liveMinute_38 h (fun r14 u15 h => ?_)
    refine y_stk (stp0 := [va_re w.1 r14]) rfl ?_
    refine y_astore_n C (i := 2) (lvp := [(0, va_re w.1 (some o)), (1, va_re w.1 a1)]) d_H_liveMinute_41 rfl (by decide) (by simp [List.filter, y_cat, y_catI, y_catJ]) ?_
    refine y_aload_n C (i := 2) 0 d_H_liveMinute_42 rfl rfl ?_
    refine y_ifnonnull C 53 d_H_liveMinute_43 (by decide) h (fun k16 h => ?_) (fun k16 h => ?_)
    · refine y_aload_n C (i := 0) 1 d_H_liveMinute_46 rfl rfl ?_
      refine y_aload_n C (i := 1) 2 d_H_liveMinute_47 rfl rfl ?_
      refine y_callV 1 C (q := (yR2, yT2, 9)) (ci := 2) (fun t out hh => c_H_takeUp l w F u15 t a1 out hh) gc_H_liveMinute_91 rfl (by decide) hd_H_takeUp ⟨Nat.le_of_ble_eq_true rfl, Nat.le_of_ble_eq_true rfl⟩ rfl rfl rfl rfl (by simp [y_cat, y_catI, y_catJ]) d_H_liveMinute_48 h (fun x17 u18 h => ?_)
      refine y_stk (stp0 := [.int x17]) rfl ?_
      refine y_pop C d_H_liveMinute_51 rfl ?_
      exact y_vret C hr hlocks d_H_liveMinute_52 h
    · refine y_aload_n C (i := 0) 1 d_H_liveMinute_53 rfl rfl ?_
      refine y_gi C (q := (yR2, yT2, 9)) (ci := 2) (k := 5) rfl (by decide) rfl g_140 d_H_liveMinute_54 h (fun x19 h => ?_)
      refine y_aload_n C (i := 1) 2 d_H_liveMinute_57 rfl rfl ?_
      refine y_gi C (q := (yR1, yT1, 10)) (ci := 1) (k := 1) rfl (by decide) rfl g_87 d_H_liveMinute_58 h (fun x20 h => ?_)
      refine y_callN 2 C (host := "WhoseGlass") (fun out hh => c_X_isMultiple l w F u15 x19 x20 out hh) (y_gc g_288) (by decide +kernel) g_1 g_287 hn_X_isMultiple ⟨Nat.le_of_ble_eq_true rfl, Nat.le_of_ble_eq_true rfl⟩ rfl rfl rfl rfl (by simp [y_cat, y_catI, y_catJ]) d_H_liveMinute_61 h (fun x21 u22 h => ?_)
      refine y_stk (stp0 := [.int x21]) rfl ?_
      obtain ⟨q23, hq23, h⟩ := ob_e h
      have hJq23 : yG p l e ({ frames := 3, cells := 0, slots := 0, locals := 79 } : Room) s m args below meth c YX w 3 (MQ below (yQ YX w yfv out) args s 0 0 (yA YX w)) q23 80 [(0, va_re w.1 (some o)), (1, va_re w.1 a1), (2, va_re w.1 r14)] [] := by
        refine y_aload_n C (i := 0) 0 d_H_liveMinute_80 rfl rfl ?_
        refine y_gi C (q := (yR2, yT2, 9)) (ci := 2) (k := 5) rfl (by decide) rfl g_140 d_H_liveMinute_81 h (fun x29 h => ?_)
        refine y_if_eq C 107 d_H_liveMinute_84 (by decide) h (fun k30 h => ?_) (fun k30 h => ?_)
        · exact y_vret C hr hlocks d_H_liveMinute_107 h
        · refine y_aload_n C (i := 0) 0 d_H_liveMinute_87 rfl rfl ?_
          refine y_gi C (q := (yR2, yT2, 9)) (ci := 2) (k := 5) rfl (by decide) rfl g_140 d_H_liveMinute_88 h (fun x31 h => ?_)
          refine y_aload_n C (i := 1) 1 d_H_liveMinute_91 rfl rfl ?_
          refine y_gi C (q := (yR1, yT1, 10)) (ci := 1) (k := 2) rfl (by decide) rfl g_89 d_H_liveMinute_92 h (fun x32 h => ?_)
          refine y_callN 2 C (host := "WhoseGlass") (fun out hh => c_X_isMultiple l w F q23 x31 x32 out hh) (y_gc g_288) (by decide +kernel) g_1 g_287 hn_X_isMultiple ⟨Nat.le_of_ble_eq_true rfl, Nat.le_of_ble_eq_true rfl⟩ rfl rfl rfl rfl (by simp [y_cat, y_catI, y_catJ]) d_H_liveMinute_95 h (fun x33 u34 h => ?_)
          refine y_stk (stp0 := [.int x33]) rfl ?_
          refine y_if_eq C 107 d_H_liveMinute_98 (by decide) h (fun k35 h => ?_) (fun k35 h => ?_)
          · exact y_vret C hr hlocks d_H_liveMinute_107 h
          · refine y_aload_n C (i := 0) 0 d_H_liveMinute_101 rfl rfl ?_
            refine y_aload_n C (i := 1) 1 d_H_liveMinute_102 rfl rfl ?_
            refine y_aload_n C (i := 2) 2 d_H_liveMinute_103 rfl rfl ?_
            refine y_callV 2 C (q := (yR2, yT2, 9)) (ci := 2) (fun t out hh => c_H_layDown l w F u34 t a1 r14 out hh) gc_H_liveMinute_108 rfl (by decide) hd_H_layDown ⟨Nat.le_of_ble_eq_true rfl, Nat.le_of_ble_eq_true rfl⟩ rfl rfl rfl rfl (by simp [y_cat, y_catI, y_catJ]) d_H_liveMinute_104 h (fun v36 u37 h => ?_)
            refine y_stk (stp0 := []) rfl ?_
            exact y_vret C hr hlocks d_H_liveMinute_107 h
      refine y_if_eq C 80 d_H_liveMinute_64 (by decide) hq23 (fun k24 hq23 => ?_) (fun k24 hq23 => ?_)
      · cases hq23
        exact y_sub [1, 2, 0] rfl hJq23
      · refine y_aload_n C (i := 2) 0 d_H_liveMinute_67 rfl rfl ?_
        refine y_gi C (q := (yR0, yT0, 8)) (ci := 0) (k := 3) rfl (by decide) rfl g_49 d_H_liveMinute_68 hq23 (fun x25 hq23 => ?_)
        refine y_if_le C 80 d_H_liveMinute_71 (by decide) hq23 (fun k26 hq23 => ?_) (fun k26 hq23 => ?_)
        · cases hq23
          exact y_sub [1, 2, 0] rfl hJq23
        · refine y_aload_n C (i := 1) 2 d_H_liveMinute_74 rfl rfl ?_
          refine y_aload_n C (i := 2) 0 d_H_liveMinute_75 rfl rfl ?_
          refine y_callV 1 C (q := (yR1, yT1, 10)) (ci := 1) (fun t out hh => c_U_sipFrom l w F u22 t r14 out hh) gc_H_liveMinute_101 rfl (by decide) hd_U_sipFrom ⟨Nat.le_of_ble_eq_true rfl, Nat.le_of_ble_eq_true rfl⟩ rfl rfl rfl rfl (by simp [y_cat, y_catI, y_catJ]) d_H_liveMinute_76 hq23 (fun x27 u28 hq23 => ?_)
          refine y_stk (stp0 := [.int x27]) rfl ?_
          refine y_pop C d_H_liveMinute_79 rfl ?_
          cases hq23
          exact y_sub [1, 2, 0] rfl hJq23
  refine y_if_eq C 33 d_H_liveMinute_4 (by decide) hq2 (fun k3 hq2 => ?_) (fun k3 hq2 => ?_)
  · cases hq2
    exact y_sub [0, 1] rfl hJq2
  · refine y_aload_n C (i := 0) 0 d_H_liveMinute_7 rfl rfl ?_
    refine y_gi C (q := (yR2, yT2, 9)) (ci := 2) (k := 5) rfl (by decide) rfl g_140 d_H_liveMinute_8 hq2 (fun x4 hq2 => ?_)
    refine y_aload_n C (i := 1) 1 d_H_liveMinute_11 rfl rfl ?_
    refine y_gi C (q := (yR1, yT1, 10)) (ci := 1) (k := 3) rfl (by decide) rfl g_91 d_H_liveMinute_12 hq2 (fun x5 hq2 => ?_)
    refine y_callN 2 C (host := "WhoseGlass") (fun out hh => c_X_isMultiple l w F u x4 x5 out hh) (y_gc g_288) (by decide +kernel) g_1 g_287 hn_X_isMultiple ⟨Nat.le_of_ble_eq_true rfl, Nat.le_of_ble_eq_true rfl⟩ rfl rfl rfl rfl (by simp [y_cat, y_catI, y_catJ]) d_H_liveMinute_15 hq2 (fun x6 u7 hq2 => ?_)
    refine y_stk (stp0 := [.int x6]) rfl ?_
    refine y_if_eq C 33 d_H_liveMinute_18 (by decide) hq2 (fun k8 hq2 => ?_) (fun k8 hq2 => ?_)
    · cases hq2
      exact y_sub [0, 1] rfl hJq2
    · refine y_aload_n C (i := 1) 1 d_H_liveMinute_21 rfl rfl ?_
      refine y_aload_n C (i := 0) 0 d_H_liveMinute_22 rfl rfl ?_
      refine y_aload_n C (i := 1) 1 d_H_liveMinute_23 rfl rfl ?_
      refine y_gi C (q := (yR1, yT1, 10)) (ci := 1) (k := 5) rfl (by decide) rfl g_96 d_H_liveMinute_24 hq2 (fun x9 hq2 => ?_)
      refine y_callV 1 C (q := (yR2, yT2, 9)) (ci := 2) (fun t out hh => c_H_placeBehind l w F u7 t x9 out hh) gc_H_liveMinute_84 rfl (by decide) hd_H_placeBehind ⟨Nat.le_of_ble_eq_true rfl, Nat.le_of_ble_eq_true rfl⟩ rfl rfl rfl rfl (by simp [y_cat, y_catI, y_catJ]) d_H_liveMinute_27 hq2 (fun x10 u11 hq2 => ?_)
      refine y_stk (stp0 := [.int x10, va_re w.1 a1]) rfl ?_
      refine y_pi C (q := (yR1, yT1, 10)) (ci := 1) (k := 5) rfl (by decide) rfl rfl (by decide +kernel) g_96 d_H_liveMinute_30 hq2 (fun u12 hq2 => ?_)
      cases hq2
      exact y_sub [0, 1] rfl hJq2
/-! H_passMinutes -/
theorem d_H_passMinutes_0 : decode prog_4_method_7_code 0 = .ok (.iconst 0, 1) := by decide +kernel
theorem d_H_passMinutes_1 : decode prog_4_method_7_code 1 = .ok (.istore_n 2, 1) := by decide +kernel
theorem d_H_passMinutes_2 : decode prog_4_method_7_code 2 = .ok (.iload_n 2, 1) := by decide +kernel
theorem d_H_passMinutes_3 : decode prog_4_method_7_code 3 = .ok (.iload_n 1, 1) := by decide +kernel
theorem d_H_passMinutes_4 : decode prog_4_method_7_code 4 = .ok (.if_icmp .ge 53, 3) := by decide +kernel
theorem d_H_passMinutes_7 : decode prog_4_method_7_code 7 = .ok (.iconst 0, 1) := by decide +kernel
theorem d_H_passMinutes_8 : decode prog_4_method_7_code 8 = .ok (.istore_n 3, 1) := by decide +kernel
theorem d_H_passMinutes_9 : decode prog_4_method_7_code 9 = .ok (.iload_n 3, 1) := by decide +kernel
theorem d_H_passMinutes_10 : decode prog_4_method_7_code 10 = .ok (.aload_n 0, 1) := by decide +kernel
theorem d_H_passMinutes_11 : decode prog_4_method_7_code 11 = .ok (.getfield 37, 3) := by decide +kernel
theorem d_H_passMinutes_14 : decode prog_4_method_7_code 14 = .ok (.if_icmp .ge 27, 3) := by decide +kernel
theorem d_H_passMinutes_17 : decode prog_4_method_7_code 17 = .ok (.aload_n 0, 1) := by decide +kernel
theorem d_H_passMinutes_18 : decode prog_4_method_7_code 18 = .ok (.iload_n 3, 1) := by decide +kernel
theorem d_H_passMinutes_19 : decode prog_4_method_7_code 19 = .ok (.invokevirtual 57, 3) := by decide +kernel
theorem d_H_passMinutes_22 : decode prog_4_method_7_code 22 = .ok (.astore 4, 2) := by decide +kernel
theorem d_H_passMinutes_24 : decode prog_4_method_7_code 24 = .ok (.aload 4, 2) := by decide +kernel
theorem d_H_passMinutes_26 : decode prog_4_method_7_code 26 = .ok (.ifnull 9, 3) := by decide +kernel
theorem d_H_passMinutes_29 : decode prog_4_method_7_code 29 = .ok (.aload_n 0, 1) := by decide +kernel
theorem d_H_passMinutes_30 : decode prog_4_method_7_code 30 = .ok (.aload 4, 2) := by decide +kernel
theorem d_H_passMinutes_32 : decode prog_4_method_7_code 32 = .ok (.invokevirtual 71, 3) := by decide +kernel
theorem d_H_passMinutes_35 : decode prog_4_method_7_code 35 = .ok (.iinc 3 1, 3) := by decide +kernel
theorem d_H_passMinutes_38 : decode prog_4_method_7_code 38 = .ok (.goto (-29), 3) := by decide +kernel
theorem d_H_passMinutes_41 : decode prog_4_method_7_code 41 = .ok (.aload_n 0, 1) := by decide +kernel
theorem d_H_passMinutes_42 : decode prog_4_method_7_code 42 = .ok (.dup, 1) := by decide +kernel
theorem d_H_passMinutes_43 : decode prog_4_method_7_code 43 = .ok (.getfield 40, 3) := by decide +kernel
theorem d_H_passMinutes_46 : decode prog_4_method_7_code 46 = .ok (.iconst 1, 1) := by decide +kernel
theorem d_H_passMinutes_47 : decode prog_4_method_7_code 47 = .ok (.iadd, 1) := by decide +kernel
theorem d_H_passMinutes_48 : decode prog_4_method_7_code 48 = .ok (.putfield 40, 3) := by decide +kernel
theorem d_H_passMinutes_51 : decode prog_4_method_7_code 51 = .ok (.iinc 2 1, 3) := by decide +kernel
theorem d_H_passMinutes_54 : decode prog_4_method_7_code 54 = .ok (.goto (-52), 3) := by decide +kernel
theorem d_H_passMinutes_57 : decode prog_4_method_7_code 57 = .ok (.return_, 1) := by decide +kernel
theorem gc_H_passMinutes_57 : GoodIn yGW (wsV "WhoseGlass$House" 57 yR2 m_H_guestAt ws_H_guestAt) := y_gV g_267 g_268 g_269 g_2 g_270
theorem gc_H_passMinutes_71 : GoodIn yGW (wsV "WhoseGlass$House" 71 yR2 m_H_liveMinute ws_H_liveMinute) := y_gV g_282 g_284 gs_1 g_2 g_285
set_option maxHeartbeats 4000000 in
set_option maxRecDepth 100000 in
def f_H_passMinutes_L9 (F : Nat) (a0 : Option Nat) (a1 : Int32) (a2 : Int32) (k : Mm → Option (Unit × Mm)) : Nat → Mm → Int32 → Option (Unit × Mm)
  | 0, _, _ => none
  | n + 1, u, a3 => ob (jgi YX 2 3 u a0) fun (x2 : Int32) => (if x2 ≤ a3 then k u  else ob (jk YX 2 a0) fun t => yb (f_H_guestAt F u t a3) fun r4 u5 => ob ((if r4 = none then some u5 else ob (jk YX 2 a0) fun t => yb (f_H_liveMinute F u5 t r4) fun v8 u9 => some u9) : Option (Mm)) fun q6 => ob (some (a3 + (1 : Int32))) fun (x10 : Int32) => f_H_passMinutes_L9 F a0 a1 a2 k n q6 x10)
set_option maxHeartbeats 4000000 in
set_option maxRecDepth 100000 in
theorem w_H_passMinutes_L9 {p : Program} {l : Launch} {e : Env} {s : State} {m : MethodId} {args : Array Value} {below : List Frame} {meth : Method} {c : Code} {w : WP} {Q : State → Prop} (F : Nat) (C : yX p e ({ frames := 4, cells := 0, slots := 0, locals := 101 } : Room) s m args c YX w 5 prog_4_method_7_code "WhoseGlass$House") (hr : meth.sig.returnType = none) (hlocks : meth.locks = false) (a0 : Option Nat) (a1 : Int32) (a2 : Int32) {out : Unit × Mm} (k : Mm → Option (Unit × Mm)) (hk : ∀ (u : Mm), k u  = some out → yG p l e ({ frames := 4, cells := 0, slots := 0, locals := 101 } : Room) s m args below meth c YX w 5 Q u 41 [(0, va_re w.1 a0), (1, .int a1), (2, .int a2)] []) : ∀ (n : Nat) (u : Mm) (a3 : Int32), f_H_passMinutes_L9 F a0 a1 a2 k n u a3 = some out → yG p l e ({ frames := 4, cells := 0, slots := 0, locals := 101 } : Room) s m args below meth c YX w 5 Q u 9 [(0, va_re w.1 a0), (1, .int a1), (2, .int a2), (3, .int a3)] [] := by
  intro n
  induction n with
  | zero => intro u a3 h; rw [f_H_passMinutes_L9] at h; cases h
  | succ n ih =>
    intro u a3 h
    rw [f_H_passMinutes_L9] at h
    refine y_iload_n C (i := 3) 3 d_H_passMinutes_9 rfl rfl ?_
    refine y_aload_n C (i := 0) 0 d_H_passMinutes_10 rfl rfl ?_
    refine y_gi C (q := (yR2, yT2, 9)) (ci := 2) (k := 3) rfl (by decide) rfl g_135 d_H_passMinutes_11 h (fun x2 h => ?_)
    refine y_ic_ge C 41 d_H_passMinutes_14 (by decide) h (fun k3 h => ?_) (fun k3 h => ?_)
    · exact y_sub [0, 1, 2] rfl (hk _ h)
    · refine y_aload_n C (i := 0) 0 d_H_passMinutes_17 rfl rfl ?_
      refine y_iload_n C (i := 3) 3 d_H_passMinutes_18 rfl rfl ?_
      refine y_callV 1 C (q := (yR2, yT2, 9)) (ci := 2) (fun t out hh => c_H_guestAt l w F u t a3 out hh) gc_H_passMinutes_57 rfl (by decide) hd_H_guestAt ⟨Nat.le_of_ble_eq_true rfl, Nat.le_of_ble_eq_true rfl⟩ rfl rfl rfl rfl (by simp [y_cat, y_catI, y_catJ]) d_H_passMinutes_19 h (fun r4 u5 h => ?_)
      refine y_stk (stp0 := [va_re w.1 r4]) rfl ?_
      refine y_astore C (i := 4) (lvp := [(0, va_re w.1 a0), (1, .int a1), (2, .int a2), (3, .int a3)]) d_H_passMinutes_22 (by decide) (by simp [List.filter, y_cat, y_catI, y_catJ]) ?_
      refine y_aload C (i := 4) 0 d_H_passMinutes_24 rfl ?_
      obtain ⟨q6, hq6, h⟩ := ob_e h
      have hJq6 : yG p l e ({ frames := 4, cells := 0, slots := 0, locals := 101 } : Room) s m args below meth c YX w 5 Q q6 35 [(0, va_re w.1 a0), (1, .int a1), (2, .int a2), (3, .int a3)] [] := by
        refine y_iinc C (j := 3) (v := 1) (lvp := [(0, va_re w.1 a0), (1, .int a1), (2, .int a2)]) d_H_passMinutes_35 rfl (by decide) (by decide) rfl h (fun x10 h => ?_)
        refine y_goto C (tgt := 9) d_H_passMinutes_38 (by decide) ?_
        exact y_sub [1, 2, 3, 0] rfl (ih _ _ h)
      refine y_ifnull C 35 d_H_passMinutes_26 (by decide) hq6 (fun k7 hq6 => ?_) (fun k7 hq6 => ?_)
      · cases hq6
        exact y_sub [1, 2, 3, 4] rfl hJq6
      · refine y_aload_n C (i := 0) 1 d_H_passMinutes_29 rfl rfl ?_
        refine y_aload C (i := 4) 0 d_H_passMinutes_30 rfl ?_
        refine y_callV 1 C (q := (yR2, yT2, 9)) (ci := 2) (fun t out hh => c_H_liveMinute l w F u5 t r4 out hh) gc_H_passMinutes_71 rfl (by decide) hd_H_liveMinute ⟨Nat.le_of_ble_eq_true rfl, Nat.le_of_ble_eq_true rfl⟩ rfl rfl rfl rfl (by simp [y_cat, y_catI, y_catJ]) d_H_passMinutes_32 hq6 (fun v8 u9 hq6 => ?_)
        refine y_stk (stp0 := []) rfl ?_
        cases hq6
        exact y_sub [1, 2, 3, 4] rfl hJq6
set_option maxHeartbeats 4000000 in
set_option maxRecDepth 100000 in
def f_H_passMinutes_L2 (F : Nat) (a0 : Option Nat) (a1 : Int32) (k : Mm → Option (Unit × Mm)) : Nat → Mm → Int32 → Option (Unit × Mm)
  | 0, _, _ => none
  | n + 1, u, a2 => (if a1 ≤ a2 then k u  else f_H_passMinutes_L9 F a0 a1 a2 (fun (u11 : Mm) => ob (jgi YX 2 5 u11 a0) fun (x12 : Int32) => ob (jpi YX 2 5 u11 a0 (x12 + (1 : Int32))) fun (u13 : Mm) => ob (some (a2 + (1 : Int32))) fun (x14 : Int32) => f_H_passMinutes_L2 F a0 a1 k n u13 x14) F u (0 : Int32))
set_option maxHeartbeats 4000000 in
set_option maxRecDepth 100000 in
theorem w_H_passMinutes_L2 {p : Program} {l : Launch} {e : Env} {s : State} {m : MethodId} {args : Array Value} {below : List Frame} {meth : Method} {c : Code} {w : WP} {Q : State → Prop} (F : Nat) (C : yX p e ({ frames := 4, cells := 0, slots := 0, locals := 101 } : Room) s m args c YX w 5 prog_4_method_7_code "WhoseGlass$House") (hr : meth.sig.returnType = none) (hlocks : meth.locks = false) (a0 : Option Nat) (a1 : Int32) {out : Unit × Mm} (k : Mm → Option (Unit × Mm)) (hk : ∀ (u : Mm), k u  = some out → yG p l e ({ frames := 4, cells := 0, slots := 0, locals := 101 } : Room) s m args below meth c YX w 5 Q u 57 [] []) : ∀ (n : Nat) (u : Mm) (a2 : Int32), f_H_passMinutes_L2 F a0 a1 k n u a2 = some out → yG p l e ({ frames := 4, cells := 0, slots := 0, locals := 101 } : Room) s m args below meth c YX w 5 Q u 2 [(0, va_re w.1 a0), (1, .int a1), (2, .int a2)] [] := by
  intro n
  induction n with
  | zero => intro u a2 h; rw [f_H_passMinutes_L2] at h; cases h
  | succ n ih =>
    intro u a2 h
    rw [f_H_passMinutes_L2] at h
    refine y_iload_n C (i := 2) 2 d_H_passMinutes_2 rfl rfl ?_
    refine y_iload_n C (i := 1) 1 d_H_passMinutes_3 rfl rfl ?_
    refine y_ic_ge C 57 d_H_passMinutes_4 (by decide) h (fun k1 h => ?_) (fun k1 h => ?_)
    · exact y_sub [] rfl (hk _ h)
    · refine y_iconst C (v := 0) d_H_passMinutes_7 (by decide) ?_
      refine y_istore_n C (i := 3) (lvp := [(0, va_re w.1 a0), (1, .int a1), (2, .int a2)]) d_H_passMinutes_8 rfl (by decide) rfl ?_
      refine y_sub [1, 2, 3, 0] rfl (w_H_passMinutes_L9 F C hr hlocks _ _ _ _ (fun u11 h => ?_) _ _ _ h)
      refine y_aload_n C (i := 0) 0 d_H_passMinutes_41 rfl rfl ?_
      refine y_dup C d_H_passMinutes_42 (y_cat _ _) ?_
      refine y_gi C (q := (yR2, yT2, 9)) (ci := 2) (k := 5) rfl (by decide) rfl g_140 d_H_passMinutes_43 h (fun x12 h => ?_)
      refine y_iconst C (v := 1) d_H_passMinutes_46 (by decide) ?_
      refine y_iadd C d_H_passMinutes_47 ?_
      refine y_pi C (q := (yR2, yT2, 9)) (ci := 2) (k := 5) rfl (by decide) rfl rfl (by decide +kernel) g_140 d_H_passMinutes_48 h (fun u13 h => ?_)
      refine y_iinc C (j := 2) (v := 1) (lvp := [(0, va_re w.1 a0), (1, .int a1)]) d_H_passMinutes_51 rfl (by decide) (by decide) rfl h (fun x14 h => ?_)
      refine y_goto C (tgt := 2) d_H_passMinutes_54 (by decide) ?_
      exact y_sub [1, 2, 0] rfl (ih _ _ h)
set_option maxRecDepth 100000 in
def f_H_passMinutes (F : Nat) (u : Mm) (o : Nat) (a1 : Int32) : Option (Unit × Mm) := f_H_passMinutes_L2 F (some o) a1 (fun (u15 : Mm) => some ((), u15)) F u (0 : Int32)
set_option maxHeartbeats 4000000 in
set_option maxRecDepth 100000 in
theorem c_H_passMinutes (l : Launch) (w : WP) (F : Nat) (u : Mm) (o : Nat) (a1 : Int32) (out : Unit × Mm) (h : f_H_passMinutes F u o a1 = some out) : yMet l m_H_passMinutes ws_H_passMinutes ({ frames := 4, cells := 0, slots := 0, locals := 101 } : Room) YX w u [va_re w.1 (some o), .int a1] yfv out := by
  refine y_entry (own := "WhoseGlass$House") (lv := [(0, va_re w.1 (some o)), (1, .int a1)]) (by decide +kernel) rfl (by simp [lv_args, y_cat, y_catI, y_catJ]) (by simp [lg_sl, y_cat, y_catI, y_catJ]) ?_
  intro p e s m args below meth c C hr hlocks
  unfold f_H_passMinutes at h
  refine y_iconst C (v := 0) d_H_passMinutes_0 (by decide) ?_
  refine y_istore_n C (i := 2) (lvp := [(0, va_re w.1 (some o)), (1, .int a1)]) d_H_passMinutes_1 rfl (by decide) rfl ?_
  refine y_sub [1, 2, 0] rfl (w_H_passMinutes_L2 F C hr hlocks _ _ _ (fun u15 h => ?_) _ _ _ h)
  exact y_vret C hr hlocks d_H_passMinutes_57 h
/-! T_digit -/
theorem d_T_digit_0 : decode prog_5_method_11_code 0 = .ok (.aload_n 0, 1) := by decide +kernel
theorem d_T_digit_1 : decode prog_5_method_11_code 1 = .ok (.iload_n 1, 1) := by decide +kernel
theorem d_T_digit_2 : decode prog_5_method_11_code 2 = .ok (.invokevirtual 25, 3) := by decide +kernel
theorem d_T_digit_5 : decode prog_5_method_11_code 5 = .ok (.bipush 48, 2) := by decide +kernel
theorem d_T_digit_7 : decode prog_5_method_11_code 7 = .ok (.isub, 1) := by decide +kernel
theorem d_T_digit_8 : decode prog_5_method_11_code 8 = .ok (.ireturn, 1) := by decide +kernel
theorem gc_T_digit_25 : GoodIn yGW (wsV "WhoseGlass$HouseText" 25 yR3 m_S_elementAt ws_S_elementAt) := y_gV g_236 g_237 g_238 g_5 g_239
set_option maxRecDepth 100000 in
def f_T_digit (F : Nat) (u : Mm) (a0 : Option Nat) (a1 : Int32) : Option (Int32 × Mm) := ob (jk YX 3 a0) fun t => yb (f_S_elementAt F u t a1) fun x1 u2 => some ((x1 - (48 : Int32)), u2)
set_option maxHeartbeats 4000000 in
set_option maxRecDepth 100000 in
theorem c_T_digit (l : Launch) (w : WP) (F : Nat) (u : Mm) (a0 : Option Nat) (a1 : Int32) (out : Int32 × Mm) (h : f_T_digit F u a0 a1 = some out) : yMet l m_T_digit ws_T_digit ({ frames := 1, cells := 0, slots := 0, locals := 21 } : Room) YX w u [va_re w.1 a0, .int a1] yfi out := by
  refine y_entry (own := "WhoseGlass$HouseText") (lv := [(0, va_re w.1 a0), (1, .int a1)]) (by decide +kernel) rfl (by simp [lv_args, y_cat, y_catI, y_catJ]) (by simp [lg_sl, y_cat, y_catI, y_catJ]) ?_
  intro p e s m args below meth c C hr hlocks
  unfold f_T_digit at h
  refine y_aload_n C (i := 0) 0 d_T_digit_0 rfl rfl ?_
  refine y_iload_n C (i := 1) 1 d_T_digit_1 rfl rfl ?_
  refine y_callV 1 C (q := (yR3, yT3, 6)) (ci := 3) (fun t out hh => c_S_elementAt l w F u t a1 out hh) gc_T_digit_25 rfl (by decide) hd_S_elementAt ⟨Nat.le_of_ble_eq_true rfl, Nat.le_of_ble_eq_true rfl⟩ rfl rfl rfl rfl (by simp [y_cat, y_catI, y_catJ]) d_T_digit_2 h (fun x1 u2 h => ?_)
  refine y_stk (stp0 := [.int x1]) rfl ?_
  refine y_bipush C (v := 48) d_T_digit_5 (by decide) ?_
  refine y_isub C d_T_digit_7 ?_
  exact y_iret C hr hlocks d_T_digit_8 h
/-! X_isBelow -/
theorem d_X_isBelow_0 : decode prog_1_method_42_code 0 = .ok (.iload_n 0, 1) := by decide +kernel
theorem d_X_isBelow_1 : decode prog_1_method_42_code 1 = .ok (.ifCond .lt 12, 3) := by decide +kernel
theorem d_X_isBelow_4 : decode prog_1_method_42_code 4 = .ok (.iload_n 0, 1) := by decide +kernel
theorem d_X_isBelow_5 : decode prog_1_method_42_code 5 = .ok (.iload_n 1, 1) := by decide +kernel
theorem d_X_isBelow_6 : decode prog_1_method_42_code 6 = .ok (.if_icmp .ge 7, 3) := by decide +kernel
theorem d_X_isBelow_9 : decode prog_1_method_42_code 9 = .ok (.iconst 1, 1) := by decide +kernel
theorem d_X_isBelow_10 : decode prog_1_method_42_code 10 = .ok (.goto 4, 3) := by decide +kernel
theorem d_X_isBelow_13 : decode prog_1_method_42_code 13 = .ok (.iconst 0, 1) := by decide +kernel
theorem d_X_isBelow_14 : decode prog_1_method_42_code 14 = .ok (.ireturn, 1) := by decide +kernel
set_option maxRecDepth 100000 in
def f_X_isBelow (F : Nat) (u : Mm) (a0 : Int32) (a1 : Int32) : Option (Int32 × Mm) := (if a0 < 0 then ob (jz (0 : Int32)) (fun v => some (v, u)) else (if a1 ≤ a0 then ob (jz (0 : Int32)) (fun v => some (v, u)) else ob (jz (1 : Int32)) (fun v => some (v, u))))
set_option maxHeartbeats 4000000 in
set_option maxRecDepth 100000 in
theorem c_X_isBelow (l : Launch) (w : WP) (F : Nat) (u : Mm) (a0 : Int32) (a1 : Int32) (out : Int32 × Mm) (h : f_X_isBelow F u a0 a1 = some out) : yMet l m_X_isBelow ws_X_isBelow ({ frames := 0, cells := 0, slots := 0, locals := 0 } : Room) YX w u [.int a0, .int a1] yfi out := by
  refine y_entry (own := "WhoseGlass") (lv := [(0, .int a0), (1, .int a1)]) (by decide +kernel) rfl (by simp [lv_args, y_cat, y_catI, y_catJ]) (by simp [lg_sl, y_cat, y_catI, y_catJ]) ?_
  intro p e s m args below meth c C hr hlocks
  unfold f_X_isBelow at h
  refine y_iload_n C (i := 0) 0 d_X_isBelow_0 rfl rfl ?_
  refine y_if_lt C 13 d_X_isBelow_1 (by decide) h (fun k1 h => ?_) (fun k1 h => ?_)
  · refine y_iconst C (v := 0) d_X_isBelow_13 (by decide) ?_
    exact y_zret C hr hlocks d_X_isBelow_14 h
  · refine y_iload_n C (i := 0) 0 d_X_isBelow_4 rfl rfl ?_
    refine y_iload_n C (i := 1) 1 d_X_isBelow_5 rfl rfl ?_
    refine y_ic_ge C 13 d_X_isBelow_6 (by decide) h (fun k2 h => ?_) (fun k2 h => ?_)
    · refine y_iconst C (v := 0) d_X_isBelow_13 (by decide) ?_
      exact y_zret C hr hlocks d_X_isBelow_14 h
    · refine y_iconst C (v := 1) d_X_isBelow_9 (by decide) ?_
      refine y_goto C (tgt := 14) d_X_isBelow_10 (by decide) ?_
      exact y_zret C hr hlocks d_X_isBelow_14 h
/-! T_glassStands -/
theorem d_T_glassStands_0 : decode prog_5_method_13_code 0 = .ok (.aload_n 0, 1) := by decide +kernel
theorem d_T_glassStands_1 : decode prog_5_method_13_code 1 = .ok (.iload_n 1, 1) := by decide +kernel
theorem d_T_glassStands_2 : decode prog_5_method_13_code 2 = .ok (.iconst 1, 1) := by decide +kernel
theorem d_T_glassStands_3 : decode prog_5_method_13_code 3 = .ok (.iadd, 1) := by decide +kernel
theorem d_T_glassStands_4 : decode prog_5_method_13_code 4 = .ok (.invokestatic 73, 3) := by decide +kernel
theorem d_T_glassStands_7 : decode prog_5_method_13_code 7 = .ok (.istore_n 3, 1) := by decide +kernel
theorem d_T_glassStands_8 : decode prog_5_method_13_code 8 = .ok (.aload_n 0, 1) := by decide +kernel
theorem d_T_glassStands_9 : decode prog_5_method_13_code 9 = .ok (.iload_n 1, 1) := by decide +kernel
theorem d_T_glassStands_10 : decode prog_5_method_13_code 10 = .ok (.iconst 4, 1) := by decide +kernel
theorem d_T_glassStands_11 : decode prog_5_method_13_code 11 = .ok (.iadd, 1) := by decide +kernel
theorem d_T_glassStands_12 : decode prog_5_method_13_code 12 = .ok (.invokestatic 73, 3) := by decide +kernel
theorem d_T_glassStands_15 : decode prog_5_method_13_code 15 = .ok (.istore 4, 2) := by decide +kernel
theorem d_T_glassStands_17 : decode prog_5_method_13_code 17 = .ok (.iload_n 3, 1) := by decide +kernel
theorem d_T_glassStands_18 : decode prog_5_method_13_code 18 = .ok (.bipush 8, 2) := by decide +kernel
theorem d_T_glassStands_20 : decode prog_5_method_13_code 20 = .ok (.invokestatic 76, 3) := by decide +kernel
theorem d_T_glassStands_23 : decode prog_5_method_13_code 23 = .ok (.ifCond .eq 13, 3) := by decide +kernel
theorem d_T_glassStands_26 : decode prog_5_method_13_code 26 = .ok (.iload 4, 2) := by decide +kernel
theorem d_T_glassStands_28 : decode prog_5_method_13_code 28 = .ok (.bipush 6, 2) := by decide +kernel
theorem d_T_glassStands_30 : decode prog_5_method_13_code 30 = .ok (.invokestatic 76, 3) := by decide +kernel
theorem d_T_glassStands_33 : decode prog_5_method_13_code 33 = .ok (.ifCond .ne 5, 3) := by decide +kernel
theorem d_T_glassStands_36 : decode prog_5_method_13_code 36 = .ok (.iconst 0, 1) := by decide +kernel
theorem d_T_glassStands_37 : decode prog_5_method_13_code 37 = .ok (.ireturn, 1) := by decide +kernel
theorem d_T_glassStands_38 : decode prog_5_method_13_code 38 = .ok (.aload_n 2, 1) := by decide +kernel
theorem d_T_glassStands_39 : decode prog_5_method_13_code 39 = .ok (.iload_n 3, 1) := by decide +kernel
theorem d_T_glassStands_40 : decode prog_5_method_13_code 40 = .ok (.aload_n 0, 1) := by decide +kernel
theorem d_T_glassStands_41 : decode prog_5_method_13_code 41 = .ok (.iload_n 1, 1) := by decide +kernel
theorem d_T_glassStands_42 : decode prog_5_method_13_code 42 = .ok (.iconst 2, 1) := by decide +kernel
theorem d_T_glassStands_43 : decode prog_5_method_13_code 43 = .ok (.iadd, 1) := by decide +kernel
theorem d_T_glassStands_44 : decode prog_5_method_13_code 44 = .ok (.invokestatic 73, 3) := by decide +kernel
theorem d_T_glassStands_47 : decode prog_5_method_13_code 47 = .ok (.aload_n 0, 1) := by decide +kernel
theorem d_T_glassStands_48 : decode prog_5_method_13_code 48 = .ok (.iload_n 1, 1) := by decide +kernel
theorem d_T_glassStands_49 : decode prog_5_method_13_code 49 = .ok (.iconst 3, 1) := by decide +kernel
theorem d_T_glassStands_50 : decode prog_5_method_13_code 50 = .ok (.iadd, 1) := by decide +kernel
theorem d_T_glassStands_51 : decode prog_5_method_13_code 51 = .ok (.invokestatic 73, 3) := by decide +kernel
theorem d_T_glassStands_54 : decode prog_5_method_13_code 54 = .ok (.invokevirtual 80, 3) := by decide +kernel
theorem d_T_glassStands_57 : decode prog_5_method_13_code 57 = .ok (.astore 5, 2) := by decide +kernel
theorem d_T_glassStands_59 : decode prog_5_method_13_code 59 = .ok (.aload 5, 2) := by decide +kernel
theorem d_T_glassStands_61 : decode prog_5_method_13_code 61 = .ok (.ifnonnull 5, 3) := by decide +kernel
theorem d_T_glassStands_64 : decode prog_5_method_13_code 64 = .ok (.iconst 0, 1) := by decide +kernel
theorem d_T_glassStands_65 : decode prog_5_method_13_code 65 = .ok (.ireturn, 1) := by decide +kernel
theorem d_T_glassStands_66 : decode prog_5_method_13_code 66 = .ok (.aload 5, 2) := by decide +kernel
theorem d_T_glassStands_68 : decode prog_5_method_13_code 68 = .ok (.iload 4, 2) := by decide +kernel
theorem d_T_glassStands_70 : decode prog_5_method_13_code 70 = .ok (.aload_n 2, 1) := by decide +kernel
theorem d_T_glassStands_71 : decode prog_5_method_13_code 71 = .ok (.getfield 36, 3) := by decide +kernel
theorem d_T_glassStands_74 : decode prog_5_method_13_code 74 = .ok (.invokevirtual 84, 3) := by decide +kernel
theorem d_T_glassStands_77 : decode prog_5_method_13_code 77 = .ok (.iconst 1, 1) := by decide +kernel
theorem d_T_glassStands_78 : decode prog_5_method_13_code 78 = .ok (.ireturn, 1) := by decide +kernel
theorem gc_T_glassStands_80 : GoodIn yGW (wsV "WhoseGlass$HouseText" 80 yR2 m_H_addGlass ws_H_addGlass) := y_gV g_345 g_310 g_311 g_2 g_312
theorem gc_T_glassStands_84 : GoodIn yGW (wsV "WhoseGlass$HouseText" 84 yR0 m_G_layAt ws_G_layAt) := y_gV g_346 g_330 g_331 g_3 g_332
set_option maxRecDepth 100000 in
def f_T_glassStands (F : Nat) (u : Mm) (a0 : Option Nat) (a1 : Int32) (a2 : Option Nat) : Option (Int32 × Mm) := yb (f_T_digit F u a0 (a1 + (1 : Int32))) fun x1 u2 => yb (f_T_digit F u2 a0 (a1 + (4 : Int32))) fun x3 u4 => yb (f_X_isBelow F u4 x1 (8 : Int32)) fun x5 u6 => (if x5 = 0 then ob (jz (0 : Int32)) (fun v => some (v, u6)) else yb (f_X_isBelow F u6 x3 (6 : Int32)) fun x8 u9 => (if x8 = 0 then ob (jz (0 : Int32)) (fun v => some (v, u9)) else yb (f_T_digit F u9 a0 (a1 + (2 : Int32))) fun x11 u12 => yb (f_T_digit F u12 a0 (a1 + (3 : Int32))) fun x13 u14 => ob (jk YX 2 a2) fun t => yb (f_H_addGlass F u14 t x1 x11 x13) fun r15 u16 => (if r15 = none then ob (jz (0 : Int32)) (fun v => some (v, u16)) else ob (jgi YX 2 5 u16 a2) fun (x18 : Int32) => ob (jk YX 0 r15) fun t => yb (f_G_layAt F u16 t x3 x18) fun v19 u20 => ob (jz (1 : Int32)) (fun v => some (v, u20)))))
set_option maxHeartbeats 4000000 in
set_option maxRecDepth 100000 in
theorem c_T_glassStands (l : Launch) (w : WP) (F : Nat) (u : Mm) (a0 : Option Nat) (a1 : Int32) (a2 : Option Nat) (out : Int32 × Mm) (h : f_T_glassStands F u a0 a1 a2 = some out) : yMet l m_T_glassStands ws_T_glassStands ({ frames := 2, cells := 0, slots := 0, locals := 47 } : Room) YX w u [va_re w.1 a0, .int a1, va_re w.1 a2] yfi out := by
  refine y_entry (own := "WhoseGlass$HouseText") (lv := [(0, va_re w.1 a0), (1, .int a1), (2, va_re w.1 a2)]) (by decide +kernel) rfl (by simp [lv_args, y_cat, y_catI, y_catJ]) (by simp [lg_sl, y_cat, y_catI, y_catJ]) ?_
  intro p e s m args below meth c C hr hlocks
  unfold f_T_glassStands at h
  refine y_aload_n C (i := 0) 0 d_T_glassStands_0 rfl rfl ?_
  refine y_iload_n C (i := 1) 1 d_T_glassStands_1 rfl rfl ?_
  refine y_iconst C (v := 1) d_T_glassStands_2 (by decide) ?_
  refine y_iadd C d_T_glassStands_3 ?_
  refine y_callS 2 C (fun out hh => c_T_digit l w F u a0 (a1 + (1 : Int32)) out hh) (y_gc g_341) g_339 g_7 g_340 hn_T_digit ⟨Nat.le_of_ble_eq_true rfl, Nat.le_of_ble_eq_true rfl⟩ rfl rfl rfl rfl (by simp [y_cat, y_catI, y_catJ]) d_T_glassStands_4 h (fun x1 u2 h => ?_)
  refine y_stk (stp0 := [.int x1]) rfl ?_
  refine y_istore_n C (i := 3) (lvp := [(0, va_re w.1 a0), (1, .int a1), (2, va_re w.1 a2)]) d_T_glassStands_7 rfl (by decide) (by simp [List.filter, y_cat, y_catI, y_catJ]) ?_
  refine y_aload_n C (i := 0) 1 d_T_glassStands_8 rfl rfl ?_
  refine y_iload_n C (i := 1) 2 d_T_glassStands_9 rfl rfl ?_
  refine y_iconst C (v := 4) d_T_glassStands_10 (by decide) ?_
  refine y_iadd C d_T_glassStands_11 ?_
  refine y_callS 2 C (fun out hh => c_T_digit l w F u2 a0 (a1 + (4 : Int32)) out hh) (y_gc g_341) g_339 g_7 g_340 hn_T_digit ⟨Nat.le_of_ble_eq_true rfl, Nat.le_of_ble_eq_true rfl⟩ rfl rfl rfl rfl (by simp [y_cat, y_catI, y_catJ]) d_T_glassStands_12 h (fun x3 u4 h => ?_)
  refine y_stk (stp0 := [.int x3]) rfl ?_
  refine y_istore C (i := 4) (lvp := [(3, .int x1), (0, va_re w.1 a0), (1, .int a1), (2, va_re w.1 a2)]) d_T_glassStands_15 (by decide) rfl ?_
  refine y_iload_n C (i := 3) 1 d_T_glassStands_17 rfl rfl ?_
  refine y_bipush C (v := 8) d_T_glassStands_18 (by decide) ?_
  refine y_callN 2 C (host := "WhoseGlass") (fun out hh => c_X_isBelow l w F u4 x1 (8 : Int32) out hh) (y_gc g_344) (by decide +kernel) g_1 g_343 hn_X_isBelow ⟨Nat.le_of_ble_eq_true rfl, Nat.le_of_ble_eq_true rfl⟩ rfl rfl rfl rfl (by simp [y_cat, y_catI, y_catJ]) d_T_glassStands_20 h (fun x5 u6 h => ?_)
  refine y_stk (stp0 := [.int x5]) rfl ?_
  refine y_if_eq C 36 d_T_glassStands_23 (by decide) h (fun k7 h => ?_) (fun k7 h => ?_)
  · refine y_iconst C (v := 0) d_T_glassStands_36 (by decide) ?_
    exact y_zret C hr hlocks d_T_glassStands_37 h
  · refine y_iload C (i := 4) 0 d_T_glassStands_26 rfl ?_
    refine y_bipush C (v := 6) d_T_glassStands_28 (by decide) ?_
    refine y_callN 2 C (host := "WhoseGlass") (fun out hh => c_X_isBelow l w F u6 x3 (6 : Int32) out hh) (y_gc g_344) (by decide +kernel) g_1 g_343 hn_X_isBelow ⟨Nat.le_of_ble_eq_true rfl, Nat.le_of_ble_eq_true rfl⟩ rfl rfl rfl rfl (by simp [y_cat, y_catI, y_catJ]) d_T_glassStands_30 h (fun x8 u9 h => ?_)
    refine y_stk (stp0 := [.int x8]) rfl ?_
    refine y_if_ne C 38 d_T_glassStands_33 (by decide) h (fun k10 h => ?_) (fun k10 h => ?_)
    · refine y_iconst C (v := 0) d_T_glassStands_36 (by decide) ?_
      exact y_zret C hr hlocks d_T_glassStands_37 h
    · refine y_aload_n C (i := 2) 4 d_T_glassStands_38 rfl rfl ?_
      refine y_iload_n C (i := 3) 1 d_T_glassStands_39 rfl rfl ?_
      refine y_aload_n C (i := 0) 2 d_T_glassStands_40 rfl rfl ?_
      refine y_iload_n C (i := 1) 3 d_T_glassStands_41 rfl rfl ?_
      refine y_iconst C (v := 2) d_T_glassStands_42 (by decide) ?_
      refine y_iadd C d_T_glassStands_43 ?_
      refine y_callS 2 C (fun out hh => c_T_digit l w F u9 a0 (a1 + (2 : Int32)) out hh) (y_gc g_341) g_339 g_7 g_340 hn_T_digit ⟨Nat.le_of_ble_eq_true rfl, Nat.le_of_ble_eq_true rfl⟩ rfl rfl rfl rfl (by simp [y_cat, y_catI, y_catJ]) d_T_glassStands_44 h (fun x11 u12 h => ?_)
      refine y_stk (stp0 := [.int x11, .int x1, va_re w.1 a2]) rfl ?_
      refine y_aload_n C (i := 0) 2 d_T_glassStands_47 rfl rfl ?_
      refine y_iload_n C (i := 1) 3 d_T_glassStands_48 rfl rfl ?_
      refine y_iconst C (v := 3) d_T_glassStands_49 (by decide) ?_
      refine y_iadd C d_T_glassStands_50 ?_
      refine y_callS 2 C (fun out hh => c_T_digit l w F u12 a0 (a1 + (3 : Int32)) out hh) (y_gc g_341) g_339 g_7 g_340 hn_T_digit ⟨Nat.le_of_ble_eq_true rfl, Nat.le_of_ble_eq_true rfl⟩ rfl rfl rfl rfl (by simp [y_cat, y_catI, y_catJ]) d_T_glassStands_51 h (fun x13 u14 h => ?_)
      refine y_stk (stp0 := [.int x13, .int x11, .int x1, va_re w.1 a2]) rfl ?_
      refine y_callV 3 C (q := (yR2, yT2, 9)) (ci := 2) (fun t out hh => c_H_addGlass l w F u14 t x1 x11 x13 out hh) gc_T_glassStands_80 rfl (by decide) hd_H_addGlass ⟨Nat.le_of_ble_eq_true rfl, Nat.le_of_ble_eq_true rfl⟩ rfl rfl rfl rfl (by simp [y_cat, y_catI, y_catJ]) d_T_glassStands_54 h (fun r15 u16 h => ?_)
      refine y_stk (stp0 := [va_re w.1 r15]) rfl ?_
      refine y_astore C (i := 5) (lvp := [(4, .int x3), (3, .int x1), (0, va_re w.1 a0), (1, .int a1), (2, va_re w.1 a2)]) d_T_glassStands_57 (by decide) (by simp [List.filter, y_cat, y_catI, y_catJ]) ?_
      refine y_aload C (i := 5) 0 d_T_glassStands_59 rfl ?_
      refine y_ifnonnull C 66 d_T_glassStands_61 (by decide) h (fun k17 h => ?_) (fun k17 h => ?_)
      · refine y_iconst C (v := 0) d_T_glassStands_64 (by decide) ?_
        exact y_zret C hr hlocks d_T_glassStands_65 h
      · refine y_aload C (i := 5) 0 d_T_glassStands_66 rfl ?_
        refine y_iload C (i := 4) 1 d_T_glassStands_68 rfl ?_
        refine y_aload_n C (i := 2) 5 d_T_glassStands_70 rfl rfl ?_
        refine y_gi C (q := (yR2, yT2, 9)) (ci := 2) (k := 5) rfl (by decide) rfl g_141 d_T_glassStands_71 h (fun x18 h => ?_)
        refine y_callV 2 C (q := (yR0, yT0, 8)) (ci := 0) (fun t out hh => c_G_layAt l w F u16 t x3 x18 out hh) gc_T_glassStands_84 rfl (by decide) hd_G_layAt ⟨Nat.le_of_ble_eq_true rfl, Nat.le_of_ble_eq_true rfl⟩ rfl rfl rfl rfl (by simp [y_cat, y_catI, y_catJ]) d_T_glassStands_74 h (fun v19 u20 h => ?_)
        refine y_stk (stp0 := []) rfl ?_
        refine y_iconst C (v := 1) d_T_glassStands_77 (by decide) ?_
        exact y_zret C hr hlocks d_T_glassStands_78 h
end
section
/-! U_begin -/
theorem d_U_begin_0 : decode prog_3_method_2_code 0 = .ok (.aload_n 0, 1) := by decide +kernel
theorem d_U_begin_1 : decode prog_3_method_2_code 1 = .ok (.iload_n 1, 1) := by decide +kernel
theorem d_U_begin_2 : decode prog_3_method_2_code 2 = .ok (.putfield 15, 3) := by decide +kernel
theorem d_U_begin_5 : decode prog_3_method_2_code 5 = .ok (.aload_n 0, 1) := by decide +kernel
theorem d_U_begin_6 : decode prog_3_method_2_code 6 = .ok (.iload_n 2, 1) := by decide +kernel
theorem d_U_begin_7 : decode prog_3_method_2_code 7 = .ok (.putfield 18, 3) := by decide +kernel
theorem d_U_begin_10 : decode prog_3_method_2_code 10 = .ok (.aload_n 0, 1) := by decide +kernel
theorem d_U_begin_11 : decode prog_3_method_2_code 11 = .ok (.iload_n 3, 1) := by decide +kernel
theorem d_U_begin_12 : decode prog_3_method_2_code 12 = .ok (.putfield 21, 3) := by decide +kernel
theorem d_U_begin_15 : decode prog_3_method_2_code 15 = .ok (.aload_n 0, 1) := by decide +kernel
theorem d_U_begin_16 : decode prog_3_method_2_code 16 = .ok (.iload 4, 2) := by decide +kernel
theorem d_U_begin_18 : decode prog_3_method_2_code 18 = .ok (.putfield 24, 3) := by decide +kernel
theorem d_U_begin_21 : decode prog_3_method_2_code 21 = .ok (.aload_n 0, 1) := by decide +kernel
theorem d_U_begin_22 : decode prog_3_method_2_code 22 = .ok (.iload 5, 2) := by decide +kernel
theorem d_U_begin_24 : decode prog_3_method_2_code 24 = .ok (.putfield 27, 3) := by decide +kernel
theorem d_U_begin_27 : decode prog_3_method_2_code 27 = .ok (.aload_n 0, 1) := by decide +kernel
theorem d_U_begin_28 : decode prog_3_method_2_code 28 = .ok (.bipush (-4), 2) := by decide +kernel
theorem d_U_begin_30 : decode prog_3_method_2_code 30 = .ok (.putfield 30, 3) := by decide +kernel
theorem d_U_begin_33 : decode prog_3_method_2_code 33 = .ok (.aload_n 0, 1) := by decide +kernel
theorem d_U_begin_34 : decode prog_3_method_2_code 34 = .ok (.bipush (-4), 2) := by decide +kernel
theorem d_U_begin_36 : decode prog_3_method_2_code 36 = .ok (.putfield 33, 3) := by decide +kernel
theorem d_U_begin_39 : decode prog_3_method_2_code 39 = .ok (.aload_n 0, 1) := by decide +kernel
theorem d_U_begin_40 : decode prog_3_method_2_code 40 = .ok (.iconst 0, 1) := by decide +kernel
theorem d_U_begin_41 : decode prog_3_method_2_code 41 = .ok (.putfield 36, 3) := by decide +kernel
theorem d_U_begin_44 : decode prog_3_method_2_code 44 = .ok (.aload_n 0, 1) := by decide +kernel
theorem d_U_begin_45 : decode prog_3_method_2_code 45 = .ok (.iconst 0, 1) := by decide +kernel
theorem d_U_begin_46 : decode prog_3_method_2_code 46 = .ok (.putfield 39, 3) := by decide +kernel
theorem d_U_begin_49 : decode prog_3_method_2_code 49 = .ok (.return_, 1) := by decide +kernel
set_option maxRecDepth 100000 in
def f_U_begin (F : Nat) (u : Mm) (o : Nat) (a1 : Int32) (a2 : Int32) (a3 : Int32) (a4 : Int32) (a5 : Int32) : Option (Unit × Mm) := ob (jpi YX 1 1 u (some o) a1) fun (u1 : Mm) => ob (jpi YX 1 2 u1 (some o) a2) fun (u2 : Mm) => ob (jpi YX 1 3 u2 (some o) a3) fun (u3 : Mm) => ob (jpi YX 1 4 u3 (some o) a4) fun (u4 : Mm) => ob (jpi YX 1 5 u4 (some o) a5) fun (u5 : Mm) => ob (jpi YX 1 6 u5 (some o) (-4 : Int32)) fun (u6 : Mm) => ob (jpi YX 1 7 u6 (some o) (-4 : Int32)) fun (u7 : Mm) => ob (jpi YX 1 8 u7 (some o) (0 : Int32)) fun (u8 : Mm) => ob (jpz YX 1 9 u8 (some o) (0 : Int32)) fun (u9 : Mm) => some ((), u9)
set_option maxHeartbeats 4000000 in
set_option maxRecDepth 100000 in
theorem c_U_begin (l : Launch) (w : WP) (F : Nat) (u : Mm) (o : Nat) (a1 : Int32) (a2 : Int32) (a3 : Int32) (a4 : Int32) (a5 : Int32) (out : Unit × Mm) (h : f_U_begin F u o a1 a2 a3 a4 a5 = some out) : yMet l m_U_begin ws_U_begin ({ frames := 0, cells := 0, slots := 0, locals := 0 } : Room) YX w u [va_re w.1 (some o), .int a1, .int a2, .int a3, .int a4, .int a5] yfv out := by
  refine y_entry (own := "WhoseGlass$Guest") (lv := [(0, va_re w.1 (some o)), (1, .int a1), (2, .int a2), (3, .int a3), (4, .int a4), (5, .int a5)]) (by decide +kernel) rfl (by simp [lv_args, y_cat, y_catI, y_catJ]) (by simp [lg_sl, y_cat, y_catI, y_catJ]) ?_
  intro p e s m args below meth c C hr hlocks
  unfold f_U_begin at h
  refine y_aload_n C (i := 0) 0 d_U_begin_0 rfl rfl ?_
  refine y_iload_n C (i := 1) 1 d_U_begin_1 rfl rfl ?_
  refine y_pi C (q := (yR1, yT1, 10)) (ci := 1) (k := 1) rfl (by decide) rfl rfl (by decide +kernel) g_86 d_U_begin_2 h (fun u1 h => ?_)
  refine y_aload_n C (i := 0) 0 d_U_begin_5 rfl rfl ?_
  refine y_iload_n C (i := 2) 2 d_U_begin_6 rfl rfl ?_
  refine y_pi C (q := (yR1, yT1, 10)) (ci := 1) (k := 2) rfl (by decide) rfl rfl (by decide +kernel) g_88 d_U_begin_7 h (fun u2 h => ?_)
  refine y_aload_n C (i := 0) 0 d_U_begin_10 rfl rfl ?_
  refine y_iload_n C (i := 3) 3 d_U_begin_11 rfl rfl ?_
  refine y_pi C (q := (yR1, yT1, 10)) (ci := 1) (k := 3) rfl (by decide) rfl rfl (by decide +kernel) g_90 d_U_begin_12 h (fun u3 h => ?_)
  refine y_aload_n C (i := 0) 0 d_U_begin_15 rfl rfl ?_
  refine y_iload C (i := 4) 4 d_U_begin_16 rfl ?_
  refine y_pi C (q := (yR1, yT1, 10)) (ci := 1) (k := 4) rfl (by decide) rfl rfl (by decide +kernel) g_92 d_U_begin_18 h (fun u4 h => ?_)
  refine y_aload_n C (i := 0) 0 d_U_begin_21 rfl rfl ?_
  refine y_iload C (i := 5) 5 d_U_begin_22 rfl ?_
  refine y_pi C (q := (yR1, yT1, 10)) (ci := 1) (k := 5) rfl (by decide) rfl rfl (by decide +kernel) g_94 d_U_begin_24 h (fun u5 h => ?_)
  refine y_aload_n C (i := 0) 0 d_U_begin_27 rfl rfl ?_
  refine y_bipush C (v := -4) d_U_begin_28 (by decide) ?_
  refine y_pi C (q := (yR1, yT1, 10)) (ci := 1) (k := 6) rfl (by decide) rfl rfl (by decide +kernel) g_97 d_U_begin_30 h (fun u6 h => ?_)
  refine y_aload_n C (i := 0) 0 d_U_begin_33 rfl rfl ?_
  refine y_bipush C (v := -4) d_U_begin_34 (by decide) ?_
  refine y_pi C (q := (yR1, yT1, 10)) (ci := 1) (k := 7) rfl (by decide) rfl rfl (by decide +kernel) g_101 d_U_begin_36 h (fun u7 h => ?_)
  refine y_aload_n C (i := 0) 0 d_U_begin_39 rfl rfl ?_
  refine y_iconst C (v := 0) d_U_begin_40 (by decide) ?_
  refine y_pi C (q := (yR1, yT1, 10)) (ci := 1) (k := 8) rfl (by decide) rfl rfl (by decide +kernel) g_104 d_U_begin_41 h (fun u8 h => ?_)
  refine y_aload_n C (i := 0) 0 d_U_begin_44 rfl rfl ?_
  refine y_iconst C (v := 0) d_U_begin_45 (by decide) ?_
  refine y_pz C (q := (yR1, yT1, 10)) (ci := 1) (k := 9) rfl (by decide) rfl rfl (by decide +kernel) g_107 d_U_begin_46 h (fun u9 h => ?_)
  exact y_vret C hr hlocks d_U_begin_49 h
/-! H_addGuest -/
theorem d_H_addGuest_0 : decode prog_4_method_6_code 0 = .ok (.aload_n 0, 1) := by decide +kernel
theorem d_H_addGuest_1 : decode prog_4_method_6_code 1 = .ok (.getfield 37, 3) := by decide +kernel
theorem d_H_addGuest_4 : decode prog_4_method_6_code 4 = .ok (.bipush 6, 2) := by decide +kernel
theorem d_H_addGuest_6 : decode prog_4_method_6_code 6 = .ok (.if_icmp .lt 5, 3) := by decide +kernel
theorem d_H_addGuest_9 : decode prog_4_method_6_code 9 = .ok (.aconst_null, 1) := by decide +kernel
theorem d_H_addGuest_10 : decode prog_4_method_6_code 10 = .ok (.areturn, 1) := by decide +kernel
theorem d_H_addGuest_11 : decode prog_4_method_6_code 11 = .ok (.aload_n 0, 1) := by decide +kernel
theorem d_H_addGuest_12 : decode prog_4_method_6_code 12 = .ok (.dup, 1) := by decide +kernel
theorem d_H_addGuest_13 : decode prog_4_method_6_code 13 = .ok (.getfield 37, 3) := by decide +kernel
theorem d_H_addGuest_16 : decode prog_4_method_6_code 16 = .ok (.iconst 1, 1) := by decide +kernel
theorem d_H_addGuest_17 : decode prog_4_method_6_code 17 = .ok (.iadd, 1) := by decide +kernel
theorem d_H_addGuest_18 : decode prog_4_method_6_code 18 = .ok (.putfield 37, 3) := by decide +kernel
theorem d_H_addGuest_21 : decode prog_4_method_6_code 21 = .ok (.aload_n 0, 1) := by decide +kernel
theorem d_H_addGuest_22 : decode prog_4_method_6_code 22 = .ok (.aload_n 0, 1) := by decide +kernel
theorem d_H_addGuest_23 : decode prog_4_method_6_code 23 = .ok (.getfield 37, 3) := by decide +kernel
theorem d_H_addGuest_26 : decode prog_4_method_6_code 26 = .ok (.iconst 1, 1) := by decide +kernel
theorem d_H_addGuest_27 : decode prog_4_method_6_code 27 = .ok (.isub, 1) := by decide +kernel
theorem d_H_addGuest_28 : decode prog_4_method_6_code 28 = .ok (.invokevirtual 57, 3) := by decide +kernel
theorem d_H_addGuest_31 : decode prog_4_method_6_code 31 = .ok (.astore 6, 2) := by decide +kernel
theorem d_H_addGuest_33 : decode prog_4_method_6_code 33 = .ok (.aload 6, 2) := by decide +kernel
theorem d_H_addGuest_35 : decode prog_4_method_6_code 35 = .ok (.ifnull 15, 3) := by decide +kernel
theorem d_H_addGuest_38 : decode prog_4_method_6_code 38 = .ok (.aload 6, 2) := by decide +kernel
theorem d_H_addGuest_40 : decode prog_4_method_6_code 40 = .ok (.iload_n 1, 1) := by decide +kernel
theorem d_H_addGuest_41 : decode prog_4_method_6_code 41 = .ok (.iload_n 2, 1) := by decide +kernel
theorem d_H_addGuest_42 : decode prog_4_method_6_code 42 = .ok (.iload_n 3, 1) := by decide +kernel
theorem d_H_addGuest_43 : decode prog_4_method_6_code 43 = .ok (.iload 4, 2) := by decide +kernel
theorem d_H_addGuest_45 : decode prog_4_method_6_code 45 = .ok (.iload 5, 2) := by decide +kernel
theorem d_H_addGuest_47 : decode prog_4_method_6_code 47 = .ok (.invokevirtual 68, 3) := by decide +kernel
theorem d_H_addGuest_50 : decode prog_4_method_6_code 50 = .ok (.aload 6, 2) := by decide +kernel
theorem d_H_addGuest_52 : decode prog_4_method_6_code 52 = .ok (.areturn, 1) := by decide +kernel
theorem gc_H_addGuest_57 : GoodIn yGW (wsV "WhoseGlass$House" 57 yR2 m_H_guestAt ws_H_guestAt) := y_gV g_267 g_268 g_269 g_2 g_270
theorem gc_H_addGuest_68 : GoodIn yGW (wsV "WhoseGlass$House" 68 yR1 m_U_begin ws_U_begin) := y_gV g_354 g_355 g_356 g_4 g_357
set_option maxRecDepth 100000 in
def f_H_addGuest (F : Nat) (u : Mm) (o : Nat) (a1 : Int32) (a2 : Int32) (a3 : Int32) (a4 : Int32) (a5 : Int32) : Option (Option Nat × Mm) := ob (jgi YX 2 3 u (some o)) fun (x1 : Int32) => (if x1 < (6 : Int32) then ob (jgi YX 2 3 u (some o)) fun (x3 : Int32) => ob (jpi YX 2 3 u (some o) (x3 + (1 : Int32))) fun (u4 : Mm) => ob (jgi YX 2 3 u4 (some o)) fun (x5 : Int32) => ob (jk YX 2 (some o)) fun t => yb (f_H_guestAt F u4 t (x5 - (1 : Int32))) fun r6 u7 => ob ((if r6 = none then some u7 else ob (jk YX 1 r6) fun t => yb (f_U_begin F u7 t a1 a2 a3 a4 a5) fun v10 u11 => some u11) : Option (Mm)) fun q8 => some (r6, q8) else some (none, u))
set_option maxHeartbeats 4000000 in
set_option maxRecDepth 100000 in
theorem c_H_addGuest (l : Launch) (w : WP) (F : Nat) (u : Mm) (o : Nat) (a1 : Int32) (a2 : Int32) (a3 : Int32) (a4 : Int32) (a5 : Int32) (out : Option Nat × Mm) (h : f_H_addGuest F u o a1 a2 a3 a4 a5 = some out) : yMet l m_H_addGuest ws_H_addGuest ({ frames := 1, cells := 0, slots := 0, locals := 25 } : Room) YX w u [va_re w.1 (some o), .int a1, .int a2, .int a3, .int a4, .int a5] (yfr w) out := by
  refine y_entry (own := "WhoseGlass$House") (lv := [(0, va_re w.1 (some o)), (1, .int a1), (2, .int a2), (3, .int a3), (4, .int a4), (5, .int a5)]) (by decide +kernel) rfl (by simp [lv_args, y_cat, y_catI, y_catJ]) (by simp [lg_sl, y_cat, y_catI, y_catJ]) ?_
  intro p e s m args below meth c C hr hlocks
  unfold f_H_addGuest at h
  refine y_aload_n C (i := 0) 0 d_H_addGuest_0 rfl rfl ?_
  refine y_gi C (q := (yR2, yT2, 9)) (ci := 2) (k := 3) rfl (by decide) rfl g_135 d_H_addGuest_1 h (fun x1 h => ?_)
  refine y_bipush C (v := 6) d_H_addGuest_4 (by decide) ?_
  refine y_ic_lt C 11 d_H_addGuest_6 (by decide) h (fun k2 h => ?_) (fun k2 h => ?_)
  · refine y_aload_n C (i := 0) 0 d_H_addGuest_11 rfl rfl ?_
    refine y_dup C d_H_addGuest_12 (y_cat _ _) ?_
    refine y_gi C (q := (yR2, yT2, 9)) (ci := 2) (k := 3) rfl (by decide) rfl g_135 d_H_addGuest_13 h (fun x3 h => ?_)
    refine y_iconst C (v := 1) d_H_addGuest_16 (by decide) ?_
    refine y_iadd C d_H_addGuest_17 ?_
    refine y_pi C (q := (yR2, yT2, 9)) (ci := 2) (k := 3) rfl (by decide) rfl rfl (by decide +kernel) g_135 d_H_addGuest_18 h (fun u4 h => ?_)
    refine y_aload_n C (i := 0) 0 d_H_addGuest_21 rfl rfl ?_
    refine y_aload_n C (i := 0) 0 d_H_addGuest_22 rfl rfl ?_
    refine y_gi C (q := (yR2, yT2, 9)) (ci := 2) (k := 3) rfl (by decide) rfl g_135 d_H_addGuest_23 h (fun x5 h => ?_)
    refine y_iconst C (v := 1) d_H_addGuest_26 (by decide) ?_
    refine y_isub C d_H_addGuest_27 ?_
    refine y_callV 1 C (q := (yR2, yT2, 9)) (ci := 2) (fun t out hh => c_H_guestAt l w F u4 t (x5 - (1 : Int32)) out hh) gc_H_addGuest_57 rfl (by decide) hd_H_guestAt ⟨Nat.le_of_ble_eq_true rfl, Nat.le_of_ble_eq_true rfl⟩ rfl rfl rfl rfl (by simp [y_cat, y_catI, y_catJ]) d_H_addGuest_28 h (fun r6 u7 h => ?_)
    refine y_stk (stp0 := [va_re w.1 r6]) rfl ?_
    refine y_astore C (i := 6) (lvp := [(0, va_re w.1 (some o)), (1, .int a1), (2, .int a2), (3, .int a3), (4, .int a4), (5, .int a5)]) d_H_addGuest_31 (by decide) (by simp [List.filter, y_cat, y_catI, y_catJ]) ?_
    refine y_aload C (i := 6) 0 d_H_addGuest_33 rfl ?_
    obtain ⟨q8, hq8, h⟩ := ob_e h
    have hJq8 : yG p l e ({ frames := 1, cells := 0, slots := 0, locals := 25 } : Room) s m args below meth c YX w 7 (MQ below (yQ YX w (yfr w) out) args s 0 0 (yA YX w)) q8 50 [(6, va_re w.1 r6)] [] := by
      refine y_aload C (i := 6) 0 d_H_addGuest_50 rfl ?_
      exact y_aret C hr hlocks d_H_addGuest_52 h
    refine y_ifnull C 50 d_H_addGuest_35 (by decide) hq8 (fun k9 hq8 => ?_) (fun k9 hq8 => ?_)
    · cases hq8
      exact y_sub [0] rfl hJq8
    · refine y_aload C (i := 6) 0 d_H_addGuest_38 rfl ?_
      refine y_iload_n C (i := 1) 2 d_H_addGuest_40 rfl rfl ?_
      refine y_iload_n C (i := 2) 3 d_H_addGuest_41 rfl rfl ?_
      refine y_iload_n C (i := 3) 4 d_H_addGuest_42 rfl rfl ?_
      refine y_iload C (i := 4) 5 d_H_addGuest_43 rfl ?_
      refine y_iload C (i := 5) 6 d_H_addGuest_45 rfl ?_
      refine y_callV 5 C (q := (yR1, yT1, 10)) (ci := 1) (fun t out hh => c_U_begin l w F u7 t a1 a2 a3 a4 a5 out hh) gc_H_addGuest_68 rfl (by decide) hd_U_begin ⟨Nat.le_of_ble_eq_true rfl, Nat.le_of_ble_eq_true rfl⟩ rfl rfl rfl rfl (by simp [y_cat, y_catI, y_catJ]) d_H_addGuest_47 hq8 (fun v10 u11 hq8 => ?_)
      refine y_stk (stp0 := []) rfl ?_
      cases hq8
      exact y_sub [0] rfl hJq8
  · refine y_null C d_H_addGuest_9 ?_
    exact y_aret C hr hlocks d_H_addGuest_10 h
/-! T_guestEnters -/
theorem d_T_guestEnters_0 : decode prog_5_method_14_code 0 = .ok (.aload_n 0, 1) := by decide +kernel
theorem d_T_guestEnters_1 : decode prog_5_method_14_code 1 = .ok (.iload_n 1, 1) := by decide +kernel
theorem d_T_guestEnters_2 : decode prog_5_method_14_code 2 = .ok (.iconst 1, 1) := by decide +kernel
theorem d_T_guestEnters_3 : decode prog_5_method_14_code 3 = .ok (.iadd, 1) := by decide +kernel
theorem d_T_guestEnters_4 : decode prog_5_method_14_code 4 = .ok (.invokestatic 73, 3) := by decide +kernel
theorem d_T_guestEnters_7 : decode prog_5_method_14_code 7 = .ok (.istore_n 3, 1) := by decide +kernel
theorem d_T_guestEnters_8 : decode prog_5_method_14_code 8 = .ok (.aload_n 0, 1) := by decide +kernel
theorem d_T_guestEnters_9 : decode prog_5_method_14_code 9 = .ok (.iload_n 1, 1) := by decide +kernel
theorem d_T_guestEnters_10 : decode prog_5_method_14_code 10 = .ok (.iconst 2, 1) := by decide +kernel
theorem d_T_guestEnters_11 : decode prog_5_method_14_code 11 = .ok (.iadd, 1) := by decide +kernel
theorem d_T_guestEnters_12 : decode prog_5_method_14_code 12 = .ok (.invokestatic 73, 3) := by decide +kernel
theorem d_T_guestEnters_15 : decode prog_5_method_14_code 15 = .ok (.istore 4, 2) := by decide +kernel
theorem d_T_guestEnters_17 : decode prog_5_method_14_code 17 = .ok (.aload_n 0, 1) := by decide +kernel
theorem d_T_guestEnters_18 : decode prog_5_method_14_code 18 = .ok (.iload_n 1, 1) := by decide +kernel
theorem d_T_guestEnters_19 : decode prog_5_method_14_code 19 = .ok (.iconst 5, 1) := by decide +kernel
theorem d_T_guestEnters_20 : decode prog_5_method_14_code 20 = .ok (.iadd, 1) := by decide +kernel
theorem d_T_guestEnters_21 : decode prog_5_method_14_code 21 = .ok (.invokestatic 73, 3) := by decide +kernel
theorem d_T_guestEnters_24 : decode prog_5_method_14_code 24 = .ok (.istore 5, 2) := by decide +kernel
theorem d_T_guestEnters_26 : decode prog_5_method_14_code 26 = .ok (.iload_n 3, 1) := by decide +kernel
theorem d_T_guestEnters_27 : decode prog_5_method_14_code 27 = .ok (.iconst 1, 1) := by decide +kernel
theorem d_T_guestEnters_28 : decode prog_5_method_14_code 28 = .ok (.if_icmp .lt 19, 3) := by decide +kernel
theorem d_T_guestEnters_31 : decode prog_5_method_14_code 31 = .ok (.iload 4, 2) := by decide +kernel
theorem d_T_guestEnters_33 : decode prog_5_method_14_code 33 = .ok (.iconst 1, 1) := by decide +kernel
theorem d_T_guestEnters_34 : decode prog_5_method_14_code 34 = .ok (.if_icmp .lt 13, 3) := by decide +kernel
theorem d_T_guestEnters_37 : decode prog_5_method_14_code 37 = .ok (.iload 5, 2) := by decide +kernel
theorem d_T_guestEnters_39 : decode prog_5_method_14_code 39 = .ok (.bipush 6, 2) := by decide +kernel
theorem d_T_guestEnters_41 : decode prog_5_method_14_code 41 = .ok (.invokestatic 76, 3) := by decide +kernel
theorem d_T_guestEnters_44 : decode prog_5_method_14_code 44 = .ok (.ifCond .ne 5, 3) := by decide +kernel
theorem d_T_guestEnters_47 : decode prog_5_method_14_code 47 = .ok (.iconst 0, 1) := by decide +kernel
theorem d_T_guestEnters_48 : decode prog_5_method_14_code 48 = .ok (.ireturn, 1) := by decide +kernel
theorem d_T_guestEnters_49 : decode prog_5_method_14_code 49 = .ok (.aload_n 0, 1) := by decide +kernel
theorem d_T_guestEnters_50 : decode prog_5_method_14_code 50 = .ok (.iload_n 1, 1) := by decide +kernel
theorem d_T_guestEnters_51 : decode prog_5_method_14_code 51 = .ok (.iconst 3, 1) := by decide +kernel
theorem d_T_guestEnters_52 : decode prog_5_method_14_code 52 = .ok (.iadd, 1) := by decide +kernel
theorem d_T_guestEnters_53 : decode prog_5_method_14_code 53 = .ok (.invokestatic 73, 3) := by decide +kernel
theorem d_T_guestEnters_56 : decode prog_5_method_14_code 56 = .ok (.istore 6, 2) := by decide +kernel
theorem d_T_guestEnters_58 : decode prog_5_method_14_code 58 = .ok (.aload_n 0, 1) := by decide +kernel
theorem d_T_guestEnters_59 : decode prog_5_method_14_code 59 = .ok (.iload_n 1, 1) := by decide +kernel
theorem d_T_guestEnters_60 : decode prog_5_method_14_code 60 = .ok (.iconst 4, 1) := by decide +kernel
theorem d_T_guestEnters_61 : decode prog_5_method_14_code 61 = .ok (.iadd, 1) := by decide +kernel
theorem d_T_guestEnters_62 : decode prog_5_method_14_code 62 = .ok (.invokestatic 73, 3) := by decide +kernel
theorem d_T_guestEnters_65 : decode prog_5_method_14_code 65 = .ok (.istore 7, 2) := by decide +kernel
theorem d_T_guestEnters_67 : decode prog_5_method_14_code 67 = .ok (.aload_n 2, 1) := by decide +kernel
theorem d_T_guestEnters_68 : decode prog_5_method_14_code 68 = .ok (.iload_n 3, 1) := by decide +kernel
theorem d_T_guestEnters_69 : decode prog_5_method_14_code 69 = .ok (.iload 4, 2) := by decide +kernel
theorem d_T_guestEnters_71 : decode prog_5_method_14_code 71 = .ok (.iload 6, 2) := by decide +kernel
theorem d_T_guestEnters_73 : decode prog_5_method_14_code 73 = .ok (.iload 7, 2) := by decide +kernel
theorem d_T_guestEnters_75 : decode prog_5_method_14_code 75 = .ok (.iload 5, 2) := by decide +kernel
theorem d_T_guestEnters_77 : decode prog_5_method_14_code 77 = .ok (.invokevirtual 90, 3) := by decide +kernel
theorem d_T_guestEnters_80 : decode prog_5_method_14_code 80 = .ok (.ifnull 7, 3) := by decide +kernel
theorem d_T_guestEnters_83 : decode prog_5_method_14_code 83 = .ok (.iconst 1, 1) := by decide +kernel
theorem d_T_guestEnters_84 : decode prog_5_method_14_code 84 = .ok (.goto 4, 3) := by decide +kernel
theorem d_T_guestEnters_87 : decode prog_5_method_14_code 87 = .ok (.iconst 0, 1) := by decide +kernel
theorem d_T_guestEnters_88 : decode prog_5_method_14_code 88 = .ok (.ireturn, 1) := by decide +kernel
theorem gc_T_guestEnters_90 : GoodIn yGW (wsV "WhoseGlass$HouseText" 90 yR2 m_H_addGuest ws_H_addGuest) := y_gV g_350 g_351 g_352 g_2 g_353
set_option maxRecDepth 100000 in
def f_T_guestEnters (F : Nat) (u : Mm) (a0 : Option Nat) (a1 : Int32) (a2 : Option Nat) : Option (Int32 × Mm) := yb (f_T_digit F u a0 (a1 + (1 : Int32))) fun x1 u2 => yb (f_T_digit F u2 a0 (a1 + (2 : Int32))) fun x3 u4 => yb (f_T_digit F u4 a0 (a1 + (5 : Int32))) fun x5 u6 => (if x1 < (1 : Int32) then ob (jz (0 : Int32)) (fun v => some (v, u6)) else (if x3 < (1 : Int32) then ob (jz (0 : Int32)) (fun v => some (v, u6)) else yb (f_X_isBelow F u6 x5 (6 : Int32)) fun x9 u10 => (if x9 = 0 then ob (jz (0 : Int32)) (fun v => some (v, u10)) else yb (f_T_digit F u10 a0 (a1 + (3 : Int32))) fun x12 u13 => yb (f_T_digit F u13 a0 (a1 + (4 : Int32))) fun x14 u15 => ob (jk YX 2 a2) fun t => yb (f_H_addGuest F u15 t x1 x3 x12 x14 x5) fun r16 u17 => (if r16 = none then ob (jz (0 : Int32)) (fun v => some (v, u17)) else ob (jz (1 : Int32)) (fun v => some (v, u17))))))
set_option maxHeartbeats 4000000 in
set_option maxRecDepth 100000 in
theorem c_T_guestEnters (l : Launch) (w : WP) (F : Nat) (u : Mm) (a0 : Option Nat) (a1 : Int32) (a2 : Option Nat) (out : Int32 × Mm) (h : f_T_guestEnters F u a0 a1 a2 = some out) : yMet l m_T_guestEnters ws_T_guestEnters ({ frames := 2, cells := 0, slots := 0, locals := 51 } : Room) YX w u [va_re w.1 a0, .int a1, va_re w.1 a2] yfi out := by
  refine y_entry (own := "WhoseGlass$HouseText") (lv := [(0, va_re w.1 a0), (1, .int a1), (2, va_re w.1 a2)]) (by decide +kernel) rfl (by simp [lv_args, y_cat, y_catI, y_catJ]) (by simp [lg_sl, y_cat, y_catI, y_catJ]) ?_
  intro p e s m args below meth c C hr hlocks
  unfold f_T_guestEnters at h
  refine y_aload_n C (i := 0) 0 d_T_guestEnters_0 rfl rfl ?_
  refine y_iload_n C (i := 1) 1 d_T_guestEnters_1 rfl rfl ?_
  refine y_iconst C (v := 1) d_T_guestEnters_2 (by decide) ?_
  refine y_iadd C d_T_guestEnters_3 ?_
  refine y_callS 2 C (fun out hh => c_T_digit l w F u a0 (a1 + (1 : Int32)) out hh) (y_gc g_341) g_339 g_7 g_340 hn_T_digit ⟨Nat.le_of_ble_eq_true rfl, Nat.le_of_ble_eq_true rfl⟩ rfl rfl rfl rfl (by simp [y_cat, y_catI, y_catJ]) d_T_guestEnters_4 h (fun x1 u2 h => ?_)
  refine y_stk (stp0 := [.int x1]) rfl ?_
  refine y_istore_n C (i := 3) (lvp := [(0, va_re w.1 a0), (1, .int a1), (2, va_re w.1 a2)]) d_T_guestEnters_7 rfl (by decide) (by simp [List.filter, y_cat, y_catI, y_catJ]) ?_
  refine y_aload_n C (i := 0) 1 d_T_guestEnters_8 rfl rfl ?_
  refine y_iload_n C (i := 1) 2 d_T_guestEnters_9 rfl rfl ?_
  refine y_iconst C (v := 2) d_T_guestEnters_10 (by decide) ?_
  refine y_iadd C d_T_guestEnters_11 ?_
  refine y_callS 2 C (fun out hh => c_T_digit l w F u2 a0 (a1 + (2 : Int32)) out hh) (y_gc g_341) g_339 g_7 g_340 hn_T_digit ⟨Nat.le_of_ble_eq_true rfl, Nat.le_of_ble_eq_true rfl⟩ rfl rfl rfl rfl (by simp [y_cat, y_catI, y_catJ]) d_T_guestEnters_12 h (fun x3 u4 h => ?_)
  refine y_stk (stp0 := [.int x3]) rfl ?_
  refine y_istore C (i := 4) (lvp := [(3, .int x1), (0, va_re w.1 a0), (1, .int a1), (2, va_re w.1 a2)]) d_T_guestEnters_15 (by decide) rfl ?_
  refine y_aload_n C (i := 0) 2 d_T_guestEnters_17 rfl rfl ?_
  refine y_iload_n C (i := 1) 3 d_T_guestEnters_18 rfl rfl ?_
  refine y_iconst C (v := 5) d_T_guestEnters_19 (by decide) ?_
  refine y_iadd C d_T_guestEnters_20 ?_
  refine y_callS 2 C (fun out hh => c_T_digit l w F u4 a0 (a1 + (5 : Int32)) out hh) (y_gc g_341) g_339 g_7 g_340 hn_T_digit ⟨Nat.le_of_ble_eq_true rfl, Nat.le_of_ble_eq_true rfl⟩ rfl rfl rfl rfl (by simp [y_cat, y_catI, y_catJ]) d_T_guestEnters_21 h (fun x5 u6 h => ?_)
  refine y_stk (stp0 := [.int x5]) rfl ?_
  refine y_istore C (i := 5) (lvp := [(4, .int x3), (3, .int x1), (0, va_re w.1 a0), (1, .int a1), (2, va_re w.1 a2)]) d_T_guestEnters_24 (by decide) rfl ?_
  refine y_iload_n C (i := 3) 2 d_T_guestEnters_26 rfl rfl ?_
  refine y_iconst C (v := 1) d_T_guestEnters_27 (by decide) ?_
  refine y_ic_lt C 47 d_T_guestEnters_28 (by decide) h (fun k7 h => ?_) (fun k7 h => ?_)
  · refine y_iconst C (v := 0) d_T_guestEnters_47 (by decide) ?_
    exact y_zret C hr hlocks d_T_guestEnters_48 h
  · refine y_iload C (i := 4) 1 d_T_guestEnters_31 rfl ?_
    refine y_iconst C (v := 1) d_T_guestEnters_33 (by decide) ?_
    refine y_ic_lt C 47 d_T_guestEnters_34 (by decide) h (fun k8 h => ?_) (fun k8 h => ?_)
    · refine y_iconst C (v := 0) d_T_guestEnters_47 (by decide) ?_
      exact y_zret C hr hlocks d_T_guestEnters_48 h
    · refine y_iload C (i := 5) 0 d_T_guestEnters_37 rfl ?_
      refine y_bipush C (v := 6) d_T_guestEnters_39 (by decide) ?_
      refine y_callN 2 C (host := "WhoseGlass") (fun out hh => c_X_isBelow l w F u6 x5 (6 : Int32) out hh) (y_gc g_344) (by decide +kernel) g_1 g_343 hn_X_isBelow ⟨Nat.le_of_ble_eq_true rfl, Nat.le_of_ble_eq_true rfl⟩ rfl rfl rfl rfl (by simp [y_cat, y_catI, y_catJ]) d_T_guestEnters_41 h (fun x9 u10 h => ?_)
      refine y_stk (stp0 := [.int x9]) rfl ?_
      refine y_if_ne C 49 d_T_guestEnters_44 (by decide) h (fun k11 h => ?_) (fun k11 h => ?_)
      · refine y_iconst C (v := 0) d_T_guestEnters_47 (by decide) ?_
        exact y_zret C hr hlocks d_T_guestEnters_48 h
      · refine y_aload_n C (i := 0) 3 d_T_guestEnters_49 rfl rfl ?_
        refine y_iload_n C (i := 1) 4 d_T_guestEnters_50 rfl rfl ?_
        refine y_iconst C (v := 3) d_T_guestEnters_51 (by decide) ?_
        refine y_iadd C d_T_guestEnters_52 ?_
        refine y_callS 2 C (fun out hh => c_T_digit l w F u10 a0 (a1 + (3 : Int32)) out hh) (y_gc g_341) g_339 g_7 g_340 hn_T_digit ⟨Nat.le_of_ble_eq_true rfl, Nat.le_of_ble_eq_true rfl⟩ rfl rfl rfl rfl (by simp [y_cat, y_catI, y_catJ]) d_T_guestEnters_53 h (fun x12 u13 h => ?_)
        refine y_stk (stp0 := [.int x12]) rfl ?_
        refine y_istore C (i := 6) (lvp := [(5, .int x5), (4, .int x3), (3, .int x1), (0, va_re w.1 a0), (1, .int a1), (2, va_re w.1 a2)]) d_T_guestEnters_56 (by decide) rfl ?_
        refine y_aload_n C (i := 0) 4 d_T_guestEnters_58 rfl rfl ?_
        refine y_iload_n C (i := 1) 5 d_T_guestEnters_59 rfl rfl ?_
        refine y_iconst C (v := 4) d_T_guestEnters_60 (by decide) ?_
        refine y_iadd C d_T_guestEnters_61 ?_
        refine y_callS 2 C (fun out hh => c_T_digit l w F u13 a0 (a1 + (4 : Int32)) out hh) (y_gc g_341) g_339 g_7 g_340 hn_T_digit ⟨Nat.le_of_ble_eq_true rfl, Nat.le_of_ble_eq_true rfl⟩ rfl rfl rfl rfl (by simp [y_cat, y_catI, y_catJ]) d_T_guestEnters_62 h (fun x14 u15 h => ?_)
        refine y_stk (stp0 := [.int x14]) rfl ?_
        refine y_istore C (i := 7) (lvp := [(6, .int x12), (5, .int x5), (4, .int x3), (3, .int x1), (0, va_re w.1 a0), (1, .int a1), (2, va_re w.1 a2)]) d_T_guestEnters_65 (by decide) rfl ?_
        refine y_aload_n C (i := 2) 7 d_T_guestEnters_67 rfl rfl ?_
        refine y_iload_n C (i := 3) 4 d_T_guestEnters_68 rfl rfl ?_
        refine y_iload C (i := 4) 3 d_T_guestEnters_69 rfl ?_
        refine y_iload C (i := 6) 1 d_T_guestEnters_71 rfl ?_
        refine y_iload C (i := 7) 0 d_T_guestEnters_73 rfl ?_
        refine y_iload C (i := 5) 2 d_T_guestEnters_75 rfl ?_
        refine y_callV 5 C (q := (yR2, yT2, 9)) (ci := 2) (fun t out hh => c_H_addGuest l w F u15 t x1 x3 x12 x14 x5 out hh) gc_T_guestEnters_90 rfl (by decide) hd_H_addGuest ⟨Nat.le_of_ble_eq_true rfl, Nat.le_of_ble_eq_true rfl⟩ rfl rfl rfl rfl (by simp [y_cat, y_catI, y_catJ]) d_T_guestEnters_77 h (fun r16 u17 h => ?_)
        refine y_stk (stp0 := [va_re w.1 r16]) rfl ?_
        refine y_ifnull C 87 d_T_guestEnters_80 (by decide) h (fun k18 h => ?_) (fun k18 h => ?_)
        · refine y_iconst C (v := 0) d_T_guestEnters_87 (by decide) ?_
          exact y_zret C hr hlocks d_T_guestEnters_88 h
        · refine y_iconst C (v := 1) d_T_guestEnters_83 (by decide) ?_
          refine y_goto C (tgt := 88) d_T_guestEnters_84 (by decide) ?_
          exact y_zret C hr hlocks d_T_guestEnters_88 h
/-! G_isLaid -/
theorem d_G_isLaid_0 : decode prog_2_method_6_code 0 = .ok (.aload_n 0, 1) := by decide +kernel
theorem d_G_isLaid_1 : decode prog_2_method_6_code 1 = .ok (.getfield 31, 3) := by decide +kernel
theorem d_G_isLaid_4 : decode prog_2_method_6_code 4 = .ok (.bipush 6, 2) := by decide +kernel
theorem d_G_isLaid_6 : decode prog_2_method_6_code 6 = .ok (.if_icmp .ge 7, 3) := by decide +kernel
theorem d_G_isLaid_9 : decode prog_2_method_6_code 9 = .ok (.iconst 1, 1) := by decide +kernel
theorem d_G_isLaid_10 : decode prog_2_method_6_code 10 = .ok (.goto 4, 3) := by decide +kernel
theorem d_G_isLaid_13 : decode prog_2_method_6_code 13 = .ok (.iconst 0, 1) := by decide +kernel
theorem d_G_isLaid_14 : decode prog_2_method_6_code 14 = .ok (.ireturn, 1) := by decide +kernel
set_option maxRecDepth 100000 in
def f_G_isLaid (F : Nat) (u : Mm) (o : Nat) : Option (Int32 × Mm) := ob (jgi YX 0 4 u (some o)) fun (x1 : Int32) => (if (6 : Int32) ≤ x1 then ob (jz (0 : Int32)) (fun v => some (v, u)) else ob (jz (1 : Int32)) (fun v => some (v, u)))
set_option maxHeartbeats 4000000 in
set_option maxRecDepth 100000 in
theorem c_G_isLaid (l : Launch) (w : WP) (F : Nat) (u : Mm) (o : Nat) (out : Int32 × Mm) (h : f_G_isLaid F u o = some out) : yMet l m_G_isLaid ws_G_isLaid ({ frames := 0, cells := 0, slots := 0, locals := 0 } : Room) YX w u [va_re w.1 (some o)] yfi out := by
  refine y_entry (own := "WhoseGlass$Glass") (lv := [(0, va_re w.1 (some o))]) (by decide +kernel) rfl (by simp [lv_args, y_cat, y_catI, y_catJ]) (by simp [lg_sl, y_cat, y_catI, y_catJ]) ?_
  intro p e s m args below meth c C hr hlocks
  unfold f_G_isLaid at h
  refine y_aload_n C (i := 0) 0 d_G_isLaid_0 rfl rfl ?_
  refine y_gi C (q := (yR0, yT0, 8)) (ci := 0) (k := 4) rfl (by decide) rfl g_50 d_G_isLaid_1 h (fun x1 h => ?_)
  refine y_bipush C (v := 6) d_G_isLaid_4 (by decide) ?_
  refine y_ic_ge C 13 d_G_isLaid_6 (by decide) h (fun k2 h => ?_) (fun k2 h => ?_)
  · refine y_iconst C (v := 0) d_G_isLaid_13 (by decide) ?_
    exact y_zret C hr hlocks d_G_isLaid_14 h
  · refine y_iconst C (v := 1) d_G_isLaid_9 (by decide) ?_
    refine y_goto C (tgt := 14) d_G_isLaid_10 (by decide) ?_
    exact y_zret C hr hlocks d_G_isLaid_14 h
/-! T_guestHolds -/
theorem d_T_guestHolds_0 : decode prog_5_method_15_code 0 = .ok (.aload_n 2, 1) := by decide +kernel
theorem d_T_guestHolds_1 : decode prog_5_method_15_code 1 = .ok (.aload_n 0, 1) := by decide +kernel
theorem d_T_guestHolds_2 : decode prog_5_method_15_code 2 = .ok (.iload_n 1, 1) := by decide +kernel
theorem d_T_guestHolds_3 : decode prog_5_method_15_code 3 = .ok (.iconst 1, 1) := by decide +kernel
theorem d_T_guestHolds_4 : decode prog_5_method_15_code 4 = .ok (.iadd, 1) := by decide +kernel
theorem d_T_guestHolds_5 : decode prog_5_method_15_code 5 = .ok (.invokestatic 73, 3) := by decide +kernel
theorem d_T_guestHolds_8 : decode prog_5_method_15_code 8 = .ok (.invokevirtual 94, 3) := by decide +kernel
theorem d_T_guestHolds_11 : decode prog_5_method_15_code 11 = .ok (.astore_n 3, 1) := by decide +kernel
theorem d_T_guestHolds_12 : decode prog_5_method_15_code 12 = .ok (.aload_n 2, 1) := by decide +kernel
theorem d_T_guestHolds_13 : decode prog_5_method_15_code 13 = .ok (.bipush 10, 2) := by decide +kernel
theorem d_T_guestHolds_15 : decode prog_5_method_15_code 15 = .ok (.aload_n 0, 1) := by decide +kernel
theorem d_T_guestHolds_16 : decode prog_5_method_15_code 16 = .ok (.iload_n 1, 1) := by decide +kernel
theorem d_T_guestHolds_17 : decode prog_5_method_15_code 17 = .ok (.iconst 2, 1) := by decide +kernel
theorem d_T_guestHolds_18 : decode prog_5_method_15_code 18 = .ok (.iadd, 1) := by decide +kernel
theorem d_T_guestHolds_19 : decode prog_5_method_15_code 19 = .ok (.invokestatic 73, 3) := by decide +kernel
theorem d_T_guestHolds_22 : decode prog_5_method_15_code 22 = .ok (.imul, 1) := by decide +kernel
theorem d_T_guestHolds_23 : decode prog_5_method_15_code 23 = .ok (.aload_n 0, 1) := by decide +kernel
theorem d_T_guestHolds_24 : decode prog_5_method_15_code 24 = .ok (.iload_n 1, 1) := by decide +kernel
theorem d_T_guestHolds_25 : decode prog_5_method_15_code 25 = .ok (.iconst 3, 1) := by decide +kernel
theorem d_T_guestHolds_26 : decode prog_5_method_15_code 26 = .ok (.iadd, 1) := by decide +kernel
theorem d_T_guestHolds_27 : decode prog_5_method_15_code 27 = .ok (.invokestatic 73, 3) := by decide +kernel
theorem d_T_guestHolds_30 : decode prog_5_method_15_code 30 = .ok (.iadd, 1) := by decide +kernel
theorem d_T_guestHolds_31 : decode prog_5_method_15_code 31 = .ok (.invokevirtual 98, 3) := by decide +kernel
theorem d_T_guestHolds_34 : decode prog_5_method_15_code 34 = .ok (.astore 4, 2) := by decide +kernel
theorem d_T_guestHolds_36 : decode prog_5_method_15_code 36 = .ok (.aload_n 3, 1) := by decide +kernel
theorem d_T_guestHolds_37 : decode prog_5_method_15_code 37 = .ok (.ifnull 25, 3) := by decide +kernel
theorem d_T_guestHolds_40 : decode prog_5_method_15_code 40 = .ok (.aload 4, 2) := by decide +kernel
theorem d_T_guestHolds_42 : decode prog_5_method_15_code 42 = .ok (.ifnull 20, 3) := by decide +kernel
theorem d_T_guestHolds_45 : decode prog_5_method_15_code 45 = .ok (.aload_n 3, 1) := by decide +kernel
theorem d_T_guestHolds_46 : decode prog_5_method_15_code 46 = .ok (.getfield 102, 3) := by decide +kernel
theorem d_T_guestHolds_49 : decode prog_5_method_15_code 49 = .ok (.bipush (-4), 2) := by decide +kernel
theorem d_T_guestHolds_51 : decode prog_5_method_15_code 51 = .ok (.if_icmp .ne 11, 3) := by decide +kernel
theorem d_T_guestHolds_54 : decode prog_5_method_15_code 54 = .ok (.aload 4, 2) := by decide +kernel
theorem d_T_guestHolds_56 : decode prog_5_method_15_code 56 = .ok (.invokevirtual 107, 3) := by decide +kernel
theorem d_T_guestHolds_59 : decode prog_5_method_15_code 59 = .ok (.ifCond .ne 5, 3) := by decide +kernel
theorem d_T_guestHolds_62 : decode prog_5_method_15_code 62 = .ok (.iconst 0, 1) := by decide +kernel
theorem d_T_guestHolds_63 : decode prog_5_method_15_code 63 = .ok (.ireturn, 1) := by decide +kernel
theorem d_T_guestHolds_64 : decode prog_5_method_15_code 64 = .ok (.aload_n 3, 1) := by decide +kernel
theorem d_T_guestHolds_65 : decode prog_5_method_15_code 65 = .ok (.aload 4, 2) := by decide +kernel
theorem d_T_guestHolds_67 : decode prog_5_method_15_code 67 = .ok (.invokevirtual 111, 3) := by decide +kernel
theorem d_T_guestHolds_70 : decode prog_5_method_15_code 70 = .ok (.iconst 1, 1) := by decide +kernel
theorem d_T_guestHolds_71 : decode prog_5_method_15_code 71 = .ok (.ireturn, 1) := by decide +kernel
theorem gc_T_guestHolds_94 : GoodIn yGW (wsV "WhoseGlass$HouseText" 94 yR2 m_H_guestAt ws_H_guestAt) := y_gV g_361 g_268 g_269 g_2 g_270
theorem gc_T_guestHolds_98 : GoodIn yGW (wsV "WhoseGlass$HouseText" 98 yR2 m_H_glassAt ws_H_glassAt) := y_gV g_362 g_260 g_261 g_2 g_262
theorem gc_T_guestHolds_107 : GoodIn yGW (wsV "WhoseGlass$HouseText" 107 yR0 m_G_isLaid ws_G_isLaid) := y_gV g_363 g_364 g_365 g_3 g_366
theorem gc_T_guestHolds_111 : GoodIn yGW (wsV "WhoseGlass$HouseText" 111 yR1 m_U_hold ws_U_hold) := y_gV g_367 g_306 g_307 g_4 g_308
set_option maxRecDepth 100000 in
def f_T_guestHolds (F : Nat) (u : Mm) (a0 : Option Nat) (a1 : Int32) (a2 : Option Nat) : Option (Int32 × Mm) := yb (f_T_digit F u a0 (a1 + (1 : Int32))) fun x1 u2 => ob (jk YX 2 a2) fun t => yb (f_H_guestAt F u2 t x1) fun r3 u4 => yb (f_T_digit F u4 a0 (a1 + (2 : Int32))) fun x5 u6 => yb (f_T_digit F u6 a0 (a1 + (3 : Int32))) fun x7 u8 => ob (jk YX 2 a2) fun t => yb (f_H_glassAt F u8 t (((10 : Int32) * x5) + x7)) fun r9 u10 => (if r3 = none then ob (jz (0 : Int32)) (fun v => some (v, u10)) else (if r9 = none then ob (jz (0 : Int32)) (fun v => some (v, u10)) else ob (jgi YX 1 6 u10 r3) fun (x13 : Int32) => (if x13 = (-4 : Int32) then ob (jk YX 0 r9) fun t => yb (f_G_isLaid F u10 t ) fun x15 u16 => (if x15 = 0 then ob (jz (0 : Int32)) (fun v => some (v, u16)) else ob (jk YX 1 r3) fun t => yb (f_U_hold F u16 t r9) fun v18 u19 => ob (jz (1 : Int32)) (fun v => some (v, u19))) else ob (jz (0 : Int32)) (fun v => some (v, u10)))))
set_option maxHeartbeats 4000000 in
set_option maxRecDepth 100000 in
theorem c_T_guestHolds (l : Launch) (w : WP) (F : Nat) (u : Mm) (a0 : Option Nat) (a1 : Int32) (a2 : Option Nat) (out : Int32 × Mm) (h : f_T_guestHolds F u a0 a1 a2 = some out) : yMet l m_T_guestHolds ws_T_guestHolds ({ frames := 2, cells := 0, slots := 0, locals := 42 } : Room) YX w u [va_re w.1 a0, .int a1, va_re w.1 a2] yfi out := by
  refine y_entry (own := "WhoseGlass$HouseText") (lv := [(0, va_re w.1 a0), (1, .int a1), (2, va_re w.1 a2)]) (by decide +kernel) rfl (by simp [lv_args, y_cat, y_catI, y_catJ]) (by simp [lg_sl, y_cat, y_catI, y_catJ]) ?_
  intro p e s m args below meth c C hr hlocks
  unfold f_T_guestHolds at h
  refine y_aload_n C (i := 2) 2 d_T_guestHolds_0 rfl rfl ?_
  refine y_aload_n C (i := 0) 0 d_T_guestHolds_1 rfl rfl ?_
  refine y_iload_n C (i := 1) 1 d_T_guestHolds_2 rfl rfl ?_
  refine y_iconst C (v := 1) d_T_guestHolds_3 (by decide) ?_
  refine y_iadd C d_T_guestHolds_4 ?_
  refine y_callS 2 C (fun out hh => c_T_digit l w F u a0 (a1 + (1 : Int32)) out hh) (y_gc g_341) g_339 g_7 g_340 hn_T_digit ⟨Nat.le_of_ble_eq_true rfl, Nat.le_of_ble_eq_true rfl⟩ rfl rfl rfl rfl (by simp [y_cat, y_catI, y_catJ]) d_T_guestHolds_5 h (fun x1 u2 h => ?_)
  refine y_stk (stp0 := [.int x1, va_re w.1 a2]) rfl ?_
  refine y_callV 1 C (q := (yR2, yT2, 9)) (ci := 2) (fun t out hh => c_H_guestAt l w F u2 t x1 out hh) gc_T_guestHolds_94 rfl (by decide) hd_H_guestAt ⟨Nat.le_of_ble_eq_true rfl, Nat.le_of_ble_eq_true rfl⟩ rfl rfl rfl rfl (by simp [y_cat, y_catI, y_catJ]) d_T_guestHolds_8 h (fun r3 u4 h => ?_)
  refine y_stk (stp0 := [va_re w.1 r3]) rfl ?_
  refine y_astore_n C (i := 3) (lvp := [(0, va_re w.1 a0), (1, .int a1), (2, va_re w.1 a2)]) d_T_guestHolds_11 rfl (by decide) (by simp [List.filter, y_cat, y_catI, y_catJ]) ?_
  refine y_aload_n C (i := 2) 3 d_T_guestHolds_12 rfl rfl ?_
  refine y_bipush C (v := 10) d_T_guestHolds_13 (by decide) ?_
  refine y_aload_n C (i := 0) 1 d_T_guestHolds_15 rfl rfl ?_
  refine y_iload_n C (i := 1) 2 d_T_guestHolds_16 rfl rfl ?_
  refine y_iconst C (v := 2) d_T_guestHolds_17 (by decide) ?_
  refine y_iadd C d_T_guestHolds_18 ?_
  refine y_callS 2 C (fun out hh => c_T_digit l w F u4 a0 (a1 + (2 : Int32)) out hh) (y_gc g_341) g_339 g_7 g_340 hn_T_digit ⟨Nat.le_of_ble_eq_true rfl, Nat.le_of_ble_eq_true rfl⟩ rfl rfl rfl rfl (by simp [y_cat, y_catI, y_catJ]) d_T_guestHolds_19 h (fun x5 u6 h => ?_)
  refine y_stk (stp0 := [.int x5, .int (10 : Int32), va_re w.1 a2]) rfl ?_
  refine y_imul C d_T_guestHolds_22 ?_
  refine y_aload_n C (i := 0) 1 d_T_guestHolds_23 rfl rfl ?_
  refine y_iload_n C (i := 1) 2 d_T_guestHolds_24 rfl rfl ?_
  refine y_iconst C (v := 3) d_T_guestHolds_25 (by decide) ?_
  refine y_iadd C d_T_guestHolds_26 ?_
  refine y_callS 2 C (fun out hh => c_T_digit l w F u6 a0 (a1 + (3 : Int32)) out hh) (y_gc g_341) g_339 g_7 g_340 hn_T_digit ⟨Nat.le_of_ble_eq_true rfl, Nat.le_of_ble_eq_true rfl⟩ rfl rfl rfl rfl (by simp [y_cat, y_catI, y_catJ]) d_T_guestHolds_27 h (fun x7 u8 h => ?_)
  refine y_stk (stp0 := [.int x7, .int ((10 : Int32) * x5), va_re w.1 a2]) rfl ?_
  refine y_iadd C d_T_guestHolds_30 ?_
  refine y_callV 1 C (q := (yR2, yT2, 9)) (ci := 2) (fun t out hh => c_H_glassAt l w F u8 t (((10 : Int32) * x5) + x7) out hh) gc_T_guestHolds_98 rfl (by decide) hd_H_glassAt ⟨Nat.le_of_ble_eq_true rfl, Nat.le_of_ble_eq_true rfl⟩ rfl rfl rfl rfl (by simp [y_cat, y_catI, y_catJ]) d_T_guestHolds_31 h (fun r9 u10 h => ?_)
  refine y_stk (stp0 := [va_re w.1 r9]) rfl ?_
  refine y_astore C (i := 4) (lvp := [(3, va_re w.1 r3), (0, va_re w.1 a0), (1, .int a1), (2, va_re w.1 a2)]) d_T_guestHolds_34 (by decide) (by simp [List.filter, y_cat, y_catI, y_catJ]) ?_
  refine y_aload_n C (i := 3) 1 d_T_guestHolds_36 rfl rfl ?_
  refine y_ifnull C 62 d_T_guestHolds_37 (by decide) h (fun k11 h => ?_) (fun k11 h => ?_)
  · refine y_iconst C (v := 0) d_T_guestHolds_62 (by decide) ?_
    exact y_zret C hr hlocks d_T_guestHolds_63 h
  · refine y_aload C (i := 4) 0 d_T_guestHolds_40 rfl ?_
    refine y_ifnull C 62 d_T_guestHolds_42 (by decide) h (fun k12 h => ?_) (fun k12 h => ?_)
    · refine y_iconst C (v := 0) d_T_guestHolds_62 (by decide) ?_
      exact y_zret C hr hlocks d_T_guestHolds_63 h
    · refine y_aload_n C (i := 3) 1 d_T_guestHolds_45 rfl rfl ?_
      refine y_gi C (q := (yR1, yT1, 10)) (ci := 1) (k := 6) rfl (by decide) rfl g_100 d_T_guestHolds_46 h (fun x13 h => ?_)
      refine y_bipush C (v := -4) d_T_guestHolds_49 (by decide) ?_
      refine y_ic_ne C 62 d_T_guestHolds_51 (by decide) h (fun k14 h => ?_) (fun k14 h => ?_)
      · refine y_aload C (i := 4) 0 d_T_guestHolds_54 rfl ?_
        refine y_callV 0 C (q := (yR0, yT0, 8)) (ci := 0) (fun t out hh => c_G_isLaid l w F u10 t out hh) gc_T_guestHolds_107 rfl (by decide) hd_G_isLaid ⟨Nat.le_of_ble_eq_true rfl, Nat.le_of_ble_eq_true rfl⟩ rfl rfl rfl rfl (by simp [y_cat, y_catI, y_catJ]) d_T_guestHolds_56 h (fun x15 u16 h => ?_)
        refine y_stk (stp0 := [.int x15]) rfl ?_
        refine y_if_ne C 64 d_T_guestHolds_59 (by decide) h (fun k17 h => ?_) (fun k17 h => ?_)
        · refine y_iconst C (v := 0) d_T_guestHolds_62 (by decide) ?_
          exact y_zret C hr hlocks d_T_guestHolds_63 h
        · refine y_aload_n C (i := 3) 1 d_T_guestHolds_64 rfl rfl ?_
          refine y_aload C (i := 4) 0 d_T_guestHolds_65 rfl ?_
          refine y_callV 1 C (q := (yR1, yT1, 10)) (ci := 1) (fun t out hh => c_U_hold l w F u16 t r9 out hh) gc_T_guestHolds_111 rfl (by decide) hd_U_hold ⟨Nat.le_of_ble_eq_true rfl, Nat.le_of_ble_eq_true rfl⟩ rfl rfl rfl rfl (by simp [y_cat, y_catI, y_catJ]) d_T_guestHolds_67 h (fun v18 u19 h => ?_)
          refine y_stk (stp0 := []) rfl ?_
          refine y_iconst C (v := 1) d_T_guestHolds_70 (by decide) ?_
          exact y_zret C hr hlocks d_T_guestHolds_71 h
      · refine y_iconst C (v := 0) d_T_guestHolds_62 (by decide) ?_
        exact y_zret C hr hlocks d_T_guestHolds_63 h
/-! T_coldTurns -/
theorem d_T_coldTurns_0 : decode prog_5_method_16_code 0 = .ok (.aload_n 2, 1) := by decide +kernel
theorem d_T_coldTurns_1 : decode prog_5_method_16_code 1 = .ok (.aload_n 0, 1) := by decide +kernel
theorem d_T_coldTurns_2 : decode prog_5_method_16_code 2 = .ok (.iload_n 1, 1) := by decide +kernel
theorem d_T_coldTurns_3 : decode prog_5_method_16_code 3 = .ok (.iconst 1, 1) := by decide +kernel
theorem d_T_coldTurns_4 : decode prog_5_method_16_code 4 = .ok (.iadd, 1) := by decide +kernel
theorem d_T_coldTurns_5 : decode prog_5_method_16_code 5 = .ok (.invokestatic 73, 3) := by decide +kernel
theorem d_T_coldTurns_8 : decode prog_5_method_16_code 8 = .ok (.invokevirtual 94, 3) := by decide +kernel
theorem d_T_coldTurns_11 : decode prog_5_method_16_code 11 = .ok (.astore_n 3, 1) := by decide +kernel
theorem d_T_coldTurns_12 : decode prog_5_method_16_code 12 = .ok (.aload_n 3, 1) := by decide +kernel
theorem d_T_coldTurns_13 : decode prog_5_method_16_code 13 = .ok (.ifnonnull 5, 3) := by decide +kernel
theorem d_T_coldTurns_16 : decode prog_5_method_16_code 16 = .ok (.iconst 0, 1) := by decide +kernel
theorem d_T_coldTurns_17 : decode prog_5_method_16_code 17 = .ok (.ireturn, 1) := by decide +kernel
theorem d_T_coldTurns_18 : decode prog_5_method_16_code 18 = .ok (.aload_n 3, 1) := by decide +kernel
theorem d_T_coldTurns_19 : decode prog_5_method_16_code 19 = .ok (.aload_n 3, 1) := by decide +kernel
theorem d_T_coldTurns_20 : decode prog_5_method_16_code 20 = .ok (.getfield 115, 3) := by decide +kernel
theorem d_T_coldTurns_23 : decode prog_5_method_16_code 23 = .ok (.ifCond .ne 7, 3) := by decide +kernel
theorem d_T_coldTurns_26 : decode prog_5_method_16_code 26 = .ok (.iconst 1, 1) := by decide +kernel
theorem d_T_coldTurns_27 : decode prog_5_method_16_code 27 = .ok (.goto 4, 3) := by decide +kernel
theorem d_T_coldTurns_30 : decode prog_5_method_16_code 30 = .ok (.iconst 0, 1) := by decide +kernel
theorem d_T_coldTurns_31 : decode prog_5_method_16_code 31 = .ok (.putfield 115, 3) := by decide +kernel
theorem d_T_coldTurns_34 : decode prog_5_method_16_code 34 = .ok (.iconst 1, 1) := by decide +kernel
theorem d_T_coldTurns_35 : decode prog_5_method_16_code 35 = .ok (.ireturn, 1) := by decide +kernel
theorem gc_T_coldTurns_94 : GoodIn yGW (wsV "WhoseGlass$HouseText" 94 yR2 m_H_guestAt ws_H_guestAt) := y_gV g_361 g_268 g_269 g_2 g_270
set_option maxRecDepth 100000 in
def f_T_coldTurns (F : Nat) (u : Mm) (a0 : Option Nat) (a1 : Int32) (a2 : Option Nat) : Option (Int32 × Mm) := yb (f_T_digit F u a0 (a1 + (1 : Int32))) fun x1 u2 => ob (jk YX 2 a2) fun t => yb (f_H_guestAt F u2 t x1) fun r3 u4 => (if r3 = none then ob (jz (0 : Int32)) (fun v => some (v, u4)) else ob (jgi YX 1 9 u4 r3) fun (x6 : Int32) => ob ((if x6 = 0 then some (1 : Int32) else some (0 : Int32)) : Option (Int32)) fun q7 => ob (jpz YX 1 9 u4 r3 q7) fun (u9 : Mm) => ob (jz (1 : Int32)) (fun v => some (v, u9)))
set_option maxHeartbeats 4000000 in
set_option maxRecDepth 100000 in
theorem c_T_coldTurns (l : Launch) (w : WP) (F : Nat) (u : Mm) (a0 : Option Nat) (a1 : Int32) (a2 : Option Nat) (out : Int32 × Mm) (h : f_T_coldTurns F u a0 a1 a2 = some out) : yMet l m_T_coldTurns ws_T_coldTurns ({ frames := 2, cells := 0, slots := 0, locals := 42 } : Room) YX w u [va_re w.1 a0, .int a1, va_re w.1 a2] yfi out := by
  refine y_entry (own := "WhoseGlass$HouseText") (lv := [(0, va_re w.1 a0), (1, .int a1), (2, va_re w.1 a2)]) (by decide +kernel) rfl (by simp [lv_args, y_cat, y_catI, y_catJ]) (by simp [lg_sl, y_cat, y_catI, y_catJ]) ?_
  intro p e s m args below meth c C hr hlocks
  unfold f_T_coldTurns at h
  refine y_aload_n C (i := 2) 2 d_T_coldTurns_0 rfl rfl ?_
  refine y_aload_n C (i := 0) 0 d_T_coldTurns_1 rfl rfl ?_
  refine y_iload_n C (i := 1) 1 d_T_coldTurns_2 rfl rfl ?_
  refine y_iconst C (v := 1) d_T_coldTurns_3 (by decide) ?_
  refine y_iadd C d_T_coldTurns_4 ?_
  refine y_callS 2 C (fun out hh => c_T_digit l w F u a0 (a1 + (1 : Int32)) out hh) (y_gc g_341) g_339 g_7 g_340 hn_T_digit ⟨Nat.le_of_ble_eq_true rfl, Nat.le_of_ble_eq_true rfl⟩ rfl rfl rfl rfl (by simp [y_cat, y_catI, y_catJ]) d_T_coldTurns_5 h (fun x1 u2 h => ?_)
  refine y_stk (stp0 := [.int x1, va_re w.1 a2]) rfl ?_
  refine y_callV 1 C (q := (yR2, yT2, 9)) (ci := 2) (fun t out hh => c_H_guestAt l w F u2 t x1 out hh) gc_T_coldTurns_94 rfl (by decide) hd_H_guestAt ⟨Nat.le_of_ble_eq_true rfl, Nat.le_of_ble_eq_true rfl⟩ rfl rfl rfl rfl (by simp [y_cat, y_catI, y_catJ]) d_T_coldTurns_8 h (fun r3 u4 h => ?_)
  refine y_stk (stp0 := [va_re w.1 r3]) rfl ?_
  refine y_astore_n C (i := 3) (lvp := [(0, va_re w.1 a0), (1, .int a1), (2, va_re w.1 a2)]) d_T_coldTurns_11 rfl (by decide) (by simp [List.filter, y_cat, y_catI, y_catJ]) ?_
  refine y_aload_n C (i := 3) 0 d_T_coldTurns_12 rfl rfl ?_
  refine y_ifnonnull C 18 d_T_coldTurns_13 (by decide) h (fun k5 h => ?_) (fun k5 h => ?_)
  · refine y_iconst C (v := 0) d_T_coldTurns_16 (by decide) ?_
    exact y_zret C hr hlocks d_T_coldTurns_17 h
  · refine y_aload_n C (i := 3) 0 d_T_coldTurns_18 rfl rfl ?_
    refine y_aload_n C (i := 3) 0 d_T_coldTurns_19 rfl rfl ?_
    refine y_gi C (q := (yR1, yT1, 10)) (ci := 1) (k := 9) rfl (by decide) rfl g_108 d_T_coldTurns_20 h (fun x6 h => ?_)
    obtain ⟨q7, hq7, h⟩ := ob_e h
    have hJq7 : yG p l e ({ frames := 2, cells := 0, slots := 0, locals := 42 } : Room) s m args below meth c YX w 4 (MQ below (yQ YX w yfi out) args s 0 0 (yA YX w)) u4 31 [] [.int q7, va_re w.1 r3] := by
      refine y_pz C (q := (yR1, yT1, 10)) (ci := 1) (k := 9) rfl (by decide) rfl rfl (by decide +kernel) g_108 d_T_coldTurns_31 h (fun u9 h => ?_)
      refine y_iconst C (v := 1) d_T_coldTurns_34 (by decide) ?_
      exact y_zret C hr hlocks d_T_coldTurns_35 h
    refine y_if_ne C 30 d_T_coldTurns_23 (by decide) hq7 (fun k8 hq7 => ?_) (fun k8 hq7 => ?_)
    · refine y_iconst C (v := 1) d_T_coldTurns_26 (by decide) ?_
      refine y_goto C (tgt := 31) d_T_coldTurns_27 (by decide) ?_
      cases hq7
      exact y_sub [] rfl hJq7
    · refine y_iconst C (v := 0) d_T_coldTurns_30 (by decide) ?_
      cases hq7
      exact y_sub [] rfl hJq7
/-! T_setTray -/
theorem d_T_setTray_0 : decode prog_5_method_17_code 0 = .ok (.aload_n 0, 1) := by decide +kernel
theorem d_T_setTray_1 : decode prog_5_method_17_code 1 = .ok (.iload_n 1, 1) := by decide +kernel
theorem d_T_setTray_2 : decode prog_5_method_17_code 2 = .ok (.iconst 1, 1) := by decide +kernel
theorem d_T_setTray_3 : decode prog_5_method_17_code 3 = .ok (.iadd, 1) := by decide +kernel
theorem d_T_setTray_4 : decode prog_5_method_17_code 4 = .ok (.invokestatic 73, 3) := by decide +kernel
theorem d_T_setTray_7 : decode prog_5_method_17_code 7 = .ok (.istore_n 3, 1) := by decide +kernel
theorem d_T_setTray_8 : decode prog_5_method_17_code 8 = .ok (.aload_n 0, 1) := by decide +kernel
theorem d_T_setTray_9 : decode prog_5_method_17_code 9 = .ok (.iload_n 1, 1) := by decide +kernel
theorem d_T_setTray_10 : decode prog_5_method_17_code 10 = .ok (.iconst 2, 1) := by decide +kernel
theorem d_T_setTray_11 : decode prog_5_method_17_code 11 = .ok (.iadd, 1) := by decide +kernel
theorem d_T_setTray_12 : decode prog_5_method_17_code 12 = .ok (.bipush 59, 2) := by decide +kernel
theorem d_T_setTray_14 : decode prog_5_method_17_code 14 = .ok (.invokestatic 32, 3) := by decide +kernel
theorem d_T_setTray_17 : decode prog_5_method_17_code 17 = .ok (.istore 4, 2) := by decide +kernel
theorem d_T_setTray_19 : decode prog_5_method_17_code 19 = .ok (.aload_n 2, 1) := by decide +kernel
theorem d_T_setTray_20 : decode prog_5_method_17_code 20 = .ok (.iload 4, 2) := by decide +kernel
theorem d_T_setTray_22 : decode prog_5_method_17_code 22 = .ok (.ifCond .eq 7, 3) := by decide +kernel
theorem d_T_setTray_25 : decode prog_5_method_17_code 25 = .ok (.iload_n 3, 1) := by decide +kernel
theorem d_T_setTray_26 : decode prog_5_method_17_code 26 = .ok (.goto 15, 3) := by decide +kernel
theorem d_T_setTray_29 : decode prog_5_method_17_code 29 = .ok (.bipush 10, 2) := by decide +kernel
theorem d_T_setTray_31 : decode prog_5_method_17_code 31 = .ok (.iload_n 3, 1) := by decide +kernel
theorem d_T_setTray_32 : decode prog_5_method_17_code 32 = .ok (.imul, 1) := by decide +kernel
theorem d_T_setTray_33 : decode prog_5_method_17_code 33 = .ok (.aload_n 0, 1) := by decide +kernel
theorem d_T_setTray_34 : decode prog_5_method_17_code 34 = .ok (.iload_n 1, 1) := by decide +kernel
theorem d_T_setTray_35 : decode prog_5_method_17_code 35 = .ok (.iconst 2, 1) := by decide +kernel
theorem d_T_setTray_36 : decode prog_5_method_17_code 36 = .ok (.iadd, 1) := by decide +kernel
theorem d_T_setTray_37 : decode prog_5_method_17_code 37 = .ok (.invokestatic 73, 3) := by decide +kernel
theorem d_T_setTray_40 : decode prog_5_method_17_code 40 = .ok (.iadd, 1) := by decide +kernel
theorem d_T_setTray_41 : decode prog_5_method_17_code 41 = .ok (.putfield 119, 3) := by decide +kernel
theorem d_T_setTray_44 : decode prog_5_method_17_code 44 = .ok (.return_, 1) := by decide +kernel
set_option maxRecDepth 100000 in
def f_T_setTray (F : Nat) (u : Mm) (a0 : Option Nat) (a1 : Int32) (a2 : Option Nat) : Option (Unit × Mm) := yb (f_T_digit F u a0 (a1 + (1 : Int32))) fun x1 u2 => yb (f_T_isAt F u2 a0 (a1 + (2 : Int32)) (59 : Int32)) fun x3 u4 => ob ((if x3 = 0 then yb (f_T_digit F u4 a0 (a1 + (2 : Int32))) fun x7 u8 => some ((((10 : Int32) * x1) + x7), u8) else some (x1, u4)) : Option (Int32 × Mm)) fun q5 => ob (jpi YX 2 4 q5.2 a2 q5.1) fun (u9 : Mm) => some ((), u9)
set_option maxHeartbeats 4000000 in
set_option maxRecDepth 100000 in
theorem c_T_setTray (l : Launch) (w : WP) (F : Nat) (u : Mm) (a0 : Option Nat) (a1 : Int32) (a2 : Option Nat) (out : Unit × Mm) (h : f_T_setTray F u a0 a1 a2 = some out) : yMet l m_T_setTray ws_T_setTray ({ frames := 2, cells := 0, slots := 0, locals := 43 } : Room) YX w u [va_re w.1 a0, .int a1, va_re w.1 a2] yfv out := by
  refine y_entry (own := "WhoseGlass$HouseText") (lv := [(0, va_re w.1 a0), (1, .int a1), (2, va_re w.1 a2)]) (by decide +kernel) rfl (by simp [lv_args, y_cat, y_catI, y_catJ]) (by simp [lg_sl, y_cat, y_catI, y_catJ]) ?_
  intro p e s m args below meth c C hr hlocks
  unfold f_T_setTray at h
  refine y_aload_n C (i := 0) 0 d_T_setTray_0 rfl rfl ?_
  refine y_iload_n C (i := 1) 1 d_T_setTray_1 rfl rfl ?_
  refine y_iconst C (v := 1) d_T_setTray_2 (by decide) ?_
  refine y_iadd C d_T_setTray_3 ?_
  refine y_callS 2 C (fun out hh => c_T_digit l w F u a0 (a1 + (1 : Int32)) out hh) (y_gc g_341) g_339 g_7 g_340 hn_T_digit ⟨Nat.le_of_ble_eq_true rfl, Nat.le_of_ble_eq_true rfl⟩ rfl rfl rfl rfl (by simp [y_cat, y_catI, y_catJ]) d_T_setTray_4 h (fun x1 u2 h => ?_)
  refine y_stk (stp0 := [.int x1]) rfl ?_
  refine y_istore_n C (i := 3) (lvp := [(0, va_re w.1 a0), (1, .int a1), (2, va_re w.1 a2)]) d_T_setTray_7 rfl (by decide) (by simp [List.filter, y_cat, y_catI, y_catJ]) ?_
  refine y_aload_n C (i := 0) 1 d_T_setTray_8 rfl rfl ?_
  refine y_iload_n C (i := 1) 2 d_T_setTray_9 rfl rfl ?_
  refine y_iconst C (v := 2) d_T_setTray_10 (by decide) ?_
  refine y_iadd C d_T_setTray_11 ?_
  refine y_bipush C (v := 59) d_T_setTray_12 (by decide) ?_
  refine y_callS 3 C (fun out hh => c_T_isAt l w F u2 a0 (a1 + (2 : Int32)) (59 : Int32) out hh) (y_gc g_254) g_252 g_7 g_253 hn_T_isAt ⟨Nat.le_of_ble_eq_true rfl, Nat.le_of_ble_eq_true rfl⟩ rfl rfl rfl rfl (by simp [y_cat, y_catI, y_catJ]) d_T_setTray_14 h (fun x3 u4 h => ?_)
  refine y_stk (stp0 := [.int x3]) rfl ?_
  refine y_istore C (i := 4) (lvp := [(3, .int x1), (0, va_re w.1 a0), (1, .int a1), (2, va_re w.1 a2)]) d_T_setTray_17 (by decide) rfl ?_
  refine y_aload_n C (i := 2) 4 d_T_setTray_19 rfl rfl ?_
  refine y_iload C (i := 4) 0 d_T_setTray_20 rfl ?_
  obtain ⟨q5, hq5, h⟩ := ob_e h
  have hJq5 : yG p l e ({ frames := 2, cells := 0, slots := 0, locals := 43 } : Room) s m args below meth c YX w 5 (MQ below (yQ YX w yfv out) args s 0 0 (yA YX w)) q5.2 41 [] [.int q5.1, va_re w.1 a2] := by
    refine y_pi C (q := (yR2, yT2, 9)) (ci := 2) (k := 4) rfl (by decide) rfl rfl (by decide +kernel) g_138 d_T_setTray_41 h (fun u9 h => ?_)
    exact y_vret C hr hlocks d_T_setTray_44 h
  refine y_if_eq C 29 d_T_setTray_22 (by decide) hq5 (fun k6 hq5 => ?_) (fun k6 hq5 => ?_)
  · refine y_bipush C (v := 10) d_T_setTray_29 (by decide) ?_
    refine y_iload_n C (i := 3) 1 d_T_setTray_31 rfl rfl ?_
    refine y_imul C d_T_setTray_32 ?_
    refine y_aload_n C (i := 0) 2 d_T_setTray_33 rfl rfl ?_
    refine y_iload_n C (i := 1) 3 d_T_setTray_34 rfl rfl ?_
    refine y_iconst C (v := 2) d_T_setTray_35 (by decide) ?_
    refine y_iadd C d_T_setTray_36 ?_
    refine y_callS 2 C (fun out hh => c_T_digit l w F u4 a0 (a1 + (2 : Int32)) out hh) (y_gc g_341) g_339 g_7 g_340 hn_T_digit ⟨Nat.le_of_ble_eq_true rfl, Nat.le_of_ble_eq_true rfl⟩ rfl rfl rfl rfl (by simp [y_cat, y_catI, y_catJ]) d_T_setTray_37 hq5 (fun x7 u8 hq5 => ?_)
    refine y_stk (stp0 := [.int x7, .int ((10 : Int32) * x1), va_re w.1 a2]) rfl ?_
    refine y_iadd C d_T_setTray_40 ?_
    cases hq5
    exact y_sub [] rfl hJq5
  · refine y_iload_n C (i := 3) 1 d_T_setTray_25 rfl rfl ?_
    refine y_goto C (tgt := 41) d_T_setTray_26 (by decide) ?_
    cases hq5
    exact y_sub [] rfl hJq5
/-! T_obeys -/
theorem d_T_obeys_0 : decode prog_5_method_12_code 0 = .ok (.aload_n 1, 1) := by decide +kernel
theorem d_T_obeys_1 : decode prog_5_method_12_code 1 = .ok (.iload_n 2, 1) := by decide +kernel
theorem d_T_obeys_2 : decode prog_5_method_12_code 2 = .ok (.invokevirtual 25, 3) := by decide +kernel
theorem d_T_obeys_5 : decode prog_5_method_12_code 5 = .ok (.lookupswitch 87 #[(99, 72), (103, 51), (104, 65), (112, 58), (116, 79)], 51) := by decide +kernel
theorem d_T_obeys_56 : decode prog_5_method_12_code 56 = .ok (.aload_n 1, 1) := by decide +kernel
theorem d_T_obeys_57 : decode prog_5_method_12_code 57 = .ok (.iload_n 2, 1) := by decide +kernel
theorem d_T_obeys_58 : decode prog_5_method_12_code 58 = .ok (.aload_n 0, 1) := by decide +kernel
theorem d_T_obeys_59 : decode prog_5_method_12_code 59 = .ok (.invokestatic 56, 3) := by decide +kernel
theorem d_T_obeys_62 : decode prog_5_method_12_code 62 = .ok (.ireturn, 1) := by decide +kernel
theorem d_T_obeys_63 : decode prog_5_method_12_code 63 = .ok (.aload_n 1, 1) := by decide +kernel
theorem d_T_obeys_64 : decode prog_5_method_12_code 64 = .ok (.iload_n 2, 1) := by decide +kernel
theorem d_T_obeys_65 : decode prog_5_method_12_code 65 = .ok (.aload_n 0, 1) := by decide +kernel
theorem d_T_obeys_66 : decode prog_5_method_12_code 66 = .ok (.invokestatic 60, 3) := by decide +kernel
theorem d_T_obeys_69 : decode prog_5_method_12_code 69 = .ok (.ireturn, 1) := by decide +kernel
theorem d_T_obeys_70 : decode prog_5_method_12_code 70 = .ok (.aload_n 1, 1) := by decide +kernel
theorem d_T_obeys_71 : decode prog_5_method_12_code 71 = .ok (.iload_n 2, 1) := by decide +kernel
theorem d_T_obeys_72 : decode prog_5_method_12_code 72 = .ok (.aload_n 0, 1) := by decide +kernel
theorem d_T_obeys_73 : decode prog_5_method_12_code 73 = .ok (.invokestatic 63, 3) := by decide +kernel
theorem d_T_obeys_76 : decode prog_5_method_12_code 76 = .ok (.ireturn, 1) := by decide +kernel
theorem d_T_obeys_77 : decode prog_5_method_12_code 77 = .ok (.aload_n 1, 1) := by decide +kernel
theorem d_T_obeys_78 : decode prog_5_method_12_code 78 = .ok (.iload_n 2, 1) := by decide +kernel
theorem d_T_obeys_79 : decode prog_5_method_12_code 79 = .ok (.aload_n 0, 1) := by decide +kernel
theorem d_T_obeys_80 : decode prog_5_method_12_code 80 = .ok (.invokestatic 66, 3) := by decide +kernel
theorem d_T_obeys_83 : decode prog_5_method_12_code 83 = .ok (.ireturn, 1) := by decide +kernel
theorem d_T_obeys_84 : decode prog_5_method_12_code 84 = .ok (.aload_n 1, 1) := by decide +kernel
theorem d_T_obeys_85 : decode prog_5_method_12_code 85 = .ok (.iload_n 2, 1) := by decide +kernel
theorem d_T_obeys_86 : decode prog_5_method_12_code 86 = .ok (.aload_n 0, 1) := by decide +kernel
theorem d_T_obeys_87 : decode prog_5_method_12_code 87 = .ok (.invokestatic 69, 3) := by decide +kernel
theorem d_T_obeys_90 : decode prog_5_method_12_code 90 = .ok (.iconst 1, 1) := by decide +kernel
theorem d_T_obeys_91 : decode prog_5_method_12_code 91 = .ok (.ireturn, 1) := by decide +kernel
theorem d_T_obeys_92 : decode prog_5_method_12_code 92 = .ok (.iconst 0, 1) := by decide +kernel
theorem d_T_obeys_93 : decode prog_5_method_12_code 93 = .ok (.ireturn, 1) := by decide +kernel
theorem gc_T_obeys_25 : GoodIn yGW (wsV "WhoseGlass$HouseText" 25 yR3 m_S_elementAt ws_S_elementAt) := y_gV g_236 g_237 g_238 g_5 g_239
set_option maxRecDepth 100000 in
def f_T_obeys (F : Nat) (u : Mm) (a0 : Option Nat) (a1 : Option Nat) (a2 : Int32) : Option (Int32 × Mm) := ob (jk YX 3 a1) fun t => yb (f_S_elementAt F u t a2) fun x1 u2 => (if x1 = (99 : Int32) then yb (f_T_coldTurns F u2 a1 a2 a0) fun x4 u5 => ob (jz x4) (fun v => some (v, u5)) else (if x1 = (103 : Int32) then yb (f_T_glassStands F u2 a1 a2 a0) fun x7 u8 => ob (jz x7) (fun v => some (v, u8)) else (if x1 = (104 : Int32) then yb (f_T_guestHolds F u2 a1 a2 a0) fun x10 u11 => ob (jz x10) (fun v => some (v, u11)) else (if x1 = (112 : Int32) then yb (f_T_guestEnters F u2 a1 a2 a0) fun x13 u14 => ob (jz x13) (fun v => some (v, u14)) else (if x1 = (116 : Int32) then yb (f_T_setTray F u2 a1 a2 a0) fun v16 u17 => ob (jz (1 : Int32)) (fun v => some (v, u17)) else ob (jz (0 : Int32)) (fun v => some (v, u2)))))))
set_option maxHeartbeats 4000000 in
set_option maxRecDepth 100000 in
theorem c_T_obeys (l : Launch) (w : WP) (F : Nat) (u : Mm) (a0 : Option Nat) (a1 : Option Nat) (a2 : Int32) (out : Int32 × Mm) (h : f_T_obeys F u a0 a1 a2 = some out) : yMet l m_T_obeys ws_T_obeys ({ frames := 3, cells := 0, slots := 0, locals := 78 } : Room) YX w u [va_re w.1 a0, va_re w.1 a1, .int a2] yfi out := by
  refine y_entry (own := "WhoseGlass$HouseText") (lv := [(0, va_re w.1 a0), (1, va_re w.1 a1), (2, .int a2)]) (by decide +kernel) rfl (by simp [lv_args, y_cat, y_catI, y_catJ]) (by simp [lg_sl, y_cat, y_catI, y_catJ]) ?_
  intro p e s m args below meth c C hr hlocks
  unfold f_T_obeys at h
  refine y_aload_n C (i := 1) 1 d_T_obeys_0 rfl rfl ?_
  refine y_iload_n C (i := 2) 2 d_T_obeys_1 rfl rfl ?_
  refine y_callV 1 C (q := (yR3, yT3, 6)) (ci := 3) (fun t out hh => c_S_elementAt l w F u t a2 out hh) gc_T_obeys_25 rfl (by decide) hd_S_elementAt ⟨Nat.le_of_ble_eq_true rfl, Nat.le_of_ble_eq_true rfl⟩ rfl rfl rfl rfl (by simp [y_cat, y_catI, y_catJ]) d_T_obeys_2 h (fun x1 u2 h => ?_)
  refine y_stk (stp0 := [.int x1]) rfl ?_
  refine y_sp h (fun k3 h => ?_) (fun k3 h => ?_)
  · refine y_lsw C (off := 72) 77 d_T_obeys_5 (by decide) (by rw [k3]; decide +kernel) (by decide) ?_
    refine y_aload_n C (i := 1) 1 d_T_obeys_77 rfl rfl ?_
    refine y_iload_n C (i := 2) 2 d_T_obeys_78 rfl rfl ?_
    refine y_aload_n C (i := 0) 0 d_T_obeys_79 rfl rfl ?_
    refine y_callS 3 C (fun out hh => c_T_coldTurns l w F u2 a1 a2 a0 out hh) (y_gc g_370) g_368 g_7 g_369 hn_T_coldTurns ⟨Nat.le_of_ble_eq_true rfl, Nat.le_of_ble_eq_true rfl⟩ rfl rfl rfl rfl (by simp [y_cat, y_catI, y_catJ]) d_T_obeys_80 h (fun x4 u5 h => ?_)
    refine y_stk (stp0 := [.int x4]) rfl ?_
    exact y_zret C hr hlocks d_T_obeys_83 h
  refine y_sp h (fun k6 h => ?_) (fun k6 h => ?_)
  · refine y_lsw C (off := 51) 56 d_T_obeys_5 (by decide) (by rw [k6]; decide +kernel) (by decide) ?_
    refine y_aload_n C (i := 1) 1 d_T_obeys_56 rfl rfl ?_
    refine y_iload_n C (i := 2) 2 d_T_obeys_57 rfl rfl ?_
    refine y_aload_n C (i := 0) 0 d_T_obeys_58 rfl rfl ?_
    refine y_callS 3 C (fun out hh => c_T_glassStands l w F u2 a1 a2 a0 out hh) (y_gc g_338) g_336 g_7 g_337 hn_T_glassStands ⟨Nat.le_of_ble_eq_true rfl, Nat.le_of_ble_eq_true rfl⟩ rfl rfl rfl rfl (by simp [y_cat, y_catI, y_catJ]) d_T_obeys_59 h (fun x7 u8 h => ?_)
    refine y_stk (stp0 := [.int x7]) rfl ?_
    exact y_zret C hr hlocks d_T_obeys_62 h
  refine y_sp h (fun k9 h => ?_) (fun k9 h => ?_)
  · refine y_lsw C (off := 65) 70 d_T_obeys_5 (by decide) (by rw [k9]; decide +kernel) (by decide) ?_
    refine y_aload_n C (i := 1) 1 d_T_obeys_70 rfl rfl ?_
    refine y_iload_n C (i := 2) 2 d_T_obeys_71 rfl rfl ?_
    refine y_aload_n C (i := 0) 0 d_T_obeys_72 rfl rfl ?_
    refine y_callS 3 C (fun out hh => c_T_guestHolds l w F u2 a1 a2 a0 out hh) (y_gc g_360) g_358 g_7 g_359 hn_T_guestHolds ⟨Nat.le_of_ble_eq_true rfl, Nat.le_of_ble_eq_true rfl⟩ rfl rfl rfl rfl (by simp [y_cat, y_catI, y_catJ]) d_T_obeys_73 h (fun x10 u11 h => ?_)
    refine y_stk (stp0 := [.int x10]) rfl ?_
    exact y_zret C hr hlocks d_T_obeys_76 h
  refine y_sp h (fun k12 h => ?_) (fun k12 h => ?_)
  · refine y_lsw C (off := 58) 63 d_T_obeys_5 (by decide) (by rw [k12]; decide +kernel) (by decide) ?_
    refine y_aload_n C (i := 1) 1 d_T_obeys_63 rfl rfl ?_
    refine y_iload_n C (i := 2) 2 d_T_obeys_64 rfl rfl ?_
    refine y_aload_n C (i := 0) 0 d_T_obeys_65 rfl rfl ?_
    refine y_callS 3 C (fun out hh => c_T_guestEnters l w F u2 a1 a2 a0 out hh) (y_gc g_349) g_347 g_7 g_348 hn_T_guestEnters ⟨Nat.le_of_ble_eq_true rfl, Nat.le_of_ble_eq_true rfl⟩ rfl rfl rfl rfl (by simp [y_cat, y_catI, y_catJ]) d_T_obeys_66 h (fun x13 u14 h => ?_)
    refine y_stk (stp0 := [.int x13]) rfl ?_
    exact y_zret C hr hlocks d_T_obeys_69 h
  refine y_sp h (fun k15 h => ?_) (fun k15 h => ?_)
  · refine y_lsw C (off := 79) 84 d_T_obeys_5 (by decide) (by rw [k15]; decide +kernel) (by decide) ?_
    refine y_aload_n C (i := 1) 1 d_T_obeys_84 rfl rfl ?_
    refine y_iload_n C (i := 2) 2 d_T_obeys_85 rfl rfl ?_
    refine y_aload_n C (i := 0) 0 d_T_obeys_86 rfl rfl ?_
    refine y_callS 3 C (fun out hh => c_T_setTray l w F u2 a1 a2 a0 out hh) (y_gc g_373) g_371 g_7 g_372 hn_T_setTray ⟨Nat.le_of_ble_eq_true rfl, Nat.le_of_ble_eq_true rfl⟩ rfl rfl rfl rfl (by simp [y_cat, y_catI, y_catJ]) d_T_obeys_87 h (fun v16 u17 h => ?_)
    refine y_stk (stp0 := []) rfl ?_
    refine y_iconst C (v := 1) d_T_obeys_90 (by decide) ?_
    exact y_zret C hr hlocks d_T_obeys_91 h
  refine y_lsw C (off := 87) 92 d_T_obeys_5 (by decide) (by show Op.lookupswitch.offset [(99, 72), (103, 51), (104, 65), (112, 58), (116, 79)] 87 _ = _; rw [lv_osw (a := 99) k3 rfl, lv_osw (a := 103) k6 rfl, lv_osw (a := 104) k9 rfl, lv_osw (a := 112) k12 rfl, lv_osw (a := 116) k15 rfl]; rfl) (by decide) ?_
  refine y_iconst C (v := 0) d_T_obeys_92 (by decide) ?_
  exact y_zret C hr hlocks d_T_obeys_93 h
/-! T_build -/
theorem d_T_build_0 : decode prog_5_method_4_code 0 = .ok (.iconst 0, 1) := by decide +kernel
theorem d_T_build_1 : decode prog_5_method_4_code 1 = .ok (.istore_n 2, 1) := by decide +kernel
theorem d_T_build_2 : decode prog_5_method_4_code 2 = .ok (.iconst 0, 1) := by decide +kernel
theorem d_T_build_3 : decode prog_5_method_4_code 3 = .ok (.istore_n 3, 1) := by decide +kernel
theorem d_T_build_4 : decode prog_5_method_4_code 4 = .ok (.iload_n 3, 1) := by decide +kernel
theorem d_T_build_5 : decode prog_5_method_4_code 5 = .ok (.aload_n 0, 1) := by decide +kernel
theorem d_T_build_6 : decode prog_5_method_4_code 6 = .ok (.getfield 9, 3) := by decide +kernel
theorem d_T_build_9 : decode prog_5_method_4_code 9 = .ok (.if_icmp .ge 64, 3) := by decide +kernel
theorem d_T_build_12 : decode prog_5_method_4_code 12 = .ok (.iload_n 2, 1) := by decide +kernel
theorem d_T_build_13 : decode prog_5_method_4_code 13 = .ok (.aload_n 0, 1) := by decide +kernel
theorem d_T_build_14 : decode prog_5_method_4_code 14 = .ok (.getfield 9, 3) := by decide +kernel
theorem d_T_build_17 : decode prog_5_method_4_code 17 = .ok (.if_icmp .ge 56, 3) := by decide +kernel
theorem d_T_build_20 : decode prog_5_method_4_code 20 = .ok (.aload_n 0, 1) := by decide +kernel
theorem d_T_build_21 : decode prog_5_method_4_code 21 = .ok (.iload_n 2, 1) := by decide +kernel
theorem d_T_build_22 : decode prog_5_method_4_code 22 = .ok (.bipush 109, 2) := by decide +kernel
theorem d_T_build_24 : decode prog_5_method_4_code 24 = .ok (.invokestatic 32, 3) := by decide +kernel
theorem d_T_build_27 : decode prog_5_method_4_code 27 = .ok (.ifCond .eq 21, 3) := by decide +kernel
theorem d_T_build_30 : decode prog_5_method_4_code 30 = .ok (.aload_n 1, 1) := by decide +kernel
theorem d_T_build_31 : decode prog_5_method_4_code 31 = .ok (.getfield 36, 3) := by decide +kernel
theorem d_T_build_34 : decode prog_5_method_4_code 34 = .ok (.sipush 999, 3) := by decide +kernel
theorem d_T_build_37 : decode prog_5_method_4_code 37 = .ok (.if_icmp .ge 11, 3) := by decide +kernel
theorem d_T_build_40 : decode prog_5_method_4_code 40 = .ok (.aload_n 1, 1) := by decide +kernel
theorem d_T_build_41 : decode prog_5_method_4_code 41 = .ok (.iconst 1, 1) := by decide +kernel
theorem d_T_build_42 : decode prog_5_method_4_code 42 = .ok (.invokevirtual 41, 3) := by decide +kernel
theorem d_T_build_45 : decode prog_5_method_4_code 45 = .ok (.goto 14, 3) := by decide +kernel
theorem d_T_build_48 : decode prog_5_method_4_code 48 = .ok (.aload_n 1, 1) := by decide +kernel
theorem d_T_build_49 : decode prog_5_method_4_code 49 = .ok (.aload_n 0, 1) := by decide +kernel
theorem d_T_build_50 : decode prog_5_method_4_code 50 = .ok (.iload_n 2, 1) := by decide +kernel
theorem d_T_build_51 : decode prog_5_method_4_code 51 = .ok (.invokestatic 45, 3) := by decide +kernel
theorem d_T_build_54 : decode prog_5_method_4_code 54 = .ok (.ifCond .ne 5, 3) := by decide +kernel
theorem d_T_build_57 : decode prog_5_method_4_code 57 = .ok (.iload_n 2, 1) := by decide +kernel
theorem d_T_build_58 : decode prog_5_method_4_code 58 = .ok (.ireturn, 1) := by decide +kernel
theorem d_T_build_59 : decode prog_5_method_4_code 59 = .ok (.aload_n 0, 1) := by decide +kernel
theorem d_T_build_60 : decode prog_5_method_4_code 60 = .ok (.iload_n 2, 1) := by decide +kernel
theorem d_T_build_61 : decode prog_5_method_4_code 61 = .ok (.invokestatic 15, 3) := by decide +kernel
theorem d_T_build_64 : decode prog_5_method_4_code 64 = .ok (.iconst 1, 1) := by decide +kernel
theorem d_T_build_65 : decode prog_5_method_4_code 65 = .ok (.iadd, 1) := by decide +kernel
theorem d_T_build_66 : decode prog_5_method_4_code 66 = .ok (.istore_n 2, 1) := by decide +kernel
theorem d_T_build_67 : decode prog_5_method_4_code 67 = .ok (.iinc 3 1, 3) := by decide +kernel
theorem d_T_build_70 : decode prog_5_method_4_code 70 = .ok (.goto (-66), 3) := by decide +kernel
theorem d_T_build_73 : decode prog_5_method_4_code 73 = .ok (.bipush (-4), 2) := by decide +kernel
theorem d_T_build_75 : decode prog_5_method_4_code 75 = .ok (.ireturn, 1) := by decide +kernel
theorem gc_T_build_41 : GoodIn yGW (wsV "WhoseGlass$HouseText" 41 yR2 m_H_passMinutes ws_H_passMinutes) := y_gV g_278 g_279 g_280 g_2 g_281
set_option maxHeartbeats 4000000 in
set_option maxRecDepth 100000 in
def f_T_build_L4 (F : Nat) (a0 : Option Nat) (a1 : Option Nat) (k : Mm → Option (Int32 × Mm)) : Nat → Mm → Int32 → Int32 → Option (Int32 × Mm)
  | 0, _, _, _ => none
  | n + 1, u, a2, a3 => ob (jgi YX 3 4 u a0) fun (x1 : Int32) => (if x1 ≤ a3 then k u  else ob (jgi YX 3 4 u a0) fun (x3 : Int32) => (if x3 ≤ a2 then k u  else yb (f_T_isAt F u a0 a2 (109 : Int32)) fun x5 u6 => (if x5 = 0 then yb (f_T_obeys F u6 a1 a0 a2) fun x8 u9 => (if x8 = 0 then some (a2, u9) else yb (f_T_digitsEnd F u9 a0 a2) fun x11 u12 => ob (some (x11 + (1 : Int32))) fun (x13 : Int32) => ob (some (a3 + (1 : Int32))) fun (x14 : Int32) => f_T_build_L4 F a0 a1 k n u12 x13 x14) else ob (jgi YX 2 5 u6 a1) fun (x15 : Int32) => (if (999 : Int32) ≤ x15 then yb (f_T_obeys F u6 a1 a0 a2) fun x17 u18 => (if x17 = 0 then some (a2, u18) else yb (f_T_digitsEnd F u18 a0 a2) fun x20 u21 => ob (some (x20 + (1 : Int32))) fun (x22 : Int32) => ob (some (a3 + (1 : Int32))) fun (x23 : Int32) => f_T_build_L4 F a0 a1 k n u21 x22 x23) else ob (jk YX 2 a1) fun t => yb (f_H_passMinutes F u6 t (1 : Int32)) fun v24 u25 => yb (f_T_digitsEnd F u25 a0 a2) fun x26 u27 => ob (some (x26 + (1 : Int32))) fun (x28 : Int32) => ob (some (a3 + (1 : Int32))) fun (x29 : Int32) => f_T_build_L4 F a0 a1 k n u27 x28 x29))))
set_option maxHeartbeats 4000000 in
set_option maxRecDepth 100000 in
theorem w_T_build_L4 {p : Program} {l : Launch} {e : Env} {s : State} {m : MethodId} {args : Array Value} {below : List Frame} {meth : Method} {c : Code} {w : WP} (F : Nat) (C : yX p e ({ frames := 5, cells := 0, slots := 0, locals := 125 } : Room) s m args c YX w 4 prog_5_method_4_code "WhoseGlass$HouseText") (hr : meth.sig.returnType = (some .int)) (hlocks : meth.locks = false) (a0 : Option Nat) (a1 : Option Nat) {out : Int32 × Mm} (k : Mm → Option (Int32 × Mm)) (hk : ∀ (u : Mm), k u  = some out → yG p l e ({ frames := 5, cells := 0, slots := 0, locals := 125 } : Room) s m args below meth c YX w 4 (MQ below (yQ YX w yfi out) args s 0 0 (yA YX w)) u 73 [] []) : ∀ (n : Nat) (u : Mm) (a2 : Int32) (a3 : Int32), f_T_build_L4 F a0 a1 k n u a2 a3 = some out → yG p l e ({ frames := 5, cells := 0, slots := 0, locals := 125 } : Room) s m args below meth c YX w 4 (MQ below (yQ YX w yfi out) args s 0 0 (yA YX w)) u 4 [(0, va_re w.1 a0), (1, va_re w.1 a1), (2, .int a2), (3, .int a3)] [] := by
  intro n
  induction n with
  | zero => intro u a2 a3 h; rw [f_T_build_L4] at h; cases h
  | succ n ih =>
    intro u a2 a3 h
    rw [f_T_build_L4] at h
    refine y_iload_n C (i := 3) 3 d_T_build_4 rfl rfl ?_
    refine y_aload_n C (i := 0) 0 d_T_build_5 rfl rfl ?_
    refine y_gi C (q := (yR3, yT3, 6)) (ci := 3) (k := 4) rfl (by decide) rfl g_183 d_T_build_6 h (fun x1 h => ?_)
    refine y_ic_ge C 73 d_T_build_9 (by decide) h (fun k2 h => ?_) (fun k2 h => ?_)
    · exact y_sub [] rfl (hk _ h)
    · refine y_iload_n C (i := 2) 2 d_T_build_12 rfl rfl ?_
      refine y_aload_n C (i := 0) 0 d_T_build_13 rfl rfl ?_
      refine y_gi C (q := (yR3, yT3, 6)) (ci := 3) (k := 4) rfl (by decide) rfl g_183 d_T_build_14 h (fun x3 h => ?_)
      refine y_ic_ge C 73 d_T_build_17 (by decide) h (fun k4 h => ?_) (fun k4 h => ?_)
      · exact y_sub [] rfl (hk _ h)
      · refine y_aload_n C (i := 0) 0 d_T_build_20 rfl rfl ?_
        refine y_iload_n C (i := 2) 2 d_T_build_21 rfl rfl ?_
        refine y_bipush C (v := 109) d_T_build_22 (by decide) ?_
        refine y_callS 3 C (fun out hh => c_T_isAt l w F u a0 a2 (109 : Int32) out hh) (y_gc g_254) g_252 g_7 g_253 hn_T_isAt ⟨Nat.le_of_ble_eq_true rfl, Nat.le_of_ble_eq_true rfl⟩ rfl rfl rfl rfl (by simp [y_cat, y_catI, y_catJ]) d_T_build_24 h (fun x5 u6 h => ?_)
        refine y_stk (stp0 := [.int x5]) rfl ?_
        refine y_if_eq C 48 d_T_build_27 (by decide) h (fun k7 h => ?_) (fun k7 h => ?_)
        · refine y_aload_n C (i := 1) 1 d_T_build_48 rfl rfl ?_
          refine y_aload_n C (i := 0) 0 d_T_build_49 rfl rfl ?_
          refine y_iload_n C (i := 2) 2 d_T_build_50 rfl rfl ?_
          refine y_callS 3 C (fun out hh => c_T_obeys l w F u6 a1 a0 a2 out hh) (y_gc g_335) g_333 g_7 g_334 hn_T_obeys ⟨Nat.le_of_ble_eq_true rfl, Nat.le_of_ble_eq_true rfl⟩ rfl rfl rfl rfl (by simp [y_cat, y_catI, y_catJ]) d_T_build_51 h (fun x8 u9 h => ?_)
          refine y_stk (stp0 := [.int x8]) rfl ?_
          refine y_if_ne C 59 d_T_build_54 (by decide) h (fun k10 h => ?_) (fun k10 h => ?_)
          · refine y_iload_n C (i := 2) 2 d_T_build_57 rfl rfl ?_
            exact y_iret C hr hlocks d_T_build_58 h
          · refine y_aload_n C (i := 0) 0 d_T_build_59 rfl rfl ?_
            refine y_iload_n C (i := 2) 2 d_T_build_60 rfl rfl ?_
            refine y_callS 2 C (fun out hh => c_T_digitsEnd l w F u9 a0 a2 out hh) (y_gc g_235) g_233 g_7 g_234 hn_T_digitsEnd ⟨Nat.le_of_ble_eq_true rfl, Nat.le_of_ble_eq_true rfl⟩ rfl rfl rfl rfl (by simp [y_cat, y_catI, y_catJ]) d_T_build_61 h (fun x11 u12 h => ?_)
            refine y_stk (stp0 := [.int x11]) rfl ?_
            refine y_iconst C (v := 1) d_T_build_64 (by decide) ?_
            refine y_iadd C d_T_build_65 ?_
            refine y_istore_nB C (i := 2) (lvp := [(0, va_re w.1 a0), (1, va_re w.1 a1), (3, .int a3)]) d_T_build_66 rfl (by decide) (by simp [List.filter, y_cat, y_catI, y_catJ]) h (fun x13 h => ?_)
            refine y_iinc C (j := 3) (v := 1) (lvp := [(2, .int x13), (0, va_re w.1 a0), (1, va_re w.1 a1)]) d_T_build_67 rfl (by decide) (by decide) rfl h (fun x14 h => ?_)
            refine y_goto C (tgt := 4) d_T_build_70 (by decide) ?_
            exact y_sub [2, 3, 1, 0] rfl (ih _ _ _ h)
        · refine y_aload_n C (i := 1) 1 d_T_build_30 rfl rfl ?_
          refine y_gi C (q := (yR2, yT2, 9)) (ci := 2) (k := 5) rfl (by decide) rfl g_141 d_T_build_31 h (fun x15 h => ?_)
          refine y_sipush C (v := 999) d_T_build_34 (by decide) ?_
          refine y_ic_ge C 48 d_T_build_37 (by decide) h (fun k16 h => ?_) (fun k16 h => ?_)
          · refine y_aload_n C (i := 1) 1 d_T_build_48 rfl rfl ?_
            refine y_aload_n C (i := 0) 0 d_T_build_49 rfl rfl ?_
            refine y_iload_n C (i := 2) 2 d_T_build_50 rfl rfl ?_
            refine y_callS 3 C (fun out hh => c_T_obeys l w F u6 a1 a0 a2 out hh) (y_gc g_335) g_333 g_7 g_334 hn_T_obeys ⟨Nat.le_of_ble_eq_true rfl, Nat.le_of_ble_eq_true rfl⟩ rfl rfl rfl rfl (by simp [y_cat, y_catI, y_catJ]) d_T_build_51 h (fun x17 u18 h => ?_)
            refine y_stk (stp0 := [.int x17]) rfl ?_
            refine y_if_ne C 59 d_T_build_54 (by decide) h (fun k19 h => ?_) (fun k19 h => ?_)
            · refine y_iload_n C (i := 2) 2 d_T_build_57 rfl rfl ?_
              exact y_iret C hr hlocks d_T_build_58 h
            · refine y_aload_n C (i := 0) 0 d_T_build_59 rfl rfl ?_
              refine y_iload_n C (i := 2) 2 d_T_build_60 rfl rfl ?_
              refine y_callS 2 C (fun out hh => c_T_digitsEnd l w F u18 a0 a2 out hh) (y_gc g_235) g_233 g_7 g_234 hn_T_digitsEnd ⟨Nat.le_of_ble_eq_true rfl, Nat.le_of_ble_eq_true rfl⟩ rfl rfl rfl rfl (by simp [y_cat, y_catI, y_catJ]) d_T_build_61 h (fun x20 u21 h => ?_)
              refine y_stk (stp0 := [.int x20]) rfl ?_
              refine y_iconst C (v := 1) d_T_build_64 (by decide) ?_
              refine y_iadd C d_T_build_65 ?_
              refine y_istore_nB C (i := 2) (lvp := [(0, va_re w.1 a0), (1, va_re w.1 a1), (3, .int a3)]) d_T_build_66 rfl (by decide) (by simp [List.filter, y_cat, y_catI, y_catJ]) h (fun x22 h => ?_)
              refine y_iinc C (j := 3) (v := 1) (lvp := [(2, .int x22), (0, va_re w.1 a0), (1, va_re w.1 a1)]) d_T_build_67 rfl (by decide) (by decide) rfl h (fun x23 h => ?_)
              refine y_goto C (tgt := 4) d_T_build_70 (by decide) ?_
              exact y_sub [2, 3, 1, 0] rfl (ih _ _ _ h)
          · refine y_aload_n C (i := 1) 1 d_T_build_40 rfl rfl ?_
            refine y_iconst C (v := 1) d_T_build_41 (by decide) ?_
            refine y_callV 1 C (q := (yR2, yT2, 9)) (ci := 2) (fun t out hh => c_H_passMinutes l w F u6 t (1 : Int32) out hh) gc_T_build_41 rfl (by decide) hd_H_passMinutes ⟨Nat.le_of_ble_eq_true rfl, Nat.le_of_ble_eq_true rfl⟩ rfl rfl rfl rfl (by simp [y_cat, y_catI, y_catJ]) d_T_build_42 h (fun v24 u25 h => ?_)
            refine y_stk (stp0 := []) rfl ?_
            refine y_goto C (tgt := 59) d_T_build_45 (by decide) ?_
            refine y_aload_n C (i := 0) 0 d_T_build_59 rfl rfl ?_
            refine y_iload_n C (i := 2) 2 d_T_build_60 rfl rfl ?_
            refine y_callS 2 C (fun out hh => c_T_digitsEnd l w F u25 a0 a2 out hh) (y_gc g_235) g_233 g_7 g_234 hn_T_digitsEnd ⟨Nat.le_of_ble_eq_true rfl, Nat.le_of_ble_eq_true rfl⟩ rfl rfl rfl rfl (by simp [y_cat, y_catI, y_catJ]) d_T_build_61 h (fun x26 u27 h => ?_)
            refine y_stk (stp0 := [.int x26]) rfl ?_
            refine y_iconst C (v := 1) d_T_build_64 (by decide) ?_
            refine y_iadd C d_T_build_65 ?_
            refine y_istore_nB C (i := 2) (lvp := [(0, va_re w.1 a0), (1, va_re w.1 a1), (3, .int a3)]) d_T_build_66 rfl (by decide) (by simp [List.filter, y_cat, y_catI, y_catJ]) h (fun x28 h => ?_)
            refine y_iinc C (j := 3) (v := 1) (lvp := [(2, .int x28), (0, va_re w.1 a0), (1, va_re w.1 a1)]) d_T_build_67 rfl (by decide) (by decide) rfl h (fun x29 h => ?_)
            refine y_goto C (tgt := 4) d_T_build_70 (by decide) ?_
            exact y_sub [2, 3, 1, 0] rfl (ih _ _ _ h)
set_option maxRecDepth 100000 in
def f_T_build (F : Nat) (u : Mm) (a0 : Option Nat) (a1 : Option Nat) : Option (Int32 × Mm) := f_T_build_L4 F a0 a1 (fun (u30 : Mm) => some ((-4 : Int32), u30)) F u (0 : Int32) (0 : Int32)
set_option maxHeartbeats 4000000 in
set_option maxRecDepth 100000 in
theorem c_T_build (l : Launch) (w : WP) (F : Nat) (u : Mm) (a0 : Option Nat) (a1 : Option Nat) (out : Int32 × Mm) (h : f_T_build F u a0 a1 = some out) : yMet l m_T_build ws_T_build ({ frames := 5, cells := 0, slots := 0, locals := 125 } : Room) YX w u [va_re w.1 a0, va_re w.1 a1] yfi out := by
  refine y_entry (own := "WhoseGlass$HouseText") (lv := [(0, va_re w.1 a0), (1, va_re w.1 a1)]) (by decide +kernel) rfl (by simp [lv_args, y_cat, y_catI, y_catJ]) (by simp [lg_sl, y_cat, y_catI, y_catJ]) ?_
  intro p e s m args below meth c C hr hlocks
  unfold f_T_build at h
  refine y_iconst C (v := 0) d_T_build_0 (by decide) ?_
  refine y_istore_n C (i := 2) (lvp := [(0, va_re w.1 a0), (1, va_re w.1 a1)]) d_T_build_1 rfl (by decide) (by simp [List.filter, y_cat, y_catI, y_catJ]) ?_
  refine y_iconst C (v := 0) d_T_build_2 (by decide) ?_
  refine y_istore_n C (i := 3) (lvp := [(2, .int (0 : Int32)), (0, va_re w.1 a0), (1, va_re w.1 a1)]) d_T_build_3 rfl (by decide) rfl ?_
  refine y_sub [2, 3, 1, 0] rfl (w_T_build_L4 F C hr hlocks _ _ _ (fun u30 h => ?_) _ _ _ _ h)
  refine y_bipush C (v := -4) d_T_build_73 (by decide) ?_
  exact y_iret C hr hlocks d_T_build_75 h
/-! T_statementsIn -/
theorem d_T_statementsIn_0 : decode prog_5_method_5_code 0 = .ok (.iconst 0, 1) := by decide +kernel
theorem d_T_statementsIn_1 : decode prog_5_method_5_code 1 = .ok (.istore_n 1, 1) := by decide +kernel
theorem d_T_statementsIn_2 : decode prog_5_method_5_code 2 = .ok (.iconst 0, 1) := by decide +kernel
theorem d_T_statementsIn_3 : decode prog_5_method_5_code 3 = .ok (.istore_n 2, 1) := by decide +kernel
theorem d_T_statementsIn_4 : decode prog_5_method_5_code 4 = .ok (.iload_n 2, 1) := by decide +kernel
theorem d_T_statementsIn_5 : decode prog_5_method_5_code 5 = .ok (.aload_n 0, 1) := by decide +kernel
theorem d_T_statementsIn_6 : decode prog_5_method_5_code 6 = .ok (.getfield 9, 3) := by decide +kernel
theorem d_T_statementsIn_9 : decode prog_5_method_5_code 9 = .ok (.if_icmp .ge 22, 3) := by decide +kernel
theorem d_T_statementsIn_12 : decode prog_5_method_5_code 12 = .ok (.aload_n 0, 1) := by decide +kernel
theorem d_T_statementsIn_13 : decode prog_5_method_5_code 13 = .ok (.iload_n 2, 1) := by decide +kernel
theorem d_T_statementsIn_14 : decode prog_5_method_5_code 14 = .ok (.bipush 59, 2) := by decide +kernel
theorem d_T_statementsIn_16 : decode prog_5_method_5_code 16 = .ok (.invokestatic 32, 3) := by decide +kernel
theorem d_T_statementsIn_19 : decode prog_5_method_5_code 19 = .ok (.ifCond .eq 6, 3) := by decide +kernel
theorem d_T_statementsIn_22 : decode prog_5_method_5_code 22 = .ok (.iinc 1 1, 3) := by decide +kernel
theorem d_T_statementsIn_25 : decode prog_5_method_5_code 25 = .ok (.iinc 2 1, 3) := by decide +kernel
theorem d_T_statementsIn_28 : decode prog_5_method_5_code 28 = .ok (.goto (-24), 3) := by decide +kernel
theorem d_T_statementsIn_31 : decode prog_5_method_5_code 31 = .ok (.iload_n 1, 1) := by decide +kernel
theorem d_T_statementsIn_32 : decode prog_5_method_5_code 32 = .ok (.ireturn, 1) := by decide +kernel
set_option maxHeartbeats 4000000 in
set_option maxRecDepth 100000 in
def f_T_statementsIn_L4 (F : Nat) (a0 : Option Nat) (k : Mm → Int32 → Option (Int32 × Mm)) : Nat → Mm → Int32 → Int32 → Option (Int32 × Mm)
  | 0, _, _, _ => none
  | n + 1, u, a1, a2 => ob (jgi YX 3 4 u a0) fun (x1 : Int32) => (if x1 ≤ a2 then k u a1 else yb (f_T_isAt F u a0 a2 (59 : Int32)) fun x3 u4 => ob ((if x3 = 0 then some a1 else ob (some (a1 + (1 : Int32))) fun (x7 : Int32) => some x7) : Option (Int32)) fun q5 => ob (some (a2 + (1 : Int32))) fun (x8 : Int32) => f_T_statementsIn_L4 F a0 k n u4 q5 x8)
set_option maxHeartbeats 4000000 in
set_option maxRecDepth 100000 in
theorem w_T_statementsIn_L4 {p : Program} {l : Launch} {e : Env} {s : State} {m : MethodId} {args : Array Value} {below : List Frame} {meth : Method} {c : Code} {w : WP} {Q : State → Prop} (F : Nat) (C : yX p e ({ frames := 2, cells := 0, slots := 0, locals := 43 } : Room) s m args c YX w 3 prog_5_method_5_code "WhoseGlass$HouseText") (hr : meth.sig.returnType = (some .int)) (hlocks : meth.locks = false) (a0 : Option Nat) {out : Int32 × Mm} (k : Mm → Int32 → Option (Int32 × Mm)) (hk : ∀ (u : Mm) (a1 : Int32), k u a1 = some out → yG p l e ({ frames := 2, cells := 0, slots := 0, locals := 43 } : Room) s m args below meth c YX w 3 Q u 31 [(1, .int a1)] []) : ∀ (n : Nat) (u : Mm) (a1 : Int32) (a2 : Int32), f_T_statementsIn_L4 F a0 k n u a1 a2 = some out → yG p l e ({ frames := 2, cells := 0, slots := 0, locals := 43 } : Room) s m args below meth c YX w 3 Q u 4 [(0, va_re w.1 a0), (1, .int a1), (2, .int a2)] [] := by
  intro n
  induction n with
  | zero => intro u a1 a2 h; rw [f_T_statementsIn_L4] at h; cases h
  | succ n ih =>
    intro u a1 a2 h
    rw [f_T_statementsIn_L4] at h
    refine y_iload_n C (i := 2) 2 d_T_statementsIn_4 rfl rfl ?_
    refine y_aload_n C (i := 0) 0 d_T_statementsIn_5 rfl rfl ?_
    refine y_gi C (q := (yR3, yT3, 6)) (ci := 3) (k := 4) rfl (by decide) rfl g_183 d_T_statementsIn_6 h (fun x1 h => ?_)
    refine y_ic_ge C 31 d_T_statementsIn_9 (by decide) h (fun k2 h => ?_) (fun k2 h => ?_)
    · exact y_sub [1] rfl (hk _ _ h)
    · refine y_aload_n C (i := 0) 0 d_T_statementsIn_12 rfl rfl ?_
      refine y_iload_n C (i := 2) 2 d_T_statementsIn_13 rfl rfl ?_
      refine y_bipush C (v := 59) d_T_statementsIn_14 (by decide) ?_
      refine y_callS 3 C (fun out hh => c_T_isAt l w F u a0 a2 (59 : Int32) out hh) (y_gc g_254) g_252 g_7 g_253 hn_T_isAt ⟨Nat.le_of_ble_eq_true rfl, Nat.le_of_ble_eq_true rfl⟩ rfl rfl rfl rfl (by simp [y_cat, y_catI, y_catJ]) d_T_statementsIn_16 h (fun x3 u4 h => ?_)
      refine y_stk (stp0 := [.int x3]) rfl ?_
      obtain ⟨q5, hq5, h⟩ := ob_e h
      have hJq5 : yG p l e ({ frames := 2, cells := 0, slots := 0, locals := 43 } : Room) s m args below meth c YX w 3 Q u4 25 [(0, va_re w.1 a0), (1, .int q5), (2, .int a2)] [] := by
        refine y_iinc C (j := 2) (v := 1) (lvp := [(0, va_re w.1 a0), (1, .int q5)]) d_T_statementsIn_25 rfl (by decide) (by decide) rfl h (fun x8 h => ?_)
        refine y_goto C (tgt := 4) d_T_statementsIn_28 (by decide) ?_
        exact y_sub [1, 2, 0] rfl (ih _ _ _ h)
      refine y_if_eq C 25 d_T_statementsIn_19 (by decide) hq5 (fun k6 hq5 => ?_) (fun k6 hq5 => ?_)
      · cases hq5
        exact y_sub [0, 1, 2] rfl hJq5
      · refine y_iinc C (j := 1) (v := 1) (lvp := [(0, va_re w.1 a0), (2, .int a2)]) d_T_statementsIn_22 rfl (by decide) (by decide) (by simp [List.filter, y_cat, y_catI, y_catJ]) hq5 (fun x7 hq5 => ?_)
        cases hq5
        exact y_sub [1, 0, 2] rfl hJq5
set_option maxRecDepth 100000 in
def f_T_statementsIn (F : Nat) (u : Mm) (a0 : Option Nat) : Option (Int32 × Mm) := f_T_statementsIn_L4 F a0 (fun (u9 : Mm) (x10 : Int32) => some (x10, u9)) F u (0 : Int32) (0 : Int32)
set_option maxHeartbeats 4000000 in
set_option maxRecDepth 100000 in
theorem c_T_statementsIn (l : Launch) (w : WP) (F : Nat) (u : Mm) (a0 : Option Nat) (out : Int32 × Mm) (h : f_T_statementsIn F u a0 = some out) : yMet l m_T_statementsIn ws_T_statementsIn ({ frames := 2, cells := 0, slots := 0, locals := 43 } : Room) YX w u [va_re w.1 a0] yfi out := by
  refine y_entry (own := "WhoseGlass$HouseText") (lv := [(0, va_re w.1 a0)]) (by decide +kernel) rfl (by simp [lv_args, y_cat, y_catI, y_catJ]) (by simp [lg_sl, y_cat, y_catI, y_catJ]) ?_
  intro p e s m args below meth c C hr hlocks
  unfold f_T_statementsIn at h
  refine y_iconst C (v := 0) d_T_statementsIn_0 (by decide) ?_
  refine y_istore_n C (i := 1) (lvp := [(0, va_re w.1 a0)]) d_T_statementsIn_1 rfl (by decide) (by simp [List.filter, y_cat, y_catI, y_catJ]) ?_
  refine y_iconst C (v := 0) d_T_statementsIn_2 (by decide) ?_
  refine y_istore_n C (i := 2) (lvp := [(1, .int (0 : Int32)), (0, va_re w.1 a0)]) d_T_statementsIn_3 rfl (by decide) rfl ?_
  refine y_sub [2, 1, 0] rfl (w_T_statementsIn_L4 F C hr hlocks _ _ (fun u9 x10 h => ?_) _ _ _ _ h)
  refine y_iload_n C (i := 1) 0 d_T_statementsIn_31 rfl rfl ?_
  exact y_iret C hr hlocks d_T_statementsIn_32 h
/-! X_house -/
theorem d_X_house_0 : decode prog_1_method_2_code 0 = .ok (.aload_n 0, 1) := by decide +kernel
theorem d_X_house_1 : decode prog_1_method_2_code 1 = .ok (.iload_n 1, 1) := by decide +kernel
theorem d_X_house_2 : decode prog_1_method_2_code 2 = .ok (.invokevirtual 29, 3) := by decide +kernel
theorem d_X_house_5 : decode prog_1_method_2_code 5 = .ok (.astore_n 2, 1) := by decide +kernel
theorem d_X_house_6 : decode prog_1_method_2_code 6 = .ok (.aload_n 2, 1) := by decide +kernel
theorem d_X_house_7 : decode prog_1_method_2_code 7 = .ok (.ifnonnull 5, 3) := by decide +kernel
theorem d_X_house_10 : decode prog_1_method_2_code 10 = .ok (.iconst (-1), 1) := by decide +kernel
theorem d_X_house_11 : decode prog_1_method_2_code 11 = .ok (.ireturn, 1) := by decide +kernel
theorem d_X_house_12 : decode prog_1_method_2_code 12 = .ok (.aload_n 2, 1) := by decide +kernel
theorem d_X_house_13 : decode prog_1_method_2_code 13 = .ok (.getfield 33, 3) := by decide +kernel
theorem d_X_house_16 : decode prog_1_method_2_code 16 = .ok (.iconst 2, 1) := by decide +kernel
theorem d_X_house_17 : decode prog_1_method_2_code 17 = .ok (.if_icmp .ne 10, 3) := by decide +kernel
theorem d_X_house_20 : decode prog_1_method_2_code 20 = .ok (.aload_n 2, 1) := by decide +kernel
theorem d_X_house_21 : decode prog_1_method_2_code 21 = .ok (.getfield 37, 3) := by decide +kernel
theorem d_X_house_24 : decode prog_1_method_2_code 24 = .ok (.ifCond .eq 8, 3) := by decide +kernel
theorem d_X_house_27 : decode prog_1_method_2_code 27 = .ok (.aload_n 2, 1) := by decide +kernel
theorem d_X_house_28 : decode prog_1_method_2_code 28 = .ok (.invokevirtual 40, 3) := by decide +kernel
theorem d_X_house_31 : decode prog_1_method_2_code 31 = .ok (.ireturn, 1) := by decide +kernel
theorem d_X_house_32 : decode prog_1_method_2_code 32 = .ok (.aload_n 2, 1) := by decide +kernel
theorem d_X_house_33 : decode prog_1_method_2_code 33 = .ok (.invokestatic 44, 3) := by decide +kernel
theorem d_X_house_36 : decode prog_1_method_2_code 36 = .ok (.istore_n 3, 1) := by decide +kernel
theorem d_X_house_37 : decode prog_1_method_2_code 37 = .ok (.iload_n 3, 1) := by decide +kernel
theorem d_X_house_38 : decode prog_1_method_2_code 38 = .ok (.bipush (-4), 2) := by decide +kernel
theorem d_X_house_40 : decode prog_1_method_2_code 40 = .ok (.if_icmp .eq 9, 3) := by decide +kernel
theorem d_X_house_43 : decode prog_1_method_2_code 43 = .ok (.sipush (-1000), 3) := by decide +kernel
theorem d_X_house_46 : decode prog_1_method_2_code 46 = .ok (.iload_n 3, 1) := by decide +kernel
theorem d_X_house_47 : decode prog_1_method_2_code 47 = .ok (.isub, 1) := by decide +kernel
theorem d_X_house_48 : decode prog_1_method_2_code 48 = .ok (.ireturn, 1) := by decide +kernel
theorem d_X_house_49 : decode prog_1_method_2_code 49 = .ok (.aload_n 0, 1) := by decide +kernel
theorem d_X_house_50 : decode prog_1_method_2_code 50 = .ok (.getfield 16, 3) := by decide +kernel
theorem d_X_house_53 : decode prog_1_method_2_code 53 = .ok (.aload_n 0, 1) := by decide +kernel
theorem d_X_house_54 : decode prog_1_method_2_code 54 = .ok (.getfield 10, 3) := by decide +kernel
theorem d_X_house_57 : decode prog_1_method_2_code 57 = .ok (.invokevirtual 50, 3) := by decide +kernel
theorem d_X_house_60 : decode prog_1_method_2_code 60 = .ok (.aload_n 2, 1) := by decide +kernel
theorem d_X_house_61 : decode prog_1_method_2_code 61 = .ok (.aload_n 0, 1) := by decide +kernel
theorem d_X_house_62 : decode prog_1_method_2_code 62 = .ok (.getfield 16, 3) := by decide +kernel
theorem d_X_house_65 : decode prog_1_method_2_code 65 = .ok (.invokestatic 54, 3) := by decide +kernel
theorem d_X_house_68 : decode prog_1_method_2_code 68 = .ok (.istore 4, 2) := by decide +kernel
theorem d_X_house_70 : decode prog_1_method_2_code 70 = .ok (.iload 4, 2) := by decide +kernel
theorem d_X_house_72 : decode prog_1_method_2_code 72 = .ok (.bipush (-4), 2) := by decide +kernel
theorem d_X_house_74 : decode prog_1_method_2_code 74 = .ok (.if_icmp .eq 10, 3) := by decide +kernel
theorem d_X_house_77 : decode prog_1_method_2_code 77 = .ok (.sipush (-2000), 3) := by decide +kernel
theorem d_X_house_80 : decode prog_1_method_2_code 80 = .ok (.iload 4, 2) := by decide +kernel
theorem d_X_house_82 : decode prog_1_method_2_code 82 = .ok (.isub, 1) := by decide +kernel
theorem d_X_house_83 : decode prog_1_method_2_code 83 = .ok (.ireturn, 1) := by decide +kernel
theorem d_X_house_84 : decode prog_1_method_2_code 84 = .ok (.aload_n 0, 1) := by decide +kernel
theorem d_X_house_85 : decode prog_1_method_2_code 85 = .ok (.getfield 10, 3) := by decide +kernel
theorem d_X_house_88 : decode prog_1_method_2_code 88 = .ok (.aload_n 0, 1) := by decide +kernel
theorem d_X_house_89 : decode prog_1_method_2_code 89 = .ok (.getfield 16, 3) := by decide +kernel
theorem d_X_house_92 : decode prog_1_method_2_code 92 = .ok (.invokevirtual 50, 3) := by decide +kernel
theorem d_X_house_95 : decode prog_1_method_2_code 95 = .ok (.aload_n 2, 1) := by decide +kernel
theorem d_X_house_96 : decode prog_1_method_2_code 96 = .ok (.invokestatic 58, 3) := by decide +kernel
theorem d_X_house_99 : decode prog_1_method_2_code 99 = .ok (.ireturn, 1) := by decide +kernel
theorem gc_X_house_29 : GoodIn yGW (wsV "WhoseGlass" 29 yR4 m_X_shelfAt ws_X_shelfAt) := y_gV g_222 g_224 gs_0 g_1 g_225
theorem gc_X_house_50 : GoodIn yGW (wsV "WhoseGlass" 50 yR2 m_H_become ws_H_become) := y_gV g_255 g_256 g_257 g_2 g_258
theorem gc_X_house_40 : GoodIn yGW (wsV "WhoseGlass" 40 yR3 m_S_whyNot ws_S_whyNot) := y_gV g_226 g_227 g_228 g_5 g_229
set_option maxRecDepth 100000 in
def f_X_house (F : Nat) (u : Mm) (o : Nat) (a1 : Int32) : Option (Int32 × Mm) := ob (jk YX 4 (some o)) fun t => yb (f_X_shelfAt F u t a1) fun r1 u2 => (if r1 = none then some ((-1 : Int32), u2) else ob (jgi YX 3 0 u2 r1) fun (x4 : Int32) => (if x4 = (2 : Int32) then ob (jgi YX 3 3 u2 r1) fun (x6 : Int32) => (if x6 = 0 then yb (f_T_breakIn F u2 r1) fun x8 u9 => (if x8 = (-4 : Int32) then ob (jgr YX 4 1 (some o)) fun (r11 : Option Nat) => ob (jgr YX 4 0 (some o)) fun (r12 : Option Nat) => ob (jk YX 2 r11) fun t => yb (f_H_become F u9 t r12) fun v13 u14 => ob (jgr YX 4 1 (some o)) fun (r15 : Option Nat) => yb (f_T_build F u14 r1 r15) fun x16 u17 => (if x16 = (-4 : Int32) then ob (jgr YX 4 0 (some o)) fun (r19 : Option Nat) => ob (jgr YX 4 1 (some o)) fun (r20 : Option Nat) => ob (jk YX 2 r19) fun t => yb (f_H_become F u17 t r20) fun v21 u22 => yb (f_T_statementsIn F u22 r1) fun x23 u24 => some (x23, u24) else some (((-2000 : Int32) - x16), u17)) else some (((-1000 : Int32) - x8), u9)) else ob (jk YX 3 r1) fun t => yb (f_S_whyNot F u2 t ) fun x25 u26 => some (x25, u26)) else ob (jk YX 3 r1) fun t => yb (f_S_whyNot F u2 t ) fun x27 u28 => some (x27, u28)))
set_option maxHeartbeats 4000000 in
set_option maxRecDepth 100000 in
theorem c_X_house (l : Launch) (w : WP) (F : Nat) (u : Mm) (o : Nat) (a1 : Int32) (out : Int32 × Mm) (h : f_X_house F u o a1 = some out) : yMet l m_X_house ws_X_house ({ frames := 6, cells := 0, slots := 0, locals := 148 } : Room) YX w u [va_re w.1 (some o), .int a1] yfi out := by
  refine y_entry (own := "WhoseGlass") (lv := [(0, va_re w.1 (some o)), (1, .int a1)]) (by decide +kernel) rfl (by simp [lv_args, y_cat, y_catI, y_catJ]) (by simp [lg_sl, y_cat, y_catI, y_catJ]) ?_
  intro p e s m args below meth c C hr hlocks
  unfold f_X_house at h
  refine y_aload_n C (i := 0) 0 d_X_house_0 rfl rfl ?_
  refine y_iload_n C (i := 1) 1 d_X_house_1 rfl rfl ?_
  refine y_callV 1 C (q := (yR4, yT4, 5)) (ci := 4) (fun t out hh => c_X_shelfAt l w F u t a1 out hh) gc_X_house_29 rfl (by decide) hd_X_shelfAt ⟨Nat.le_of_ble_eq_true rfl, Nat.le_of_ble_eq_true rfl⟩ rfl rfl rfl rfl (by simp [y_cat, y_catI, y_catJ]) d_X_house_2 h (fun r1 u2 h => ?_)
  refine y_stk (stp0 := [va_re w.1 r1]) rfl ?_
  refine y_astore_n C (i := 2) (lvp := [(0, va_re w.1 (some o)), (1, .int a1)]) d_X_house_5 rfl (by decide) (by simp [List.filter, y_cat, y_catI, y_catJ]) ?_
  refine y_aload_n C (i := 2) 0 d_X_house_6 rfl rfl ?_
  refine y_ifnonnull C 12 d_X_house_7 (by decide) h (fun k3 h => ?_) (fun k3 h => ?_)
  · refine y_iconst C (v := -1) d_X_house_10 (by decide) ?_
    exact y_iret C hr hlocks d_X_house_11 h
  · refine y_aload_n C (i := 2) 0 d_X_house_12 rfl rfl ?_
    refine y_gi C (q := (yR3, yT3, 6)) (ci := 3) (k := 0) rfl (by decide) rfl g_176 d_X_house_13 h (fun x4 h => ?_)
    refine y_iconst C (v := 2) d_X_house_16 (by decide) ?_
    refine y_ic_ne C 27 d_X_house_17 (by decide) h (fun k5 h => ?_) (fun k5 h => ?_)
    · refine y_aload_n C (i := 2) 0 d_X_house_20 rfl rfl ?_
      refine y_gi C (q := (yR3, yT3, 6)) (ci := 3) (k := 3) rfl (by decide) rfl g_181 d_X_house_21 h (fun x6 h => ?_)
      refine y_if_eq C 32 d_X_house_24 (by decide) h (fun k7 h => ?_) (fun k7 h => ?_)
      · refine y_aload_n C (i := 2) 0 d_X_house_32 rfl rfl ?_
        refine y_callS 1 C (fun out hh => c_T_breakIn l w F u2 r1 out hh) (y_gc g_232) g_230 g_7 g_231 hn_T_breakIn ⟨Nat.le_of_ble_eq_true rfl, Nat.le_of_ble_eq_true rfl⟩ rfl rfl rfl rfl (by simp [y_cat, y_catI, y_catJ]) d_X_house_33 h (fun x8 u9 h => ?_)
        refine y_stk (stp0 := [.int x8]) rfl ?_
        refine y_istore_n C (i := 3) (lvp := [(2, va_re w.1 r1), (0, va_re w.1 (some o)), (1, .int a1)]) d_X_house_36 rfl (by decide) (by simp [List.filter, y_cat, y_catI, y_catJ]) ?_
        refine y_iload_n C (i := 3) 0 d_X_house_37 rfl rfl ?_
        refine y_bipush C (v := -4) d_X_house_38 (by decide) ?_
        refine y_ic_eq C 49 d_X_house_40 (by decide) h (fun k10 h => ?_) (fun k10 h => ?_)
        · refine y_aload_n C (i := 0) 2 d_X_house_49 rfl rfl ?_
          refine y_gr C (q := (yR4, yT4, 5)) (ci := 4) (k := 1) rfl (by decide) rfl (by decide) g_203 d_X_house_50 h (fun r11 h => ?_)
          refine y_aload_n C (i := 0) 2 d_X_house_53 rfl rfl ?_
          refine y_gr C (q := (yR4, yT4, 5)) (ci := 4) (k := 0) rfl (by decide) rfl (by decide) g_202 d_X_house_54 h (fun r12 h => ?_)
          refine y_callV 1 C (q := (yR2, yT2, 9)) (ci := 2) (fun t out hh => c_H_become l w F u9 t r12 out hh) gc_X_house_50 rfl (by decide) hd_H_become ⟨Nat.le_of_ble_eq_true rfl, Nat.le_of_ble_eq_true rfl⟩ rfl rfl rfl rfl (by simp [y_cat, y_catI, y_catJ]) d_X_house_57 h (fun v13 u14 h => ?_)
          refine y_stk (stp0 := []) rfl ?_
          refine y_aload_n C (i := 2) 1 d_X_house_60 rfl rfl ?_
          refine y_aload_n C (i := 0) 2 d_X_house_61 rfl rfl ?_
          refine y_gr C (q := (yR4, yT4, 5)) (ci := 4) (k := 1) rfl (by decide) rfl (by decide) g_203 d_X_house_62 h (fun r15 h => ?_)
          refine y_callS 2 C (fun out hh => c_T_build l w F u14 r1 r15 out hh) (y_gc g_277) g_275 g_7 g_276 hn_T_build ⟨Nat.le_of_ble_eq_true rfl, Nat.le_of_ble_eq_true rfl⟩ rfl rfl rfl rfl (by simp [y_cat, y_catI, y_catJ]) d_X_house_65 h (fun x16 u17 h => ?_)
          refine y_stk (stp0 := [.int x16]) rfl ?_
          refine y_istore C (i := 4) (lvp := [(3, .int x8), (2, va_re w.1 r1), (0, va_re w.1 (some o)), (1, .int a1)]) d_X_house_68 (by decide) rfl ?_
          refine y_iload C (i := 4) 0 d_X_house_70 rfl ?_
          refine y_bipush C (v := -4) d_X_house_72 (by decide) ?_
          refine y_ic_eq C 84 d_X_house_74 (by decide) h (fun k18 h => ?_) (fun k18 h => ?_)
          · refine y_aload_n C (i := 0) 3 d_X_house_84 rfl rfl ?_
            refine y_gr C (q := (yR4, yT4, 5)) (ci := 4) (k := 0) rfl (by decide) rfl (by decide) g_202 d_X_house_85 h (fun r19 h => ?_)
            refine y_aload_n C (i := 0) 3 d_X_house_88 rfl rfl ?_
            refine y_gr C (q := (yR4, yT4, 5)) (ci := 4) (k := 1) rfl (by decide) rfl (by decide) g_203 d_X_house_89 h (fun r20 h => ?_)
            refine y_callV 1 C (q := (yR2, yT2, 9)) (ci := 2) (fun t out hh => c_H_become l w F u17 t r20 out hh) gc_X_house_50 rfl (by decide) hd_H_become ⟨Nat.le_of_ble_eq_true rfl, Nat.le_of_ble_eq_true rfl⟩ rfl rfl rfl rfl (by simp [y_cat, y_catI, y_catJ]) d_X_house_92 h (fun v21 u22 h => ?_)
            refine y_stk (stp0 := []) rfl ?_
            refine y_aload_n C (i := 2) 2 d_X_house_95 rfl rfl ?_
            refine y_callS 1 C (fun out hh => c_T_statementsIn l w F u22 r1 out hh) (y_gc g_376) g_374 g_7 g_375 hn_T_statementsIn ⟨Nat.le_of_ble_eq_true rfl, Nat.le_of_ble_eq_true rfl⟩ rfl rfl rfl rfl (by simp [y_cat, y_catI, y_catJ]) d_X_house_96 h (fun x23 u24 h => ?_)
            refine y_stk (stp0 := [.int x23]) rfl ?_
            exact y_iret C hr hlocks d_X_house_99 h
          · refine y_sipush C (v := -2000) d_X_house_77 (by decide) ?_
            refine y_iload C (i := 4) 0 d_X_house_80 rfl ?_
            refine y_isub C d_X_house_82 ?_
            exact y_iret C hr hlocks d_X_house_83 h
        · refine y_sipush C (v := -1000) d_X_house_43 (by decide) ?_
          refine y_iload_n C (i := 3) 0 d_X_house_46 rfl rfl ?_
          refine y_isub C d_X_house_47 ?_
          exact y_iret C hr hlocks d_X_house_48 h
      · refine y_aload_n C (i := 2) 0 d_X_house_27 rfl rfl ?_
        refine y_callV 0 C (q := (yR3, yT3, 6)) (ci := 3) (fun t out hh => c_S_whyNot l w F u2 t out hh) gc_X_house_40 rfl (by decide) hd_S_whyNot ⟨Nat.le_of_ble_eq_true rfl, Nat.le_of_ble_eq_true rfl⟩ rfl rfl rfl rfl (by simp [y_cat, y_catI, y_catJ]) d_X_house_28 h (fun x25 u26 h => ?_)
        refine y_stk (stp0 := [.int x25]) rfl ?_
        exact y_iret C hr hlocks d_X_house_31 h
    · refine y_aload_n C (i := 2) 0 d_X_house_27 rfl rfl ?_
      refine y_callV 0 C (q := (yR3, yT3, 6)) (ci := 3) (fun t out hh => c_S_whyNot l w F u2 t out hh) gc_X_house_40 rfl (by decide) hd_S_whyNot ⟨Nat.le_of_ble_eq_true rfl, Nat.le_of_ble_eq_true rfl⟩ rfl rfl rfl rfl (by simp [y_cat, y_catI, y_catJ]) d_X_house_28 h (fun x27 u28 h => ?_)
      refine y_stk (stp0 := [.int x27]) rfl ?_
      exact y_iret C hr hlocks d_X_house_31 h
/-! G_told -/
theorem d_G_told_0 : decode prog_2_method_7_code 0 = .ok (.iload_n 1, 1) := by decide +kernel
theorem d_G_told_1 : decode prog_2_method_7_code 1 = .ok (.tableswitch 98 0 6 #[43, 48, 53, 58, 63, 68, 81], 43) := by decide +kernel
theorem d_G_told_44 : decode prog_2_method_7_code 44 = .ok (.aload_n 0, 1) := by decide +kernel
theorem d_G_told_45 : decode prog_2_method_7_code 45 = .ok (.getfield 15, 3) := by decide +kernel
theorem d_G_told_48 : decode prog_2_method_7_code 48 = .ok (.ireturn, 1) := by decide +kernel
theorem d_G_told_49 : decode prog_2_method_7_code 49 = .ok (.aload_n 0, 1) := by decide +kernel
theorem d_G_told_50 : decode prog_2_method_7_code 50 = .ok (.getfield 18, 3) := by decide +kernel
theorem d_G_told_53 : decode prog_2_method_7_code 53 = .ok (.ireturn, 1) := by decide +kernel
theorem d_G_told_54 : decode prog_2_method_7_code 54 = .ok (.aload_n 0, 1) := by decide +kernel
theorem d_G_told_55 : decode prog_2_method_7_code 55 = .ok (.getfield 21, 3) := by decide +kernel
theorem d_G_told_58 : decode prog_2_method_7_code 58 = .ok (.ireturn, 1) := by decide +kernel
theorem d_G_told_59 : decode prog_2_method_7_code 59 = .ok (.aload_n 0, 1) := by decide +kernel
theorem d_G_told_60 : decode prog_2_method_7_code 60 = .ok (.getfield 31, 3) := by decide +kernel
theorem d_G_told_63 : decode prog_2_method_7_code 63 = .ok (.ireturn, 1) := by decide +kernel
theorem d_G_told_64 : decode prog_2_method_7_code 64 = .ok (.aload_n 0, 1) := by decide +kernel
theorem d_G_told_65 : decode prog_2_method_7_code 65 = .ok (.getfield 24, 3) := by decide +kernel
theorem d_G_told_68 : decode prog_2_method_7_code 68 = .ok (.ireturn, 1) := by decide +kernel
theorem d_G_told_69 : decode prog_2_method_7_code 69 = .ok (.aload_n 0, 1) := by decide +kernel
theorem d_G_told_70 : decode prog_2_method_7_code 70 = .ok (.getfield 27, 3) := by decide +kernel
theorem d_G_told_73 : decode prog_2_method_7_code 73 = .ok (.ifCond .eq 7, 3) := by decide +kernel
theorem d_G_told_76 : decode prog_2_method_7_code 76 = .ok (.iconst 1, 1) := by decide +kernel
theorem d_G_told_77 : decode prog_2_method_7_code 77 = .ok (.goto 4, 3) := by decide +kernel
theorem d_G_told_80 : decode prog_2_method_7_code 80 = .ok (.iconst 0, 1) := by decide +kernel
theorem d_G_told_81 : decode prog_2_method_7_code 81 = .ok (.ireturn, 1) := by decide +kernel
theorem d_G_told_82 : decode prog_2_method_7_code 82 = .ok (.aload_n 0, 1) := by decide +kernel
theorem d_G_told_83 : decode prog_2_method_7_code 83 = .ok (.invokevirtual 37, 3) := by decide +kernel
theorem d_G_told_86 : decode prog_2_method_7_code 86 = .ok (.ifCond .eq 10, 3) := by decide +kernel
theorem d_G_told_89 : decode prog_2_method_7_code 89 = .ok (.aload_n 0, 1) := by decide +kernel
theorem d_G_told_90 : decode prog_2_method_7_code 90 = .ok (.getfield 34, 3) := by decide +kernel
theorem d_G_told_93 : decode prog_2_method_7_code 93 = .ok (.goto 5, 3) := by decide +kernel
theorem d_G_told_96 : decode prog_2_method_7_code 96 = .ok (.bipush (-4), 2) := by decide +kernel
theorem d_G_told_98 : decode prog_2_method_7_code 98 = .ok (.ireturn, 1) := by decide +kernel
theorem d_G_told_99 : decode prog_2_method_7_code 99 = .ok (.iconst (-1), 1) := by decide +kernel
theorem d_G_told_100 : decode prog_2_method_7_code 100 = .ok (.ireturn, 1) := by decide +kernel
theorem gc_G_told_37 : GoodIn yGW (wsV "WhoseGlass$Glass" 37 yR0 m_G_isLaid ws_G_isLaid) := y_gV g_386 g_364 g_365 g_3 g_366
set_option maxRecDepth 100000 in
def f_G_told (F : Nat) (u : Mm) (o : Nat) (a1 : Int32) : Option (Int32 × Mm) := (if a1 = (0 : Int32) then ob (jgi YX 0 1 u (some o)) fun (x2 : Int32) => some (x2, u) else (if a1 = (1 : Int32) then ob (jgi YX 0 2 u (some o)) fun (x4 : Int32) => some (x4, u) else (if a1 = (2 : Int32) then ob (jgi YX 0 3 u (some o)) fun (x6 : Int32) => some (x6, u) else (if a1 = (3 : Int32) then ob (jgi YX 0 4 u (some o)) fun (x8 : Int32) => some (x8, u) else (if a1 = (4 : Int32) then ob (jgi YX 0 6 u (some o)) fun (x10 : Int32) => some (x10, u) else (if a1 = (5 : Int32) then ob (jgi YX 0 7 u (some o)) fun (x12 : Int32) => (if x12 = 0 then some ((0 : Int32), u) else some ((1 : Int32), u)) else (if a1 = (6 : Int32) then ob (jk YX 0 (some o)) fun t => yb (f_G_isLaid F u t ) fun x15 u16 => (if x15 = 0 then some ((-4 : Int32), u16) else ob (jgi YX 0 5 u16 (some o)) fun (x18 : Int32) => some (x18, u16)) else some ((-1 : Int32), u))))))))
set_option maxHeartbeats 4000000 in
set_option maxRecDepth 100000 in
theorem c_G_told (l : Launch) (w : WP) (F : Nat) (u : Mm) (o : Nat) (a1 : Int32) (out : Int32 × Mm) (h : f_G_told F u o a1 = some out) : yMet l m_G_told ws_G_told ({ frames := 1, cells := 0, slots := 0, locals := 20 } : Room) YX w u [va_re w.1 (some o), .int a1] yfi out := by
  refine y_entry (own := "WhoseGlass$Glass") (lv := [(0, va_re w.1 (some o)), (1, .int a1)]) (by decide +kernel) rfl (by simp [lv_args, y_cat, y_catI, y_catJ]) (by simp [lg_sl, y_cat, y_catI, y_catJ]) ?_
  intro p e s m args below meth c C hr hlocks
  unfold f_G_told at h
  refine y_iload_n C (i := 1) 1 d_G_told_0 rfl rfl ?_
  refine y_sp h (fun k1 h => ?_) (fun k1 h => ?_)
  · refine y_tsw C (off := 43) 44 d_G_told_1 (Or.inr ⟨by rw [k1]; decide, by rw [k1]; decide, by rw [k1]; rfl⟩) (by decide) ?_
    refine y_aload_n C (i := 0) 0 d_G_told_44 rfl rfl ?_
    refine y_gi C (q := (yR0, yT0, 8)) (ci := 0) (k := 1) rfl (by decide) rfl g_43 d_G_told_45 h (fun x2 h => ?_)
    exact y_iret C hr hlocks d_G_told_48 h
  refine y_sp h (fun k3 h => ?_) (fun k3 h => ?_)
  · refine y_tsw C (off := 48) 49 d_G_told_1 (Or.inr ⟨by rw [k3]; decide, by rw [k3]; decide, by rw [k3]; rfl⟩) (by decide) ?_
    refine y_aload_n C (i := 0) 0 d_G_told_49 rfl rfl ?_
    refine y_gi C (q := (yR0, yT0, 8)) (ci := 0) (k := 2) rfl (by decide) rfl g_45 d_G_told_50 h (fun x4 h => ?_)
    exact y_iret C hr hlocks d_G_told_53 h
  refine y_sp h (fun k5 h => ?_) (fun k5 h => ?_)
  · refine y_tsw C (off := 53) 54 d_G_told_1 (Or.inr ⟨by rw [k5]; decide, by rw [k5]; decide, by rw [k5]; rfl⟩) (by decide) ?_
    refine y_aload_n C (i := 0) 0 d_G_told_54 rfl rfl ?_
    refine y_gi C (q := (yR0, yT0, 8)) (ci := 0) (k := 3) rfl (by decide) rfl g_46 d_G_told_55 h (fun x6 h => ?_)
    exact y_iret C hr hlocks d_G_told_58 h
  refine y_sp h (fun k7 h => ?_) (fun k7 h => ?_)
  · refine y_tsw C (off := 58) 59 d_G_told_1 (Or.inr ⟨by rw [k7]; decide, by rw [k7]; decide, by rw [k7]; rfl⟩) (by decide) ?_
    refine y_aload_n C (i := 0) 0 d_G_told_59 rfl rfl ?_
    refine y_gi C (q := (yR0, yT0, 8)) (ci := 0) (k := 4) rfl (by decide) rfl g_50 d_G_told_60 h (fun x8 h => ?_)
    exact y_iret C hr hlocks d_G_told_63 h
  refine y_sp h (fun k9 h => ?_) (fun k9 h => ?_)
  · refine y_tsw C (off := 63) 64 d_G_told_1 (Or.inr ⟨by rw [k9]; decide, by rw [k9]; decide, by rw [k9]; rfl⟩) (by decide) ?_
    refine y_aload_n C (i := 0) 0 d_G_told_64 rfl rfl ?_
    refine y_gi C (q := (yR0, yT0, 8)) (ci := 0) (k := 6) rfl (by decide) rfl g_57 d_G_told_65 h (fun x10 h => ?_)
    exact y_iret C hr hlocks d_G_told_68 h
  refine y_sp h (fun k11 h => ?_) (fun k11 h => ?_)
  · refine y_tsw C (off := 68) 69 d_G_told_1 (Or.inr ⟨by rw [k11]; decide, by rw [k11]; decide, by rw [k11]; rfl⟩) (by decide) ?_
    refine y_aload_n C (i := 0) 0 d_G_told_69 rfl rfl ?_
    refine y_gi C (q := (yR0, yT0, 8)) (ci := 0) (k := 7) rfl (by decide) rfl g_59 d_G_told_70 h (fun x12 h => ?_)
    refine y_if_eq C 80 d_G_told_73 (by decide) h (fun k13 h => ?_) (fun k13 h => ?_)
    · refine y_iconst C (v := 0) d_G_told_80 (by decide) ?_
      exact y_iret C hr hlocks d_G_told_81 h
    · refine y_iconst C (v := 1) d_G_told_76 (by decide) ?_
      refine y_goto C (tgt := 81) d_G_told_77 (by decide) ?_
      exact y_iret C hr hlocks d_G_told_81 h
  refine y_sp h (fun k14 h => ?_) (fun k14 h => ?_)
  · refine y_tsw C (off := 81) 82 d_G_told_1 (Or.inr ⟨by rw [k14]; decide, by rw [k14]; decide, by rw [k14]; rfl⟩) (by decide) ?_
    refine y_aload_n C (i := 0) 0 d_G_told_82 rfl rfl ?_
    refine y_callV 0 C (q := (yR0, yT0, 8)) (ci := 0) (fun t out hh => c_G_isLaid l w F u t out hh) gc_G_told_37 rfl (by decide) hd_G_isLaid ⟨Nat.le_of_ble_eq_true rfl, Nat.le_of_ble_eq_true rfl⟩ rfl rfl rfl rfl (by simp [y_cat, y_catI, y_catJ]) d_G_told_83 h (fun x15 u16 h => ?_)
    refine y_stk (stp0 := [.int x15]) rfl ?_
    refine y_if_eq C 96 d_G_told_86 (by decide) h (fun k17 h => ?_) (fun k17 h => ?_)
    · refine y_bipush C (v := -4) d_G_told_96 (by decide) ?_
      exact y_iret C hr hlocks d_G_told_98 h
    · refine y_aload_n C (i := 0) 0 d_G_told_89 rfl rfl ?_
      refine y_gi C (q := (yR0, yT0, 8)) (ci := 0) (k := 5) rfl (by decide) rfl g_54 d_G_told_90 h (fun x18 h => ?_)
      refine y_goto C (tgt := 98) d_G_told_93 (by decide) ?_
      exact y_iret C hr hlocks d_G_told_98 h
  refine y_tsw C (off := 98) 99 d_G_told_1 (Or.inl ⟨by have ak1 := lv_neT (a := 0) k1 rfl; have ak3 := lv_neT (a := 1) k3 rfl; have ak5 := lv_neT (a := 2) k5 rfl; have ak7 := lv_neT (a := 3) k7 rfl; have ak9 := lv_neT (a := 4) k9 rfl; have ak11 := lv_neT (a := 5) k11 rfl; have ak14 := lv_neT (a := 6) k14 rfl; omega, rfl⟩) (by decide) ?_
  refine y_iconst C (v := -1) d_G_told_99 (by decide) ?_
  exact y_iret C hr hlocks d_G_told_100 h
/-! X_glass -/
theorem d_X_glass_0 : decode prog_1_method_3_code 0 = .ok (.aload_n 0, 1) := by decide +kernel
theorem d_X_glass_1 : decode prog_1_method_3_code 1 = .ok (.getfield 10, 3) := by decide +kernel
theorem d_X_glass_4 : decode prog_1_method_3_code 4 = .ok (.iload_n 1, 1) := by decide +kernel
theorem d_X_glass_5 : decode prog_1_method_3_code 5 = .ok (.invokevirtual 61, 3) := by decide +kernel
theorem d_X_glass_8 : decode prog_1_method_3_code 8 = .ok (.astore_n 3, 1) := by decide +kernel
theorem d_X_glass_9 : decode prog_1_method_3_code 9 = .ok (.aload_n 3, 1) := by decide +kernel
theorem d_X_glass_10 : decode prog_1_method_3_code 10 = .ok (.ifnonnull 7, 3) := by decide +kernel
theorem d_X_glass_13 : decode prog_1_method_3_code 13 = .ok (.iconst (-1), 1) := by decide +kernel
theorem d_X_glass_14 : decode prog_1_method_3_code 14 = .ok (.goto 8, 3) := by decide +kernel
theorem d_X_glass_17 : decode prog_1_method_3_code 17 = .ok (.aload_n 3, 1) := by decide +kernel
theorem d_X_glass_18 : decode prog_1_method_3_code 18 = .ok (.iload_n 2, 1) := by decide +kernel
theorem d_X_glass_19 : decode prog_1_method_3_code 19 = .ok (.invokevirtual 65, 3) := by decide +kernel
theorem d_X_glass_22 : decode prog_1_method_3_code 22 = .ok (.ireturn, 1) := by decide +kernel
theorem gc_X_glass_61 : GoodIn yGW (wsV "WhoseGlass" 61 yR2 m_H_glassAt ws_H_glassAt) := y_gV g_381 g_260 g_261 g_2 g_262
theorem gc_X_glass_65 : GoodIn yGW (wsV "WhoseGlass" 65 yR0 m_G_told ws_G_told) := y_gV g_382 g_383 g_384 g_3 g_385
set_option maxRecDepth 100000 in
def f_X_glass (F : Nat) (u : Mm) (o : Nat) (a1 : Int32) (a2 : Int32) : Option (Int32 × Mm) := ob (jgr YX 4 0 (some o)) fun (r1 : Option Nat) => ob (jk YX 2 r1) fun t => yb (f_H_glassAt F u t a1) fun r2 u3 => (if r2 = none then some ((-1 : Int32), u3) else ob (jk YX 0 r2) fun t => yb (f_G_told F u3 t a2) fun x5 u6 => some (x5, u6))
set_option maxHeartbeats 4000000 in
set_option maxRecDepth 100000 in
theorem c_X_glass (l : Launch) (w : WP) (F : Nat) (u : Mm) (o : Nat) (a1 : Int32) (a2 : Int32) (out : Int32 × Mm) (h : f_X_glass F u o a1 a2 = some out) : yMet l m_X_glass ws_X_glass ({ frames := 2, cells := 0, slots := 0, locals := 41 } : Room) YX w u [va_re w.1 (some o), .int a1, .int a2] yfi out := by
  refine y_entry (own := "WhoseGlass") (lv := [(0, va_re w.1 (some o)), (1, .int a1), (2, .int a2)]) (by decide +kernel) rfl (by simp [lv_args, y_cat, y_catI, y_catJ]) (by simp [lg_sl, y_cat, y_catI, y_catJ]) ?_
  intro p e s m args below meth c C hr hlocks
  unfold f_X_glass at h
  refine y_aload_n C (i := 0) 0 d_X_glass_0 rfl rfl ?_
  refine y_gr C (q := (yR4, yT4, 5)) (ci := 4) (k := 0) rfl (by decide) rfl (by decide) g_202 d_X_glass_1 h (fun r1 h => ?_)
  refine y_iload_n C (i := 1) 1 d_X_glass_4 rfl rfl ?_
  refine y_callV 1 C (q := (yR2, yT2, 9)) (ci := 2) (fun t out hh => c_H_glassAt l w F u t a1 out hh) gc_X_glass_61 rfl (by decide) hd_H_glassAt ⟨Nat.le_of_ble_eq_true rfl, Nat.le_of_ble_eq_true rfl⟩ rfl rfl rfl rfl (by simp [y_cat, y_catI, y_catJ]) d_X_glass_5 h (fun r2 u3 h => ?_)
  refine y_stk (stp0 := [va_re w.1 r2]) rfl ?_
  refine y_astore_n C (i := 3) (lvp := [(0, va_re w.1 (some o)), (1, .int a1), (2, .int a2)]) d_X_glass_8 rfl (by decide) (by simp [List.filter, y_cat, y_catI, y_catJ]) ?_
  refine y_aload_n C (i := 3) 0 d_X_glass_9 rfl rfl ?_
  refine y_ifnonnull C 17 d_X_glass_10 (by decide) h (fun k4 h => ?_) (fun k4 h => ?_)
  · refine y_iconst C (v := -1) d_X_glass_13 (by decide) ?_
    refine y_goto C (tgt := 22) d_X_glass_14 (by decide) ?_
    exact y_iret C hr hlocks d_X_glass_22 h
  · refine y_aload_n C (i := 3) 0 d_X_glass_17 rfl rfl ?_
    refine y_iload_n C (i := 2) 3 d_X_glass_18 rfl rfl ?_
    refine y_callV 1 C (q := (yR0, yT0, 8)) (ci := 0) (fun t out hh => c_G_told l w F u3 t a2 out hh) gc_X_glass_65 rfl (by decide) hd_G_told ⟨Nat.le_of_ble_eq_true rfl, Nat.le_of_ble_eq_true rfl⟩ rfl rfl rfl rfl (by simp [y_cat, y_catI, y_catJ]) d_X_glass_19 h (fun x5 u6 h => ?_)
    refine y_stk (stp0 := [.int x5]) rfl ?_
    exact y_iret C hr hlocks d_X_glass_22 h
end
section
/-! U_told -/
theorem d_U_told_0 : decode prog_3_method_4_code 0 = .ok (.iload_n 1, 1) := by decide +kernel
theorem d_U_told_1 : decode prog_3_method_4_code 1 = .ok (.tableswitch 104 0 8 #[51, 56, 61, 66, 71, 76, 81, 86, 91], 51) := by decide +kernel
theorem d_U_told_52 : decode prog_3_method_4_code 52 = .ok (.aload_n 0, 1) := by decide +kernel
theorem d_U_told_53 : decode prog_3_method_4_code 53 = .ok (.getfield 15, 3) := by decide +kernel
theorem d_U_told_56 : decode prog_3_method_4_code 56 = .ok (.ireturn, 1) := by decide +kernel
theorem d_U_told_57 : decode prog_3_method_4_code 57 = .ok (.aload_n 0, 1) := by decide +kernel
theorem d_U_told_58 : decode prog_3_method_4_code 58 = .ok (.getfield 18, 3) := by decide +kernel
theorem d_U_told_61 : decode prog_3_method_4_code 61 = .ok (.ireturn, 1) := by decide +kernel
theorem d_U_told_62 : decode prog_3_method_4_code 62 = .ok (.aload_n 0, 1) := by decide +kernel
theorem d_U_told_63 : decode prog_3_method_4_code 63 = .ok (.getfield 21, 3) := by decide +kernel
theorem d_U_told_66 : decode prog_3_method_4_code 66 = .ok (.ireturn, 1) := by decide +kernel
theorem d_U_told_67 : decode prog_3_method_4_code 67 = .ok (.aload_n 0, 1) := by decide +kernel
theorem d_U_told_68 : decode prog_3_method_4_code 68 = .ok (.getfield 24, 3) := by decide +kernel
theorem d_U_told_71 : decode prog_3_method_4_code 71 = .ok (.ireturn, 1) := by decide +kernel
theorem d_U_told_72 : decode prog_3_method_4_code 72 = .ok (.aload_n 0, 1) := by decide +kernel
theorem d_U_told_73 : decode prog_3_method_4_code 73 = .ok (.getfield 27, 3) := by decide +kernel
theorem d_U_told_76 : decode prog_3_method_4_code 76 = .ok (.ireturn, 1) := by decide +kernel
theorem d_U_told_77 : decode prog_3_method_4_code 77 = .ok (.aload_n 0, 1) := by decide +kernel
theorem d_U_told_78 : decode prog_3_method_4_code 78 = .ok (.getfield 30, 3) := by decide +kernel
theorem d_U_told_81 : decode prog_3_method_4_code 81 = .ok (.ireturn, 1) := by decide +kernel
theorem d_U_told_82 : decode prog_3_method_4_code 82 = .ok (.aload_n 0, 1) := by decide +kernel
theorem d_U_told_83 : decode prog_3_method_4_code 83 = .ok (.getfield 33, 3) := by decide +kernel
theorem d_U_told_86 : decode prog_3_method_4_code 86 = .ok (.ireturn, 1) := by decide +kernel
theorem d_U_told_87 : decode prog_3_method_4_code 87 = .ok (.aload_n 0, 1) := by decide +kernel
theorem d_U_told_88 : decode prog_3_method_4_code 88 = .ok (.getfield 36, 3) := by decide +kernel
theorem d_U_told_91 : decode prog_3_method_4_code 91 = .ok (.ireturn, 1) := by decide +kernel
theorem d_U_told_92 : decode prog_3_method_4_code 92 = .ok (.aload_n 0, 1) := by decide +kernel
theorem d_U_told_93 : decode prog_3_method_4_code 93 = .ok (.getfield 39, 3) := by decide +kernel
theorem d_U_told_96 : decode prog_3_method_4_code 96 = .ok (.ifCond .eq 7, 3) := by decide +kernel
theorem d_U_told_99 : decode prog_3_method_4_code 99 = .ok (.iconst 1, 1) := by decide +kernel
theorem d_U_told_100 : decode prog_3_method_4_code 100 = .ok (.goto 4, 3) := by decide +kernel
theorem d_U_told_103 : decode prog_3_method_4_code 103 = .ok (.iconst 0, 1) := by decide +kernel
theorem d_U_told_104 : decode prog_3_method_4_code 104 = .ok (.ireturn, 1) := by decide +kernel
theorem d_U_told_105 : decode prog_3_method_4_code 105 = .ok (.iconst (-1), 1) := by decide +kernel
theorem d_U_told_106 : decode prog_3_method_4_code 106 = .ok (.ireturn, 1) := by decide +kernel
set_option maxRecDepth 100000 in
def f_U_told (F : Nat) (u : Mm) (o : Nat) (a1 : Int32) : Option (Int32 × Mm) := (if a1 = (0 : Int32) then ob (jgi YX 1 1 u (some o)) fun (x2 : Int32) => some (x2, u) else (if a1 = (1 : Int32) then ob (jgi YX 1 2 u (some o)) fun (x4 : Int32) => some (x4, u) else (if a1 = (2 : Int32) then ob (jgi YX 1 3 u (some o)) fun (x6 : Int32) => some (x6, u) else (if a1 = (3 : Int32) then ob (jgi YX 1 4 u (some o)) fun (x8 : Int32) => some (x8, u) else (if a1 = (4 : Int32) then ob (jgi YX 1 5 u (some o)) fun (x10 : Int32) => some (x10, u) else (if a1 = (5 : Int32) then ob (jgi YX 1 6 u (some o)) fun (x12 : Int32) => some (x12, u) else (if a1 = (6 : Int32) then ob (jgi YX 1 7 u (some o)) fun (x14 : Int32) => some (x14, u) else (if a1 = (7 : Int32) then ob (jgi YX 1 8 u (some o)) fun (x16 : Int32) => some (x16, u) else (if a1 = (8 : Int32) then ob (jgi YX 1 9 u (some o)) fun (x18 : Int32) => (if x18 = 0 then some ((0 : Int32), u) else some ((1 : Int32), u)) else some ((-1 : Int32), u))))))))))
set_option maxHeartbeats 4000000 in
set_option maxRecDepth 100000 in
theorem c_U_told (l : Launch) (w : WP) (F : Nat) (u : Mm) (o : Nat) (a1 : Int32) (out : Int32 × Mm) (h : f_U_told F u o a1 = some out) : yMet l m_U_told ws_U_told ({ frames := 0, cells := 0, slots := 0, locals := 0 } : Room) YX w u [va_re w.1 (some o), .int a1] yfi out := by
  refine y_entry (own := "WhoseGlass$Guest") (lv := [(0, va_re w.1 (some o)), (1, .int a1)]) (by decide +kernel) rfl (by simp [lv_args, y_cat, y_catI, y_catJ]) (by simp [lg_sl, y_cat, y_catI, y_catJ]) ?_
  intro p e s m args below meth c C hr hlocks
  unfold f_U_told at h
  refine y_iload_n C (i := 1) 1 d_U_told_0 rfl rfl ?_
  refine y_sp h (fun k1 h => ?_) (fun k1 h => ?_)
  · refine y_tsw C (off := 51) 52 d_U_told_1 (Or.inr ⟨by rw [k1]; decide, by rw [k1]; decide, by rw [k1]; rfl⟩) (by decide) ?_
    refine y_aload_n C (i := 0) 0 d_U_told_52 rfl rfl ?_
    refine y_gi C (q := (yR1, yT1, 10)) (ci := 1) (k := 1) rfl (by decide) rfl g_86 d_U_told_53 h (fun x2 h => ?_)
    exact y_iret C hr hlocks d_U_told_56 h
  refine y_sp h (fun k3 h => ?_) (fun k3 h => ?_)
  · refine y_tsw C (off := 56) 57 d_U_told_1 (Or.inr ⟨by rw [k3]; decide, by rw [k3]; decide, by rw [k3]; rfl⟩) (by decide) ?_
    refine y_aload_n C (i := 0) 0 d_U_told_57 rfl rfl ?_
    refine y_gi C (q := (yR1, yT1, 10)) (ci := 1) (k := 2) rfl (by decide) rfl g_88 d_U_told_58 h (fun x4 h => ?_)
    exact y_iret C hr hlocks d_U_told_61 h
  refine y_sp h (fun k5 h => ?_) (fun k5 h => ?_)
  · refine y_tsw C (off := 61) 62 d_U_told_1 (Or.inr ⟨by rw [k5]; decide, by rw [k5]; decide, by rw [k5]; rfl⟩) (by decide) ?_
    refine y_aload_n C (i := 0) 0 d_U_told_62 rfl rfl ?_
    refine y_gi C (q := (yR1, yT1, 10)) (ci := 1) (k := 3) rfl (by decide) rfl g_90 d_U_told_63 h (fun x6 h => ?_)
    exact y_iret C hr hlocks d_U_told_66 h
  refine y_sp h (fun k7 h => ?_) (fun k7 h => ?_)
  · refine y_tsw C (off := 66) 67 d_U_told_1 (Or.inr ⟨by rw [k7]; decide, by rw [k7]; decide, by rw [k7]; rfl⟩) (by decide) ?_
    refine y_aload_n C (i := 0) 0 d_U_told_67 rfl rfl ?_
    refine y_gi C (q := (yR1, yT1, 10)) (ci := 1) (k := 4) rfl (by decide) rfl g_92 d_U_told_68 h (fun x8 h => ?_)
    exact y_iret C hr hlocks d_U_told_71 h
  refine y_sp h (fun k9 h => ?_) (fun k9 h => ?_)
  · refine y_tsw C (off := 71) 72 d_U_told_1 (Or.inr ⟨by rw [k9]; decide, by rw [k9]; decide, by rw [k9]; rfl⟩) (by decide) ?_
    refine y_aload_n C (i := 0) 0 d_U_told_72 rfl rfl ?_
    refine y_gi C (q := (yR1, yT1, 10)) (ci := 1) (k := 5) rfl (by decide) rfl g_94 d_U_told_73 h (fun x10 h => ?_)
    exact y_iret C hr hlocks d_U_told_76 h
  refine y_sp h (fun k11 h => ?_) (fun k11 h => ?_)
  · refine y_tsw C (off := 76) 77 d_U_told_1 (Or.inr ⟨by rw [k11]; decide, by rw [k11]; decide, by rw [k11]; rfl⟩) (by decide) ?_
    refine y_aload_n C (i := 0) 0 d_U_told_77 rfl rfl ?_
    refine y_gi C (q := (yR1, yT1, 10)) (ci := 1) (k := 6) rfl (by decide) rfl g_97 d_U_told_78 h (fun x12 h => ?_)
    exact y_iret C hr hlocks d_U_told_81 h
  refine y_sp h (fun k13 h => ?_) (fun k13 h => ?_)
  · refine y_tsw C (off := 81) 82 d_U_told_1 (Or.inr ⟨by rw [k13]; decide, by rw [k13]; decide, by rw [k13]; rfl⟩) (by decide) ?_
    refine y_aload_n C (i := 0) 0 d_U_told_82 rfl rfl ?_
    refine y_gi C (q := (yR1, yT1, 10)) (ci := 1) (k := 7) rfl (by decide) rfl g_101 d_U_told_83 h (fun x14 h => ?_)
    exact y_iret C hr hlocks d_U_told_86 h
  refine y_sp h (fun k15 h => ?_) (fun k15 h => ?_)
  · refine y_tsw C (off := 86) 87 d_U_told_1 (Or.inr ⟨by rw [k15]; decide, by rw [k15]; decide, by rw [k15]; rfl⟩) (by decide) ?_
    refine y_aload_n C (i := 0) 0 d_U_told_87 rfl rfl ?_
    refine y_gi C (q := (yR1, yT1, 10)) (ci := 1) (k := 8) rfl (by decide) rfl g_104 d_U_told_88 h (fun x16 h => ?_)
    exact y_iret C hr hlocks d_U_told_91 h
  refine y_sp h (fun k17 h => ?_) (fun k17 h => ?_)
  · refine y_tsw C (off := 91) 92 d_U_told_1 (Or.inr ⟨by rw [k17]; decide, by rw [k17]; decide, by rw [k17]; rfl⟩) (by decide) ?_
    refine y_aload_n C (i := 0) 0 d_U_told_92 rfl rfl ?_
    refine y_gi C (q := (yR1, yT1, 10)) (ci := 1) (k := 9) rfl (by decide) rfl g_107 d_U_told_93 h (fun x18 h => ?_)
    refine y_if_eq C 103 d_U_told_96 (by decide) h (fun k19 h => ?_) (fun k19 h => ?_)
    · refine y_iconst C (v := 0) d_U_told_103 (by decide) ?_
      exact y_iret C hr hlocks d_U_told_104 h
    · refine y_iconst C (v := 1) d_U_told_99 (by decide) ?_
      refine y_goto C (tgt := 104) d_U_told_100 (by decide) ?_
      exact y_iret C hr hlocks d_U_told_104 h
  refine y_tsw C (off := 104) 105 d_U_told_1 (Or.inl ⟨by have ak1 := lv_neT (a := 0) k1 rfl; have ak3 := lv_neT (a := 1) k3 rfl; have ak5 := lv_neT (a := 2) k5 rfl; have ak7 := lv_neT (a := 3) k7 rfl; have ak9 := lv_neT (a := 4) k9 rfl; have ak11 := lv_neT (a := 5) k11 rfl; have ak13 := lv_neT (a := 6) k13 rfl; have ak15 := lv_neT (a := 7) k15 rfl; have ak17 := lv_neT (a := 8) k17 rfl; omega, rfl⟩) (by decide) ?_
  refine y_iconst C (v := -1) d_U_told_105 (by decide) ?_
  exact y_iret C hr hlocks d_U_told_106 h
/-! X_guest -/
theorem d_X_guest_0 : decode prog_1_method_4_code 0 = .ok (.aload_n 0, 1) := by decide +kernel
theorem d_X_guest_1 : decode prog_1_method_4_code 1 = .ok (.getfield 10, 3) := by decide +kernel
theorem d_X_guest_4 : decode prog_1_method_4_code 4 = .ok (.iload_n 1, 1) := by decide +kernel
theorem d_X_guest_5 : decode prog_1_method_4_code 5 = .ok (.invokevirtual 71, 3) := by decide +kernel
theorem d_X_guest_8 : decode prog_1_method_4_code 8 = .ok (.astore_n 3, 1) := by decide +kernel
theorem d_X_guest_9 : decode prog_1_method_4_code 9 = .ok (.aload_n 3, 1) := by decide +kernel
theorem d_X_guest_10 : decode prog_1_method_4_code 10 = .ok (.ifnonnull 7, 3) := by decide +kernel
theorem d_X_guest_13 : decode prog_1_method_4_code 13 = .ok (.iconst (-1), 1) := by decide +kernel
theorem d_X_guest_14 : decode prog_1_method_4_code 14 = .ok (.goto 8, 3) := by decide +kernel
theorem d_X_guest_17 : decode prog_1_method_4_code 17 = .ok (.aload_n 3, 1) := by decide +kernel
theorem d_X_guest_18 : decode prog_1_method_4_code 18 = .ok (.iload_n 2, 1) := by decide +kernel
theorem d_X_guest_19 : decode prog_1_method_4_code 19 = .ok (.invokevirtual 75, 3) := by decide +kernel
theorem d_X_guest_22 : decode prog_1_method_4_code 22 = .ok (.ireturn, 1) := by decide +kernel
theorem gc_X_guest_71 : GoodIn yGW (wsV "WhoseGlass" 71 yR2 m_H_guestAt ws_H_guestAt) := y_gV g_391 g_268 g_269 g_2 g_270
theorem gc_X_guest_75 : GoodIn yGW (wsV "WhoseGlass" 75 yR1 m_U_told ws_U_told) := y_gV g_392 g_393 g_394 g_4 g_395
set_option maxRecDepth 100000 in
def f_X_guest (F : Nat) (u : Mm) (o : Nat) (a1 : Int32) (a2 : Int32) : Option (Int32 × Mm) := ob (jgr YX 4 0 (some o)) fun (r1 : Option Nat) => ob (jk YX 2 r1) fun t => yb (f_H_guestAt F u t a1) fun r2 u3 => (if r2 = none then some ((-1 : Int32), u3) else ob (jk YX 1 r2) fun t => yb (f_U_told F u3 t a2) fun x5 u6 => some (x5, u6))
set_option maxHeartbeats 4000000 in
set_option maxRecDepth 100000 in
theorem c_X_guest (l : Launch) (w : WP) (F : Nat) (u : Mm) (o : Nat) (a1 : Int32) (a2 : Int32) (out : Int32 × Mm) (h : f_X_guest F u o a1 a2 = some out) : yMet l m_X_guest ws_X_guest ({ frames := 1, cells := 0, slots := 0, locals := 21 } : Room) YX w u [va_re w.1 (some o), .int a1, .int a2] yfi out := by
  refine y_entry (own := "WhoseGlass") (lv := [(0, va_re w.1 (some o)), (1, .int a1), (2, .int a2)]) (by decide +kernel) rfl (by simp [lv_args, y_cat, y_catI, y_catJ]) (by simp [lg_sl, y_cat, y_catI, y_catJ]) ?_
  intro p e s m args below meth c C hr hlocks
  unfold f_X_guest at h
  refine y_aload_n C (i := 0) 0 d_X_guest_0 rfl rfl ?_
  refine y_gr C (q := (yR4, yT4, 5)) (ci := 4) (k := 0) rfl (by decide) rfl (by decide) g_202 d_X_guest_1 h (fun r1 h => ?_)
  refine y_iload_n C (i := 1) 1 d_X_guest_4 rfl rfl ?_
  refine y_callV 1 C (q := (yR2, yT2, 9)) (ci := 2) (fun t out hh => c_H_guestAt l w F u t a1 out hh) gc_X_guest_71 rfl (by decide) hd_H_guestAt ⟨Nat.le_of_ble_eq_true rfl, Nat.le_of_ble_eq_true rfl⟩ rfl rfl rfl rfl (by simp [y_cat, y_catI, y_catJ]) d_X_guest_5 h (fun r2 u3 h => ?_)
  refine y_stk (stp0 := [va_re w.1 r2]) rfl ?_
  refine y_astore_n C (i := 3) (lvp := [(0, va_re w.1 (some o)), (1, .int a1), (2, .int a2)]) d_X_guest_8 rfl (by decide) (by simp [List.filter, y_cat, y_catI, y_catJ]) ?_
  refine y_aload_n C (i := 3) 0 d_X_guest_9 rfl rfl ?_
  refine y_ifnonnull C 17 d_X_guest_10 (by decide) h (fun k4 h => ?_) (fun k4 h => ?_)
  · refine y_iconst C (v := -1) d_X_guest_13 (by decide) ?_
    refine y_goto C (tgt := 22) d_X_guest_14 (by decide) ?_
    exact y_iret C hr hlocks d_X_guest_22 h
  · refine y_aload_n C (i := 3) 0 d_X_guest_17 rfl rfl ?_
    refine y_iload_n C (i := 2) 3 d_X_guest_18 rfl rfl ?_
    refine y_callV 1 C (q := (yR1, yT1, 10)) (ci := 1) (fun t out hh => c_U_told l w F u3 t a2 out hh) gc_X_guest_75 rfl (by decide) hd_U_told ⟨Nat.le_of_ble_eq_true rfl, Nat.le_of_ble_eq_true rfl⟩ rfl rfl rfl rfl (by simp [y_cat, y_catI, y_catJ]) d_X_guest_19 h (fun x5 u6 h => ?_)
    refine y_stk (stp0 := [.int x5]) rfl ?_
    exact y_iret C hr hlocks d_X_guest_22 h
/-! X_comes -/
theorem d_X_comes_0 : decode prog_1_method_5_code 0 = .ok (.aload_n 0, 1) := by decide +kernel
theorem d_X_comes_1 : decode prog_1_method_5_code 1 = .ok (.iload_n 1, 1) := by decide +kernel
theorem d_X_comes_2 : decode prog_1_method_5_code 2 = .ok (.invokevirtual 29, 3) := by decide +kernel
theorem d_X_comes_5 : decode prog_1_method_5_code 5 = .ok (.astore_n 3, 1) := by decide +kernel
theorem d_X_comes_6 : decode prog_1_method_5_code 6 = .ok (.aload_n 3, 1) := by decide +kernel
theorem d_X_comes_7 : decode prog_1_method_5_code 7 = .ok (.ifnull 12, 3) := by decide +kernel
theorem d_X_comes_10 : decode prog_1_method_5_code 10 = .ok (.iload_n 2, 1) := by decide +kernel
theorem d_X_comes_11 : decode prog_1_method_5_code 11 = .ok (.bipush 6, 2) := by decide +kernel
theorem d_X_comes_13 : decode prog_1_method_5_code 13 = .ok (.invokestatic 78, 3) := by decide +kernel
theorem d_X_comes_16 : decode prog_1_method_5_code 16 = .ok (.ifCond .ne 5, 3) := by decide +kernel
theorem d_X_comes_19 : decode prog_1_method_5_code 19 = .ok (.iconst (-1), 1) := by decide +kernel
theorem d_X_comes_20 : decode prog_1_method_5_code 20 = .ok (.ireturn, 1) := by decide +kernel
theorem d_X_comes_21 : decode prog_1_method_5_code 21 = .ok (.aload_n 3, 1) := by decide +kernel
theorem d_X_comes_22 : decode prog_1_method_5_code 22 = .ok (.getfield 33, 3) := by decide +kernel
theorem d_X_comes_25 : decode prog_1_method_5_code 25 = .ok (.iconst 1, 1) := by decide +kernel
theorem d_X_comes_26 : decode prog_1_method_5_code 26 = .ok (.if_icmp .eq 8, 3) := by decide +kernel
theorem d_X_comes_29 : decode prog_1_method_5_code 29 = .ok (.aload_n 3, 1) := by decide +kernel
theorem d_X_comes_30 : decode prog_1_method_5_code 30 = .ok (.invokevirtual 40, 3) := by decide +kernel
theorem d_X_comes_33 : decode prog_1_method_5_code 33 = .ok (.ireturn, 1) := by decide +kernel
theorem d_X_comes_34 : decode prog_1_method_5_code 34 = .ok (.aload_n 0, 1) := by decide +kernel
theorem d_X_comes_35 : decode prog_1_method_5_code 35 = .ok (.getfield 10, 3) := by decide +kernel
theorem d_X_comes_38 : decode prog_1_method_5_code 38 = .ok (.aload_n 3, 1) := by decide +kernel
theorem d_X_comes_39 : decode prog_1_method_5_code 39 = .ok (.getfield 82, 3) := by decide +kernel
theorem d_X_comes_42 : decode prog_1_method_5_code 42 = .ok (.aload_n 3, 1) := by decide +kernel
theorem d_X_comes_43 : decode prog_1_method_5_code 43 = .ok (.getfield 85, 3) := by decide +kernel
theorem d_X_comes_46 : decode prog_1_method_5_code 46 = .ok (.bipush 9, 2) := by decide +kernel
theorem d_X_comes_48 : decode prog_1_method_5_code 48 = .ok (.invokevirtual 88, 3) := by decide +kernel
theorem d_X_comes_51 : decode prog_1_method_5_code 51 = .ok (.astore 4, 2) := by decide +kernel
theorem d_X_comes_53 : decode prog_1_method_5_code 53 = .ok (.aload 4, 2) := by decide +kernel
theorem d_X_comes_55 : decode prog_1_method_5_code 55 = .ok (.ifnonnull 6, 3) := by decide +kernel
theorem d_X_comes_58 : decode prog_1_method_5_code 58 = .ok (.bipush (-2), 2) := by decide +kernel
theorem d_X_comes_60 : decode prog_1_method_5_code 60 = .ok (.ireturn, 1) := by decide +kernel
theorem d_X_comes_61 : decode prog_1_method_5_code 61 = .ok (.aload 4, 2) := by decide +kernel
theorem d_X_comes_63 : decode prog_1_method_5_code 63 = .ok (.iload_n 2, 1) := by decide +kernel
theorem d_X_comes_64 : decode prog_1_method_5_code 64 = .ok (.aload_n 0, 1) := by decide +kernel
theorem d_X_comes_65 : decode prog_1_method_5_code 65 = .ok (.getfield 10, 3) := by decide +kernel
theorem d_X_comes_68 : decode prog_1_method_5_code 68 = .ok (.getfield 92, 3) := by decide +kernel
theorem d_X_comes_71 : decode prog_1_method_5_code 71 = .ok (.invokevirtual 95, 3) := by decide +kernel
theorem d_X_comes_74 : decode prog_1_method_5_code 74 = .ok (.aload 4, 2) := by decide +kernel
theorem d_X_comes_76 : decode prog_1_method_5_code 76 = .ok (.getfield 99, 3) := by decide +kernel
theorem d_X_comes_79 : decode prog_1_method_5_code 79 = .ok (.ireturn, 1) := by decide +kernel
theorem gc_X_comes_29 : GoodIn yGW (wsV "WhoseGlass" 29 yR4 m_X_shelfAt ws_X_shelfAt) := y_gV g_222 g_224 gs_0 g_1 g_225
theorem gc_X_comes_88 : GoodIn yGW (wsV "WhoseGlass" 88 yR2 m_H_addGlass ws_H_addGlass) := y_gV g_401 g_310 g_311 g_2 g_312
theorem gc_X_comes_95 : GoodIn yGW (wsV "WhoseGlass" 95 yR0 m_G_layAt ws_G_layAt) := y_gV g_402 g_330 g_331 g_3 g_332
theorem gc_X_comes_40 : GoodIn yGW (wsV "WhoseGlass" 40 yR3 m_S_whyNot ws_S_whyNot) := y_gV g_226 g_227 g_228 g_5 g_229
set_option maxRecDepth 100000 in
def f_X_comes (F : Nat) (u : Mm) (o : Nat) (a1 : Int32) (a2 : Int32) : Option (Int32 × Mm) := ob (jk YX 4 (some o)) fun t => yb (f_X_shelfAt F u t a1) fun r1 u2 => (if r1 = none then some ((-1 : Int32), u2) else yb (f_X_isBelow F u2 a2 (6 : Int32)) fun x4 u5 => (if x4 = 0 then some ((-1 : Int32), u5) else ob (jgi YX 3 0 u5 r1) fun (x7 : Int32) => (if x7 = (1 : Int32) then ob (jgr YX 4 0 (some o)) fun (r9 : Option Nat) => ob (jgi YX 3 1 u5 r1) fun (x10 : Int32) => ob (jgi YX 3 2 u5 r1) fun (x11 : Int32) => ob (jk YX 2 r9) fun t => yb (f_H_addGlass F u5 t x10 x11 (9 : Int32)) fun r12 u13 => (if r12 = none then some ((-2 : Int32), u13) else ob (jgr YX 4 0 (some o)) fun (r15 : Option Nat) => ob (jgi YX 2 5 u13 r15) fun (x16 : Int32) => ob (jk YX 0 r12) fun t => yb (f_G_layAt F u13 t a2 x16) fun v17 u18 => ob (jgi YX 0 0 u18 r12) fun (x19 : Int32) => some (x19, u18)) else ob (jk YX 3 r1) fun t => yb (f_S_whyNot F u5 t ) fun x20 u21 => some (x20, u21))))
set_option maxHeartbeats 4000000 in
set_option maxRecDepth 100000 in
theorem c_X_comes (l : Launch) (w : WP) (F : Nat) (u : Mm) (o : Nat) (a1 : Int32) (a2 : Int32) (out : Int32 × Mm) (h : f_X_comes F u o a1 a2 = some out) : yMet l m_X_comes ws_X_comes ({ frames := 2, cells := 0, slots := 0, locals := 47 } : Room) YX w u [va_re w.1 (some o), .int a1, .int a2] yfi out := by
  refine y_entry (own := "WhoseGlass") (lv := [(0, va_re w.1 (some o)), (1, .int a1), (2, .int a2)]) (by decide +kernel) rfl (by simp [lv_args, y_cat, y_catI, y_catJ]) (by simp [lg_sl, y_cat, y_catI, y_catJ]) ?_
  intro p e s m args below meth c C hr hlocks
  unfold f_X_comes at h
  refine y_aload_n C (i := 0) 0 d_X_comes_0 rfl rfl ?_
  refine y_iload_n C (i := 1) 1 d_X_comes_1 rfl rfl ?_
  refine y_callV 1 C (q := (yR4, yT4, 5)) (ci := 4) (fun t out hh => c_X_shelfAt l w F u t a1 out hh) gc_X_comes_29 rfl (by decide) hd_X_shelfAt ⟨Nat.le_of_ble_eq_true rfl, Nat.le_of_ble_eq_true rfl⟩ rfl rfl rfl rfl (by simp [y_cat, y_catI, y_catJ]) d_X_comes_2 h (fun r1 u2 h => ?_)
  refine y_stk (stp0 := [va_re w.1 r1]) rfl ?_
  refine y_astore_n C (i := 3) (lvp := [(0, va_re w.1 (some o)), (1, .int a1), (2, .int a2)]) d_X_comes_5 rfl (by decide) (by simp [List.filter, y_cat, y_catI, y_catJ]) ?_
  refine y_aload_n C (i := 3) 0 d_X_comes_6 rfl rfl ?_
  refine y_ifnull C 19 d_X_comes_7 (by decide) h (fun k3 h => ?_) (fun k3 h => ?_)
  · refine y_iconst C (v := -1) d_X_comes_19 (by decide) ?_
    exact y_iret C hr hlocks d_X_comes_20 h
  · refine y_iload_n C (i := 2) 3 d_X_comes_10 rfl rfl ?_
    refine y_bipush C (v := 6) d_X_comes_11 (by decide) ?_
    refine y_callS 2 C (fun out hh => c_X_isBelow l w F u2 a2 (6 : Int32) out hh) (y_gc g_344) g_400 g_1 g_343 hn_X_isBelow ⟨Nat.le_of_ble_eq_true rfl, Nat.le_of_ble_eq_true rfl⟩ rfl rfl rfl rfl (by simp [y_cat, y_catI, y_catJ]) d_X_comes_13 h (fun x4 u5 h => ?_)
    refine y_stk (stp0 := [.int x4]) rfl ?_
    refine y_if_ne C 21 d_X_comes_16 (by decide) h (fun k6 h => ?_) (fun k6 h => ?_)
    · refine y_iconst C (v := -1) d_X_comes_19 (by decide) ?_
      exact y_iret C hr hlocks d_X_comes_20 h
    · refine y_aload_n C (i := 3) 0 d_X_comes_21 rfl rfl ?_
      refine y_gi C (q := (yR3, yT3, 6)) (ci := 3) (k := 0) rfl (by decide) rfl g_176 d_X_comes_22 h (fun x7 h => ?_)
      refine y_iconst C (v := 1) d_X_comes_25 (by decide) ?_
      refine y_ic_eq C 34 d_X_comes_26 (by decide) h (fun k8 h => ?_) (fun k8 h => ?_)
      · refine y_aload_n C (i := 0) 1 d_X_comes_34 rfl rfl ?_
        refine y_gr C (q := (yR4, yT4, 5)) (ci := 4) (k := 0) rfl (by decide) rfl (by decide) g_202 d_X_comes_35 h (fun r9 h => ?_)
        refine y_aload_n C (i := 3) 0 d_X_comes_38 rfl rfl ?_
        refine y_gi C (q := (yR3, yT3, 6)) (ci := 3) (k := 1) rfl (by decide) rfl g_177 d_X_comes_39 h (fun x10 h => ?_)
        refine y_aload_n C (i := 3) 0 d_X_comes_42 rfl rfl ?_
        refine y_gi C (q := (yR3, yT3, 6)) (ci := 3) (k := 2) rfl (by decide) rfl g_179 d_X_comes_43 h (fun x11 h => ?_)
        refine y_bipush C (v := 9) d_X_comes_46 (by decide) ?_
        refine y_callV 3 C (q := (yR2, yT2, 9)) (ci := 2) (fun t out hh => c_H_addGlass l w F u5 t x10 x11 (9 : Int32) out hh) gc_X_comes_88 rfl (by decide) hd_H_addGlass ⟨Nat.le_of_ble_eq_true rfl, Nat.le_of_ble_eq_true rfl⟩ rfl rfl rfl rfl (by simp [y_cat, y_catI, y_catJ]) d_X_comes_48 h (fun r12 u13 h => ?_)
        refine y_stk (stp0 := [va_re w.1 r12]) rfl ?_
        refine y_astore C (i := 4) (lvp := [(3, va_re w.1 r1), (0, va_re w.1 (some o)), (1, .int a1), (2, .int a2)]) d_X_comes_51 (by decide) (by simp [List.filter, y_cat, y_catI, y_catJ]) ?_
        refine y_aload C (i := 4) 0 d_X_comes_53 rfl ?_
        refine y_ifnonnull C 61 d_X_comes_55 (by decide) h (fun k14 h => ?_) (fun k14 h => ?_)
        · refine y_bipush C (v := -2) d_X_comes_58 (by decide) ?_
          exact y_iret C hr hlocks d_X_comes_60 h
        · refine y_aload C (i := 4) 0 d_X_comes_61 rfl ?_
          refine y_iload_n C (i := 2) 4 d_X_comes_63 rfl rfl ?_
          refine y_aload_n C (i := 0) 2 d_X_comes_64 rfl rfl ?_
          refine y_gr C (q := (yR4, yT4, 5)) (ci := 4) (k := 0) rfl (by decide) rfl (by decide) g_202 d_X_comes_65 h (fun r15 h => ?_)
          refine y_gi C (q := (yR2, yT2, 9)) (ci := 2) (k := 5) rfl (by decide) rfl g_142 d_X_comes_68 h (fun x16 h => ?_)
          refine y_callV 2 C (q := (yR0, yT0, 8)) (ci := 0) (fun t out hh => c_G_layAt l w F u13 t a2 x16 out hh) gc_X_comes_95 rfl (by decide) hd_G_layAt ⟨Nat.le_of_ble_eq_true rfl, Nat.le_of_ble_eq_true rfl⟩ rfl rfl rfl rfl (by simp [y_cat, y_catI, y_catJ]) d_X_comes_71 h (fun v17 u18 h => ?_)
          refine y_stk (stp0 := []) rfl ?_
          refine y_aload C (i := 4) 0 d_X_comes_74 rfl ?_
          refine y_gi C (q := (yR0, yT0, 8)) (ci := 0) (k := 0) rfl (by decide) rfl g_41 d_X_comes_76 h (fun x19 h => ?_)
          exact y_iret C hr hlocks d_X_comes_79 h
      · refine y_aload_n C (i := 3) 0 d_X_comes_29 rfl rfl ?_
        refine y_callV 0 C (q := (yR3, yT3, 6)) (ci := 3) (fun t out hh => c_S_whyNot l w F u5 t out hh) gc_X_comes_40 rfl (by decide) hd_S_whyNot ⟨Nat.le_of_ble_eq_true rfl, Nat.le_of_ble_eq_true rfl⟩ rfl rfl rfl rfl (by simp [y_cat, y_catI, y_catJ]) d_X_comes_30 h (fun x20 u21 h => ?_)
        refine y_stk (stp0 := [.int x20]) rfl ?_
        exact y_iret C hr hlocks d_X_comes_33 h
/-! X_go -/
theorem d_X_go_0 : decode prog_1_method_6_code 0 = .ok (.aload_n 0, 1) := by decide +kernel
theorem d_X_go_1 : decode prog_1_method_6_code 1 = .ok (.getfield 10, 3) := by decide +kernel
theorem d_X_go_4 : decode prog_1_method_6_code 4 = .ok (.iload_n 1, 1) := by decide +kernel
theorem d_X_go_5 : decode prog_1_method_6_code 5 = .ok (.invokevirtual 71, 3) := by decide +kernel
theorem d_X_go_8 : decode prog_1_method_6_code 8 = .ok (.astore_n 3, 1) := by decide +kernel
theorem d_X_go_9 : decode prog_1_method_6_code 9 = .ok (.aload_n 3, 1) := by decide +kernel
theorem d_X_go_10 : decode prog_1_method_6_code 10 = .ok (.ifnull 12, 3) := by decide +kernel
theorem d_X_go_13 : decode prog_1_method_6_code 13 = .ok (.iload_n 2, 1) := by decide +kernel
theorem d_X_go_14 : decode prog_1_method_6_code 14 = .ok (.bipush 6, 2) := by decide +kernel
theorem d_X_go_16 : decode prog_1_method_6_code 16 = .ok (.invokestatic 78, 3) := by decide +kernel
theorem d_X_go_19 : decode prog_1_method_6_code 19 = .ok (.ifCond .ne 5, 3) := by decide +kernel
theorem d_X_go_22 : decode prog_1_method_6_code 22 = .ok (.iconst (-1), 1) := by decide +kernel
theorem d_X_go_23 : decode prog_1_method_6_code 23 = .ok (.ireturn, 1) := by decide +kernel
theorem d_X_go_24 : decode prog_1_method_6_code 24 = .ok (.aload_n 3, 1) := by decide +kernel
theorem d_X_go_25 : decode prog_1_method_6_code 25 = .ok (.getfield 102, 3) := by decide +kernel
theorem d_X_go_28 : decode prog_1_method_6_code 28 = .ok (.istore 4, 2) := by decide +kernel
theorem d_X_go_30 : decode prog_1_method_6_code 30 = .ok (.aload_n 3, 1) := by decide +kernel
theorem d_X_go_31 : decode prog_1_method_6_code 31 = .ok (.iload_n 2, 1) := by decide +kernel
theorem d_X_go_32 : decode prog_1_method_6_code 32 = .ok (.putfield 102, 3) := by decide +kernel
theorem d_X_go_35 : decode prog_1_method_6_code 35 = .ok (.iload 4, 2) := by decide +kernel
theorem d_X_go_37 : decode prog_1_method_6_code 37 = .ok (.ireturn, 1) := by decide +kernel
theorem gc_X_go_71 : GoodIn yGW (wsV "WhoseGlass" 71 yR2 m_H_guestAt ws_H_guestAt) := y_gV g_391 g_268 g_269 g_2 g_270
set_option maxRecDepth 100000 in
def f_X_go (F : Nat) (u : Mm) (o : Nat) (a1 : Int32) (a2 : Int32) : Option (Int32 × Mm) := ob (jgr YX 4 0 (some o)) fun (r1 : Option Nat) => ob (jk YX 2 r1) fun t => yb (f_H_guestAt F u t a1) fun r2 u3 => (if r2 = none then some ((-1 : Int32), u3) else yb (f_X_isBelow F u3 a2 (6 : Int32)) fun x5 u6 => (if x5 = 0 then some ((-1 : Int32), u6) else ob (jgi YX 1 5 u6 r2) fun (x8 : Int32) => ob (jpi YX 1 5 u6 r2 a2) fun (u9 : Mm) => some (x8, u9)))
set_option maxHeartbeats 4000000 in
set_option maxRecDepth 100000 in
theorem c_X_go (l : Launch) (w : WP) (F : Nat) (u : Mm) (o : Nat) (a1 : Int32) (a2 : Int32) (out : Int32 × Mm) (h : f_X_go F u o a1 a2 = some out) : yMet l m_X_go ws_X_go ({ frames := 1, cells := 0, slots := 0, locals := 21 } : Room) YX w u [va_re w.1 (some o), .int a1, .int a2] yfi out := by
  refine y_entry (own := "WhoseGlass") (lv := [(0, va_re w.1 (some o)), (1, .int a1), (2, .int a2)]) (by decide +kernel) rfl (by simp [lv_args, y_cat, y_catI, y_catJ]) (by simp [lg_sl, y_cat, y_catI, y_catJ]) ?_
  intro p e s m args below meth c C hr hlocks
  unfold f_X_go at h
  refine y_aload_n C (i := 0) 0 d_X_go_0 rfl rfl ?_
  refine y_gr C (q := (yR4, yT4, 5)) (ci := 4) (k := 0) rfl (by decide) rfl (by decide) g_202 d_X_go_1 h (fun r1 h => ?_)
  refine y_iload_n C (i := 1) 1 d_X_go_4 rfl rfl ?_
  refine y_callV 1 C (q := (yR2, yT2, 9)) (ci := 2) (fun t out hh => c_H_guestAt l w F u t a1 out hh) gc_X_go_71 rfl (by decide) hd_H_guestAt ⟨Nat.le_of_ble_eq_true rfl, Nat.le_of_ble_eq_true rfl⟩ rfl rfl rfl rfl (by simp [y_cat, y_catI, y_catJ]) d_X_go_5 h (fun r2 u3 h => ?_)
  refine y_stk (stp0 := [va_re w.1 r2]) rfl ?_
  refine y_astore_n C (i := 3) (lvp := [(0, va_re w.1 (some o)), (1, .int a1), (2, .int a2)]) d_X_go_8 rfl (by decide) (by simp [List.filter, y_cat, y_catI, y_catJ]) ?_
  refine y_aload_n C (i := 3) 0 d_X_go_9 rfl rfl ?_
  refine y_ifnull C 22 d_X_go_10 (by decide) h (fun k4 h => ?_) (fun k4 h => ?_)
  · refine y_iconst C (v := -1) d_X_go_22 (by decide) ?_
    exact y_iret C hr hlocks d_X_go_23 h
  · refine y_iload_n C (i := 2) 3 d_X_go_13 rfl rfl ?_
    refine y_bipush C (v := 6) d_X_go_14 (by decide) ?_
    refine y_callS 2 C (fun out hh => c_X_isBelow l w F u3 a2 (6 : Int32) out hh) (y_gc g_344) g_400 g_1 g_343 hn_X_isBelow ⟨Nat.le_of_ble_eq_true rfl, Nat.le_of_ble_eq_true rfl⟩ rfl rfl rfl rfl (by simp [y_cat, y_catI, y_catJ]) d_X_go_16 h (fun x5 u6 h => ?_)
    refine y_stk (stp0 := [.int x5]) rfl ?_
    refine y_if_ne C 24 d_X_go_19 (by decide) h (fun k7 h => ?_) (fun k7 h => ?_)
    · refine y_iconst C (v := -1) d_X_go_22 (by decide) ?_
      exact y_iret C hr hlocks d_X_go_23 h
    · refine y_aload_n C (i := 3) 0 d_X_go_24 rfl rfl ?_
      refine y_gi C (q := (yR1, yT1, 10)) (ci := 1) (k := 5) rfl (by decide) rfl g_95 d_X_go_25 h (fun x8 h => ?_)
      refine y_istore C (i := 4) (lvp := [(3, va_re w.1 r2), (0, va_re w.1 (some o)), (1, .int a1), (2, .int a2)]) d_X_go_28 (by decide) (by simp [List.filter, y_cat, y_catI, y_catJ]) ?_
      refine y_aload_n C (i := 3) 1 d_X_go_30 rfl rfl ?_
      refine y_iload_n C (i := 2) 4 d_X_go_31 rfl rfl ?_
      refine y_pi C (q := (yR1, yT1, 10)) (ci := 1) (k := 5) rfl (by decide) rfl rfl (by decide +kernel) g_95 d_X_go_32 h (fun u9 h => ?_)
      refine y_iload C (i := 4) 0 d_X_go_35 rfl ?_
      exact y_iret C hr hlocks d_X_go_37 h
/-! X_sip -/
theorem d_X_sip_0 : decode prog_1_method_7_code 0 = .ok (.aload_n 0, 1) := by decide +kernel
theorem d_X_sip_1 : decode prog_1_method_7_code 1 = .ok (.getfield 10, 3) := by decide +kernel
theorem d_X_sip_4 : decode prog_1_method_7_code 4 = .ok (.iload_n 1, 1) := by decide +kernel
theorem d_X_sip_5 : decode prog_1_method_7_code 5 = .ok (.invokevirtual 71, 3) := by decide +kernel
theorem d_X_sip_8 : decode prog_1_method_7_code 8 = .ok (.astore_n 2, 1) := by decide +kernel
theorem d_X_sip_9 : decode prog_1_method_7_code 9 = .ok (.aload_n 2, 1) := by decide +kernel
theorem d_X_sip_10 : decode prog_1_method_7_code 10 = .ok (.ifnonnull 5, 3) := by decide +kernel
theorem d_X_sip_13 : decode prog_1_method_7_code 13 = .ok (.iconst (-1), 1) := by decide +kernel
theorem d_X_sip_14 : decode prog_1_method_7_code 14 = .ok (.ireturn, 1) := by decide +kernel
theorem d_X_sip_15 : decode prog_1_method_7_code 15 = .ok (.aload_n 0, 1) := by decide +kernel
theorem d_X_sip_16 : decode prog_1_method_7_code 16 = .ok (.getfield 10, 3) := by decide +kernel
theorem d_X_sip_19 : decode prog_1_method_7_code 19 = .ok (.aload_n 2, 1) := by decide +kernel
theorem d_X_sip_20 : decode prog_1_method_7_code 20 = .ok (.getfield 105, 3) := by decide +kernel
theorem d_X_sip_23 : decode prog_1_method_7_code 23 = .ok (.invokevirtual 61, 3) := by decide +kernel
theorem d_X_sip_26 : decode prog_1_method_7_code 26 = .ok (.astore_n 3, 1) := by decide +kernel
theorem d_X_sip_27 : decode prog_1_method_7_code 27 = .ok (.aload_n 3, 1) := by decide +kernel
theorem d_X_sip_28 : decode prog_1_method_7_code 28 = .ok (.ifnull 10, 3) := by decide +kernel
theorem d_X_sip_31 : decode prog_1_method_7_code 31 = .ok (.aload_n 3, 1) := by decide +kernel
theorem d_X_sip_32 : decode prog_1_method_7_code 32 = .ok (.getfield 108, 3) := by decide +kernel
theorem d_X_sip_35 : decode prog_1_method_7_code 35 = .ok (.ifCond .gt 6, 3) := by decide +kernel
theorem d_X_sip_38 : decode prog_1_method_7_code 38 = .ok (.bipush (-3), 2) := by decide +kernel
theorem d_X_sip_40 : decode prog_1_method_7_code 40 = .ok (.ireturn, 1) := by decide +kernel
theorem d_X_sip_41 : decode prog_1_method_7_code 41 = .ok (.aload_n 2, 1) := by decide +kernel
theorem d_X_sip_42 : decode prog_1_method_7_code 42 = .ok (.aload_n 3, 1) := by decide +kernel
theorem d_X_sip_43 : decode prog_1_method_7_code 43 = .ok (.invokevirtual 111, 3) := by decide +kernel
theorem d_X_sip_46 : decode prog_1_method_7_code 46 = .ok (.ireturn, 1) := by decide +kernel
theorem gc_X_sip_71 : GoodIn yGW (wsV "WhoseGlass" 71 yR2 m_H_guestAt ws_H_guestAt) := y_gV g_391 g_268 g_269 g_2 g_270
theorem gc_X_sip_61 : GoodIn yGW (wsV "WhoseGlass" 61 yR2 m_H_glassAt ws_H_glassAt) := y_gV g_381 g_260 g_261 g_2 g_262
theorem gc_X_sip_111 : GoodIn yGW (wsV "WhoseGlass" 111 yR1 m_U_sipFrom ws_U_sipFrom) := y_gV g_411 g_318 g_319 g_4 g_320
set_option maxRecDepth 100000 in
def f_X_sip (F : Nat) (u : Mm) (o : Nat) (a1 : Int32) : Option (Int32 × Mm) := ob (jgr YX 4 0 (some o)) fun (r1 : Option Nat) => ob (jk YX 2 r1) fun t => yb (f_H_guestAt F u t a1) fun r2 u3 => (if r2 = none then some ((-1 : Int32), u3) else ob (jgr YX 4 0 (some o)) fun (r5 : Option Nat) => ob (jgi YX 1 6 u3 r2) fun (x6 : Int32) => ob (jk YX 2 r5) fun t => yb (f_H_glassAt F u3 t x6) fun r7 u8 => (if r7 = none then some ((-3 : Int32), u8) else ob (jgi YX 0 3 u8 r7) fun (x10 : Int32) => (if 0 < x10 then ob (jk YX 1 r2) fun t => yb (f_U_sipFrom F u8 t r7) fun x12 u13 => some (x12, u13) else some ((-3 : Int32), u8))))
set_option maxHeartbeats 4000000 in
set_option maxRecDepth 100000 in
theorem c_X_sip (l : Launch) (w : WP) (F : Nat) (u : Mm) (o : Nat) (a1 : Int32) (out : Int32 × Mm) (h : f_X_sip F u o a1 = some out) : yMet l m_X_sip ws_X_sip ({ frames := 2, cells := 0, slots := 0, locals := 42 } : Room) YX w u [va_re w.1 (some o), .int a1] yfi out := by
  refine y_entry (own := "WhoseGlass") (lv := [(0, va_re w.1 (some o)), (1, .int a1)]) (by decide +kernel) rfl (by simp [lv_args, y_cat, y_catI, y_catJ]) (by simp [lg_sl, y_cat, y_catI, y_catJ]) ?_
  intro p e s m args below meth c C hr hlocks
  unfold f_X_sip at h
  refine y_aload_n C (i := 0) 0 d_X_sip_0 rfl rfl ?_
  refine y_gr C (q := (yR4, yT4, 5)) (ci := 4) (k := 0) rfl (by decide) rfl (by decide) g_202 d_X_sip_1 h (fun r1 h => ?_)
  refine y_iload_n C (i := 1) 1 d_X_sip_4 rfl rfl ?_
  refine y_callV 1 C (q := (yR2, yT2, 9)) (ci := 2) (fun t out hh => c_H_guestAt l w F u t a1 out hh) gc_X_sip_71 rfl (by decide) hd_H_guestAt ⟨Nat.le_of_ble_eq_true rfl, Nat.le_of_ble_eq_true rfl⟩ rfl rfl rfl rfl (by simp [y_cat, y_catI, y_catJ]) d_X_sip_5 h (fun r2 u3 h => ?_)
  refine y_stk (stp0 := [va_re w.1 r2]) rfl ?_
  refine y_astore_n C (i := 2) (lvp := [(0, va_re w.1 (some o)), (1, .int a1)]) d_X_sip_8 rfl (by decide) (by simp [List.filter, y_cat, y_catI, y_catJ]) ?_
  refine y_aload_n C (i := 2) 0 d_X_sip_9 rfl rfl ?_
  refine y_ifnonnull C 15 d_X_sip_10 (by decide) h (fun k4 h => ?_) (fun k4 h => ?_)
  · refine y_iconst C (v := -1) d_X_sip_13 (by decide) ?_
    exact y_iret C hr hlocks d_X_sip_14 h
  · refine y_aload_n C (i := 0) 1 d_X_sip_15 rfl rfl ?_
    refine y_gr C (q := (yR4, yT4, 5)) (ci := 4) (k := 0) rfl (by decide) rfl (by decide) g_202 d_X_sip_16 h (fun r5 h => ?_)
    refine y_aload_n C (i := 2) 0 d_X_sip_19 rfl rfl ?_
    refine y_gi C (q := (yR1, yT1, 10)) (ci := 1) (k := 6) rfl (by decide) rfl g_98 d_X_sip_20 h (fun x6 h => ?_)
    refine y_callV 1 C (q := (yR2, yT2, 9)) (ci := 2) (fun t out hh => c_H_glassAt l w F u3 t x6 out hh) gc_X_sip_61 rfl (by decide) hd_H_glassAt ⟨Nat.le_of_ble_eq_true rfl, Nat.le_of_ble_eq_true rfl⟩ rfl rfl rfl rfl (by simp [y_cat, y_catI, y_catJ]) d_X_sip_23 h (fun r7 u8 h => ?_)
    refine y_stk (stp0 := [va_re w.1 r7]) rfl ?_
    refine y_astore_n C (i := 3) (lvp := [(2, va_re w.1 r2), (0, va_re w.1 (some o)), (1, .int a1)]) d_X_sip_26 rfl (by decide) (by simp [List.filter, y_cat, y_catI, y_catJ]) ?_
    refine y_aload_n C (i := 3) 0 d_X_sip_27 rfl rfl ?_
    refine y_ifnull C 38 d_X_sip_28 (by decide) h (fun k9 h => ?_) (fun k9 h => ?_)
    · refine y_bipush C (v := -3) d_X_sip_38 (by decide) ?_
      exact y_iret C hr hlocks d_X_sip_40 h
    · refine y_aload_n C (i := 3) 0 d_X_sip_31 rfl rfl ?_
      refine y_gi C (q := (yR0, yT0, 8)) (ci := 0) (k := 3) rfl (by decide) rfl g_48 d_X_sip_32 h (fun x10 h => ?_)
      refine y_if_gt C 41 d_X_sip_35 (by decide) h (fun k11 h => ?_) (fun k11 h => ?_)
      · refine y_aload_n C (i := 2) 1 d_X_sip_41 rfl rfl ?_
        refine y_aload_n C (i := 3) 0 d_X_sip_42 rfl rfl ?_
        refine y_callV 1 C (q := (yR1, yT1, 10)) (ci := 1) (fun t out hh => c_U_sipFrom l w F u8 t r7 out hh) gc_X_sip_111 rfl (by decide) hd_U_sipFrom ⟨Nat.le_of_ble_eq_true rfl, Nat.le_of_ble_eq_true rfl⟩ rfl rfl rfl rfl (by simp [y_cat, y_catI, y_catJ]) d_X_sip_43 h (fun x12 u13 h => ?_)
        refine y_stk (stp0 := [.int x12]) rfl ?_
        exact y_iret C hr hlocks d_X_sip_46 h
      · refine y_bipush C (v := -3) d_X_sip_38 (by decide) ?_
        exact y_iret C hr hlocks d_X_sip_40 h
/-! X_lay -/
theorem d_X_lay_0 : decode prog_1_method_8_code 0 = .ok (.aload_n 0, 1) := by decide +kernel
theorem d_X_lay_1 : decode prog_1_method_8_code 1 = .ok (.getfield 10, 3) := by decide +kernel
theorem d_X_lay_4 : decode prog_1_method_8_code 4 = .ok (.iload_n 1, 1) := by decide +kernel
theorem d_X_lay_5 : decode prog_1_method_8_code 5 = .ok (.invokevirtual 71, 3) := by decide +kernel
theorem d_X_lay_8 : decode prog_1_method_8_code 8 = .ok (.astore_n 2, 1) := by decide +kernel
theorem d_X_lay_9 : decode prog_1_method_8_code 9 = .ok (.aload_n 2, 1) := by decide +kernel
theorem d_X_lay_10 : decode prog_1_method_8_code 10 = .ok (.ifnonnull 5, 3) := by decide +kernel
theorem d_X_lay_13 : decode prog_1_method_8_code 13 = .ok (.iconst (-1), 1) := by decide +kernel
theorem d_X_lay_14 : decode prog_1_method_8_code 14 = .ok (.ireturn, 1) := by decide +kernel
theorem d_X_lay_15 : decode prog_1_method_8_code 15 = .ok (.aload_n 0, 1) := by decide +kernel
theorem d_X_lay_16 : decode prog_1_method_8_code 16 = .ok (.getfield 10, 3) := by decide +kernel
theorem d_X_lay_19 : decode prog_1_method_8_code 19 = .ok (.aload_n 2, 1) := by decide +kernel
theorem d_X_lay_20 : decode prog_1_method_8_code 20 = .ok (.getfield 105, 3) := by decide +kernel
theorem d_X_lay_23 : decode prog_1_method_8_code 23 = .ok (.invokevirtual 61, 3) := by decide +kernel
theorem d_X_lay_26 : decode prog_1_method_8_code 26 = .ok (.astore_n 3, 1) := by decide +kernel
theorem d_X_lay_27 : decode prog_1_method_8_code 27 = .ok (.aload_n 3, 1) := by decide +kernel
theorem d_X_lay_28 : decode prog_1_method_8_code 28 = .ok (.ifnonnull 6, 3) := by decide +kernel
theorem d_X_lay_31 : decode prog_1_method_8_code 31 = .ok (.bipush (-3), 2) := by decide +kernel
theorem d_X_lay_33 : decode prog_1_method_8_code 33 = .ok (.ireturn, 1) := by decide +kernel
theorem d_X_lay_34 : decode prog_1_method_8_code 34 = .ok (.aload_n 0, 1) := by decide +kernel
theorem d_X_lay_35 : decode prog_1_method_8_code 35 = .ok (.getfield 10, 3) := by decide +kernel
theorem d_X_lay_38 : decode prog_1_method_8_code 38 = .ok (.aload_n 2, 1) := by decide +kernel
theorem d_X_lay_39 : decode prog_1_method_8_code 39 = .ok (.aload_n 3, 1) := by decide +kernel
theorem d_X_lay_40 : decode prog_1_method_8_code 40 = .ok (.invokevirtual 115, 3) := by decide +kernel
theorem d_X_lay_43 : decode prog_1_method_8_code 43 = .ok (.aload_n 3, 1) := by decide +kernel
theorem d_X_lay_44 : decode prog_1_method_8_code 44 = .ok (.getfield 99, 3) := by decide +kernel
theorem d_X_lay_47 : decode prog_1_method_8_code 47 = .ok (.ireturn, 1) := by decide +kernel
theorem gc_X_lay_71 : GoodIn yGW (wsV "WhoseGlass" 71 yR2 m_H_guestAt ws_H_guestAt) := y_gV g_391 g_268 g_269 g_2 g_270
theorem gc_X_lay_61 : GoodIn yGW (wsV "WhoseGlass" 61 yR2 m_H_glassAt ws_H_glassAt) := y_gV g_381 g_260 g_261 g_2 g_262
theorem gc_X_lay_115 : GoodIn yGW (wsV "WhoseGlass" 115 yR2 m_H_layDown ws_H_layDown) := y_gV g_416 g_326 g_327 g_2 g_328
set_option maxRecDepth 100000 in
def f_X_lay (F : Nat) (u : Mm) (o : Nat) (a1 : Int32) : Option (Int32 × Mm) := ob (jgr YX 4 0 (some o)) fun (r1 : Option Nat) => ob (jk YX 2 r1) fun t => yb (f_H_guestAt F u t a1) fun r2 u3 => (if r2 = none then some ((-1 : Int32), u3) else ob (jgr YX 4 0 (some o)) fun (r5 : Option Nat) => ob (jgi YX 1 6 u3 r2) fun (x6 : Int32) => ob (jk YX 2 r5) fun t => yb (f_H_glassAt F u3 t x6) fun r7 u8 => (if r7 = none then some ((-3 : Int32), u8) else ob (jgr YX 4 0 (some o)) fun (r10 : Option Nat) => ob (jk YX 2 r10) fun t => yb (f_H_layDown F u8 t r2 r7) fun v11 u12 => ob (jgi YX 0 0 u12 r7) fun (x13 : Int32) => some (x13, u12)))
set_option maxHeartbeats 4000000 in
set_option maxRecDepth 100000 in
theorem c_X_lay (l : Launch) (w : WP) (F : Nat) (u : Mm) (o : Nat) (a1 : Int32) (out : Int32 × Mm) (h : f_X_lay F u o a1 = some out) : yMet l m_X_lay ws_X_lay ({ frames := 2, cells := 0, slots := 0, locals := 44 } : Room) YX w u [va_re w.1 (some o), .int a1] yfi out := by
  refine y_entry (own := "WhoseGlass") (lv := [(0, va_re w.1 (some o)), (1, .int a1)]) (by decide +kernel) rfl (by simp [lv_args, y_cat, y_catI, y_catJ]) (by simp [lg_sl, y_cat, y_catI, y_catJ]) ?_
  intro p e s m args below meth c C hr hlocks
  unfold f_X_lay at h
  refine y_aload_n C (i := 0) 0 d_X_lay_0 rfl rfl ?_
  refine y_gr C (q := (yR4, yT4, 5)) (ci := 4) (k := 0) rfl (by decide) rfl (by decide) g_202 d_X_lay_1 h (fun r1 h => ?_)
  refine y_iload_n C (i := 1) 1 d_X_lay_4 rfl rfl ?_
  refine y_callV 1 C (q := (yR2, yT2, 9)) (ci := 2) (fun t out hh => c_H_guestAt l w F u t a1 out hh) gc_X_lay_71 rfl (by decide) hd_H_guestAt ⟨Nat.le_of_ble_eq_true rfl, Nat.le_of_ble_eq_true rfl⟩ rfl rfl rfl rfl (by simp [y_cat, y_catI, y_catJ]) d_X_lay_5 h (fun r2 u3 h => ?_)
  refine y_stk (stp0 := [va_re w.1 r2]) rfl ?_
  refine y_astore_n C (i := 2) (lvp := [(0, va_re w.1 (some o)), (1, .int a1)]) d_X_lay_8 rfl (by decide) (by simp [List.filter, y_cat, y_catI, y_catJ]) ?_
  refine y_aload_n C (i := 2) 0 d_X_lay_9 rfl rfl ?_
  refine y_ifnonnull C 15 d_X_lay_10 (by decide) h (fun k4 h => ?_) (fun k4 h => ?_)
  · refine y_iconst C (v := -1) d_X_lay_13 (by decide) ?_
    exact y_iret C hr hlocks d_X_lay_14 h
  · refine y_aload_n C (i := 0) 1 d_X_lay_15 rfl rfl ?_
    refine y_gr C (q := (yR4, yT4, 5)) (ci := 4) (k := 0) rfl (by decide) rfl (by decide) g_202 d_X_lay_16 h (fun r5 h => ?_)
    refine y_aload_n C (i := 2) 0 d_X_lay_19 rfl rfl ?_
    refine y_gi C (q := (yR1, yT1, 10)) (ci := 1) (k := 6) rfl (by decide) rfl g_98 d_X_lay_20 h (fun x6 h => ?_)
    refine y_callV 1 C (q := (yR2, yT2, 9)) (ci := 2) (fun t out hh => c_H_glassAt l w F u3 t x6 out hh) gc_X_lay_61 rfl (by decide) hd_H_glassAt ⟨Nat.le_of_ble_eq_true rfl, Nat.le_of_ble_eq_true rfl⟩ rfl rfl rfl rfl (by simp [y_cat, y_catI, y_catJ]) d_X_lay_23 h (fun r7 u8 h => ?_)
    refine y_stk (stp0 := [va_re w.1 r7]) rfl ?_
    refine y_astore_n C (i := 3) (lvp := [(2, va_re w.1 r2), (0, va_re w.1 (some o)), (1, .int a1)]) d_X_lay_26 rfl (by decide) (by simp [List.filter, y_cat, y_catI, y_catJ]) ?_
    refine y_aload_n C (i := 3) 0 d_X_lay_27 rfl rfl ?_
    refine y_ifnonnull C 34 d_X_lay_28 (by decide) h (fun k9 h => ?_) (fun k9 h => ?_)
    · refine y_bipush C (v := -3) d_X_lay_31 (by decide) ?_
      exact y_iret C hr hlocks d_X_lay_33 h
    · refine y_aload_n C (i := 0) 2 d_X_lay_34 rfl rfl ?_
      refine y_gr C (q := (yR4, yT4, 5)) (ci := 4) (k := 0) rfl (by decide) rfl (by decide) g_202 d_X_lay_35 h (fun r10 h => ?_)
      refine y_aload_n C (i := 2) 1 d_X_lay_38 rfl rfl ?_
      refine y_aload_n C (i := 3) 0 d_X_lay_39 rfl rfl ?_
      refine y_callV 2 C (q := (yR2, yT2, 9)) (ci := 2) (fun t out hh => c_H_layDown l w F u8 t r2 r7 out hh) gc_X_lay_115 rfl (by decide) hd_H_layDown ⟨Nat.le_of_ble_eq_true rfl, Nat.le_of_ble_eq_true rfl⟩ rfl rfl rfl rfl (by simp [y_cat, y_catI, y_catJ]) d_X_lay_40 h (fun v11 u12 h => ?_)
      refine y_stk (stp0 := []) rfl ?_
      refine y_aload_n C (i := 3) 0 d_X_lay_43 rfl rfl ?_
      refine y_gi C (q := (yR0, yT0, 8)) (ci := 0) (k := 0) rfl (by decide) rfl g_41 d_X_lay_44 h (fun x13 h => ?_)
      exact y_iret C hr hlocks d_X_lay_47 h
/-! X_take -/
theorem d_X_take_0 : decode prog_1_method_9_code 0 = .ok (.aload_n 0, 1) := by decide +kernel
theorem d_X_take_1 : decode prog_1_method_9_code 1 = .ok (.getfield 10, 3) := by decide +kernel
theorem d_X_take_4 : decode prog_1_method_9_code 4 = .ok (.iload_n 1, 1) := by decide +kernel
theorem d_X_take_5 : decode prog_1_method_9_code 5 = .ok (.invokevirtual 71, 3) := by decide +kernel
theorem d_X_take_8 : decode prog_1_method_9_code 8 = .ok (.astore_n 2, 1) := by decide +kernel
theorem d_X_take_9 : decode prog_1_method_9_code 9 = .ok (.aload_n 2, 1) := by decide +kernel
theorem d_X_take_10 : decode prog_1_method_9_code 10 = .ok (.ifnonnull 5, 3) := by decide +kernel
theorem d_X_take_13 : decode prog_1_method_9_code 13 = .ok (.iconst (-1), 1) := by decide +kernel
theorem d_X_take_14 : decode prog_1_method_9_code 14 = .ok (.ireturn, 1) := by decide +kernel
theorem d_X_take_15 : decode prog_1_method_9_code 15 = .ok (.aload_n 2, 1) := by decide +kernel
theorem d_X_take_16 : decode prog_1_method_9_code 16 = .ok (.getfield 105, 3) := by decide +kernel
theorem d_X_take_19 : decode prog_1_method_9_code 19 = .ok (.bipush (-4), 2) := by decide +kernel
theorem d_X_take_21 : decode prog_1_method_9_code 21 = .ok (.if_icmp .ne 14, 3) := by decide +kernel
theorem d_X_take_24 : decode prog_1_method_9_code 24 = .ok (.aload_n 0, 1) := by decide +kernel
theorem d_X_take_25 : decode prog_1_method_9_code 25 = .ok (.getfield 10, 3) := by decide +kernel
theorem d_X_take_28 : decode prog_1_method_9_code 28 = .ok (.aload_n 2, 1) := by decide +kernel
theorem d_X_take_29 : decode prog_1_method_9_code 29 = .ok (.invokevirtual 119, 3) := by decide +kernel
theorem d_X_take_32 : decode prog_1_method_9_code 32 = .ok (.goto 5, 3) := by decide +kernel
theorem d_X_take_35 : decode prog_1_method_9_code 35 = .ok (.bipush (-3), 2) := by decide +kernel
theorem d_X_take_37 : decode prog_1_method_9_code 37 = .ok (.ireturn, 1) := by decide +kernel
theorem gc_X_take_71 : GoodIn yGW (wsV "WhoseGlass" 71 yR2 m_H_guestAt ws_H_guestAt) := y_gV g_391 g_268 g_269 g_2 g_270
theorem gc_X_take_119 : GoodIn yGW (wsV "WhoseGlass" 119 yR2 m_H_takeUp ws_H_takeUp) := y_gV g_421 g_294 g_295 g_2 g_296
set_option maxRecDepth 100000 in
def f_X_take (F : Nat) (u : Mm) (o : Nat) (a1 : Int32) : Option (Int32 × Mm) := ob (jgr YX 4 0 (some o)) fun (r1 : Option Nat) => ob (jk YX 2 r1) fun t => yb (f_H_guestAt F u t a1) fun r2 u3 => (if r2 = none then some ((-1 : Int32), u3) else ob (jgi YX 1 6 u3 r2) fun (x5 : Int32) => (if x5 = (-4 : Int32) then ob (jgr YX 4 0 (some o)) fun (r7 : Option Nat) => ob (jk YX 2 r7) fun t => yb (f_H_takeUp F u3 t r2) fun x8 u9 => some (x8, u9) else some ((-3 : Int32), u3)))
set_option maxHeartbeats 4000000 in
set_option maxRecDepth 100000 in
theorem c_X_take (l : Launch) (w : WP) (F : Nat) (u : Mm) (o : Nat) (a1 : Int32) (out : Int32 × Mm) (h : f_X_take F u o a1 = some out) : yMet l m_X_take ws_X_take ({ frames := 3, cells := 0, slots := 0, locals := 79 } : Room) YX w u [va_re w.1 (some o), .int a1] yfi out := by
  refine y_entry (own := "WhoseGlass") (lv := [(0, va_re w.1 (some o)), (1, .int a1)]) (by decide +kernel) rfl (by simp [lv_args, y_cat, y_catI, y_catJ]) (by simp [lg_sl, y_cat, y_catI, y_catJ]) ?_
  intro p e s m args below meth c C hr hlocks
  unfold f_X_take at h
  refine y_aload_n C (i := 0) 0 d_X_take_0 rfl rfl ?_
  refine y_gr C (q := (yR4, yT4, 5)) (ci := 4) (k := 0) rfl (by decide) rfl (by decide) g_202 d_X_take_1 h (fun r1 h => ?_)
  refine y_iload_n C (i := 1) 1 d_X_take_4 rfl rfl ?_
  refine y_callV 1 C (q := (yR2, yT2, 9)) (ci := 2) (fun t out hh => c_H_guestAt l w F u t a1 out hh) gc_X_take_71 rfl (by decide) hd_H_guestAt ⟨Nat.le_of_ble_eq_true rfl, Nat.le_of_ble_eq_true rfl⟩ rfl rfl rfl rfl (by simp [y_cat, y_catI, y_catJ]) d_X_take_5 h (fun r2 u3 h => ?_)
  refine y_stk (stp0 := [va_re w.1 r2]) rfl ?_
  refine y_astore_n C (i := 2) (lvp := [(0, va_re w.1 (some o)), (1, .int a1)]) d_X_take_8 rfl (by decide) (by simp [List.filter, y_cat, y_catI, y_catJ]) ?_
  refine y_aload_n C (i := 2) 0 d_X_take_9 rfl rfl ?_
  refine y_ifnonnull C 15 d_X_take_10 (by decide) h (fun k4 h => ?_) (fun k4 h => ?_)
  · refine y_iconst C (v := -1) d_X_take_13 (by decide) ?_
    exact y_iret C hr hlocks d_X_take_14 h
  · refine y_aload_n C (i := 2) 0 d_X_take_15 rfl rfl ?_
    refine y_gi C (q := (yR1, yT1, 10)) (ci := 1) (k := 6) rfl (by decide) rfl g_98 d_X_take_16 h (fun x5 h => ?_)
    refine y_bipush C (v := -4) d_X_take_19 (by decide) ?_
    refine y_ic_ne C 35 d_X_take_21 (by decide) h (fun k6 h => ?_) (fun k6 h => ?_)
    · refine y_aload_n C (i := 0) 1 d_X_take_24 rfl rfl ?_
      refine y_gr C (q := (yR4, yT4, 5)) (ci := 4) (k := 0) rfl (by decide) rfl (by decide) g_202 d_X_take_25 h (fun r7 h => ?_)
      refine y_aload_n C (i := 2) 0 d_X_take_28 rfl rfl ?_
      refine y_callV 1 C (q := (yR2, yT2, 9)) (ci := 2) (fun t out hh => c_H_takeUp l w F u3 t r2 out hh) gc_X_take_119 rfl (by decide) hd_H_takeUp ⟨Nat.le_of_ble_eq_true rfl, Nat.le_of_ble_eq_true rfl⟩ rfl rfl rfl rfl (by simp [y_cat, y_catI, y_catJ]) d_X_take_29 h (fun x8 u9 h => ?_)
      refine y_stk (stp0 := [.int x8]) rfl ?_
      refine y_goto C (tgt := 37) d_X_take_32 (by decide) ?_
      exact y_iret C hr hlocks d_X_take_37 h
    · refine y_bipush C (v := -3) d_X_take_35 (by decide) ?_
      exact y_iret C hr hlocks d_X_take_37 h
/-! X_fill -/
theorem d_X_fill_0 : decode prog_1_method_10_code 0 = .ok (.iload_n 1, 1) := by decide +kernel
theorem d_X_fill_1 : decode prog_1_method_10_code 1 = .ok (.bipush 6, 2) := by decide +kernel
theorem d_X_fill_3 : decode prog_1_method_10_code 3 = .ok (.invokestatic 78, 3) := by decide +kernel
theorem d_X_fill_6 : decode prog_1_method_10_code 6 = .ok (.ifCond .ne 5, 3) := by decide +kernel
theorem d_X_fill_9 : decode prog_1_method_10_code 9 = .ok (.iconst (-1), 1) := by decide +kernel
theorem d_X_fill_10 : decode prog_1_method_10_code 10 = .ok (.ireturn, 1) := by decide +kernel
theorem d_X_fill_11 : decode prog_1_method_10_code 11 = .ok (.iconst 0, 1) := by decide +kernel
theorem d_X_fill_12 : decode prog_1_method_10_code 12 = .ok (.istore_n 2, 1) := by decide +kernel
theorem d_X_fill_13 : decode prog_1_method_10_code 13 = .ok (.iconst 0, 1) := by decide +kernel
theorem d_X_fill_14 : decode prog_1_method_10_code 14 = .ok (.istore_n 3, 1) := by decide +kernel
theorem d_X_fill_15 : decode prog_1_method_10_code 15 = .ok (.iload_n 3, 1) := by decide +kernel
theorem d_X_fill_16 : decode prog_1_method_10_code 16 = .ok (.aload_n 0, 1) := by decide +kernel
theorem d_X_fill_17 : decode prog_1_method_10_code 17 = .ok (.getfield 10, 3) := by decide +kernel
theorem d_X_fill_20 : decode prog_1_method_10_code 20 = .ok (.getfield 123, 3) := by decide +kernel
theorem d_X_fill_23 : decode prog_1_method_10_code 23 = .ok (.if_icmp .ge 52, 3) := by decide +kernel
theorem d_X_fill_26 : decode prog_1_method_10_code 26 = .ok (.aload_n 0, 1) := by decide +kernel
theorem d_X_fill_27 : decode prog_1_method_10_code 27 = .ok (.getfield 10, 3) := by decide +kernel
theorem d_X_fill_30 : decode prog_1_method_10_code 30 = .ok (.iload_n 3, 1) := by decide +kernel
theorem d_X_fill_31 : decode prog_1_method_10_code 31 = .ok (.invokevirtual 61, 3) := by decide +kernel
theorem d_X_fill_34 : decode prog_1_method_10_code 34 = .ok (.astore 4, 2) := by decide +kernel
theorem d_X_fill_36 : decode prog_1_method_10_code 36 = .ok (.aload 4, 2) := by decide +kernel
theorem d_X_fill_38 : decode prog_1_method_10_code 38 = .ok (.ifnull 31, 3) := by decide +kernel
theorem d_X_fill_41 : decode prog_1_method_10_code 41 = .ok (.aload 4, 2) := by decide +kernel
theorem d_X_fill_43 : decode prog_1_method_10_code 43 = .ok (.getfield 126, 3) := by decide +kernel
theorem d_X_fill_46 : decode prog_1_method_10_code 46 = .ok (.iload_n 1, 1) := by decide +kernel
theorem d_X_fill_47 : decode prog_1_method_10_code 47 = .ok (.if_icmp .ne 22, 3) := by decide +kernel
theorem d_X_fill_50 : decode prog_1_method_10_code 50 = .ok (.aload 4, 2) := by decide +kernel
theorem d_X_fill_52 : decode prog_1_method_10_code 52 = .ok (.getfield 108, 3) := by decide +kernel
theorem d_X_fill_55 : decode prog_1_method_10_code 55 = .ok (.iconst 5, 1) := by decide +kernel
theorem d_X_fill_56 : decode prog_1_method_10_code 56 = .ok (.if_icmp .ge 13, 3) := by decide +kernel
theorem d_X_fill_59 : decode prog_1_method_10_code 59 = .ok (.aload 4, 2) := by decide +kernel
theorem d_X_fill_61 : decode prog_1_method_10_code 61 = .ok (.bipush 9, 2) := by decide +kernel
theorem d_X_fill_63 : decode prog_1_method_10_code 63 = .ok (.putfield 108, 3) := by decide +kernel
theorem d_X_fill_66 : decode prog_1_method_10_code 66 = .ok (.iinc 2 1, 3) := by decide +kernel
theorem d_X_fill_69 : decode prog_1_method_10_code 69 = .ok (.iinc 3 1, 3) := by decide +kernel
theorem d_X_fill_72 : decode prog_1_method_10_code 72 = .ok (.goto (-57), 3) := by decide +kernel
theorem d_X_fill_75 : decode prog_1_method_10_code 75 = .ok (.iload_n 2, 1) := by decide +kernel
theorem d_X_fill_76 : decode prog_1_method_10_code 76 = .ok (.ireturn, 1) := by decide +kernel
theorem gc_X_fill_61 : GoodIn yGW (wsV "WhoseGlass" 61 yR2 m_H_glassAt ws_H_glassAt) := y_gV g_381 g_260 g_261 g_2 g_262
set_option maxHeartbeats 4000000 in
set_option maxRecDepth 100000 in
def f_X_fill_L15 (F : Nat) (a0 : Option Nat) (a1 : Int32) (k : Mm → Int32 → Option (Int32 × Mm)) : Nat → Mm → Int32 → Int32 → Option (Int32 × Mm)
  | 0, _, _, _ => none
  | n + 1, u, a2, a3 => ob (jgr YX 4 0 a0) fun (r4 : Option Nat) => ob (jgi YX 2 2 u r4) fun (x5 : Int32) => (if x5 ≤ a3 then k u a2 else ob (jgr YX 4 0 a0) fun (r7 : Option Nat) => ob (jk YX 2 r7) fun t => yb (f_H_glassAt F u t a3) fun r8 u9 => ob ((if r8 = none then some (a2, u9) else ob (jgi YX 0 4 u9 r8) fun (x12 : Int32) => (if x12 = a1 then ob (jgi YX 0 3 u9 r8) fun (x14 : Int32) => (if (5 : Int32) ≤ x14 then some (a2, u9) else ob (jpi YX 0 3 u9 r8 (9 : Int32)) fun (u16 : Mm) => ob (some (a2 + (1 : Int32))) fun (x17 : Int32) => some (x17, u16)) else some (a2, u9))) : Option (Int32 × Mm)) fun q10 => ob (some (a3 + (1 : Int32))) fun (x18 : Int32) => f_X_fill_L15 F a0 a1 k n q10.2 q10.1 x18)
set_option maxHeartbeats 4000000 in
set_option maxRecDepth 100000 in
theorem w_X_fill_L15 {p : Program} {l : Launch} {e : Env} {s : State} {m : MethodId} {args : Array Value} {below : List Frame} {meth : Method} {c : Code} {w : WP} {Q : State → Prop} (F : Nat) (C : yX p e ({ frames := 1, cells := 0, slots := 0, locals := 21 } : Room) s m args c YX w 5 prog_1_method_10_code "WhoseGlass") (hr : meth.sig.returnType = (some .int)) (hlocks : meth.locks = false) (a0 : Option Nat) (a1 : Int32) {out : Int32 × Mm} (k : Mm → Int32 → Option (Int32 × Mm)) (hk : ∀ (u : Mm) (a2 : Int32), k u a2 = some out → yG p l e ({ frames := 1, cells := 0, slots := 0, locals := 21 } : Room) s m args below meth c YX w 5 Q u 75 [(2, .int a2)] []) : ∀ (n : Nat) (u : Mm) (a2 : Int32) (a3 : Int32), f_X_fill_L15 F a0 a1 k n u a2 a3 = some out → yG p l e ({ frames := 1, cells := 0, slots := 0, locals := 21 } : Room) s m args below meth c YX w 5 Q u 15 [(0, va_re w.1 a0), (1, .int a1), (2, .int a2), (3, .int a3)] [] := by
  intro n
  induction n with
  | zero => intro u a2 a3 h; rw [f_X_fill_L15] at h; cases h
  | succ n ih =>
    intro u a2 a3 h
    rw [f_X_fill_L15] at h
    refine y_iload_n C (i := 3) 3 d_X_fill_15 rfl rfl ?_
    refine y_aload_n C (i := 0) 0 d_X_fill_16 rfl rfl ?_
    refine y_gr C (q := (yR4, yT4, 5)) (ci := 4) (k := 0) rfl (by decide) rfl (by decide) g_202 d_X_fill_17 h (fun r4 h => ?_)
    refine y_gi C (q := (yR2, yT2, 9)) (ci := 2) (k := 2) rfl (by decide) rfl g_134 d_X_fill_20 h (fun x5 h => ?_)
    refine y_ic_ge C 75 d_X_fill_23 (by decide) h (fun k6 h => ?_) (fun k6 h => ?_)
    · exact y_sub [2] rfl (hk _ _ h)
    · refine y_aload_n C (i := 0) 0 d_X_fill_26 rfl rfl ?_
      refine y_gr C (q := (yR4, yT4, 5)) (ci := 4) (k := 0) rfl (by decide) rfl (by decide) g_202 d_X_fill_27 h (fun r7 h => ?_)
      refine y_iload_n C (i := 3) 3 d_X_fill_30 rfl rfl ?_
      refine y_callV 1 C (q := (yR2, yT2, 9)) (ci := 2) (fun t out hh => c_H_glassAt l w F u t a3 out hh) gc_X_fill_61 rfl (by decide) hd_H_glassAt ⟨Nat.le_of_ble_eq_true rfl, Nat.le_of_ble_eq_true rfl⟩ rfl rfl rfl rfl (by simp [y_cat, y_catI, y_catJ]) d_X_fill_31 h (fun r8 u9 h => ?_)
      refine y_stk (stp0 := [va_re w.1 r8]) rfl ?_
      refine y_astore C (i := 4) (lvp := [(0, va_re w.1 a0), (1, .int a1), (2, .int a2), (3, .int a3)]) d_X_fill_34 (by decide) (by simp [List.filter, y_cat, y_catI, y_catJ]) ?_
      refine y_aload C (i := 4) 0 d_X_fill_36 rfl ?_
      obtain ⟨q10, hq10, h⟩ := ob_e h
      have hJq10 : yG p l e ({ frames := 1, cells := 0, slots := 0, locals := 21 } : Room) s m args below meth c YX w 5 Q q10.2 69 [(0, va_re w.1 a0), (1, .int a1), (2, .int q10.1), (3, .int a3)] [] := by
        refine y_iinc C (j := 3) (v := 1) (lvp := [(0, va_re w.1 a0), (1, .int a1), (2, .int q10.1)]) d_X_fill_69 rfl (by decide) (by decide) rfl h (fun x18 h => ?_)
        refine y_goto C (tgt := 15) d_X_fill_72 (by decide) ?_
        exact y_sub [1, 2, 3, 0] rfl (ih _ _ _ h)
      refine y_ifnull C 69 d_X_fill_38 (by decide) hq10 (fun k11 hq10 => ?_) (fun k11 hq10 => ?_)
      · cases hq10
        exact y_sub [1, 2, 3, 4] rfl hJq10
      · refine y_aload C (i := 4) 0 d_X_fill_41 rfl ?_
        refine y_gi C (q := (yR0, yT0, 8)) (ci := 0) (k := 4) rfl (by decide) rfl g_52 d_X_fill_43 hq10 (fun x12 hq10 => ?_)
        refine y_iload_n C (i := 1) 2 d_X_fill_46 rfl rfl ?_
        refine y_ic_ne C 69 d_X_fill_47 (by decide) hq10 (fun k13 hq10 => ?_) (fun k13 hq10 => ?_)
        · refine y_aload C (i := 4) 0 d_X_fill_50 rfl ?_
          refine y_gi C (q := (yR0, yT0, 8)) (ci := 0) (k := 3) rfl (by decide) rfl g_48 d_X_fill_52 hq10 (fun x14 hq10 => ?_)
          refine y_iconst C (v := 5) d_X_fill_55 (by decide) ?_
          refine y_ic_ge C 69 d_X_fill_56 (by decide) hq10 (fun k15 hq10 => ?_) (fun k15 hq10 => ?_)
          · cases hq10
            exact y_sub [1, 2, 3, 4] rfl hJq10
          · refine y_aload C (i := 4) 0 d_X_fill_59 rfl ?_
            refine y_bipush C (v := 9) d_X_fill_61 (by decide) ?_
            refine y_pi C (q := (yR0, yT0, 8)) (ci := 0) (k := 3) rfl (by decide) rfl rfl (by decide +kernel) g_48 d_X_fill_63 hq10 (fun u16 hq10 => ?_)
            refine y_iinc C (j := 3) (v := 1) (lvp := [(4, va_re w.1 r8), (0, va_re w.1 a0), (1, .int a1), (3, .int a3)]) d_X_fill_66 rfl (by decide) (by decide) rfl hq10 (fun x17 hq10 => ?_)
            cases hq10
            exact y_sub [2, 3, 0, 4] rfl hJq10
        · cases hq10
          exact y_sub [1, 2, 3, 4] rfl hJq10
set_option maxRecDepth 100000 in
def f_X_fill (F : Nat) (u : Mm) (o : Nat) (a1 : Int32) : Option (Int32 × Mm) := yb (f_X_isBelow F u a1 (6 : Int32)) fun x1 u2 => (if x1 = 0 then some ((-1 : Int32), u2) else f_X_fill_L15 F (some o) a1 (fun (u19 : Mm) (x20 : Int32) => some (x20, u19)) F u2 (0 : Int32) (0 : Int32))
set_option maxHeartbeats 4000000 in
set_option maxRecDepth 100000 in
theorem c_X_fill (l : Launch) (w : WP) (F : Nat) (u : Mm) (o : Nat) (a1 : Int32) (out : Int32 × Mm) (h : f_X_fill F u o a1 = some out) : yMet l m_X_fill ws_X_fill ({ frames := 1, cells := 0, slots := 0, locals := 21 } : Room) YX w u [va_re w.1 (some o), .int a1] yfi out := by
  refine y_entry (own := "WhoseGlass") (lv := [(0, va_re w.1 (some o)), (1, .int a1)]) (by decide +kernel) rfl (by simp [lv_args, y_cat, y_catI, y_catJ]) (by simp [lg_sl, y_cat, y_catI, y_catJ]) ?_
  intro p e s m args below meth c C hr hlocks
  unfold f_X_fill at h
  refine y_iload_n C (i := 1) 1 d_X_fill_0 rfl rfl ?_
  refine y_bipush C (v := 6) d_X_fill_1 (by decide) ?_
  refine y_callS 2 C (fun out hh => c_X_isBelow l w F u a1 (6 : Int32) out hh) (y_gc g_344) g_400 g_1 g_343 hn_X_isBelow ⟨Nat.le_of_ble_eq_true rfl, Nat.le_of_ble_eq_true rfl⟩ rfl rfl rfl rfl (by simp [y_cat, y_catI, y_catJ]) d_X_fill_3 h (fun x1 u2 h => ?_)
  refine y_stk (stp0 := [.int x1]) rfl ?_
  refine y_if_ne C 11 d_X_fill_6 (by decide) h (fun k3 h => ?_) (fun k3 h => ?_)
  · refine y_iconst C (v := -1) d_X_fill_9 (by decide) ?_
    exact y_iret C hr hlocks d_X_fill_10 h
  · refine y_iconst C (v := 0) d_X_fill_11 (by decide) ?_
    refine y_istore_n C (i := 2) (lvp := [(0, va_re w.1 (some o)), (1, .int a1)]) d_X_fill_12 rfl (by decide) rfl ?_
    refine y_iconst C (v := 0) d_X_fill_13 (by decide) ?_
    refine y_istore_n C (i := 3) (lvp := [(2, .int (0 : Int32)), (0, va_re w.1 (some o)), (1, .int a1)]) d_X_fill_14 rfl (by decide) rfl ?_
    refine y_sub [2, 3, 1, 0] rfl (w_X_fill_L15 F C hr hlocks _ _ _ (fun u19 x20 h => ?_) _ _ _ _ h)
    refine y_iload_n C (i := 2) 0 d_X_fill_75 rfl rfl ?_
    exact y_iret C hr hlocks d_X_fill_76 h
/-! G_sink -/
theorem d_G_sink_0 : decode prog_2_method_5_code 0 = .ok (.aload_n 0, 1) := by decide +kernel
theorem d_G_sink_1 : decode prog_2_method_5_code 1 = .ok (.bipush 20, 2) := by decide +kernel
theorem d_G_sink_3 : decode prog_2_method_5_code 3 = .ok (.putfield 31, 3) := by decide +kernel
theorem d_G_sink_6 : decode prog_2_method_5_code 6 = .ok (.aload_n 0, 1) := by decide +kernel
theorem d_G_sink_7 : decode prog_2_method_5_code 7 = .ok (.iconst 0, 1) := by decide +kernel
theorem d_G_sink_8 : decode prog_2_method_5_code 8 = .ok (.putfield 21, 3) := by decide +kernel
theorem d_G_sink_11 : decode prog_2_method_5_code 11 = .ok (.aload_n 0, 1) := by decide +kernel
theorem d_G_sink_12 : decode prog_2_method_5_code 12 = .ok (.iconst 0, 1) := by decide +kernel
theorem d_G_sink_13 : decode prog_2_method_5_code 13 = .ok (.putfield 24, 3) := by decide +kernel
theorem d_G_sink_16 : decode prog_2_method_5_code 16 = .ok (.aload_n 0, 1) := by decide +kernel
theorem d_G_sink_17 : decode prog_2_method_5_code 17 = .ok (.iconst 0, 1) := by decide +kernel
theorem d_G_sink_18 : decode prog_2_method_5_code 18 = .ok (.putfield 27, 3) := by decide +kernel
theorem d_G_sink_21 : decode prog_2_method_5_code 21 = .ok (.return_, 1) := by decide +kernel
set_option maxRecDepth 100000 in
def f_G_sink (F : Nat) (u : Mm) (o : Nat) : Option (Unit × Mm) := ob (jpi YX 0 4 u (some o) (20 : Int32)) fun (u1 : Mm) => ob (jpi YX 0 3 u1 (some o) (0 : Int32)) fun (u2 : Mm) => ob (jpi YX 0 6 u2 (some o) (0 : Int32)) fun (u3 : Mm) => ob (jpz YX 0 7 u3 (some o) (0 : Int32)) fun (u4 : Mm) => some ((), u4)
set_option maxHeartbeats 4000000 in
set_option maxRecDepth 100000 in
theorem c_G_sink (l : Launch) (w : WP) (F : Nat) (u : Mm) (o : Nat) (out : Unit × Mm) (h : f_G_sink F u o = some out) : yMet l m_G_sink ws_G_sink ({ frames := 0, cells := 0, slots := 0, locals := 0 } : Room) YX w u [va_re w.1 (some o)] yfv out := by
  refine y_entry (own := "WhoseGlass$Glass") (lv := [(0, va_re w.1 (some o))]) (by decide +kernel) rfl (by simp [lv_args, y_cat, y_catI, y_catJ]) (by simp [lg_sl, y_cat, y_catI, y_catJ]) ?_
  intro p e s m args below meth c C hr hlocks
  unfold f_G_sink at h
  refine y_aload_n C (i := 0) 0 d_G_sink_0 rfl rfl ?_
  refine y_bipush C (v := 20) d_G_sink_1 (by decide) ?_
  refine y_pi C (q := (yR0, yT0, 8)) (ci := 0) (k := 4) rfl (by decide) rfl rfl (by decide +kernel) g_50 d_G_sink_3 h (fun u1 h => ?_)
  refine y_aload_n C (i := 0) 0 d_G_sink_6 rfl rfl ?_
  refine y_iconst C (v := 0) d_G_sink_7 (by decide) ?_
  refine y_pi C (q := (yR0, yT0, 8)) (ci := 0) (k := 3) rfl (by decide) rfl rfl (by decide +kernel) g_46 d_G_sink_8 h (fun u2 h => ?_)
  refine y_aload_n C (i := 0) 0 d_G_sink_11 rfl rfl ?_
  refine y_iconst C (v := 0) d_G_sink_12 (by decide) ?_
  refine y_pi C (q := (yR0, yT0, 8)) (ci := 0) (k := 6) rfl (by decide) rfl rfl (by decide +kernel) g_57 d_G_sink_13 h (fun u3 h => ?_)
  refine y_aload_n C (i := 0) 0 d_G_sink_16 rfl rfl ?_
  refine y_iconst C (v := 0) d_G_sink_17 (by decide) ?_
  refine y_pz C (q := (yR0, yT0, 8)) (ci := 0) (k := 7) rfl (by decide) rfl rfl (by decide +kernel) g_59 d_G_sink_18 h (fun u4 h => ?_)
  exact y_vret C hr hlocks d_G_sink_21 h
/-! X_clear -/
theorem d_X_clear_0 : decode prog_1_method_11_code 0 = .ok (.iload_n 1, 1) := by decide +kernel
theorem d_X_clear_1 : decode prog_1_method_11_code 1 = .ok (.bipush 6, 2) := by decide +kernel
theorem d_X_clear_3 : decode prog_1_method_11_code 3 = .ok (.invokestatic 78, 3) := by decide +kernel
theorem d_X_clear_6 : decode prog_1_method_11_code 6 = .ok (.ifCond .eq 13, 3) := by decide +kernel
theorem d_X_clear_9 : decode prog_1_method_11_code 9 = .ok (.iload_n 2, 1) := by decide +kernel
theorem d_X_clear_10 : decode prog_1_method_11_code 10 = .ok (.ifCond .lt 9, 3) := by decide +kernel
theorem d_X_clear_13 : decode prog_1_method_11_code 13 = .ok (.iload_n 2, 1) := by decide +kernel
theorem d_X_clear_14 : decode prog_1_method_11_code 14 = .ok (.bipush 99, 2) := by decide +kernel
theorem d_X_clear_16 : decode prog_1_method_11_code 16 = .ok (.if_icmp .le 5, 3) := by decide +kernel
theorem d_X_clear_19 : decode prog_1_method_11_code 19 = .ok (.iconst (-1), 1) := by decide +kernel
theorem d_X_clear_20 : decode prog_1_method_11_code 20 = .ok (.ireturn, 1) := by decide +kernel
theorem d_X_clear_21 : decode prog_1_method_11_code 21 = .ok (.iconst 0, 1) := by decide +kernel
theorem d_X_clear_22 : decode prog_1_method_11_code 22 = .ok (.istore_n 3, 1) := by decide +kernel
theorem d_X_clear_23 : decode prog_1_method_11_code 23 = .ok (.iconst 0, 1) := by decide +kernel
theorem d_X_clear_24 : decode prog_1_method_11_code 24 = .ok (.istore 4, 2) := by decide +kernel
theorem d_X_clear_26 : decode prog_1_method_11_code 26 = .ok (.iload 4, 2) := by decide +kernel
theorem d_X_clear_28 : decode prog_1_method_11_code 28 = .ok (.aload_n 0, 1) := by decide +kernel
theorem d_X_clear_29 : decode prog_1_method_11_code 29 = .ok (.getfield 10, 3) := by decide +kernel
theorem d_X_clear_32 : decode prog_1_method_11_code 32 = .ok (.getfield 123, 3) := by decide +kernel
theorem d_X_clear_35 : decode prog_1_method_11_code 35 = .ok (.if_icmp .ge 59, 3) := by decide +kernel
theorem d_X_clear_38 : decode prog_1_method_11_code 38 = .ok (.aload_n 0, 1) := by decide +kernel
theorem d_X_clear_39 : decode prog_1_method_11_code 39 = .ok (.getfield 10, 3) := by decide +kernel
theorem d_X_clear_42 : decode prog_1_method_11_code 42 = .ok (.iload 4, 2) := by decide +kernel
theorem d_X_clear_44 : decode prog_1_method_11_code 44 = .ok (.invokevirtual 61, 3) := by decide +kernel
theorem d_X_clear_47 : decode prog_1_method_11_code 47 = .ok (.astore 5, 2) := by decide +kernel
theorem d_X_clear_49 : decode prog_1_method_11_code 49 = .ok (.aload 5, 2) := by decide +kernel
theorem d_X_clear_51 : decode prog_1_method_11_code 51 = .ok (.ifnull 37, 3) := by decide +kernel
theorem d_X_clear_54 : decode prog_1_method_11_code 54 = .ok (.aload 5, 2) := by decide +kernel
theorem d_X_clear_56 : decode prog_1_method_11_code 56 = .ok (.getfield 126, 3) := by decide +kernel
theorem d_X_clear_59 : decode prog_1_method_11_code 59 = .ok (.iload_n 1, 1) := by decide +kernel
theorem d_X_clear_60 : decode prog_1_method_11_code 60 = .ok (.if_icmp .ne 28, 3) := by decide +kernel
theorem d_X_clear_63 : decode prog_1_method_11_code 63 = .ok (.aload_n 0, 1) := by decide +kernel
theorem d_X_clear_64 : decode prog_1_method_11_code 64 = .ok (.getfield 10, 3) := by decide +kernel
theorem d_X_clear_67 : decode prog_1_method_11_code 67 = .ok (.getfield 92, 3) := by decide +kernel
theorem d_X_clear_70 : decode prog_1_method_11_code 70 = .ok (.aload 5, 2) := by decide +kernel
theorem d_X_clear_72 : decode prog_1_method_11_code 72 = .ok (.getfield 129, 3) := by decide +kernel
theorem d_X_clear_75 : decode prog_1_method_11_code 75 = .ok (.isub, 1) := by decide +kernel
theorem d_X_clear_76 : decode prog_1_method_11_code 76 = .ok (.iload_n 2, 1) := by decide +kernel
theorem d_X_clear_77 : decode prog_1_method_11_code 77 = .ok (.if_icmp .lt 11, 3) := by decide +kernel
theorem d_X_clear_80 : decode prog_1_method_11_code 80 = .ok (.aload 5, 2) := by decide +kernel
theorem d_X_clear_82 : decode prog_1_method_11_code 82 = .ok (.invokevirtual 132, 3) := by decide +kernel
theorem d_X_clear_85 : decode prog_1_method_11_code 85 = .ok (.iinc 3 1, 3) := by decide +kernel
theorem d_X_clear_88 : decode prog_1_method_11_code 88 = .ok (.iinc 4 1, 3) := by decide +kernel
theorem d_X_clear_91 : decode prog_1_method_11_code 91 = .ok (.goto (-65), 3) := by decide +kernel
theorem d_X_clear_94 : decode prog_1_method_11_code 94 = .ok (.iload_n 3, 1) := by decide +kernel
theorem d_X_clear_95 : decode prog_1_method_11_code 95 = .ok (.ireturn, 1) := by decide +kernel
theorem gc_X_clear_61 : GoodIn yGW (wsV "WhoseGlass" 61 yR2 m_H_glassAt ws_H_glassAt) := y_gV g_381 g_260 g_261 g_2 g_262
theorem gc_X_clear_132 : GoodIn yGW (wsV "WhoseGlass" 132 yR0 m_G_sink ws_G_sink) := y_gV g_430 g_431 g_432 g_3 g_433
set_option maxHeartbeats 4000000 in
set_option maxRecDepth 100000 in
def f_X_clear_L26 (F : Nat) (a0 : Option Nat) (a1 : Int32) (a2 : Int32) (k : Mm → Int32 → Option (Int32 × Mm)) : Nat → Mm → Int32 → Int32 → Option (Int32 × Mm)
  | 0, _, _, _ => none
  | n + 1, u, a3, a4 => ob (jgr YX 4 0 a0) fun (r6 : Option Nat) => ob (jgi YX 2 2 u r6) fun (x7 : Int32) => (if x7 ≤ a4 then k u a3 else ob (jgr YX 4 0 a0) fun (r9 : Option Nat) => ob (jk YX 2 r9) fun t => yb (f_H_glassAt F u t a4) fun r10 u11 => ob ((if r10 = none then some (a3, u11) else ob (jgi YX 0 4 u11 r10) fun (x14 : Int32) => (if x14 = a1 then ob (jgr YX 4 0 a0) fun (r16 : Option Nat) => ob (jgi YX 2 5 u11 r16) fun (x17 : Int32) => ob (jgi YX 0 5 u11 r10) fun (x18 : Int32) => (if (x17 - x18) < a2 then some (a3, u11) else ob (jk YX 0 r10) fun t => yb (f_G_sink F u11 t ) fun v20 u21 => ob (some (a3 + (1 : Int32))) fun (x22 : Int32) => some (x22, u21)) else some (a3, u11))) : Option (Int32 × Mm)) fun q12 => ob (some (a4 + (1 : Int32))) fun (x23 : Int32) => f_X_clear_L26 F a0 a1 a2 k n q12.2 q12.1 x23)
set_option maxHeartbeats 4000000 in
set_option maxRecDepth 100000 in
theorem w_X_clear_L26 {p : Program} {l : Launch} {e : Env} {s : State} {m : MethodId} {args : Array Value} {below : List Frame} {meth : Method} {c : Code} {w : WP} {Q : State → Prop} (F : Nat) (C : yX p e ({ frames := 1, cells := 0, slots := 0, locals := 21 } : Room) s m args c YX w 6 prog_1_method_11_code "WhoseGlass") (hr : meth.sig.returnType = (some .int)) (hlocks : meth.locks = false) (a0 : Option Nat) (a1 : Int32) (a2 : Int32) {out : Int32 × Mm} (k : Mm → Int32 → Option (Int32 × Mm)) (hk : ∀ (u : Mm) (a3 : Int32), k u a3 = some out → yG p l e ({ frames := 1, cells := 0, slots := 0, locals := 21 } : Room) s m args below meth c YX w 6 Q u 94 [(3, .int a3)] []) : ∀ (n : Nat) (u : Mm) (a3 : Int32) (a4 : Int32), f_X_clear_L26 F a0 a1 a2 k n u a3 a4 = some out → yG p l e ({ frames := 1, cells := 0, slots := 0, locals := 21 } : Room) s m args below meth c YX w 6 Q u 26 [(0, va_re w.1 a0), (1, .int a1), (2, .int a2), (3, .int a3), (4, .int a4)] [] := by
  intro n
  induction n with
  | zero => intro u a3 a4 h; rw [f_X_clear_L26] at h; cases h
  | succ n ih =>
    intro u a3 a4 h
    rw [f_X_clear_L26] at h
    refine y_iload C (i := 4) 4 d_X_clear_26 rfl ?_
    refine y_aload_n C (i := 0) 0 d_X_clear_28 rfl rfl ?_
    refine y_gr C (q := (yR4, yT4, 5)) (ci := 4) (k := 0) rfl (by decide) rfl (by decide) g_202 d_X_clear_29 h (fun r6 h => ?_)
    refine y_gi C (q := (yR2, yT2, 9)) (ci := 2) (k := 2) rfl (by decide) rfl g_134 d_X_clear_32 h (fun x7 h => ?_)
    refine y_ic_ge C 94 d_X_clear_35 (by decide) h (fun k8 h => ?_) (fun k8 h => ?_)
    · exact y_sub [3] rfl (hk _ _ h)
    · refine y_aload_n C (i := 0) 0 d_X_clear_38 rfl rfl ?_
      refine y_gr C (q := (yR4, yT4, 5)) (ci := 4) (k := 0) rfl (by decide) rfl (by decide) g_202 d_X_clear_39 h (fun r9 h => ?_)
      refine y_iload C (i := 4) 4 d_X_clear_42 rfl ?_
      refine y_callV 1 C (q := (yR2, yT2, 9)) (ci := 2) (fun t out hh => c_H_glassAt l w F u t a4 out hh) gc_X_clear_61 rfl (by decide) hd_H_glassAt ⟨Nat.le_of_ble_eq_true rfl, Nat.le_of_ble_eq_true rfl⟩ rfl rfl rfl rfl (by simp [y_cat, y_catI, y_catJ]) d_X_clear_44 h (fun r10 u11 h => ?_)
      refine y_stk (stp0 := [va_re w.1 r10]) rfl ?_
      refine y_astore C (i := 5) (lvp := [(0, va_re w.1 a0), (1, .int a1), (2, .int a2), (3, .int a3), (4, .int a4)]) d_X_clear_47 (by decide) (by simp [List.filter, y_cat, y_catI, y_catJ]) ?_
      refine y_aload C (i := 5) 0 d_X_clear_49 rfl ?_
      obtain ⟨q12, hq12, h⟩ := ob_e h
      have hJq12 : yG p l e ({ frames := 1, cells := 0, slots := 0, locals := 21 } : Room) s m args below meth c YX w 6 Q q12.2 88 [(0, va_re w.1 a0), (1, .int a1), (2, .int a2), (3, .int q12.1), (4, .int a4)] [] := by
        refine y_iinc C (j := 4) (v := 1) (lvp := [(0, va_re w.1 a0), (1, .int a1), (2, .int a2), (3, .int q12.1)]) d_X_clear_88 rfl (by decide) (by decide) rfl h (fun x23 h => ?_)
        refine y_goto C (tgt := 26) d_X_clear_91 (by decide) ?_
        exact y_sub [1, 2, 3, 4, 0] rfl (ih _ _ _ h)
      refine y_ifnull C 88 d_X_clear_51 (by decide) hq12 (fun k13 hq12 => ?_) (fun k13 hq12 => ?_)
      · cases hq12
        exact y_sub [1, 2, 3, 4, 5] rfl hJq12
      · refine y_aload C (i := 5) 0 d_X_clear_54 rfl ?_
        refine y_gi C (q := (yR0, yT0, 8)) (ci := 0) (k := 4) rfl (by decide) rfl g_52 d_X_clear_56 hq12 (fun x14 hq12 => ?_)
        refine y_iload_n C (i := 1) 2 d_X_clear_59 rfl rfl ?_
        refine y_ic_ne C 88 d_X_clear_60 (by decide) hq12 (fun k15 hq12 => ?_) (fun k15 hq12 => ?_)
        · refine y_aload_n C (i := 0) 1 d_X_clear_63 rfl rfl ?_
          refine y_gr C (q := (yR4, yT4, 5)) (ci := 4) (k := 0) rfl (by decide) rfl (by decide) g_202 d_X_clear_64 hq12 (fun r16 hq12 => ?_)
          refine y_gi C (q := (yR2, yT2, 9)) (ci := 2) (k := 5) rfl (by decide) rfl g_142 d_X_clear_67 hq12 (fun x17 hq12 => ?_)
          refine y_aload C (i := 5) 0 d_X_clear_70 rfl ?_
          refine y_gi C (q := (yR0, yT0, 8)) (ci := 0) (k := 5) rfl (by decide) rfl g_55 d_X_clear_72 hq12 (fun x18 hq12 => ?_)
          refine y_isub C d_X_clear_75 ?_
          refine y_iload_n C (i := 2) 3 d_X_clear_76 rfl rfl ?_
          refine y_ic_lt C 88 d_X_clear_77 (by decide) hq12 (fun k19 hq12 => ?_) (fun k19 hq12 => ?_)
          · cases hq12
            exact y_sub [1, 2, 3, 4, 5] rfl hJq12
          · refine y_aload C (i := 5) 0 d_X_clear_80 rfl ?_
            refine y_callV 0 C (q := (yR0, yT0, 8)) (ci := 0) (fun t out hh => c_G_sink l w F u11 t out hh) gc_X_clear_132 rfl (by decide) hd_G_sink ⟨Nat.le_of_ble_eq_true rfl, Nat.le_of_ble_eq_true rfl⟩ rfl rfl rfl rfl (by simp [y_cat, y_catI, y_catJ]) d_X_clear_82 hq12 (fun v20 u21 hq12 => ?_)
            refine y_stk (stp0 := []) rfl ?_
            refine y_iinc C (j := 4) (v := 1) (lvp := [(5, va_re w.1 r10), (0, va_re w.1 a0), (1, .int a1), (2, .int a2), (4, .int a4)]) d_X_clear_85 rfl (by decide) (by decide) rfl hq12 (fun x22 hq12 => ?_)
            cases hq12
            exact y_sub [2, 3, 4, 0, 5] rfl hJq12
        · cases hq12
          exact y_sub [1, 2, 3, 4, 5] rfl hJq12
set_option maxRecDepth 100000 in
def f_X_clear (F : Nat) (u : Mm) (o : Nat) (a1 : Int32) (a2 : Int32) : Option (Int32 × Mm) := yb (f_X_isBelow F u a1 (6 : Int32)) fun x1 u2 => (if x1 = 0 then some ((-1 : Int32), u2) else (if a2 < 0 then some ((-1 : Int32), u2) else (if a2 ≤ (99 : Int32) then f_X_clear_L26 F (some o) a1 a2 (fun (u24 : Mm) (x25 : Int32) => some (x25, u24)) F u2 (0 : Int32) (0 : Int32) else some ((-1 : Int32), u2))))
set_option maxHeartbeats 4000000 in
set_option maxRecDepth 100000 in
theorem c_X_clear (l : Launch) (w : WP) (F : Nat) (u : Mm) (o : Nat) (a1 : Int32) (a2 : Int32) (out : Int32 × Mm) (h : f_X_clear F u o a1 a2 = some out) : yMet l m_X_clear ws_X_clear ({ frames := 1, cells := 0, slots := 0, locals := 21 } : Room) YX w u [va_re w.1 (some o), .int a1, .int a2] yfi out := by
  refine y_entry (own := "WhoseGlass") (lv := [(0, va_re w.1 (some o)), (1, .int a1), (2, .int a2)]) (by decide +kernel) rfl (by simp [lv_args, y_cat, y_catI, y_catJ]) (by simp [lg_sl, y_cat, y_catI, y_catJ]) ?_
  intro p e s m args below meth c C hr hlocks
  unfold f_X_clear at h
  refine y_iload_n C (i := 1) 1 d_X_clear_0 rfl rfl ?_
  refine y_bipush C (v := 6) d_X_clear_1 (by decide) ?_
  refine y_callS 2 C (fun out hh => c_X_isBelow l w F u a1 (6 : Int32) out hh) (y_gc g_344) g_400 g_1 g_343 hn_X_isBelow ⟨Nat.le_of_ble_eq_true rfl, Nat.le_of_ble_eq_true rfl⟩ rfl rfl rfl rfl (by simp [y_cat, y_catI, y_catJ]) d_X_clear_3 h (fun x1 u2 h => ?_)
  refine y_stk (stp0 := [.int x1]) rfl ?_
  refine y_if_eq C 19 d_X_clear_6 (by decide) h (fun k3 h => ?_) (fun k3 h => ?_)
  · refine y_iconst C (v := -1) d_X_clear_19 (by decide) ?_
    exact y_iret C hr hlocks d_X_clear_20 h
  · refine y_iload_n C (i := 2) 2 d_X_clear_9 rfl rfl ?_
    refine y_if_lt C 19 d_X_clear_10 (by decide) h (fun k4 h => ?_) (fun k4 h => ?_)
    · refine y_iconst C (v := -1) d_X_clear_19 (by decide) ?_
      exact y_iret C hr hlocks d_X_clear_20 h
    · refine y_iload_n C (i := 2) 2 d_X_clear_13 rfl rfl ?_
      refine y_bipush C (v := 99) d_X_clear_14 (by decide) ?_
      refine y_ic_le C 21 d_X_clear_16 (by decide) h (fun k5 h => ?_) (fun k5 h => ?_)
      · refine y_iconst C (v := 0) d_X_clear_21 (by decide) ?_
        refine y_istore_n C (i := 3) (lvp := [(0, va_re w.1 (some o)), (1, .int a1), (2, .int a2)]) d_X_clear_22 rfl (by decide) rfl ?_
        refine y_iconst C (v := 0) d_X_clear_23 (by decide) ?_
        refine y_istore C (i := 4) (lvp := [(3, .int (0 : Int32)), (0, va_re w.1 (some o)), (1, .int a1), (2, .int a2)]) d_X_clear_24 (by decide) rfl ?_
        refine y_sub [2, 3, 4, 1, 0] rfl (w_X_clear_L26 F C hr hlocks _ _ _ _ (fun u24 x25 h => ?_) _ _ _ _ h)
        refine y_iload_n C (i := 3) 0 d_X_clear_94 rfl rfl ?_
        exact y_iret C hr hlocks d_X_clear_95 h
      · refine y_iconst C (v := -1) d_X_clear_19 (by decide) ?_
        exact y_iret C hr hlocks d_X_clear_20 h
/-! X_minutes -/
theorem d_X_minutes_0 : decode prog_1_method_12_code 0 = .ok (.iload_n 1, 1) := by decide +kernel
theorem d_X_minutes_1 : decode prog_1_method_12_code 1 = .ok (.iconst 1, 1) := by decide +kernel
theorem d_X_minutes_2 : decode prog_1_method_12_code 2 = .ok (.if_icmp .lt 9, 3) := by decide +kernel
theorem d_X_minutes_5 : decode prog_1_method_12_code 5 = .ok (.iload_n 1, 1) := by decide +kernel
theorem d_X_minutes_6 : decode prog_1_method_12_code 6 = .ok (.bipush 99, 2) := by decide +kernel
theorem d_X_minutes_8 : decode prog_1_method_12_code 8 = .ok (.if_icmp .le 5, 3) := by decide +kernel
theorem d_X_minutes_11 : decode prog_1_method_12_code 11 = .ok (.iconst (-1), 1) := by decide +kernel
theorem d_X_minutes_12 : decode prog_1_method_12_code 12 = .ok (.ireturn, 1) := by decide +kernel
theorem d_X_minutes_13 : decode prog_1_method_12_code 13 = .ok (.aload_n 0, 1) := by decide +kernel
theorem d_X_minutes_14 : decode prog_1_method_12_code 14 = .ok (.getfield 10, 3) := by decide +kernel
theorem d_X_minutes_17 : decode prog_1_method_12_code 17 = .ok (.getfield 92, 3) := by decide +kernel
theorem d_X_minutes_20 : decode prog_1_method_12_code 20 = .ok (.iload_n 1, 1) := by decide +kernel
theorem d_X_minutes_21 : decode prog_1_method_12_code 21 = .ok (.iadd, 1) := by decide +kernel
theorem d_X_minutes_22 : decode prog_1_method_12_code 22 = .ok (.sipush 999, 3) := by decide +kernel
theorem d_X_minutes_25 : decode prog_1_method_12_code 25 = .ok (.if_icmp .le 6, 3) := by decide +kernel
theorem d_X_minutes_28 : decode prog_1_method_12_code 28 = .ok (.bipush (-2), 2) := by decide +kernel
theorem d_X_minutes_30 : decode prog_1_method_12_code 30 = .ok (.ireturn, 1) := by decide +kernel
theorem d_X_minutes_31 : decode prog_1_method_12_code 31 = .ok (.aload_n 0, 1) := by decide +kernel
theorem d_X_minutes_32 : decode prog_1_method_12_code 32 = .ok (.getfield 10, 3) := by decide +kernel
theorem d_X_minutes_35 : decode prog_1_method_12_code 35 = .ok (.iload_n 1, 1) := by decide +kernel
theorem d_X_minutes_36 : decode prog_1_method_12_code 36 = .ok (.invokevirtual 135, 3) := by decide +kernel
theorem d_X_minutes_39 : decode prog_1_method_12_code 39 = .ok (.aload_n 0, 1) := by decide +kernel
theorem d_X_minutes_40 : decode prog_1_method_12_code 40 = .ok (.getfield 10, 3) := by decide +kernel
theorem d_X_minutes_43 : decode prog_1_method_12_code 43 = .ok (.getfield 92, 3) := by decide +kernel
theorem d_X_minutes_46 : decode prog_1_method_12_code 46 = .ok (.ireturn, 1) := by decide +kernel
theorem gc_X_minutes_135 : GoodIn yGW (wsV "WhoseGlass" 135 yR2 m_H_passMinutes ws_H_passMinutes) := y_gV g_438 g_279 g_280 g_2 g_281
set_option maxRecDepth 100000 in
def f_X_minutes (F : Nat) (u : Mm) (o : Nat) (a1 : Int32) : Option (Int32 × Mm) := (if a1 < (1 : Int32) then some ((-1 : Int32), u) else (if a1 ≤ (99 : Int32) then ob (jgr YX 4 0 (some o)) fun (r3 : Option Nat) => ob (jgi YX 2 5 u r3) fun (x4 : Int32) => (if (x4 + a1) ≤ (999 : Int32) then ob (jgr YX 4 0 (some o)) fun (r6 : Option Nat) => ob (jk YX 2 r6) fun t => yb (f_H_passMinutes F u t a1) fun v7 u8 => ob (jgr YX 4 0 (some o)) fun (r9 : Option Nat) => ob (jgi YX 2 5 u8 r9) fun (x10 : Int32) => some (x10, u8) else some ((-2 : Int32), u)) else some ((-1 : Int32), u)))
set_option maxHeartbeats 4000000 in
set_option maxRecDepth 100000 in
theorem c_X_minutes (l : Launch) (w : WP) (F : Nat) (u : Mm) (o : Nat) (a1 : Int32) (out : Int32 × Mm) (h : f_X_minutes F u o a1 = some out) : yMet l m_X_minutes ws_X_minutes ({ frames := 5, cells := 0, slots := 0, locals := 125 } : Room) YX w u [va_re w.1 (some o), .int a1] yfi out := by
  refine y_entry (own := "WhoseGlass") (lv := [(0, va_re w.1 (some o)), (1, .int a1)]) (by decide +kernel) rfl (by simp [lv_args, y_cat, y_catI, y_catJ]) (by simp [lg_sl, y_cat, y_catI, y_catJ]) ?_
  intro p e s m args below meth c C hr hlocks
  unfold f_X_minutes at h
  refine y_iload_n C (i := 1) 1 d_X_minutes_0 rfl rfl ?_
  refine y_iconst C (v := 1) d_X_minutes_1 (by decide) ?_
  refine y_ic_lt C 11 d_X_minutes_2 (by decide) h (fun k1 h => ?_) (fun k1 h => ?_)
  · refine y_iconst C (v := -1) d_X_minutes_11 (by decide) ?_
    exact y_iret C hr hlocks d_X_minutes_12 h
  · refine y_iload_n C (i := 1) 1 d_X_minutes_5 rfl rfl ?_
    refine y_bipush C (v := 99) d_X_minutes_6 (by decide) ?_
    refine y_ic_le C 13 d_X_minutes_8 (by decide) h (fun k2 h => ?_) (fun k2 h => ?_)
    · refine y_aload_n C (i := 0) 0 d_X_minutes_13 rfl rfl ?_
      refine y_gr C (q := (yR4, yT4, 5)) (ci := 4) (k := 0) rfl (by decide) rfl (by decide) g_202 d_X_minutes_14 h (fun r3 h => ?_)
      refine y_gi C (q := (yR2, yT2, 9)) (ci := 2) (k := 5) rfl (by decide) rfl g_142 d_X_minutes_17 h (fun x4 h => ?_)
      refine y_iload_n C (i := 1) 1 d_X_minutes_20 rfl rfl ?_
      refine y_iadd C d_X_minutes_21 ?_
      refine y_sipush C (v := 999) d_X_minutes_22 (by decide) ?_
      refine y_ic_le C 31 d_X_minutes_25 (by decide) h (fun k5 h => ?_) (fun k5 h => ?_)
      · refine y_aload_n C (i := 0) 0 d_X_minutes_31 rfl rfl ?_
        refine y_gr C (q := (yR4, yT4, 5)) (ci := 4) (k := 0) rfl (by decide) rfl (by decide) g_202 d_X_minutes_32 h (fun r6 h => ?_)
        refine y_iload_n C (i := 1) 1 d_X_minutes_35 rfl rfl ?_
        refine y_callV 1 C (q := (yR2, yT2, 9)) (ci := 2) (fun t out hh => c_H_passMinutes l w F u t a1 out hh) gc_X_minutes_135 rfl (by decide) hd_H_passMinutes ⟨Nat.le_of_ble_eq_true rfl, Nat.le_of_ble_eq_true rfl⟩ rfl rfl rfl rfl (by simp [y_cat, y_catI, y_catJ]) d_X_minutes_36 h (fun v7 u8 h => ?_)
        refine y_stk (stp0 := []) rfl ?_
        refine y_aload_n C (i := 0) 0 d_X_minutes_39 rfl rfl ?_
        refine y_gr C (q := (yR4, yT4, 5)) (ci := 4) (k := 0) rfl (by decide) rfl (by decide) g_202 d_X_minutes_40 h (fun r9 h => ?_)
        refine y_gi C (q := (yR2, yT2, 9)) (ci := 2) (k := 5) rfl (by decide) rfl g_142 d_X_minutes_43 h (fun x10 h => ?_)
        exact y_iret C hr hlocks d_X_minutes_46 h
      · refine y_bipush C (v := -2) d_X_minutes_28 (by decide) ?_
        exact y_iret C hr hlocks d_X_minutes_30 h
    · refine y_iconst C (v := -1) d_X_minutes_11 (by decide) ?_
      exact y_iret C hr hlocks d_X_minutes_12 h
/-! X_like -/
theorem d_X_like_0 : decode prog_1_method_13_code 0 = .ok (.aload_n 0, 1) := by decide +kernel
theorem d_X_like_1 : decode prog_1_method_13_code 1 = .ok (.getfield 10, 3) := by decide +kernel
theorem d_X_like_4 : decode prog_1_method_13_code 4 = .ok (.iload_n 1, 1) := by decide +kernel
theorem d_X_like_5 : decode prog_1_method_13_code 5 = .ok (.invokevirtual 61, 3) := by decide +kernel
theorem d_X_like_8 : decode prog_1_method_13_code 8 = .ok (.astore_n 3, 1) := by decide +kernel
theorem d_X_like_9 : decode prog_1_method_13_code 9 = .ok (.aload_n 0, 1) := by decide +kernel
theorem d_X_like_10 : decode prog_1_method_13_code 10 = .ok (.getfield 10, 3) := by decide +kernel
theorem d_X_like_13 : decode prog_1_method_13_code 13 = .ok (.iload_n 2, 1) := by decide +kernel
theorem d_X_like_14 : decode prog_1_method_13_code 14 = .ok (.invokevirtual 61, 3) := by decide +kernel
theorem d_X_like_17 : decode prog_1_method_13_code 17 = .ok (.astore 4, 2) := by decide +kernel
theorem d_X_like_19 : decode prog_1_method_13_code 19 = .ok (.aload_n 3, 1) := by decide +kernel
theorem d_X_like_20 : decode prog_1_method_13_code 20 = .ok (.ifnull 8, 3) := by decide +kernel
theorem d_X_like_23 : decode prog_1_method_13_code 23 = .ok (.aload 4, 2) := by decide +kernel
theorem d_X_like_25 : decode prog_1_method_13_code 25 = .ok (.ifnonnull 7, 3) := by decide +kernel
theorem d_X_like_28 : decode prog_1_method_13_code 28 = .ok (.iconst (-1), 1) := by decide +kernel
theorem d_X_like_29 : decode prog_1_method_13_code 29 = .ok (.goto 9, 3) := by decide +kernel
theorem d_X_like_32 : decode prog_1_method_13_code 32 = .ok (.aload_n 3, 1) := by decide +kernel
theorem d_X_like_33 : decode prog_1_method_13_code 33 = .ok (.aload 4, 2) := by decide +kernel
theorem d_X_like_35 : decode prog_1_method_13_code 35 = .ok (.invokevirtual 139, 3) := by decide +kernel
theorem d_X_like_38 : decode prog_1_method_13_code 38 = .ok (.ireturn, 1) := by decide +kernel
theorem gc_X_like_61 : GoodIn yGW (wsV "WhoseGlass" 61 yR2 m_H_glassAt ws_H_glassAt) := y_gV g_381 g_260 g_261 g_2 g_262
theorem gc_X_like_139 : GoodIn yGW (wsV "WhoseGlass" 139 yR0 m_G_likeTo ws_G_likeTo) := y_gV g_443 g_302 g_303 g_3 g_304
set_option maxRecDepth 100000 in
def f_X_like (F : Nat) (u : Mm) (o : Nat) (a1 : Int32) (a2 : Int32) : Option (Int32 × Mm) := ob (jgr YX 4 0 (some o)) fun (r1 : Option Nat) => ob (jk YX 2 r1) fun t => yb (f_H_glassAt F u t a1) fun r2 u3 => ob (jgr YX 4 0 (some o)) fun (r4 : Option Nat) => ob (jk YX 2 r4) fun t => yb (f_H_glassAt F u3 t a2) fun r5 u6 => (if r2 = none then some ((-1 : Int32), u6) else (if r5 = none then some ((-1 : Int32), u6) else ob (jk YX 0 r2) fun t => yb (f_G_likeTo F u6 t r5) fun x9 u10 => some (x9, u10)))
set_option maxHeartbeats 4000000 in
set_option maxRecDepth 100000 in
theorem c_X_like (l : Launch) (w : WP) (F : Nat) (u : Mm) (o : Nat) (a1 : Int32) (a2 : Int32) (out : Int32 × Mm) (h : f_X_like F u o a1 a2 = some out) : yMet l m_X_like ws_X_like ({ frames := 1, cells := 0, slots := 0, locals := 28 } : Room) YX w u [va_re w.1 (some o), .int a1, .int a2] yfi out := by
  refine y_entry (own := "WhoseGlass") (lv := [(0, va_re w.1 (some o)), (1, .int a1), (2, .int a2)]) (by decide +kernel) rfl (by simp [lv_args, y_cat, y_catI, y_catJ]) (by simp [lg_sl, y_cat, y_catI, y_catJ]) ?_
  intro p e s m args below meth c C hr hlocks
  unfold f_X_like at h
  refine y_aload_n C (i := 0) 0 d_X_like_0 rfl rfl ?_
  refine y_gr C (q := (yR4, yT4, 5)) (ci := 4) (k := 0) rfl (by decide) rfl (by decide) g_202 d_X_like_1 h (fun r1 h => ?_)
  refine y_iload_n C (i := 1) 1 d_X_like_4 rfl rfl ?_
  refine y_callV 1 C (q := (yR2, yT2, 9)) (ci := 2) (fun t out hh => c_H_glassAt l w F u t a1 out hh) gc_X_like_61 rfl (by decide) hd_H_glassAt ⟨Nat.le_of_ble_eq_true rfl, Nat.le_of_ble_eq_true rfl⟩ rfl rfl rfl rfl (by simp [y_cat, y_catI, y_catJ]) d_X_like_5 h (fun r2 u3 h => ?_)
  refine y_stk (stp0 := [va_re w.1 r2]) rfl ?_
  refine y_astore_n C (i := 3) (lvp := [(0, va_re w.1 (some o)), (1, .int a1), (2, .int a2)]) d_X_like_8 rfl (by decide) (by simp [List.filter, y_cat, y_catI, y_catJ]) ?_
  refine y_aload_n C (i := 0) 1 d_X_like_9 rfl rfl ?_
  refine y_gr C (q := (yR4, yT4, 5)) (ci := 4) (k := 0) rfl (by decide) rfl (by decide) g_202 d_X_like_10 h (fun r4 h => ?_)
  refine y_iload_n C (i := 2) 3 d_X_like_13 rfl rfl ?_
  refine y_callV 1 C (q := (yR2, yT2, 9)) (ci := 2) (fun t out hh => c_H_glassAt l w F u3 t a2 out hh) gc_X_like_61 rfl (by decide) hd_H_glassAt ⟨Nat.le_of_ble_eq_true rfl, Nat.le_of_ble_eq_true rfl⟩ rfl rfl rfl rfl (by simp [y_cat, y_catI, y_catJ]) d_X_like_14 h (fun r5 u6 h => ?_)
  refine y_stk (stp0 := [va_re w.1 r5]) rfl ?_
  refine y_astore C (i := 4) (lvp := [(3, va_re w.1 r2), (0, va_re w.1 (some o)), (1, .int a1), (2, .int a2)]) d_X_like_17 (by decide) (by simp [List.filter, y_cat, y_catI, y_catJ]) ?_
  refine y_aload_n C (i := 3) 1 d_X_like_19 rfl rfl ?_
  refine y_ifnull C 28 d_X_like_20 (by decide) h (fun k7 h => ?_) (fun k7 h => ?_)
  · refine y_iconst C (v := -1) d_X_like_28 (by decide) ?_
    refine y_goto C (tgt := 38) d_X_like_29 (by decide) ?_
    exact y_iret C hr hlocks d_X_like_38 h
  · refine y_aload C (i := 4) 0 d_X_like_23 rfl ?_
    refine y_ifnonnull C 32 d_X_like_25 (by decide) h (fun k8 h => ?_) (fun k8 h => ?_)
    · refine y_iconst C (v := -1) d_X_like_28 (by decide) ?_
      refine y_goto C (tgt := 38) d_X_like_29 (by decide) ?_
      exact y_iret C hr hlocks d_X_like_38 h
    · refine y_aload_n C (i := 3) 1 d_X_like_32 rfl rfl ?_
      refine y_aload C (i := 4) 0 d_X_like_33 rfl ?_
      refine y_callV 1 C (q := (yR0, yT0, 8)) (ci := 0) (fun t out hh => c_G_likeTo l w F u6 t r5 out hh) gc_X_like_139 rfl (by decide) hd_G_likeTo ⟨Nat.le_of_ble_eq_true rfl, Nat.le_of_ble_eq_true rfl⟩ rfl rfl rfl rfl (by simp [y_cat, y_catI, y_catJ]) d_X_like_35 h (fun x9 u10 h => ?_)
      refine y_stk (stp0 := [.int x9]) rfl ?_
      exact y_iret C hr hlocks d_X_like_38 h
/-! X_mine -/
theorem d_X_mine_0 : decode prog_1_method_14_code 0 = .ok (.aload_n 0, 1) := by decide +kernel
theorem d_X_mine_1 : decode prog_1_method_14_code 1 = .ok (.getfield 10, 3) := by decide +kernel
theorem d_X_mine_4 : decode prog_1_method_14_code 4 = .ok (.iload_n 1, 1) := by decide +kernel
theorem d_X_mine_5 : decode prog_1_method_14_code 5 = .ok (.invokevirtual 71, 3) := by decide +kernel
theorem d_X_mine_8 : decode prog_1_method_14_code 8 = .ok (.astore_n 2, 1) := by decide +kernel
theorem d_X_mine_9 : decode prog_1_method_14_code 9 = .ok (.aload_n 2, 1) := by decide +kernel
theorem d_X_mine_10 : decode prog_1_method_14_code 10 = .ok (.ifnonnull 7, 3) := by decide +kernel
theorem d_X_mine_13 : decode prog_1_method_14_code 13 = .ok (.iconst (-1), 1) := by decide +kernel
theorem d_X_mine_14 : decode prog_1_method_14_code 14 = .ok (.goto 11, 3) := by decide +kernel
theorem d_X_mine_17 : decode prog_1_method_14_code 17 = .ok (.aload_n 0, 1) := by decide +kernel
theorem d_X_mine_18 : decode prog_1_method_14_code 18 = .ok (.getfield 10, 3) := by decide +kernel
theorem d_X_mine_21 : decode prog_1_method_14_code 21 = .ok (.aload_n 2, 1) := by decide +kernel
theorem d_X_mine_22 : decode prog_1_method_14_code 22 = .ok (.invokevirtual 142, 3) := by decide +kernel
theorem d_X_mine_25 : decode prog_1_method_14_code 25 = .ok (.ireturn, 1) := by decide +kernel
theorem gc_X_mine_71 : GoodIn yGW (wsV "WhoseGlass" 71 yR2 m_H_guestAt ws_H_guestAt) := y_gV g_391 g_268 g_269 g_2 g_270
theorem gc_X_mine_142 : GoodIn yGW (wsV "WhoseGlass" 142 yR2 m_H_choiceOf ws_H_choiceOf) := y_gV g_448 g_298 g_299 g_2 g_300
set_option maxRecDepth 100000 in
def f_X_mine (F : Nat) (u : Mm) (o : Nat) (a1 : Int32) : Option (Int32 × Mm) := ob (jgr YX 4 0 (some o)) fun (r1 : Option Nat) => ob (jk YX 2 r1) fun t => yb (f_H_guestAt F u t a1) fun r2 u3 => (if r2 = none then some ((-1 : Int32), u3) else ob (jgr YX 4 0 (some o)) fun (r5 : Option Nat) => ob (jk YX 2 r5) fun t => yb (f_H_choiceOf F u3 t r2) fun x6 u7 => some (x6, u7))
set_option maxHeartbeats 4000000 in
set_option maxRecDepth 100000 in
theorem c_X_mine (l : Launch) (w : WP) (F : Nat) (u : Mm) (o : Nat) (a1 : Int32) (out : Int32 × Mm) (h : f_X_mine F u o a1 = some out) : yMet l m_X_mine ws_X_mine ({ frames := 2, cells := 0, slots := 0, locals := 56 } : Room) YX w u [va_re w.1 (some o), .int a1] yfi out := by
  refine y_entry (own := "WhoseGlass") (lv := [(0, va_re w.1 (some o)), (1, .int a1)]) (by decide +kernel) rfl (by simp [lv_args, y_cat, y_catI, y_catJ]) (by simp [lg_sl, y_cat, y_catI, y_catJ]) ?_
  intro p e s m args below meth c C hr hlocks
  unfold f_X_mine at h
  refine y_aload_n C (i := 0) 0 d_X_mine_0 rfl rfl ?_
  refine y_gr C (q := (yR4, yT4, 5)) (ci := 4) (k := 0) rfl (by decide) rfl (by decide) g_202 d_X_mine_1 h (fun r1 h => ?_)
  refine y_iload_n C (i := 1) 1 d_X_mine_4 rfl rfl ?_
  refine y_callV 1 C (q := (yR2, yT2, 9)) (ci := 2) (fun t out hh => c_H_guestAt l w F u t a1 out hh) gc_X_mine_71 rfl (by decide) hd_H_guestAt ⟨Nat.le_of_ble_eq_true rfl, Nat.le_of_ble_eq_true rfl⟩ rfl rfl rfl rfl (by simp [y_cat, y_catI, y_catJ]) d_X_mine_5 h (fun r2 u3 h => ?_)
  refine y_stk (stp0 := [va_re w.1 r2]) rfl ?_
  refine y_astore_n C (i := 2) (lvp := [(0, va_re w.1 (some o)), (1, .int a1)]) d_X_mine_8 rfl (by decide) (by simp [List.filter, y_cat, y_catI, y_catJ]) ?_
  refine y_aload_n C (i := 2) 0 d_X_mine_9 rfl rfl ?_
  refine y_ifnonnull C 17 d_X_mine_10 (by decide) h (fun k4 h => ?_) (fun k4 h => ?_)
  · refine y_iconst C (v := -1) d_X_mine_13 (by decide) ?_
    refine y_goto C (tgt := 25) d_X_mine_14 (by decide) ?_
    exact y_iret C hr hlocks d_X_mine_25 h
  · refine y_aload_n C (i := 0) 1 d_X_mine_17 rfl rfl ?_
    refine y_gr C (q := (yR4, yT4, 5)) (ci := 4) (k := 0) rfl (by decide) rfl (by decide) g_202 d_X_mine_18 h (fun r5 h => ?_)
    refine y_aload_n C (i := 2) 0 d_X_mine_21 rfl rfl ?_
    refine y_callV 1 C (q := (yR2, yT2, 9)) (ci := 2) (fun t out hh => c_H_choiceOf l w F u3 t r2 out hh) gc_X_mine_142 rfl (by decide) hd_H_choiceOf ⟨Nat.le_of_ble_eq_true rfl, Nat.le_of_ble_eq_true rfl⟩ rfl rfl rfl rfl (by simp [y_cat, y_catI, y_catJ]) d_X_mine_22 h (fun x6 u7 h => ?_)
    refine y_stk (stp0 := [.int x6]) rfl ?_
    exact y_iret C hr hlocks d_X_mine_25 h
/-! H_likeToAllAt -/
theorem d_H_likeToAllAt_0 : decode prog_4_method_13_code 0 = .ok (.iconst 0, 1) := by decide +kernel
theorem d_H_likeToAllAt_1 : decode prog_4_method_13_code 1 = .ok (.istore_n 3, 1) := by decide +kernel
theorem d_H_likeToAllAt_2 : decode prog_4_method_13_code 2 = .ok (.iconst 0, 1) := by decide +kernel
theorem d_H_likeToAllAt_3 : decode prog_4_method_13_code 3 = .ok (.istore 4, 2) := by decide +kernel
theorem d_H_likeToAllAt_5 : decode prog_4_method_13_code 5 = .ok (.iload 4, 2) := by decide +kernel
theorem d_H_likeToAllAt_7 : decode prog_4_method_13_code 7 = .ok (.aload_n 0, 1) := by decide +kernel
theorem d_H_likeToAllAt_8 : decode prog_4_method_13_code 8 = .ok (.getfield 34, 3) := by decide +kernel
theorem d_H_likeToAllAt_11 : decode prog_4_method_13_code 11 = .ok (.if_icmp .ge 40, 3) := by decide +kernel
theorem d_H_likeToAllAt_14 : decode prog_4_method_13_code 14 = .ok (.aload_n 0, 1) := by decide +kernel
theorem d_H_likeToAllAt_15 : decode prog_4_method_13_code 15 = .ok (.iload 4, 2) := by decide +kernel
theorem d_H_likeToAllAt_17 : decode prog_4_method_13_code 17 = .ok (.invokevirtual 49, 3) := by decide +kernel
theorem d_H_likeToAllAt_20 : decode prog_4_method_13_code 20 = .ok (.astore 5, 2) := by decide +kernel
theorem d_H_likeToAllAt_22 : decode prog_4_method_13_code 22 = .ok (.aload 5, 2) := by decide +kernel
theorem d_H_likeToAllAt_24 : decode prog_4_method_13_code 24 = .ok (.ifnull 21, 3) := by decide +kernel
theorem d_H_likeToAllAt_27 : decode prog_4_method_13_code 27 = .ok (.aload 5, 2) := by decide +kernel
theorem d_H_likeToAllAt_29 : decode prog_4_method_13_code 29 = .ok (.getfield 132, 3) := by decide +kernel
theorem d_H_likeToAllAt_32 : decode prog_4_method_13_code 32 = .ok (.iload_n 2, 1) := by decide +kernel
theorem d_H_likeToAllAt_33 : decode prog_4_method_13_code 33 = .ok (.if_icmp .ne 12, 3) := by decide +kernel
theorem d_H_likeToAllAt_36 : decode prog_4_method_13_code 36 = .ok (.iload_n 3, 1) := by decide +kernel
theorem d_H_likeToAllAt_37 : decode prog_4_method_13_code 37 = .ok (.aload_n 1, 1) := by decide +kernel
theorem d_H_likeToAllAt_38 : decode prog_4_method_13_code 38 = .ok (.aload 5, 2) := by decide +kernel
theorem d_H_likeToAllAt_40 : decode prog_4_method_13_code 40 = .ok (.invokevirtual 135, 3) := by decide +kernel
theorem d_H_likeToAllAt_43 : decode prog_4_method_13_code 43 = .ok (.iadd, 1) := by decide +kernel
theorem d_H_likeToAllAt_44 : decode prog_4_method_13_code 44 = .ok (.istore_n 3, 1) := by decide +kernel
theorem d_H_likeToAllAt_45 : decode prog_4_method_13_code 45 = .ok (.iinc 4 1, 3) := by decide +kernel
theorem d_H_likeToAllAt_48 : decode prog_4_method_13_code 48 = .ok (.goto (-43), 3) := by decide +kernel
theorem d_H_likeToAllAt_51 : decode prog_4_method_13_code 51 = .ok (.iload_n 3, 1) := by decide +kernel
theorem d_H_likeToAllAt_52 : decode prog_4_method_13_code 52 = .ok (.ireturn, 1) := by decide +kernel
theorem gc_H_likeToAllAt_49 : GoodIn yGW (wsV "WhoseGlass$House" 49 yR2 m_H_glassAt ws_H_glassAt) := y_gV g_259 g_260 g_261 g_2 g_262
theorem gc_H_likeToAllAt_135 : GoodIn yGW (wsV "WhoseGlass$House" 135 yR0 m_G_likeTo ws_G_likeTo) := y_gV g_301 g_302 g_303 g_3 g_304
set_option maxHeartbeats 4000000 in
set_option maxRecDepth 100000 in
def f_H_likeToAllAt_L5 (F : Nat) (a0 : Option Nat) (a1 : Option Nat) (a2 : Int32) (k : Mm → Int32 → Option (Int32 × Mm)) : Nat → Mm → Int32 → Int32 → Option (Int32 × Mm)
  | 0, _, _, _ => none
  | n + 1, u, a3, a4 => ob (jgi YX 2 2 u a0) fun (x1 : Int32) => (if x1 ≤ a4 then k u a3 else ob (jk YX 2 a0) fun t => yb (f_H_glassAt F u t a4) fun r3 u4 => ob ((if r3 = none then some (a3, u4) else ob (jgi YX 0 4 u4 r3) fun (x7 : Int32) => (if x7 = a2 then ob (jk YX 0 a1) fun t => yb (f_G_likeTo F u4 t r3) fun x9 u10 => ob (some (a3 + x9)) fun (x11 : Int32) => some (x11, u10) else some (a3, u4))) : Option (Int32 × Mm)) fun q5 => ob (some (a4 + (1 : Int32))) fun (x12 : Int32) => f_H_likeToAllAt_L5 F a0 a1 a2 k n q5.2 q5.1 x12)
set_option maxHeartbeats 4000000 in
set_option maxRecDepth 100000 in
theorem w_H_likeToAllAt_L5 {p : Program} {l : Launch} {e : Env} {s : State} {m : MethodId} {args : Array Value} {below : List Frame} {meth : Method} {c : Code} {w : WP} {Q : State → Prop} (F : Nat) (C : yX p e ({ frames := 1, cells := 0, slots := 0, locals := 28 } : Room) s m args c YX w 6 prog_4_method_13_code "WhoseGlass$House") (hr : meth.sig.returnType = (some .int)) (hlocks : meth.locks = false) (a0 : Option Nat) (a1 : Option Nat) (a2 : Int32) {out : Int32 × Mm} (k : Mm → Int32 → Option (Int32 × Mm)) (hk : ∀ (u : Mm) (a3 : Int32), k u a3 = some out → yG p l e ({ frames := 1, cells := 0, slots := 0, locals := 28 } : Room) s m args below meth c YX w 6 Q u 51 [(3, .int a3)] []) : ∀ (n : Nat) (u : Mm) (a3 : Int32) (a4 : Int32), f_H_likeToAllAt_L5 F a0 a1 a2 k n u a3 a4 = some out → yG p l e ({ frames := 1, cells := 0, slots := 0, locals := 28 } : Room) s m args below meth c YX w 6 Q u 5 [(0, va_re w.1 a0), (1, va_re w.1 a1), (2, .int a2), (3, .int a3), (4, .int a4)] [] := by
  intro n
  induction n with
  | zero => intro u a3 a4 h; rw [f_H_likeToAllAt_L5] at h; cases h
  | succ n ih =>
    intro u a3 a4 h
    rw [f_H_likeToAllAt_L5] at h
    refine y_iload C (i := 4) 4 d_H_likeToAllAt_5 rfl ?_
    refine y_aload_n C (i := 0) 0 d_H_likeToAllAt_7 rfl rfl ?_
    refine y_gi C (q := (yR2, yT2, 9)) (ci := 2) (k := 2) rfl (by decide) rfl g_133 d_H_likeToAllAt_8 h (fun x1 h => ?_)
    refine y_ic_ge C 51 d_H_likeToAllAt_11 (by decide) h (fun k2 h => ?_) (fun k2 h => ?_)
    · exact y_sub [3] rfl (hk _ _ h)
    · refine y_aload_n C (i := 0) 0 d_H_likeToAllAt_14 rfl rfl ?_
      refine y_iload C (i := 4) 4 d_H_likeToAllAt_15 rfl ?_
      refine y_callV 1 C (q := (yR2, yT2, 9)) (ci := 2) (fun t out hh => c_H_glassAt l w F u t a4 out hh) gc_H_likeToAllAt_49 rfl (by decide) hd_H_glassAt ⟨Nat.le_of_ble_eq_true rfl, Nat.le_of_ble_eq_true rfl⟩ rfl rfl rfl rfl (by simp [y_cat, y_catI, y_catJ]) d_H_likeToAllAt_17 h (fun r3 u4 h => ?_)
      refine y_stk (stp0 := [va_re w.1 r3]) rfl ?_
      refine y_astore C (i := 5) (lvp := [(0, va_re w.1 a0), (1, va_re w.1 a1), (2, .int a2), (3, .int a3), (4, .int a4)]) d_H_likeToAllAt_20 (by decide) (by simp [List.filter, y_cat, y_catI, y_catJ]) ?_
      refine y_aload C (i := 5) 0 d_H_likeToAllAt_22 rfl ?_
      obtain ⟨q5, hq5, h⟩ := ob_e h
      have hJq5 : yG p l e ({ frames := 1, cells := 0, slots := 0, locals := 28 } : Room) s m args below meth c YX w 6 Q q5.2 45 [(0, va_re w.1 a0), (1, va_re w.1 a1), (2, .int a2), (3, .int q5.1), (4, .int a4)] [] := by
        refine y_iinc C (j := 4) (v := 1) (lvp := [(0, va_re w.1 a0), (1, va_re w.1 a1), (2, .int a2), (3, .int q5.1)]) d_H_likeToAllAt_45 rfl (by decide) (by decide) rfl h (fun x12 h => ?_)
        refine y_goto C (tgt := 5) d_H_likeToAllAt_48 (by decide) ?_
        exact y_sub [1, 2, 3, 4, 0] rfl (ih _ _ _ h)
      refine y_ifnull C 45 d_H_likeToAllAt_24 (by decide) hq5 (fun k6 hq5 => ?_) (fun k6 hq5 => ?_)
      · cases hq5
        exact y_sub [1, 2, 3, 4, 5] rfl hJq5
      · refine y_aload C (i := 5) 0 d_H_likeToAllAt_27 rfl ?_
        refine y_gi C (q := (yR0, yT0, 8)) (ci := 0) (k := 4) rfl (by decide) rfl g_53 d_H_likeToAllAt_29 hq5 (fun x7 hq5 => ?_)
        refine y_iload_n C (i := 2) 3 d_H_likeToAllAt_32 rfl rfl ?_
        refine y_ic_ne C 45 d_H_likeToAllAt_33 (by decide) hq5 (fun k8 hq5 => ?_) (fun k8 hq5 => ?_)
        · refine y_iload_n C (i := 3) 4 d_H_likeToAllAt_36 rfl rfl ?_
          refine y_aload_n C (i := 1) 2 d_H_likeToAllAt_37 rfl rfl ?_
          refine y_aload C (i := 5) 0 d_H_likeToAllAt_38 rfl ?_
          refine y_callV 1 C (q := (yR0, yT0, 8)) (ci := 0) (fun t out hh => c_G_likeTo l w F u4 t r3 out hh) gc_H_likeToAllAt_135 rfl (by decide) hd_G_likeTo ⟨Nat.le_of_ble_eq_true rfl, Nat.le_of_ble_eq_true rfl⟩ rfl rfl rfl rfl (by simp [y_cat, y_catI, y_catJ]) d_H_likeToAllAt_40 hq5 (fun x9 u10 hq5 => ?_)
          refine y_stk (stp0 := [.int x9, .int a3]) rfl ?_
          refine y_iadd C d_H_likeToAllAt_43 ?_
          refine y_istore_nB C (i := 3) (lvp := [(5, va_re w.1 r3), (0, va_re w.1 a0), (1, va_re w.1 a1), (2, .int a2), (4, .int a4)]) d_H_likeToAllAt_44 rfl (by decide) rfl hq5 (fun x11 hq5 => ?_)
          cases hq5
          exact y_sub [2, 3, 4, 0, 5] rfl hJq5
        · cases hq5
          exact y_sub [1, 2, 3, 4, 5] rfl hJq5
set_option maxRecDepth 100000 in
def f_H_likeToAllAt (F : Nat) (u : Mm) (o : Nat) (a1 : Option Nat) (a2 : Int32) : Option (Int32 × Mm) := f_H_likeToAllAt_L5 F (some o) a1 a2 (fun (u13 : Mm) (x14 : Int32) => some (x14, u13)) F u (0 : Int32) (0 : Int32)
set_option maxHeartbeats 4000000 in
set_option maxRecDepth 100000 in
theorem c_H_likeToAllAt (l : Launch) (w : WP) (F : Nat) (u : Mm) (o : Nat) (a1 : Option Nat) (a2 : Int32) (out : Int32 × Mm) (h : f_H_likeToAllAt F u o a1 a2 = some out) : yMet l m_H_likeToAllAt ws_H_likeToAllAt ({ frames := 1, cells := 0, slots := 0, locals := 28 } : Room) YX w u [va_re w.1 (some o), va_re w.1 a1, .int a2] yfi out := by
  refine y_entry (own := "WhoseGlass$House") (lv := [(0, va_re w.1 (some o)), (1, va_re w.1 a1), (2, .int a2)]) (by decide +kernel) rfl (by simp [lv_args, y_cat, y_catI, y_catJ]) (by simp [lg_sl, y_cat, y_catI, y_catJ]) ?_
  intro p e s m args below meth c C hr hlocks
  unfold f_H_likeToAllAt at h
  refine y_iconst C (v := 0) d_H_likeToAllAt_0 (by decide) ?_
  refine y_istore_n C (i := 3) (lvp := [(0, va_re w.1 (some o)), (1, va_re w.1 a1), (2, .int a2)]) d_H_likeToAllAt_1 rfl (by decide) rfl ?_
  refine y_iconst C (v := 0) d_H_likeToAllAt_2 (by decide) ?_
  refine y_istore C (i := 4) (lvp := [(3, .int (0 : Int32)), (0, va_re w.1 (some o)), (1, va_re w.1 a1), (2, .int a2)]) d_H_likeToAllAt_3 (by decide) rfl ?_
  refine y_sub [2, 3, 4, 1, 0] rfl (w_H_likeToAllAt_L5 F C hr hlocks _ _ _ _ (fun u13 x14 h => ?_) _ _ _ _ h)
  refine y_iload_n C (i := 3) 0 d_H_likeToAllAt_51 rfl rfl ?_
  exact y_iret C hr hlocks d_H_likeToAllAt_52 h
/-! X_reduced -/
theorem d_X_reduced_0 : decode prog_1_method_45_code 0 = .ok (.iload_n 0, 1) := by decide +kernel
theorem d_X_reduced_1 : decode prog_1_method_45_code 1 = .ok (.iload_n 1, 1) := by decide +kernel
theorem d_X_reduced_2 : decode prog_1_method_45_code 2 = .ok (.invokestatic 268, 3) := by decide +kernel
theorem d_X_reduced_5 : decode prog_1_method_45_code 5 = .ok (.istore_n 2, 1) := by decide +kernel
theorem d_X_reduced_6 : decode prog_1_method_45_code 6 = .ok (.iload_n 2, 1) := by decide +kernel
theorem d_X_reduced_7 : decode prog_1_method_45_code 7 = .ok (.iconst 1, 1) := by decide +kernel
theorem d_X_reduced_8 : decode prog_1_method_45_code 8 = .ok (.if_icmp .le 25, 3) := by decide +kernel
theorem d_X_reduced_11 : decode prog_1_method_45_code 11 = .ok (.iload_n 0, 1) := by decide +kernel
theorem d_X_reduced_12 : decode prog_1_method_45_code 12 = .ok (.iload_n 2, 1) := by decide +kernel
theorem d_X_reduced_13 : decode prog_1_method_45_code 13 = .ok (.irem, 1) := by decide +kernel
theorem d_X_reduced_14 : decode prog_1_method_45_code 14 = .ok (.ifCond .ne 13, 3) := by decide +kernel
theorem d_X_reduced_17 : decode prog_1_method_45_code 17 = .ok (.iload_n 1, 1) := by decide +kernel
theorem d_X_reduced_18 : decode prog_1_method_45_code 18 = .ok (.iload_n 2, 1) := by decide +kernel
theorem d_X_reduced_19 : decode prog_1_method_45_code 19 = .ok (.irem, 1) := by decide +kernel
theorem d_X_reduced_20 : decode prog_1_method_45_code 20 = .ok (.ifCond .ne 7, 3) := by decide +kernel
theorem d_X_reduced_23 : decode prog_1_method_45_code 23 = .ok (.iload_n 0, 1) := by decide +kernel
theorem d_X_reduced_24 : decode prog_1_method_45_code 24 = .ok (.iload_n 2, 1) := by decide +kernel
theorem d_X_reduced_25 : decode prog_1_method_45_code 25 = .ok (.idiv, 1) := by decide +kernel
theorem d_X_reduced_26 : decode prog_1_method_45_code 26 = .ok (.ireturn, 1) := by decide +kernel
theorem d_X_reduced_27 : decode prog_1_method_45_code 27 = .ok (.iinc 2 (-1), 3) := by decide +kernel
theorem d_X_reduced_30 : decode prog_1_method_45_code 30 = .ok (.goto (-24), 3) := by decide +kernel
theorem d_X_reduced_33 : decode prog_1_method_45_code 33 = .ok (.iload_n 0, 1) := by decide +kernel
theorem d_X_reduced_34 : decode prog_1_method_45_code 34 = .ok (.ireturn, 1) := by decide +kernel
set_option maxHeartbeats 4000000 in
set_option maxRecDepth 100000 in
def f_X_reduced_L6 (F : Nat) (a0 : Int32) (a1 : Int32) (k : Mm → Option (Int32 × Mm)) : Nat → Mm → Int32 → Option (Int32 × Mm)
  | 0, _, _ => none
  | n + 1, u, a2 => (if a2 ≤ (1 : Int32) then k u  else ob (jrm a0 a2) fun (x3 : Int32) => (if x3 = 0 then ob (jrm a1 a2) fun (x5 : Int32) => (if x5 = 0 then ob (jdv a0 a2) fun (x7 : Int32) => some (x7, u) else ob (some (a2 + (-1 : Int32))) fun (x8 : Int32) => f_X_reduced_L6 F a0 a1 k n u x8) else ob (some (a2 + (-1 : Int32))) fun (x9 : Int32) => f_X_reduced_L6 F a0 a1 k n u x9))
set_option maxHeartbeats 4000000 in
set_option maxRecDepth 100000 in
theorem w_X_reduced_L6 {p : Program} {l : Launch} {e : Env} {s : State} {m : MethodId} {args : Array Value} {below : List Frame} {meth : Method} {c : Code} {w : WP} (F : Nat) (C : yX p e ({ frames := 1, cells := 0, slots := 0, locals := 21 } : Room) s m args c YX w 3 prog_1_method_45_code "WhoseGlass") (hr : meth.sig.returnType = (some .int)) (hlocks : meth.locks = false) (a0 : Int32) (a1 : Int32) {out : Int32 × Mm} (k : Mm → Option (Int32 × Mm)) (hk : ∀ (u : Mm), k u  = some out → yG p l e ({ frames := 1, cells := 0, slots := 0, locals := 21 } : Room) s m args below meth c YX w 3 (MQ below (yQ YX w yfi out) args s 0 0 (yA YX w)) u 33 [(0, .int a0)] []) : ∀ (n : Nat) (u : Mm) (a2 : Int32), f_X_reduced_L6 F a0 a1 k n u a2 = some out → yG p l e ({ frames := 1, cells := 0, slots := 0, locals := 21 } : Room) s m args below meth c YX w 3 (MQ below (yQ YX w yfi out) args s 0 0 (yA YX w)) u 6 [(0, .int a0), (1, .int a1), (2, .int a2)] [] := by
  intro n
  induction n with
  | zero => intro u a2 h; rw [f_X_reduced_L6] at h; cases h
  | succ n ih =>
    intro u a2 h
    rw [f_X_reduced_L6] at h
    refine y_iload_n C (i := 2) 2 d_X_reduced_6 rfl rfl ?_
    refine y_iconst C (v := 1) d_X_reduced_7 (by decide) ?_
    refine y_ic_le C 33 d_X_reduced_8 (by decide) h (fun k2 h => ?_) (fun k2 h => ?_)
    · exact y_sub [0] rfl (hk _ h)
    · refine y_iload_n C (i := 0) 0 d_X_reduced_11 rfl rfl ?_
      refine y_iload_n C (i := 2) 2 d_X_reduced_12 rfl rfl ?_
      refine y_irem C d_X_reduced_13 h (fun x3 h => ?_)
      refine y_if_ne C 27 d_X_reduced_14 (by decide) h (fun k4 h => ?_) (fun k4 h => ?_)
      · refine y_iload_n C (i := 1) 1 d_X_reduced_17 rfl rfl ?_
        refine y_iload_n C (i := 2) 2 d_X_reduced_18 rfl rfl ?_
        refine y_irem C d_X_reduced_19 h (fun x5 h => ?_)
        refine y_if_ne C 27 d_X_reduced_20 (by decide) h (fun k6 h => ?_) (fun k6 h => ?_)
        · refine y_iload_n C (i := 0) 0 d_X_reduced_23 rfl rfl ?_
          refine y_iload_n C (i := 2) 2 d_X_reduced_24 rfl rfl ?_
          refine y_idiv C d_X_reduced_25 h (fun x7 h => ?_)
          exact y_iret C hr hlocks d_X_reduced_26 h
        · refine y_iinc C (j := 2) (v := -1) (lvp := [(0, .int a0), (1, .int a1)]) d_X_reduced_27 rfl (by decide) (by decide) rfl h (fun x8 h => ?_)
          refine y_goto C (tgt := 6) d_X_reduced_30 (by decide) ?_
          exact y_sub [1, 2, 0] rfl (ih _ _ h)
      · refine y_iinc C (j := 2) (v := -1) (lvp := [(0, .int a0), (1, .int a1)]) d_X_reduced_27 rfl (by decide) (by decide) rfl h (fun x9 h => ?_)
        refine y_goto C (tgt := 6) d_X_reduced_30 (by decide) ?_
        exact y_sub [1, 2, 0] rfl (ih _ _ h)
set_option maxRecDepth 100000 in
def f_X_reduced (F : Nat) (u : Mm) (a0 : Int32) (a1 : Int32) : Option (Int32 × Mm) := ob (some (if a0 < a1 then a1 else a0)) fun (x1 : Int32) => f_X_reduced_L6 F a0 a1 (fun (u10 : Mm) => some (a0, u10)) F u x1
set_option maxHeartbeats 4000000 in
set_option maxRecDepth 100000 in
theorem c_X_reduced (l : Launch) (w : WP) (F : Nat) (u : Mm) (a0 : Int32) (a1 : Int32) (out : Int32 × Mm) (h : f_X_reduced F u a0 a1 = some out) : yMet l m_X_reduced ws_X_reduced ({ frames := 1, cells := 0, slots := 0, locals := 21 } : Room) YX w u [.int a0, .int a1] yfi out := by
  refine y_entry (own := "WhoseGlass") (lv := [(0, .int a0), (1, .int a1)]) (by decide +kernel) rfl (by simp [lv_args, y_cat, y_catI, y_catJ]) (by simp [lg_sl, y_cat, y_catI, y_catJ]) ?_
  intro p e s m args below meth c C hr hlocks
  unfold f_X_reduced at h
  refine y_iload_n C (i := 0) 0 d_X_reduced_0 rfl rfl ?_
  refine y_iload_n C (i := 1) 1 d_X_reduced_1 rfl rfl ?_
  refine y_mmax C g_460 g_461 g_8 g_462 (Nat.le_of_ble_eq_true rfl) (by simp [y_cat, y_catI, y_catJ]) d_X_reduced_2 ?_
  refine y_istore_nB C (i := 2) (lvp := [(0, .int a0), (1, .int a1)]) d_X_reduced_5 rfl (by decide) rfl h (fun x1 h => ?_)
  refine y_sub [1, 2, 0] rfl (w_X_reduced_L6 F C hr hlocks _ _ _ (fun u10 h => ?_) _ _ _ h)
  refine y_iload_n C (i := 0) 0 d_X_reduced_33 rfl rfl ?_
  exact y_iret C hr hlocks d_X_reduced_34 h
end
section
/-! X_likely -/
theorem d_X_likely_0 : decode prog_1_method_15_code 0 = .ok (.aload_n 0, 1) := by decide +kernel
theorem d_X_likely_1 : decode prog_1_method_15_code 1 = .ok (.getfield 10, 3) := by decide +kernel
theorem d_X_likely_4 : decode prog_1_method_15_code 4 = .ok (.iload_n 1, 1) := by decide +kernel
theorem d_X_likely_5 : decode prog_1_method_15_code 5 = .ok (.invokevirtual 71, 3) := by decide +kernel
theorem d_X_likely_8 : decode prog_1_method_15_code 8 = .ok (.astore 4, 2) := by decide +kernel
theorem d_X_likely_10 : decode prog_1_method_15_code 10 = .ok (.aload_n 0, 1) := by decide +kernel
theorem d_X_likely_11 : decode prog_1_method_15_code 11 = .ok (.getfield 10, 3) := by decide +kernel
theorem d_X_likely_14 : decode prog_1_method_15_code 14 = .ok (.iload_n 2, 1) := by decide +kernel
theorem d_X_likely_15 : decode prog_1_method_15_code 15 = .ok (.invokevirtual 61, 3) := by decide +kernel
theorem d_X_likely_18 : decode prog_1_method_15_code 18 = .ok (.astore 5, 2) := by decide +kernel
theorem d_X_likely_20 : decode prog_1_method_15_code 20 = .ok (.aload 4, 2) := by decide +kernel
theorem d_X_likely_22 : decode prog_1_method_15_code 22 = .ok (.ifnull 16, 3) := by decide +kernel
theorem d_X_likely_25 : decode prog_1_method_15_code 25 = .ok (.aload 5, 2) := by decide +kernel
theorem d_X_likely_27 : decode prog_1_method_15_code 27 = .ok (.ifnull 11, 3) := by decide +kernel
theorem d_X_likely_30 : decode prog_1_method_15_code 30 = .ok (.iload_n 3, 1) := by decide +kernel
theorem d_X_likely_31 : decode prog_1_method_15_code 31 = .ok (.iconst 2, 1) := by decide +kernel
theorem d_X_likely_32 : decode prog_1_method_15_code 32 = .ok (.invokestatic 78, 3) := by decide +kernel
theorem d_X_likely_35 : decode prog_1_method_15_code 35 = .ok (.ifCond .ne 5, 3) := by decide +kernel
theorem d_X_likely_38 : decode prog_1_method_15_code 38 = .ok (.iconst (-1), 1) := by decide +kernel
theorem d_X_likely_39 : decode prog_1_method_15_code 39 = .ok (.ireturn, 1) := by decide +kernel
theorem d_X_likely_40 : decode prog_1_method_15_code 40 = .ok (.aload_n 0, 1) := by decide +kernel
theorem d_X_likely_41 : decode prog_1_method_15_code 41 = .ok (.getfield 10, 3) := by decide +kernel
theorem d_X_likely_44 : decode prog_1_method_15_code 44 = .ok (.aload 4, 2) := by decide +kernel
theorem d_X_likely_46 : decode prog_1_method_15_code 46 = .ok (.getfield 145, 3) := by decide +kernel
theorem d_X_likely_49 : decode prog_1_method_15_code 49 = .ok (.invokevirtual 61, 3) := by decide +kernel
theorem d_X_likely_52 : decode prog_1_method_15_code 52 = .ok (.astore 6, 2) := by decide +kernel
theorem d_X_likely_54 : decode prog_1_method_15_code 54 = .ok (.aload 6, 2) := by decide +kernel
theorem d_X_likely_56 : decode prog_1_method_15_code 56 = .ok (.ifnull 16, 3) := by decide +kernel
theorem d_X_likely_59 : decode prog_1_method_15_code 59 = .ok (.aload 5, 2) := by decide +kernel
theorem d_X_likely_61 : decode prog_1_method_15_code 61 = .ok (.getfield 126, 3) := by decide +kernel
theorem d_X_likely_64 : decode prog_1_method_15_code 64 = .ok (.aload 4, 2) := by decide +kernel
theorem d_X_likely_66 : decode prog_1_method_15_code 66 = .ok (.getfield 102, 3) := by decide +kernel
theorem d_X_likely_69 : decode prog_1_method_15_code 69 = .ok (.if_icmp .eq 6, 3) := by decide +kernel
theorem d_X_likely_72 : decode prog_1_method_15_code 72 = .ok (.bipush (-3), 2) := by decide +kernel
theorem d_X_likely_74 : decode prog_1_method_15_code 74 = .ok (.ireturn, 1) := by decide +kernel
theorem d_X_likely_75 : decode prog_1_method_15_code 75 = .ok (.aload 6, 2) := by decide +kernel
theorem d_X_likely_77 : decode prog_1_method_15_code 77 = .ok (.aload 5, 2) := by decide +kernel
theorem d_X_likely_79 : decode prog_1_method_15_code 79 = .ok (.invokevirtual 139, 3) := by decide +kernel
theorem d_X_likely_82 : decode prog_1_method_15_code 82 = .ok (.istore 7, 2) := by decide +kernel
theorem d_X_likely_84 : decode prog_1_method_15_code 84 = .ok (.aload_n 0, 1) := by decide +kernel
theorem d_X_likely_85 : decode prog_1_method_15_code 85 = .ok (.getfield 10, 3) := by decide +kernel
theorem d_X_likely_88 : decode prog_1_method_15_code 88 = .ok (.aload 6, 2) := by decide +kernel
theorem d_X_likely_90 : decode prog_1_method_15_code 90 = .ok (.aload 4, 2) := by decide +kernel
theorem d_X_likely_92 : decode prog_1_method_15_code 92 = .ok (.getfield 102, 3) := by decide +kernel
theorem d_X_likely_95 : decode prog_1_method_15_code 95 = .ok (.invokevirtual 148, 3) := by decide +kernel
theorem d_X_likely_98 : decode prog_1_method_15_code 98 = .ok (.istore 8, 2) := by decide +kernel
theorem d_X_likely_100 : decode prog_1_method_15_code 100 = .ok (.iload 8, 2) := by decide +kernel
theorem d_X_likely_102 : decode prog_1_method_15_code 102 = .ok (.ifCond .ne 5, 3) := by decide +kernel
theorem d_X_likely_105 : decode prog_1_method_15_code 105 = .ok (.iload_n 3, 1) := by decide +kernel
theorem d_X_likely_106 : decode prog_1_method_15_code 106 = .ok (.ireturn, 1) := by decide +kernel
theorem d_X_likely_107 : decode prog_1_method_15_code 107 = .ok (.iload_n 3, 1) := by decide +kernel
theorem d_X_likely_108 : decode prog_1_method_15_code 108 = .ok (.ifCond .ne 13, 3) := by decide +kernel
theorem d_X_likely_111 : decode prog_1_method_15_code 111 = .ok (.iload 7, 2) := by decide +kernel
theorem d_X_likely_113 : decode prog_1_method_15_code 113 = .ok (.iload 8, 2) := by decide +kernel
theorem d_X_likely_115 : decode prog_1_method_15_code 115 = .ok (.invokestatic 152, 3) := by decide +kernel
theorem d_X_likely_118 : decode prog_1_method_15_code 118 = .ok (.goto 10, 3) := by decide +kernel
theorem d_X_likely_121 : decode prog_1_method_15_code 121 = .ok (.iload 8, 2) := by decide +kernel
theorem d_X_likely_123 : decode prog_1_method_15_code 123 = .ok (.iload 7, 2) := by decide +kernel
theorem d_X_likely_125 : decode prog_1_method_15_code 125 = .ok (.invokestatic 152, 3) := by decide +kernel
theorem d_X_likely_128 : decode prog_1_method_15_code 128 = .ok (.ireturn, 1) := by decide +kernel
theorem gc_X_likely_71 : GoodIn yGW (wsV "WhoseGlass" 71 yR2 m_H_guestAt ws_H_guestAt) := y_gV g_391 g_268 g_269 g_2 g_270
theorem gc_X_likely_61 : GoodIn yGW (wsV "WhoseGlass" 61 yR2 m_H_glassAt ws_H_glassAt) := y_gV g_381 g_260 g_261 g_2 g_262
theorem gc_X_likely_139 : GoodIn yGW (wsV "WhoseGlass" 139 yR0 m_G_likeTo ws_G_likeTo) := y_gV g_443 g_302 g_303 g_3 g_304
theorem gc_X_likely_148 : GoodIn yGW (wsV "WhoseGlass" 148 yR2 m_H_likeToAllAt ws_H_likeToAllAt) := y_gV g_453 g_454 g_455 g_2 g_456
set_option maxRecDepth 100000 in
def f_X_likely (F : Nat) (u : Mm) (o : Nat) (a1 : Int32) (a2 : Int32) (a3 : Int32) : Option (Int32 × Mm) := ob (jgr YX 4 0 (some o)) fun (r1 : Option Nat) => ob (jk YX 2 r1) fun t => yb (f_H_guestAt F u t a1) fun r2 u3 => ob (jgr YX 4 0 (some o)) fun (r4 : Option Nat) => ob (jk YX 2 r4) fun t => yb (f_H_glassAt F u3 t a2) fun r5 u6 => (if r2 = none then some ((-1 : Int32), u6) else (if r5 = none then some ((-1 : Int32), u6) else yb (f_X_isBelow F u6 a3 (2 : Int32)) fun x9 u10 => (if x9 = 0 then some ((-1 : Int32), u10) else ob (jgr YX 4 0 (some o)) fun (r12 : Option Nat) => ob (jgi YX 1 7 u10 r2) fun (x13 : Int32) => ob (jk YX 2 r12) fun t => yb (f_H_glassAt F u10 t x13) fun r14 u15 => (if r14 = none then some ((-3 : Int32), u15) else ob (jgi YX 0 4 u15 r5) fun (x17 : Int32) => ob (jgi YX 1 5 u15 r2) fun (x18 : Int32) => (if x17 = x18 then ob (jk YX 0 r14) fun t => yb (f_G_likeTo F u15 t r5) fun x20 u21 => ob (jgr YX 4 0 (some o)) fun (r22 : Option Nat) => ob (jgi YX 1 5 u21 r2) fun (x23 : Int32) => ob (jk YX 2 r22) fun t => yb (f_H_likeToAllAt F u21 t r14 x23) fun x24 u25 => (if x24 = 0 then some (a3, u25) else (if a3 = 0 then yb (f_X_reduced F u25 x20 x24) fun x28 u29 => some (x28, u29) else yb (f_X_reduced F u25 x24 x20) fun x30 u31 => some (x30, u31))) else some ((-3 : Int32), u15))))))
set_option maxHeartbeats 4000000 in
set_option maxRecDepth 100000 in
theorem c_X_likely (l : Launch) (w : WP) (F : Nat) (u : Mm) (o : Nat) (a1 : Int32) (a2 : Int32) (a3 : Int32) (out : Int32 × Mm) (h : f_X_likely F u o a1 a2 a3 = some out) : yMet l m_X_likely ws_X_likely ({ frames := 2, cells := 0, slots := 0, locals := 53 } : Room) YX w u [va_re w.1 (some o), .int a1, .int a2, .int a3] yfi out := by
  refine y_entry (own := "WhoseGlass") (lv := [(0, va_re w.1 (some o)), (1, .int a1), (2, .int a2), (3, .int a3)]) (by decide +kernel) rfl (by simp [lv_args, y_cat, y_catI, y_catJ]) (by simp [lg_sl, y_cat, y_catI, y_catJ]) ?_
  intro p e s m args below meth c C hr hlocks
  unfold f_X_likely at h
  refine y_aload_n C (i := 0) 0 d_X_likely_0 rfl rfl ?_
  refine y_gr C (q := (yR4, yT4, 5)) (ci := 4) (k := 0) rfl (by decide) rfl (by decide) g_202 d_X_likely_1 h (fun r1 h => ?_)
  refine y_iload_n C (i := 1) 1 d_X_likely_4 rfl rfl ?_
  refine y_callV 1 C (q := (yR2, yT2, 9)) (ci := 2) (fun t out hh => c_H_guestAt l w F u t a1 out hh) gc_X_likely_71 rfl (by decide) hd_H_guestAt ⟨Nat.le_of_ble_eq_true rfl, Nat.le_of_ble_eq_true rfl⟩ rfl rfl rfl rfl (by simp [y_cat, y_catI, y_catJ]) d_X_likely_5 h (fun r2 u3 h => ?_)
  refine y_stk (stp0 := [va_re w.1 r2]) rfl ?_
  refine y_astore C (i := 4) (lvp := [(0, va_re w.1 (some o)), (1, .int a1), (2, .int a2), (3, .int a3)]) d_X_likely_8 (by decide) (by simp [List.filter, y_cat, y_catI, y_catJ]) ?_
  refine y_aload_n C (i := 0) 1 d_X_likely_10 rfl rfl ?_
  refine y_gr C (q := (yR4, yT4, 5)) (ci := 4) (k := 0) rfl (by decide) rfl (by decide) g_202 d_X_likely_11 h (fun r4 h => ?_)
  refine y_iload_n C (i := 2) 3 d_X_likely_14 rfl rfl ?_
  refine y_callV 1 C (q := (yR2, yT2, 9)) (ci := 2) (fun t out hh => c_H_glassAt l w F u3 t a2 out hh) gc_X_likely_61 rfl (by decide) hd_H_glassAt ⟨Nat.le_of_ble_eq_true rfl, Nat.le_of_ble_eq_true rfl⟩ rfl rfl rfl rfl (by simp [y_cat, y_catI, y_catJ]) d_X_likely_15 h (fun r5 u6 h => ?_)
  refine y_stk (stp0 := [va_re w.1 r5]) rfl ?_
  refine y_astore C (i := 5) (lvp := [(4, va_re w.1 r2), (0, va_re w.1 (some o)), (1, .int a1), (2, .int a2), (3, .int a3)]) d_X_likely_18 (by decide) (by simp [List.filter, y_cat, y_catI, y_catJ]) ?_
  refine y_aload C (i := 4) 1 d_X_likely_20 rfl ?_
  refine y_ifnull C 38 d_X_likely_22 (by decide) h (fun k7 h => ?_) (fun k7 h => ?_)
  · refine y_iconst C (v := -1) d_X_likely_38 (by decide) ?_
    exact y_iret C hr hlocks d_X_likely_39 h
  · refine y_aload C (i := 5) 0 d_X_likely_25 rfl ?_
    refine y_ifnull C 38 d_X_likely_27 (by decide) h (fun k8 h => ?_) (fun k8 h => ?_)
    · refine y_iconst C (v := -1) d_X_likely_38 (by decide) ?_
      exact y_iret C hr hlocks d_X_likely_39 h
    · refine y_iload_n C (i := 3) 5 d_X_likely_30 rfl rfl ?_
      refine y_iconst C (v := 2) d_X_likely_31 (by decide) ?_
      refine y_callS 2 C (fun out hh => c_X_isBelow l w F u6 a3 (2 : Int32) out hh) (y_gc g_344) g_400 g_1 g_343 hn_X_isBelow ⟨Nat.le_of_ble_eq_true rfl, Nat.le_of_ble_eq_true rfl⟩ rfl rfl rfl rfl (by simp [y_cat, y_catI, y_catJ]) d_X_likely_32 h (fun x9 u10 h => ?_)
      refine y_stk (stp0 := [.int x9]) rfl ?_
      refine y_if_ne C 40 d_X_likely_35 (by decide) h (fun k11 h => ?_) (fun k11 h => ?_)
      · refine y_iconst C (v := -1) d_X_likely_38 (by decide) ?_
        exact y_iret C hr hlocks d_X_likely_39 h
      · refine y_aload_n C (i := 0) 2 d_X_likely_40 rfl rfl ?_
        refine y_gr C (q := (yR4, yT4, 5)) (ci := 4) (k := 0) rfl (by decide) rfl (by decide) g_202 d_X_likely_41 h (fun r12 h => ?_)
        refine y_aload C (i := 4) 1 d_X_likely_44 rfl ?_
        refine y_gi C (q := (yR1, yT1, 10)) (ci := 1) (k := 7) rfl (by decide) rfl g_103 d_X_likely_46 h (fun x13 h => ?_)
        refine y_callV 1 C (q := (yR2, yT2, 9)) (ci := 2) (fun t out hh => c_H_glassAt l w F u10 t x13 out hh) gc_X_likely_61 rfl (by decide) hd_H_glassAt ⟨Nat.le_of_ble_eq_true rfl, Nat.le_of_ble_eq_true rfl⟩ rfl rfl rfl rfl (by simp [y_cat, y_catI, y_catJ]) d_X_likely_49 h (fun r14 u15 h => ?_)
        refine y_stk (stp0 := [va_re w.1 r14]) rfl ?_
        refine y_astore C (i := 6) (lvp := [(5, va_re w.1 r5), (4, va_re w.1 r2), (0, va_re w.1 (some o)), (1, .int a1), (2, .int a2), (3, .int a3)]) d_X_likely_52 (by decide) (by simp [List.filter, y_cat, y_catI, y_catJ]) ?_
        refine y_aload C (i := 6) 0 d_X_likely_54 rfl ?_
        refine y_ifnull C 72 d_X_likely_56 (by decide) h (fun k16 h => ?_) (fun k16 h => ?_)
        · refine y_bipush C (v := -3) d_X_likely_72 (by decide) ?_
          exact y_iret C hr hlocks d_X_likely_74 h
        · refine y_aload C (i := 5) 1 d_X_likely_59 rfl ?_
          refine y_gi C (q := (yR0, yT0, 8)) (ci := 0) (k := 4) rfl (by decide) rfl g_52 d_X_likely_61 h (fun x17 h => ?_)
          refine y_aload C (i := 4) 2 d_X_likely_64 rfl ?_
          refine y_gi C (q := (yR1, yT1, 10)) (ci := 1) (k := 5) rfl (by decide) rfl g_95 d_X_likely_66 h (fun x18 h => ?_)
          refine y_ic_eq C 75 d_X_likely_69 (by decide) h (fun k19 h => ?_) (fun k19 h => ?_)
          · refine y_aload C (i := 6) 0 d_X_likely_75 rfl ?_
            refine y_aload C (i := 5) 1 d_X_likely_77 rfl ?_
            refine y_callV 1 C (q := (yR0, yT0, 8)) (ci := 0) (fun t out hh => c_G_likeTo l w F u15 t r5 out hh) gc_X_likely_139 rfl (by decide) hd_G_likeTo ⟨Nat.le_of_ble_eq_true rfl, Nat.le_of_ble_eq_true rfl⟩ rfl rfl rfl rfl (by simp [y_cat, y_catI, y_catJ]) d_X_likely_79 h (fun x20 u21 h => ?_)
            refine y_stk (stp0 := [.int x20]) rfl ?_
            refine y_istore C (i := 7) (lvp := [(6, va_re w.1 r14), (5, va_re w.1 r5), (4, va_re w.1 r2), (0, va_re w.1 (some o)), (1, .int a1), (2, .int a2), (3, .int a3)]) d_X_likely_82 (by decide) (by simp [List.filter, y_cat, y_catI, y_catJ]) ?_
            refine y_aload_n C (i := 0) 4 d_X_likely_84 rfl rfl ?_
            refine y_gr C (q := (yR4, yT4, 5)) (ci := 4) (k := 0) rfl (by decide) rfl (by decide) g_202 d_X_likely_85 h (fun r22 h => ?_)
            refine y_aload C (i := 6) 1 d_X_likely_88 rfl ?_
            refine y_aload C (i := 4) 3 d_X_likely_90 rfl ?_
            refine y_gi C (q := (yR1, yT1, 10)) (ci := 1) (k := 5) rfl (by decide) rfl g_95 d_X_likely_92 h (fun x23 h => ?_)
            refine y_callV 2 C (q := (yR2, yT2, 9)) (ci := 2) (fun t out hh => c_H_likeToAllAt l w F u21 t r14 x23 out hh) gc_X_likely_148 rfl (by decide) hd_H_likeToAllAt ⟨Nat.le_of_ble_eq_true rfl, Nat.le_of_ble_eq_true rfl⟩ rfl rfl rfl rfl (by simp [y_cat, y_catI, y_catJ]) d_X_likely_95 h (fun x24 u25 h => ?_)
            refine y_stk (stp0 := [.int x24]) rfl ?_
            refine y_istore C (i := 8) (lvp := [(7, .int x20), (6, va_re w.1 r14), (5, va_re w.1 r5), (4, va_re w.1 r2), (0, va_re w.1 (some o)), (1, .int a1), (2, .int a2), (3, .int a3)]) d_X_likely_98 (by decide) rfl ?_
            refine y_iload C (i := 8) 0 d_X_likely_100 rfl ?_
            refine y_if_ne C 107 d_X_likely_102 (by decide) h (fun k26 h => ?_) (fun k26 h => ?_)
            · refine y_iload_n C (i := 3) 8 d_X_likely_105 rfl rfl ?_
              exact y_iret C hr hlocks d_X_likely_106 h
            · refine y_iload_n C (i := 3) 8 d_X_likely_107 rfl rfl ?_
              refine y_if_ne C 121 d_X_likely_108 (by decide) h (fun k27 h => ?_) (fun k27 h => ?_)
              · refine y_iload C (i := 7) 1 d_X_likely_111 rfl ?_
                refine y_iload C (i := 8) 0 d_X_likely_113 rfl ?_
                refine y_callS 2 C (fun out hh => c_X_reduced l w F u25 x20 x24 out hh) (y_gc g_459) g_457 g_1 g_458 hn_X_reduced ⟨Nat.le_of_ble_eq_true rfl, Nat.le_of_ble_eq_true rfl⟩ rfl rfl rfl rfl (by simp [y_cat, y_catI, y_catJ]) d_X_likely_115 h (fun x28 u29 h => ?_)
                refine y_stk (stp0 := [.int x28]) rfl ?_
                refine y_goto C (tgt := 128) d_X_likely_118 (by decide) ?_
                exact y_iret C hr hlocks d_X_likely_128 h
              · refine y_iload C (i := 8) 0 d_X_likely_121 rfl ?_
                refine y_iload C (i := 7) 1 d_X_likely_123 rfl ?_
                refine y_callS 2 C (fun out hh => c_X_reduced l w F u25 x24 x20 out hh) (y_gc g_459) g_457 g_1 g_458 hn_X_reduced ⟨Nat.le_of_ble_eq_true rfl, Nat.le_of_ble_eq_true rfl⟩ rfl rfl rfl rfl (by simp [y_cat, y_catI, y_catJ]) d_X_likely_125 h (fun x30 u31 h => ?_)
                refine y_stk (stp0 := [.int x30]) rfl ?_
                exact y_iret C hr hlocks d_X_likely_128 h
          · refine y_bipush C (v := -3) d_X_likely_72 (by decide) ?_
            exact y_iret C hr hlocks d_X_likely_74 h
/-! H_isOwned -/
theorem d_H_isOwned_0 : decode prog_4_method_15_code 0 = .ok (.iconst 0, 1) := by decide +kernel
theorem d_H_isOwned_1 : decode prog_4_method_15_code 1 = .ok (.istore_n 2, 1) := by decide +kernel
theorem d_H_isOwned_2 : decode prog_4_method_15_code 2 = .ok (.iload_n 2, 1) := by decide +kernel
theorem d_H_isOwned_3 : decode prog_4_method_15_code 3 = .ok (.aload_n 0, 1) := by decide +kernel
theorem d_H_isOwned_4 : decode prog_4_method_15_code 4 = .ok (.getfield 37, 3) := by decide +kernel
theorem d_H_isOwned_7 : decode prog_4_method_15_code 7 = .ok (.if_icmp .ge 29, 3) := by decide +kernel
theorem d_H_isOwned_10 : decode prog_4_method_15_code 10 = .ok (.aload_n 0, 1) := by decide +kernel
theorem d_H_isOwned_11 : decode prog_4_method_15_code 11 = .ok (.iload_n 2, 1) := by decide +kernel
theorem d_H_isOwned_12 : decode prog_4_method_15_code 12 = .ok (.invokevirtual 57, 3) := by decide +kernel
theorem d_H_isOwned_15 : decode prog_4_method_15_code 15 = .ok (.astore_n 3, 1) := by decide +kernel
theorem d_H_isOwned_16 : decode prog_4_method_15_code 16 = .ok (.aload_n 3, 1) := by decide +kernel
theorem d_H_isOwned_17 : decode prog_4_method_15_code 17 = .ok (.ifnull 13, 3) := by decide +kernel
theorem d_H_isOwned_20 : decode prog_4_method_15_code 20 = .ok (.aload_n 3, 1) := by decide +kernel
theorem d_H_isOwned_21 : decode prog_4_method_15_code 21 = .ok (.getfield 122, 3) := by decide +kernel
theorem d_H_isOwned_24 : decode prog_4_method_15_code 24 = .ok (.iload_n 1, 1) := by decide +kernel
theorem d_H_isOwned_25 : decode prog_4_method_15_code 25 = .ok (.if_icmp .ne 5, 3) := by decide +kernel
theorem d_H_isOwned_28 : decode prog_4_method_15_code 28 = .ok (.iconst 1, 1) := by decide +kernel
theorem d_H_isOwned_29 : decode prog_4_method_15_code 29 = .ok (.ireturn, 1) := by decide +kernel
theorem d_H_isOwned_30 : decode prog_4_method_15_code 30 = .ok (.iinc 2 1, 3) := by decide +kernel
theorem d_H_isOwned_33 : decode prog_4_method_15_code 33 = .ok (.goto (-31), 3) := by decide +kernel
theorem d_H_isOwned_36 : decode prog_4_method_15_code 36 = .ok (.iconst 0, 1) := by decide +kernel
theorem d_H_isOwned_37 : decode prog_4_method_15_code 37 = .ok (.ireturn, 1) := by decide +kernel
theorem gc_H_isOwned_57 : GoodIn yGW (wsV "WhoseGlass$House" 57 yR2 m_H_guestAt ws_H_guestAt) := y_gV g_267 g_268 g_269 g_2 g_270
set_option maxHeartbeats 4000000 in
set_option maxRecDepth 100000 in
def f_H_isOwned_L2 (F : Nat) (a0 : Option Nat) (a1 : Int32) (k : Mm → Option (Int32 × Mm)) : Nat → Mm → Int32 → Option (Int32 × Mm)
  | 0, _, _ => none
  | n + 1, u, a2 => ob (jgi YX 2 3 u a0) fun (x1 : Int32) => (if x1 ≤ a2 then k u  else ob (jk YX 2 a0) fun t => yb (f_H_guestAt F u t a2) fun r3 u4 => (if r3 = none then ob (some (a2 + (1 : Int32))) fun (x6 : Int32) => f_H_isOwned_L2 F a0 a1 k n u4 x6 else ob (jgi YX 1 7 u4 r3) fun (x7 : Int32) => (if x7 = a1 then ob (jz (1 : Int32)) (fun v => some (v, u4)) else ob (some (a2 + (1 : Int32))) fun (x9 : Int32) => f_H_isOwned_L2 F a0 a1 k n u4 x9)))
set_option maxHeartbeats 4000000 in
set_option maxRecDepth 100000 in
theorem w_H_isOwned_L2 {p : Program} {l : Launch} {e : Env} {s : State} {m : MethodId} {args : Array Value} {below : List Frame} {meth : Method} {c : Code} {w : WP} (F : Nat) (C : yX p e ({ frames := 1, cells := 0, slots := 0, locals := 21 } : Room) s m args c YX w 4 prog_4_method_15_code "WhoseGlass$House") (hr : meth.sig.returnType = (some .boolean)) (hlocks : meth.locks = false) (a0 : Option Nat) (a1 : Int32) {out : Int32 × Mm} (k : Mm → Option (Int32 × Mm)) (hk : ∀ (u : Mm), k u  = some out → yG p l e ({ frames := 1, cells := 0, slots := 0, locals := 21 } : Room) s m args below meth c YX w 4 (MQ below (yQ YX w yfi out) args s 0 0 (yA YX w)) u 36 [] []) : ∀ (n : Nat) (u : Mm) (a2 : Int32), f_H_isOwned_L2 F a0 a1 k n u a2 = some out → yG p l e ({ frames := 1, cells := 0, slots := 0, locals := 21 } : Room) s m args below meth c YX w 4 (MQ below (yQ YX w yfi out) args s 0 0 (yA YX w)) u 2 [(0, va_re w.1 a0), (1, .int a1), (2, .int a2)] [] := by
  intro n
  induction n with
  | zero => intro u a2 h; rw [f_H_isOwned_L2] at h; cases h
  | succ n ih =>
    intro u a2 h
    rw [f_H_isOwned_L2] at h
    refine y_iload_n C (i := 2) 2 d_H_isOwned_2 rfl rfl ?_
    refine y_aload_n C (i := 0) 0 d_H_isOwned_3 rfl rfl ?_
    refine y_gi C (q := (yR2, yT2, 9)) (ci := 2) (k := 3) rfl (by decide) rfl g_135 d_H_isOwned_4 h (fun x1 h => ?_)
    refine y_ic_ge C 36 d_H_isOwned_7 (by decide) h (fun k2 h => ?_) (fun k2 h => ?_)
    · exact y_sub [] rfl (hk _ h)
    · refine y_aload_n C (i := 0) 0 d_H_isOwned_10 rfl rfl ?_
      refine y_iload_n C (i := 2) 2 d_H_isOwned_11 rfl rfl ?_
      refine y_callV 1 C (q := (yR2, yT2, 9)) (ci := 2) (fun t out hh => c_H_guestAt l w F u t a2 out hh) gc_H_isOwned_57 rfl (by decide) hd_H_guestAt ⟨Nat.le_of_ble_eq_true rfl, Nat.le_of_ble_eq_true rfl⟩ rfl rfl rfl rfl (by simp [y_cat, y_catI, y_catJ]) d_H_isOwned_12 h (fun r3 u4 h => ?_)
      refine y_stk (stp0 := [va_re w.1 r3]) rfl ?_
      refine y_astore_n C (i := 3) (lvp := [(0, va_re w.1 a0), (1, .int a1), (2, .int a2)]) d_H_isOwned_15 rfl (by decide) (by simp [List.filter, y_cat, y_catI, y_catJ]) ?_
      refine y_aload_n C (i := 3) 0 d_H_isOwned_16 rfl rfl ?_
      refine y_ifnull C 30 d_H_isOwned_17 (by decide) h (fun k5 h => ?_) (fun k5 h => ?_)
      · refine y_iinc C (j := 3) (v := 1) (lvp := [(3, va_re w.1 r3), (0, va_re w.1 a0), (1, .int a1)]) d_H_isOwned_30 rfl (by decide) (by decide) rfl h (fun x6 h => ?_)
        refine y_goto C (tgt := 2) d_H_isOwned_33 (by decide) ?_
        exact y_sub [2, 3, 0] rfl (ih _ _ h)
      · refine y_aload_n C (i := 3) 0 d_H_isOwned_20 rfl rfl ?_
        refine y_gi C (q := (yR1, yT1, 10)) (ci := 1) (k := 7) rfl (by decide) rfl g_102 d_H_isOwned_21 h (fun x7 h => ?_)
        refine y_iload_n C (i := 1) 2 d_H_isOwned_24 rfl rfl ?_
        refine y_ic_ne C 30 d_H_isOwned_25 (by decide) h (fun k8 h => ?_) (fun k8 h => ?_)
        · refine y_iconst C (v := 1) d_H_isOwned_28 (by decide) ?_
          exact y_zret C hr hlocks d_H_isOwned_29 h
        · refine y_iinc C (j := 3) (v := 1) (lvp := [(3, va_re w.1 r3), (0, va_re w.1 a0), (1, .int a1)]) d_H_isOwned_30 rfl (by decide) (by decide) rfl h (fun x9 h => ?_)
          refine y_goto C (tgt := 2) d_H_isOwned_33 (by decide) ?_
          exact y_sub [2, 3, 0] rfl (ih _ _ h)
set_option maxRecDepth 100000 in
def f_H_isOwned (F : Nat) (u : Mm) (o : Nat) (a1 : Int32) : Option (Int32 × Mm) := f_H_isOwned_L2 F (some o) a1 (fun (u10 : Mm) => ob (jz (0 : Int32)) (fun v => some (v, u10))) F u (0 : Int32)
set_option maxHeartbeats 4000000 in
set_option maxRecDepth 100000 in
theorem c_H_isOwned (l : Launch) (w : WP) (F : Nat) (u : Mm) (o : Nat) (a1 : Int32) (out : Int32 × Mm) (h : f_H_isOwned F u o a1 = some out) : yMet l m_H_isOwned ws_H_isOwned ({ frames := 1, cells := 0, slots := 0, locals := 21 } : Room) YX w u [va_re w.1 (some o), .int a1] yfi out := by
  refine y_entry (own := "WhoseGlass$House") (lv := [(0, va_re w.1 (some o)), (1, .int a1)]) (by decide +kernel) rfl (by simp [lv_args, y_cat, y_catI, y_catJ]) (by simp [lg_sl, y_cat, y_catI, y_catJ]) ?_
  intro p e s m args below meth c C hr hlocks
  unfold f_H_isOwned at h
  refine y_iconst C (v := 0) d_H_isOwned_0 (by decide) ?_
  refine y_istore_n C (i := 2) (lvp := [(0, va_re w.1 (some o)), (1, .int a1)]) d_H_isOwned_1 rfl (by decide) rfl ?_
  refine y_sub [1, 2, 0] rfl (w_H_isOwned_L2 F C hr hlocks _ _ _ (fun u10 h => ?_) _ _ _ h)
  refine y_iconst C (v := 0) d_H_isOwned_36 (by decide) ?_
  exact y_zret C hr hlocks d_H_isOwned_37 h
/-! H_idleAt -/
theorem d_H_idleAt_0 : decode prog_4_method_14_code 0 = .ok (.iconst 0, 1) := by decide +kernel
theorem d_H_idleAt_1 : decode prog_4_method_14_code 1 = .ok (.istore_n 2, 1) := by decide +kernel
theorem d_H_idleAt_2 : decode prog_4_method_14_code 2 = .ok (.iconst 0, 1) := by decide +kernel
theorem d_H_idleAt_3 : decode prog_4_method_14_code 3 = .ok (.istore_n 3, 1) := by decide +kernel
theorem d_H_idleAt_4 : decode prog_4_method_14_code 4 = .ok (.iload_n 3, 1) := by decide +kernel
theorem d_H_idleAt_5 : decode prog_4_method_14_code 5 = .ok (.aload_n 0, 1) := by decide +kernel
theorem d_H_idleAt_6 : decode prog_4_method_14_code 6 = .ok (.getfield 34, 3) := by decide +kernel
theorem d_H_idleAt_9 : decode prog_4_method_14_code 9 = .ok (.if_icmp .ge 41, 3) := by decide +kernel
theorem d_H_idleAt_12 : decode prog_4_method_14_code 12 = .ok (.aload_n 0, 1) := by decide +kernel
theorem d_H_idleAt_13 : decode prog_4_method_14_code 13 = .ok (.iload_n 3, 1) := by decide +kernel
theorem d_H_idleAt_14 : decode prog_4_method_14_code 14 = .ok (.invokevirtual 49, 3) := by decide +kernel
theorem d_H_idleAt_17 : decode prog_4_method_14_code 17 = .ok (.astore 4, 2) := by decide +kernel
theorem d_H_idleAt_19 : decode prog_4_method_14_code 19 = .ok (.aload 4, 2) := by decide +kernel
theorem d_H_idleAt_21 : decode prog_4_method_14_code 21 = .ok (.ifnull 23, 3) := by decide +kernel
theorem d_H_idleAt_24 : decode prog_4_method_14_code 24 = .ok (.aload 4, 2) := by decide +kernel
theorem d_H_idleAt_26 : decode prog_4_method_14_code 26 = .ok (.getfield 132, 3) := by decide +kernel
theorem d_H_idleAt_29 : decode prog_4_method_14_code 29 = .ok (.iload_n 1, 1) := by decide +kernel
theorem d_H_idleAt_30 : decode prog_4_method_14_code 30 = .ok (.if_icmp .ne 14, 3) := by decide +kernel
theorem d_H_idleAt_33 : decode prog_4_method_14_code 33 = .ok (.aload_n 0, 1) := by decide +kernel
theorem d_H_idleAt_34 : decode prog_4_method_14_code 34 = .ok (.iload_n 3, 1) := by decide +kernel
theorem d_H_idleAt_35 : decode prog_4_method_14_code 35 = .ok (.invokevirtual 144, 3) := by decide +kernel
theorem d_H_idleAt_38 : decode prog_4_method_14_code 38 = .ok (.ifCond .ne 6, 3) := by decide +kernel
theorem d_H_idleAt_41 : decode prog_4_method_14_code 41 = .ok (.iinc 2 1, 3) := by decide +kernel
theorem d_H_idleAt_44 : decode prog_4_method_14_code 44 = .ok (.iinc 3 1, 3) := by decide +kernel
theorem d_H_idleAt_47 : decode prog_4_method_14_code 47 = .ok (.goto (-43), 3) := by decide +kernel
theorem d_H_idleAt_50 : decode prog_4_method_14_code 50 = .ok (.iload_n 2, 1) := by decide +kernel
theorem d_H_idleAt_51 : decode prog_4_method_14_code 51 = .ok (.ireturn, 1) := by decide +kernel
theorem gc_H_idleAt_49 : GoodIn yGW (wsV "WhoseGlass$House" 49 yR2 m_H_glassAt ws_H_glassAt) := y_gV g_259 g_260 g_261 g_2 g_262
theorem gc_H_idleAt_144 : GoodIn yGW (wsV "WhoseGlass$House" 144 yR2 m_H_isOwned ws_H_isOwned) := y_gV g_471 g_473 gs_3 g_2 g_474
set_option maxHeartbeats 4000000 in
set_option maxRecDepth 100000 in
def f_H_idleAt_L4 (F : Nat) (a0 : Option Nat) (a1 : Int32) (k : Mm → Int32 → Option (Int32 × Mm)) : Nat → Mm → Int32 → Int32 → Option (Int32 × Mm)
  | 0, _, _, _ => none
  | n + 1, u, a2, a3 => ob (jgi YX 2 2 u a0) fun (x1 : Int32) => (if x1 ≤ a3 then k u a2 else ob (jk YX 2 a0) fun t => yb (f_H_glassAt F u t a3) fun r3 u4 => ob ((if r3 = none then some (a2, u4) else ob (jgi YX 0 4 u4 r3) fun (x7 : Int32) => (if x7 = a1 then ob (jk YX 2 a0) fun t => yb (f_H_isOwned F u4 t a3) fun x9 u10 => (if x9 = 0 then ob (some (a2 + (1 : Int32))) fun (x12 : Int32) => some (x12, u10) else some (a2, u10)) else some (a2, u4))) : Option (Int32 × Mm)) fun q5 => ob (some (a3 + (1 : Int32))) fun (x13 : Int32) => f_H_idleAt_L4 F a0 a1 k n q5.2 q5.1 x13)
set_option maxHeartbeats 4000000 in
set_option maxRecDepth 100000 in
theorem w_H_idleAt_L4 {p : Program} {l : Launch} {e : Env} {s : State} {m : MethodId} {args : Array Value} {below : List Frame} {meth : Method} {c : Code} {w : WP} {Q : State → Prop} (F : Nat) (C : yX p e ({ frames := 2, cells := 0, slots := 0, locals := 44 } : Room) s m args c YX w 5 prog_4_method_14_code "WhoseGlass$House") (hr : meth.sig.returnType = (some .int)) (hlocks : meth.locks = false) (a0 : Option Nat) (a1 : Int32) {out : Int32 × Mm} (k : Mm → Int32 → Option (Int32 × Mm)) (hk : ∀ (u : Mm) (a2 : Int32), k u a2 = some out → yG p l e ({ frames := 2, cells := 0, slots := 0, locals := 44 } : Room) s m args below meth c YX w 5 Q u 50 [(2, .int a2)] []) : ∀ (n : Nat) (u : Mm) (a2 : Int32) (a3 : Int32), f_H_idleAt_L4 F a0 a1 k n u a2 a3 = some out → yG p l e ({ frames := 2, cells := 0, slots := 0, locals := 44 } : Room) s m args below meth c YX w 5 Q u 4 [(0, va_re w.1 a0), (1, .int a1), (2, .int a2), (3, .int a3)] [] := by
  intro n
  induction n with
  | zero => intro u a2 a3 h; rw [f_H_idleAt_L4] at h; cases h
  | succ n ih =>
    intro u a2 a3 h
    rw [f_H_idleAt_L4] at h
    refine y_iload_n C (i := 3) 3 d_H_idleAt_4 rfl rfl ?_
    refine y_aload_n C (i := 0) 0 d_H_idleAt_5 rfl rfl ?_
    refine y_gi C (q := (yR2, yT2, 9)) (ci := 2) (k := 2) rfl (by decide) rfl g_133 d_H_idleAt_6 h (fun x1 h => ?_)
    refine y_ic_ge C 50 d_H_idleAt_9 (by decide) h (fun k2 h => ?_) (fun k2 h => ?_)
    · exact y_sub [2] rfl (hk _ _ h)
    · refine y_aload_n C (i := 0) 0 d_H_idleAt_12 rfl rfl ?_
      refine y_iload_n C (i := 3) 3 d_H_idleAt_13 rfl rfl ?_
      refine y_callV 1 C (q := (yR2, yT2, 9)) (ci := 2) (fun t out hh => c_H_glassAt l w F u t a3 out hh) gc_H_idleAt_49 rfl (by decide) hd_H_glassAt ⟨Nat.le_of_ble_eq_true rfl, Nat.le_of_ble_eq_true rfl⟩ rfl rfl rfl rfl (by simp [y_cat, y_catI, y_catJ]) d_H_idleAt_14 h (fun r3 u4 h => ?_)
      refine y_stk (stp0 := [va_re w.1 r3]) rfl ?_
      refine y_astore C (i := 4) (lvp := [(0, va_re w.1 a0), (1, .int a1), (2, .int a2), (3, .int a3)]) d_H_idleAt_17 (by decide) (by simp [List.filter, y_cat, y_catI, y_catJ]) ?_
      refine y_aload C (i := 4) 0 d_H_idleAt_19 rfl ?_
      obtain ⟨q5, hq5, h⟩ := ob_e h
      have hJq5 : yG p l e ({ frames := 2, cells := 0, slots := 0, locals := 44 } : Room) s m args below meth c YX w 5 Q q5.2 44 [(0, va_re w.1 a0), (1, .int a1), (2, .int q5.1), (3, .int a3)] [] := by
        refine y_iinc C (j := 3) (v := 1) (lvp := [(0, va_re w.1 a0), (1, .int a1), (2, .int q5.1)]) d_H_idleAt_44 rfl (by decide) (by decide) rfl h (fun x13 h => ?_)
        refine y_goto C (tgt := 4) d_H_idleAt_47 (by decide) ?_
        exact y_sub [1, 2, 3, 0] rfl (ih _ _ _ h)
      refine y_ifnull C 44 d_H_idleAt_21 (by decide) hq5 (fun k6 hq5 => ?_) (fun k6 hq5 => ?_)
      · cases hq5
        exact y_sub [1, 2, 3, 4] rfl hJq5
      · refine y_aload C (i := 4) 0 d_H_idleAt_24 rfl ?_
        refine y_gi C (q := (yR0, yT0, 8)) (ci := 0) (k := 4) rfl (by decide) rfl g_53 d_H_idleAt_26 hq5 (fun x7 hq5 => ?_)
        refine y_iload_n C (i := 1) 2 d_H_idleAt_29 rfl rfl ?_
        refine y_ic_ne C 44 d_H_idleAt_30 (by decide) hq5 (fun k8 hq5 => ?_) (fun k8 hq5 => ?_)
        · refine y_aload_n C (i := 0) 1 d_H_idleAt_33 rfl rfl ?_
          refine y_iload_n C (i := 3) 4 d_H_idleAt_34 rfl rfl ?_
          refine y_callV 1 C (q := (yR2, yT2, 9)) (ci := 2) (fun t out hh => c_H_isOwned l w F u4 t a3 out hh) gc_H_idleAt_144 rfl (by decide) hd_H_isOwned ⟨Nat.le_of_ble_eq_true rfl, Nat.le_of_ble_eq_true rfl⟩ rfl rfl rfl rfl (by simp [y_cat, y_catI, y_catJ]) d_H_idleAt_35 hq5 (fun x9 u10 hq5 => ?_)
          refine y_stk (stp0 := [.int x9]) rfl ?_
          refine y_if_ne C 44 d_H_idleAt_38 (by decide) hq5 (fun k11 hq5 => ?_) (fun k11 hq5 => ?_)
          · refine y_iinc C (j := 3) (v := 1) (lvp := [(4, va_re w.1 r3), (0, va_re w.1 a0), (1, .int a1), (3, .int a3)]) d_H_idleAt_41 rfl (by decide) (by decide) rfl hq5 (fun x12 hq5 => ?_)
            cases hq5
            exact y_sub [2, 3, 0, 4] rfl hJq5
          · cases hq5
            exact y_sub [1, 2, 3, 4] rfl hJq5
        · cases hq5
          exact y_sub [1, 2, 3, 4] rfl hJq5
set_option maxRecDepth 100000 in
def f_H_idleAt (F : Nat) (u : Mm) (o : Nat) (a1 : Int32) : Option (Int32 × Mm) := f_H_idleAt_L4 F (some o) a1 (fun (u14 : Mm) (x15 : Int32) => some (x15, u14)) F u (0 : Int32) (0 : Int32)
set_option maxHeartbeats 4000000 in
set_option maxRecDepth 100000 in
theorem c_H_idleAt (l : Launch) (w : WP) (F : Nat) (u : Mm) (o : Nat) (a1 : Int32) (out : Int32 × Mm) (h : f_H_idleAt F u o a1 = some out) : yMet l m_H_idleAt ws_H_idleAt ({ frames := 2, cells := 0, slots := 0, locals := 44 } : Room) YX w u [va_re w.1 (some o), .int a1] yfi out := by
  refine y_entry (own := "WhoseGlass$House") (lv := [(0, va_re w.1 (some o)), (1, .int a1)]) (by decide +kernel) rfl (by simp [lv_args, y_cat, y_catI, y_catJ]) (by simp [lg_sl, y_cat, y_catI, y_catJ]) ?_
  intro p e s m args below meth c C hr hlocks
  unfold f_H_idleAt at h
  refine y_iconst C (v := 0) d_H_idleAt_0 (by decide) ?_
  refine y_istore_n C (i := 2) (lvp := [(0, va_re w.1 (some o)), (1, .int a1)]) d_H_idleAt_1 rfl (by decide) rfl ?_
  refine y_iconst C (v := 0) d_H_idleAt_2 (by decide) ?_
  refine y_istore_n C (i := 3) (lvp := [(2, .int (0 : Int32)), (0, va_re w.1 (some o)), (1, .int a1)]) d_H_idleAt_3 rfl (by decide) rfl ?_
  refine y_sub [2, 3, 1, 0] rfl (w_H_idleAt_L4 F C hr hlocks _ _ _ (fun u14 x15 h => ?_) _ _ _ _ h)
  refine y_iload_n C (i := 2) 0 d_H_idleAt_50 rfl rfl ?_
  exact y_iret C hr hlocks d_H_idleAt_51 h
/-! X_idle -/
theorem d_X_idle_0 : decode prog_1_method_16_code 0 = .ok (.iload_n 1, 1) := by decide +kernel
theorem d_X_idle_1 : decode prog_1_method_16_code 1 = .ok (.bipush 6, 2) := by decide +kernel
theorem d_X_idle_3 : decode prog_1_method_16_code 3 = .ok (.invokestatic 78, 3) := by decide +kernel
theorem d_X_idle_6 : decode prog_1_method_16_code 6 = .ok (.ifCond .eq 14, 3) := by decide +kernel
theorem d_X_idle_9 : decode prog_1_method_16_code 9 = .ok (.aload_n 0, 1) := by decide +kernel
theorem d_X_idle_10 : decode prog_1_method_16_code 10 = .ok (.getfield 10, 3) := by decide +kernel
theorem d_X_idle_13 : decode prog_1_method_16_code 13 = .ok (.iload_n 1, 1) := by decide +kernel
theorem d_X_idle_14 : decode prog_1_method_16_code 14 = .ok (.invokevirtual 156, 3) := by decide +kernel
theorem d_X_idle_17 : decode prog_1_method_16_code 17 = .ok (.goto 4, 3) := by decide +kernel
theorem d_X_idle_20 : decode prog_1_method_16_code 20 = .ok (.iconst (-1), 1) := by decide +kernel
theorem d_X_idle_21 : decode prog_1_method_16_code 21 = .ok (.ireturn, 1) := by decide +kernel
theorem gc_X_idle_156 : GoodIn yGW (wsV "WhoseGlass" 156 yR2 m_H_idleAt ws_H_idleAt) := y_gV g_467 g_468 g_469 g_2 g_470
set_option maxRecDepth 100000 in
def f_X_idle (F : Nat) (u : Mm) (o : Nat) (a1 : Int32) : Option (Int32 × Mm) := yb (f_X_isBelow F u a1 (6 : Int32)) fun x1 u2 => (if x1 = 0 then some ((-1 : Int32), u2) else ob (jgr YX 4 0 (some o)) fun (r4 : Option Nat) => ob (jk YX 2 r4) fun t => yb (f_H_idleAt F u2 t a1) fun x5 u6 => some (x5, u6))
set_option maxHeartbeats 4000000 in
set_option maxRecDepth 100000 in
theorem c_X_idle (l : Launch) (w : WP) (F : Nat) (u : Mm) (o : Nat) (a1 : Int32) (out : Int32 × Mm) (h : f_X_idle F u o a1 = some out) : yMet l m_X_idle ws_X_idle ({ frames := 3, cells := 0, slots := 0, locals := 68 } : Room) YX w u [va_re w.1 (some o), .int a1] yfi out := by
  refine y_entry (own := "WhoseGlass") (lv := [(0, va_re w.1 (some o)), (1, .int a1)]) (by decide +kernel) rfl (by simp [lv_args, y_cat, y_catI, y_catJ]) (by simp [lg_sl, y_cat, y_catI, y_catJ]) ?_
  intro p e s m args below meth c C hr hlocks
  unfold f_X_idle at h
  refine y_iload_n C (i := 1) 1 d_X_idle_0 rfl rfl ?_
  refine y_bipush C (v := 6) d_X_idle_1 (by decide) ?_
  refine y_callS 2 C (fun out hh => c_X_isBelow l w F u a1 (6 : Int32) out hh) (y_gc g_344) g_400 g_1 g_343 hn_X_isBelow ⟨Nat.le_of_ble_eq_true rfl, Nat.le_of_ble_eq_true rfl⟩ rfl rfl rfl rfl (by simp [y_cat, y_catI, y_catJ]) d_X_idle_3 h (fun x1 u2 h => ?_)
  refine y_stk (stp0 := [.int x1]) rfl ?_
  refine y_if_eq C 20 d_X_idle_6 (by decide) h (fun k3 h => ?_) (fun k3 h => ?_)
  · refine y_iconst C (v := -1) d_X_idle_20 (by decide) ?_
    exact y_iret C hr hlocks d_X_idle_21 h
  · refine y_aload_n C (i := 0) 0 d_X_idle_9 rfl rfl ?_
    refine y_gr C (q := (yR4, yT4, 5)) (ci := 4) (k := 0) rfl (by decide) rfl (by decide) g_202 d_X_idle_10 h (fun r4 h => ?_)
    refine y_iload_n C (i := 1) 1 d_X_idle_13 rfl rfl ?_
    refine y_callV 1 C (q := (yR2, yT2, 9)) (ci := 2) (fun t out hh => c_H_idleAt l w F u2 t a1 out hh) gc_X_idle_156 rfl (by decide) hd_H_idleAt ⟨Nat.le_of_ble_eq_true rfl, Nat.le_of_ble_eq_true rfl⟩ rfl rfl rfl rfl (by simp [y_cat, y_catI, y_catJ]) d_X_idle_14 h (fun x5 u6 h => ?_)
    refine y_stk (stp0 := [.int x5]) rfl ?_
    refine y_goto C (tgt := 21) d_X_idle_17 (by decide) ?_
    exact y_iret C hr hlocks d_X_idle_21 h
/-! H_oldestAt -/
theorem d_H_oldestAt_0 : decode prog_4_method_16_code 0 = .ok (.aconst_null, 1) := by decide +kernel
theorem d_H_oldestAt_1 : decode prog_4_method_16_code 1 = .ok (.astore_n 2, 1) := by decide +kernel
theorem d_H_oldestAt_2 : decode prog_4_method_16_code 2 = .ok (.iconst 0, 1) := by decide +kernel
theorem d_H_oldestAt_3 : decode prog_4_method_16_code 3 = .ok (.istore_n 3, 1) := by decide +kernel
theorem d_H_oldestAt_4 : decode prog_4_method_16_code 4 = .ok (.iload_n 3, 1) := by decide +kernel
theorem d_H_oldestAt_5 : decode prog_4_method_16_code 5 = .ok (.aload_n 0, 1) := by decide +kernel
theorem d_H_oldestAt_6 : decode prog_4_method_16_code 6 = .ok (.getfield 34, 3) := by decide +kernel
theorem d_H_oldestAt_9 : decode prog_4_method_16_code 9 = .ok (.if_icmp .ge 52, 3) := by decide +kernel
theorem d_H_oldestAt_12 : decode prog_4_method_16_code 12 = .ok (.aload_n 0, 1) := by decide +kernel
theorem d_H_oldestAt_13 : decode prog_4_method_16_code 13 = .ok (.iload_n 3, 1) := by decide +kernel
theorem d_H_oldestAt_14 : decode prog_4_method_16_code 14 = .ok (.invokevirtual 49, 3) := by decide +kernel
theorem d_H_oldestAt_17 : decode prog_4_method_16_code 17 = .ok (.astore 4, 2) := by decide +kernel
theorem d_H_oldestAt_19 : decode prog_4_method_16_code 19 = .ok (.aload 4, 2) := by decide +kernel
theorem d_H_oldestAt_21 : decode prog_4_method_16_code 21 = .ok (.ifnull 34, 3) := by decide +kernel
theorem d_H_oldestAt_24 : decode prog_4_method_16_code 24 = .ok (.aload 4, 2) := by decide +kernel
theorem d_H_oldestAt_26 : decode prog_4_method_16_code 26 = .ok (.getfield 132, 3) := by decide +kernel
theorem d_H_oldestAt_29 : decode prog_4_method_16_code 29 = .ok (.iload_n 1, 1) := by decide +kernel
theorem d_H_oldestAt_30 : decode prog_4_method_16_code 30 = .ok (.if_icmp .eq 6, 3) := by decide +kernel
theorem d_H_oldestAt_33 : decode prog_4_method_16_code 33 = .ok (.goto 22, 3) := by decide +kernel
theorem d_H_oldestAt_36 : decode prog_4_method_16_code 36 = .ok (.aload_n 2, 1) := by decide +kernel
theorem d_H_oldestAt_37 : decode prog_4_method_16_code 37 = .ok (.ifnull 15, 3) := by decide +kernel
theorem d_H_oldestAt_40 : decode prog_4_method_16_code 40 = .ok (.aload 4, 2) := by decide +kernel
theorem d_H_oldestAt_42 : decode prog_4_method_16_code 42 = .ok (.getfield 138, 3) := by decide +kernel
theorem d_H_oldestAt_45 : decode prog_4_method_16_code 45 = .ok (.aload_n 2, 1) := by decide +kernel
theorem d_H_oldestAt_46 : decode prog_4_method_16_code 46 = .ok (.getfield 138, 3) := by decide +kernel
theorem d_H_oldestAt_49 : decode prog_4_method_16_code 49 = .ok (.if_icmp .ge 6, 3) := by decide +kernel
theorem d_H_oldestAt_52 : decode prog_4_method_16_code 52 = .ok (.aload 4, 2) := by decide +kernel
theorem d_H_oldestAt_54 : decode prog_4_method_16_code 54 = .ok (.astore_n 2, 1) := by decide +kernel
theorem d_H_oldestAt_55 : decode prog_4_method_16_code 55 = .ok (.iinc 3 1, 3) := by decide +kernel
theorem d_H_oldestAt_58 : decode prog_4_method_16_code 58 = .ok (.goto (-54), 3) := by decide +kernel
theorem d_H_oldestAt_61 : decode prog_4_method_16_code 61 = .ok (.aload_n 2, 1) := by decide +kernel
theorem d_H_oldestAt_62 : decode prog_4_method_16_code 62 = .ok (.ifnonnull 8, 3) := by decide +kernel
theorem d_H_oldestAt_65 : decode prog_4_method_16_code 65 = .ok (.bipush (-4), 2) := by decide +kernel
theorem d_H_oldestAt_67 : decode prog_4_method_16_code 67 = .ok (.goto 7, 3) := by decide +kernel
theorem d_H_oldestAt_70 : decode prog_4_method_16_code 70 = .ok (.aload_n 2, 1) := by decide +kernel
theorem d_H_oldestAt_71 : decode prog_4_method_16_code 71 = .ok (.getfield 119, 3) := by decide +kernel
theorem d_H_oldestAt_74 : decode prog_4_method_16_code 74 = .ok (.ireturn, 1) := by decide +kernel
theorem gc_H_oldestAt_49 : GoodIn yGW (wsV "WhoseGlass$House" 49 yR2 m_H_glassAt ws_H_glassAt) := y_gV g_259 g_260 g_261 g_2 g_262
set_option maxHeartbeats 4000000 in
set_option maxRecDepth 100000 in
def f_H_oldestAt_L4 (F : Nat) (a0 : Option Nat) (a1 : Int32) (k : Mm → Option Nat → Option (Int32 × Mm)) : Nat → Mm → Option Nat → Int32 → Option (Int32 × Mm)
  | 0, _, _, _ => none
  | n + 1, u, a2, a3 => ob (jgi YX 2 2 u a0) fun (x1 : Int32) => (if x1 ≤ a3 then k u a2 else ob (jk YX 2 a0) fun t => yb (f_H_glassAt F u t a3) fun r3 u4 => ob ((if r3 = none then some a2 else ob (jgi YX 0 4 u4 r3) fun (x7 : Int32) => (if x7 = a1 then (if a2 = none then some r3 else ob (jgi YX 0 5 u4 r3) fun (x10 : Int32) => ob (jgi YX 0 5 u4 a2) fun (x11 : Int32) => (if x11 ≤ x10 then some a2 else some r3)) else some a2)) : Option ((Option Nat))) fun q5 => ob (some (a3 + (1 : Int32))) fun (x13 : Int32) => f_H_oldestAt_L4 F a0 a1 k n u4 q5 x13)
set_option maxHeartbeats 4000000 in
set_option maxRecDepth 100000 in
theorem w_H_oldestAt_L4 {p : Program} {l : Launch} {e : Env} {s : State} {m : MethodId} {args : Array Value} {below : List Frame} {meth : Method} {c : Code} {w : WP} {Q : State → Prop} (F : Nat) (C : yX p e ({ frames := 1, cells := 0, slots := 0, locals := 21 } : Room) s m args c YX w 5 prog_4_method_16_code "WhoseGlass$House") (hr : meth.sig.returnType = (some .int)) (hlocks : meth.locks = false) (a0 : Option Nat) (a1 : Int32) {out : Int32 × Mm} (k : Mm → Option Nat → Option (Int32 × Mm)) (hk : ∀ (u : Mm) (a2 : Option Nat), k u a2 = some out → yG p l e ({ frames := 1, cells := 0, slots := 0, locals := 21 } : Room) s m args below meth c YX w 5 Q u 61 [(2, va_re w.1 a2)] []) : ∀ (n : Nat) (u : Mm) (a2 : Option Nat) (a3 : Int32), f_H_oldestAt_L4 F a0 a1 k n u a2 a3 = some out → yG p l e ({ frames := 1, cells := 0, slots := 0, locals := 21 } : Room) s m args below meth c YX w 5 Q u 4 [(0, va_re w.1 a0), (1, .int a1), (2, va_re w.1 a2), (3, .int a3)] [] := by
  intro n
  induction n with
  | zero => intro u a2 a3 h; rw [f_H_oldestAt_L4] at h; cases h
  | succ n ih =>
    intro u a2 a3 h
    rw [f_H_oldestAt_L4] at h
    refine y_iload_n C (i := 3) 3 d_H_oldestAt_4 rfl rfl ?_
    refine y_aload_n C (i := 0) 0 d_H_oldestAt_5 rfl rfl ?_
    refine y_gi C (q := (yR2, yT2, 9)) (ci := 2) (k := 2) rfl (by decide) rfl g_133 d_H_oldestAt_6 h (fun x1 h => ?_)
    refine y_ic_ge C 61 d_H_oldestAt_9 (by decide) h (fun k2 h => ?_) (fun k2 h => ?_)
    · exact y_sub [2] rfl (hk _ _ h)
    · refine y_aload_n C (i := 0) 0 d_H_oldestAt_12 rfl rfl ?_
      refine y_iload_n C (i := 3) 3 d_H_oldestAt_13 rfl rfl ?_
      refine y_callV 1 C (q := (yR2, yT2, 9)) (ci := 2) (fun t out hh => c_H_glassAt l w F u t a3 out hh) gc_H_oldestAt_49 rfl (by decide) hd_H_glassAt ⟨Nat.le_of_ble_eq_true rfl, Nat.le_of_ble_eq_true rfl⟩ rfl rfl rfl rfl (by simp [y_cat, y_catI, y_catJ]) d_H_oldestAt_14 h (fun r3 u4 h => ?_)
      refine y_stk (stp0 := [va_re w.1 r3]) rfl ?_
      refine y_astore C (i := 4) (lvp := [(0, va_re w.1 a0), (1, .int a1), (2, va_re w.1 a2), (3, .int a3)]) d_H_oldestAt_17 (by decide) (by simp [List.filter, y_cat, y_catI, y_catJ]) ?_
      refine y_aload C (i := 4) 0 d_H_oldestAt_19 rfl ?_
      obtain ⟨q5, hq5, h⟩ := ob_e h
      have hJq5 : yG p l e ({ frames := 1, cells := 0, slots := 0, locals := 21 } : Room) s m args below meth c YX w 5 Q u4 55 [(0, va_re w.1 a0), (1, .int a1), (2, va_re w.1 q5), (3, .int a3)] [] := by
        refine y_iinc C (j := 3) (v := 1) (lvp := [(0, va_re w.1 a0), (1, .int a1), (2, va_re w.1 q5)]) d_H_oldestAt_55 rfl (by decide) (by decide) (by simp [List.filter, y_cat, y_catI, y_catJ]) h (fun x13 h => ?_)
        refine y_goto C (tgt := 4) d_H_oldestAt_58 (by decide) ?_
        exact y_sub [1, 2, 3, 0] rfl (ih _ _ _ h)
      refine y_ifnull C 55 d_H_oldestAt_21 (by decide) hq5 (fun k6 hq5 => ?_) (fun k6 hq5 => ?_)
      · cases hq5
        exact y_sub [1, 2, 3, 4] rfl hJq5
      · refine y_aload C (i := 4) 0 d_H_oldestAt_24 rfl ?_
        refine y_gi C (q := (yR0, yT0, 8)) (ci := 0) (k := 4) rfl (by decide) rfl g_53 d_H_oldestAt_26 hq5 (fun x7 hq5 => ?_)
        refine y_iload_n C (i := 1) 2 d_H_oldestAt_29 rfl rfl ?_
        refine y_ic_eq C 36 d_H_oldestAt_30 (by decide) hq5 (fun k8 hq5 => ?_) (fun k8 hq5 => ?_)
        · refine y_aload_n C (i := 2) 3 d_H_oldestAt_36 rfl rfl ?_
          refine y_ifnull C 52 d_H_oldestAt_37 (by decide) hq5 (fun k9 hq5 => ?_) (fun k9 hq5 => ?_)
          · refine y_aload C (i := 4) 0 d_H_oldestAt_52 rfl ?_
            refine y_astore_n C (i := 2) (lvp := [(4, va_re w.1 r3), (0, va_re w.1 a0), (1, .int a1), (3, .int a3)]) d_H_oldestAt_54 rfl (by decide) (by simp [List.filter, y_cat, y_catI, y_catJ]) ?_
            cases hq5
            exact y_sub [2, 3, 0, 4] rfl hJq5
          · refine y_aload C (i := 4) 0 d_H_oldestAt_40 rfl ?_
            refine y_gi C (q := (yR0, yT0, 8)) (ci := 0) (k := 5) rfl (by decide) rfl g_56 d_H_oldestAt_42 hq5 (fun x10 hq5 => ?_)
            refine y_aload_n C (i := 2) 3 d_H_oldestAt_45 rfl rfl ?_
            refine y_gi C (q := (yR0, yT0, 8)) (ci := 0) (k := 5) rfl (by decide) rfl g_56 d_H_oldestAt_46 hq5 (fun x11 hq5 => ?_)
            refine y_ic_ge C 55 d_H_oldestAt_49 (by decide) hq5 (fun k12 hq5 => ?_) (fun k12 hq5 => ?_)
            · cases hq5
              exact y_sub [1, 2, 3, 4] rfl hJq5
            · refine y_aload C (i := 4) 0 d_H_oldestAt_52 rfl ?_
              refine y_astore_n C (i := 2) (lvp := [(4, va_re w.1 r3), (0, va_re w.1 a0), (1, .int a1), (3, .int a3)]) d_H_oldestAt_54 rfl (by decide) (by simp [List.filter, y_cat, y_catI, y_catJ]) ?_
              cases hq5
              exact y_sub [2, 3, 0, 4] rfl hJq5
        · refine y_goto C (tgt := 55) d_H_oldestAt_33 (by decide) ?_
          cases hq5
          exact y_sub [1, 2, 3, 4] rfl hJq5
set_option maxRecDepth 100000 in
def f_H_oldestAt (F : Nat) (u : Mm) (o : Nat) (a1 : Int32) : Option (Int32 × Mm) := f_H_oldestAt_L4 F (some o) a1 (fun (u14 : Mm) (r15 : Option Nat) => (if r15 = none then some ((-4 : Int32), u14) else ob (jgi YX 0 0 u14 r15) fun (x17 : Int32) => some (x17, u14))) F u none (0 : Int32)
set_option maxHeartbeats 4000000 in
set_option maxRecDepth 100000 in
theorem c_H_oldestAt (l : Launch) (w : WP) (F : Nat) (u : Mm) (o : Nat) (a1 : Int32) (out : Int32 × Mm) (h : f_H_oldestAt F u o a1 = some out) : yMet l m_H_oldestAt ws_H_oldestAt ({ frames := 1, cells := 0, slots := 0, locals := 21 } : Room) YX w u [va_re w.1 (some o), .int a1] yfi out := by
  refine y_entry (own := "WhoseGlass$House") (lv := [(0, va_re w.1 (some o)), (1, .int a1)]) (by decide +kernel) rfl (by simp [lv_args, y_cat, y_catI, y_catJ]) (by simp [lg_sl, y_cat, y_catI, y_catJ]) ?_
  intro p e s m args below meth c C hr hlocks
  unfold f_H_oldestAt at h
  refine y_null C d_H_oldestAt_0 ?_
  refine y_astore_n C (i := 2) (lvp := [(0, va_re w.1 (some o)), (1, .int a1)]) d_H_oldestAt_1 rfl (by decide) (by simp [List.filter, y_cat, y_catI, y_catJ]) ?_
  refine y_iconst C (v := 0) d_H_oldestAt_2 (by decide) ?_
  refine y_istore_n C (i := 3) (lvp := [(2, va_re w.1 none), (0, va_re w.1 (some o)), (1, .int a1)]) d_H_oldestAt_3 rfl (by decide) (by simp [List.filter, y_cat, y_catI, y_catJ]) ?_
  refine y_sub [2, 3, 1, 0] rfl (w_H_oldestAt_L4 F C hr hlocks _ _ _ (fun u14 r15 h => ?_) _ _ _ _ h)
  refine y_aload_n C (i := 2) 0 d_H_oldestAt_61 rfl rfl ?_
  refine y_ifnonnull C 70 d_H_oldestAt_62 (by decide) h (fun k16 h => ?_) (fun k16 h => ?_)
  · refine y_bipush C (v := -4) d_H_oldestAt_65 (by decide) ?_
    refine y_goto C (tgt := 74) d_H_oldestAt_67 (by decide) ?_
    exact y_iret C hr hlocks d_H_oldestAt_74 h
  · refine y_aload_n C (i := 2) 0 d_H_oldestAt_70 rfl rfl ?_
    refine y_gi C (q := (yR0, yT0, 8)) (ci := 0) (k := 0) rfl (by decide) rfl g_42 d_H_oldestAt_71 h (fun x17 h => ?_)
    exact y_iret C hr hlocks d_H_oldestAt_74 h
/-! X_oldest -/
theorem d_X_oldest_0 : decode prog_1_method_17_code 0 = .ok (.iload_n 1, 1) := by decide +kernel
theorem d_X_oldest_1 : decode prog_1_method_17_code 1 = .ok (.bipush 6, 2) := by decide +kernel
theorem d_X_oldest_3 : decode prog_1_method_17_code 3 = .ok (.invokestatic 78, 3) := by decide +kernel
theorem d_X_oldest_6 : decode prog_1_method_17_code 6 = .ok (.ifCond .eq 14, 3) := by decide +kernel
theorem d_X_oldest_9 : decode prog_1_method_17_code 9 = .ok (.aload_n 0, 1) := by decide +kernel
theorem d_X_oldest_10 : decode prog_1_method_17_code 10 = .ok (.getfield 10, 3) := by decide +kernel
theorem d_X_oldest_13 : decode prog_1_method_17_code 13 = .ok (.iload_n 1, 1) := by decide +kernel
theorem d_X_oldest_14 : decode prog_1_method_17_code 14 = .ok (.invokevirtual 159, 3) := by decide +kernel
theorem d_X_oldest_17 : decode prog_1_method_17_code 17 = .ok (.goto 4, 3) := by decide +kernel
theorem d_X_oldest_20 : decode prog_1_method_17_code 20 = .ok (.iconst (-1), 1) := by decide +kernel
theorem d_X_oldest_21 : decode prog_1_method_17_code 21 = .ok (.ireturn, 1) := by decide +kernel
theorem gc_X_oldest_159 : GoodIn yGW (wsV "WhoseGlass" 159 yR2 m_H_oldestAt ws_H_oldestAt) := y_gV g_479 g_480 g_481 g_2 g_482
set_option maxRecDepth 100000 in
def f_X_oldest (F : Nat) (u : Mm) (o : Nat) (a1 : Int32) : Option (Int32 × Mm) := yb (f_X_isBelow F u a1 (6 : Int32)) fun x1 u2 => (if x1 = 0 then some ((-1 : Int32), u2) else ob (jgr YX 4 0 (some o)) fun (r4 : Option Nat) => ob (jk YX 2 r4) fun t => yb (f_H_oldestAt F u2 t a1) fun x5 u6 => some (x5, u6))
set_option maxHeartbeats 4000000 in
set_option maxRecDepth 100000 in
theorem c_X_oldest (l : Launch) (w : WP) (F : Nat) (u : Mm) (o : Nat) (a1 : Int32) (out : Int32 × Mm) (h : f_X_oldest F u o a1 = some out) : yMet l m_X_oldest ws_X_oldest ({ frames := 2, cells := 0, slots := 0, locals := 45 } : Room) YX w u [va_re w.1 (some o), .int a1] yfi out := by
  refine y_entry (own := "WhoseGlass") (lv := [(0, va_re w.1 (some o)), (1, .int a1)]) (by decide +kernel) rfl (by simp [lv_args, y_cat, y_catI, y_catJ]) (by simp [lg_sl, y_cat, y_catI, y_catJ]) ?_
  intro p e s m args below meth c C hr hlocks
  unfold f_X_oldest at h
  refine y_iload_n C (i := 1) 1 d_X_oldest_0 rfl rfl ?_
  refine y_bipush C (v := 6) d_X_oldest_1 (by decide) ?_
  refine y_callS 2 C (fun out hh => c_X_isBelow l w F u a1 (6 : Int32) out hh) (y_gc g_344) g_400 g_1 g_343 hn_X_isBelow ⟨Nat.le_of_ble_eq_true rfl, Nat.le_of_ble_eq_true rfl⟩ rfl rfl rfl rfl (by simp [y_cat, y_catI, y_catJ]) d_X_oldest_3 h (fun x1 u2 h => ?_)
  refine y_stk (stp0 := [.int x1]) rfl ?_
  refine y_if_eq C 20 d_X_oldest_6 (by decide) h (fun k3 h => ?_) (fun k3 h => ?_)
  · refine y_iconst C (v := -1) d_X_oldest_20 (by decide) ?_
    exact y_iret C hr hlocks d_X_oldest_21 h
  · refine y_aload_n C (i := 0) 0 d_X_oldest_9 rfl rfl ?_
    refine y_gr C (q := (yR4, yT4, 5)) (ci := 4) (k := 0) rfl (by decide) rfl (by decide) g_202 d_X_oldest_10 h (fun r4 h => ?_)
    refine y_iload_n C (i := 1) 1 d_X_oldest_13 rfl rfl ?_
    refine y_callV 1 C (q := (yR2, yT2, 9)) (ci := 2) (fun t out hh => c_H_oldestAt l w F u2 t a1 out hh) gc_X_oldest_159 rfl (by decide) hd_H_oldestAt ⟨Nat.le_of_ble_eq_true rfl, Nat.le_of_ble_eq_true rfl⟩ rfl rfl rfl rfl (by simp [y_cat, y_catI, y_catJ]) d_X_oldest_14 h (fun x5 u6 h => ?_)
    refine y_stk (stp0 := [.int x5]) rfl ?_
    refine y_goto C (tgt := 21) d_X_oldest_17 (by decide) ?_
    exact y_iret C hr hlocks d_X_oldest_21 h
/-! X_isSpan -/
theorem d_X_isSpan_0 : decode prog_1_method_43_code 0 = .ok (.iload_n 0, 1) := by decide +kernel
theorem d_X_isSpan_1 : decode prog_1_method_43_code 1 = .ok (.ifCond .lt 13, 3) := by decide +kernel
theorem d_X_isSpan_4 : decode prog_1_method_43_code 4 = .ok (.iload_n 0, 1) := by decide +kernel
theorem d_X_isSpan_5 : decode prog_1_method_43_code 5 = .ok (.bipush 60, 2) := by decide +kernel
theorem d_X_isSpan_7 : decode prog_1_method_43_code 7 = .ok (.if_icmp .gt 7, 3) := by decide +kernel
theorem d_X_isSpan_10 : decode prog_1_method_43_code 10 = .ok (.iconst 1, 1) := by decide +kernel
theorem d_X_isSpan_11 : decode prog_1_method_43_code 11 = .ok (.goto 4, 3) := by decide +kernel
theorem d_X_isSpan_14 : decode prog_1_method_43_code 14 = .ok (.iconst 0, 1) := by decide +kernel
theorem d_X_isSpan_15 : decode prog_1_method_43_code 15 = .ok (.ireturn, 1) := by decide +kernel
set_option maxRecDepth 100000 in
def f_X_isSpan (F : Nat) (u : Mm) (a0 : Int32) : Option (Int32 × Mm) := (if a0 < 0 then ob (jz (0 : Int32)) (fun v => some (v, u)) else (if (60 : Int32) < a0 then ob (jz (0 : Int32)) (fun v => some (v, u)) else ob (jz (1 : Int32)) (fun v => some (v, u))))
set_option maxHeartbeats 4000000 in
set_option maxRecDepth 100000 in
theorem c_X_isSpan (l : Launch) (w : WP) (F : Nat) (u : Mm) (a0 : Int32) (out : Int32 × Mm) (h : f_X_isSpan F u a0 = some out) : yMet l m_X_isSpan ws_X_isSpan ({ frames := 0, cells := 0, slots := 0, locals := 0 } : Room) YX w u [.int a0] yfi out := by
  refine y_entry (own := "WhoseGlass") (lv := [(0, .int a0)]) (by decide +kernel) rfl (by simp [lv_args, y_cat, y_catI, y_catJ]) (by simp [lg_sl, y_cat, y_catI, y_catJ]) ?_
  intro p e s m args below meth c C hr hlocks
  unfold f_X_isSpan at h
  refine y_iload_n C (i := 0) 0 d_X_isSpan_0 rfl rfl ?_
  refine y_if_lt C 14 d_X_isSpan_1 (by decide) h (fun k1 h => ?_) (fun k1 h => ?_)
  · refine y_iconst C (v := 0) d_X_isSpan_14 (by decide) ?_
    exact y_zret C hr hlocks d_X_isSpan_15 h
  · refine y_iload_n C (i := 0) 0 d_X_isSpan_4 rfl rfl ?_
    refine y_bipush C (v := 60) d_X_isSpan_5 (by decide) ?_
    refine y_ic_gt C 14 d_X_isSpan_7 (by decide) h (fun k2 h => ?_) (fun k2 h => ?_)
    · refine y_iconst C (v := 0) d_X_isSpan_14 (by decide) ?_
      exact y_zret C hr hlocks d_X_isSpan_15 h
    · refine y_iconst C (v := 1) d_X_isSpan_10 (by decide) ?_
      refine y_goto C (tgt := 15) d_X_isSpan_11 (by decide) ?_
      exact y_zret C hr hlocks d_X_isSpan_15 h
/-! X_ahead -/
theorem d_X_ahead_0 : decode prog_1_method_46_code 0 = .ok (.aload_n 0, 1) := by decide +kernel
theorem d_X_ahead_1 : decode prog_1_method_46_code 1 = .ok (.getfield 16, 3) := by decide +kernel
theorem d_X_ahead_4 : decode prog_1_method_46_code 4 = .ok (.aload_n 0, 1) := by decide +kernel
theorem d_X_ahead_5 : decode prog_1_method_46_code 5 = .ok (.getfield 10, 3) := by decide +kernel
theorem d_X_ahead_8 : decode prog_1_method_46_code 8 = .ok (.invokevirtual 50, 3) := by decide +kernel
theorem d_X_ahead_11 : decode prog_1_method_46_code 11 = .ok (.aload_n 0, 1) := by decide +kernel
theorem d_X_ahead_12 : decode prog_1_method_46_code 12 = .ok (.getfield 16, 3) := by decide +kernel
theorem d_X_ahead_15 : decode prog_1_method_46_code 15 = .ok (.iload_n 1, 1) := by decide +kernel
theorem d_X_ahead_16 : decode prog_1_method_46_code 16 = .ok (.invokevirtual 135, 3) := by decide +kernel
theorem d_X_ahead_19 : decode prog_1_method_46_code 19 = .ok (.aload_n 0, 1) := by decide +kernel
theorem d_X_ahead_20 : decode prog_1_method_46_code 20 = .ok (.getfield 16, 3) := by decide +kernel
theorem d_X_ahead_23 : decode prog_1_method_46_code 23 = .ok (.areturn, 1) := by decide +kernel
theorem gc_X_ahead_50 : GoodIn yGW (wsV "WhoseGlass" 50 yR2 m_H_become ws_H_become) := y_gV g_255 g_256 g_257 g_2 g_258
theorem gc_X_ahead_135 : GoodIn yGW (wsV "WhoseGlass" 135 yR2 m_H_passMinutes ws_H_passMinutes) := y_gV g_438 g_279 g_280 g_2 g_281
set_option maxRecDepth 100000 in
def f_X_ahead (F : Nat) (u : Mm) (o : Nat) (a1 : Int32) : Option (Option Nat × Mm) := ob (jgr YX 4 1 (some o)) fun (r1 : Option Nat) => ob (jgr YX 4 0 (some o)) fun (r2 : Option Nat) => ob (jk YX 2 r1) fun t => yb (f_H_become F u t r2) fun v3 u4 => ob (jgr YX 4 1 (some o)) fun (r5 : Option Nat) => ob (jk YX 2 r5) fun t => yb (f_H_passMinutes F u4 t a1) fun v6 u7 => ob (jgr YX 4 1 (some o)) fun (r8 : Option Nat) => some (r8, u7)
set_option maxHeartbeats 4000000 in
set_option maxRecDepth 100000 in
theorem c_X_ahead (l : Launch) (w : WP) (F : Nat) (u : Mm) (o : Nat) (a1 : Int32) (out : Option Nat × Mm) (h : f_X_ahead F u o a1 = some out) : yMet l m_X_ahead ws_X_ahead ({ frames := 5, cells := 0, slots := 0, locals := 125 } : Room) YX w u [va_re w.1 (some o), .int a1] (yfr w) out := by
  refine y_entry (own := "WhoseGlass") (lv := [(0, va_re w.1 (some o)), (1, .int a1)]) (by decide +kernel) rfl (by simp [lv_args, y_cat, y_catI, y_catJ]) (by simp [lg_sl, y_cat, y_catI, y_catJ]) ?_
  intro p e s m args below meth c C hr hlocks
  unfold f_X_ahead at h
  refine y_aload_n C (i := 0) 0 d_X_ahead_0 rfl rfl ?_
  refine y_gr C (q := (yR4, yT4, 5)) (ci := 4) (k := 1) rfl (by decide) rfl (by decide) g_203 d_X_ahead_1 h (fun r1 h => ?_)
  refine y_aload_n C (i := 0) 0 d_X_ahead_4 rfl rfl ?_
  refine y_gr C (q := (yR4, yT4, 5)) (ci := 4) (k := 0) rfl (by decide) rfl (by decide) g_202 d_X_ahead_5 h (fun r2 h => ?_)
  refine y_callV 1 C (q := (yR2, yT2, 9)) (ci := 2) (fun t out hh => c_H_become l w F u t r2 out hh) gc_X_ahead_50 rfl (by decide) hd_H_become ⟨Nat.le_of_ble_eq_true rfl, Nat.le_of_ble_eq_true rfl⟩ rfl rfl rfl rfl (by simp [y_cat, y_catI, y_catJ]) d_X_ahead_8 h (fun v3 u4 h => ?_)
  refine y_stk (stp0 := []) rfl ?_
  refine y_aload_n C (i := 0) 0 d_X_ahead_11 rfl rfl ?_
  refine y_gr C (q := (yR4, yT4, 5)) (ci := 4) (k := 1) rfl (by decide) rfl (by decide) g_203 d_X_ahead_12 h (fun r5 h => ?_)
  refine y_iload_n C (i := 1) 1 d_X_ahead_15 rfl rfl ?_
  refine y_callV 1 C (q := (yR2, yT2, 9)) (ci := 2) (fun t out hh => c_H_passMinutes l w F u4 t a1 out hh) gc_X_ahead_135 rfl (by decide) hd_H_passMinutes ⟨Nat.le_of_ble_eq_true rfl, Nat.le_of_ble_eq_true rfl⟩ rfl rfl rfl rfl (by simp [y_cat, y_catI, y_catJ]) d_X_ahead_16 h (fun v6 u7 h => ?_)
  refine y_stk (stp0 := []) rfl ?_
  refine y_aload_n C (i := 0) 0 d_X_ahead_19 rfl rfl ?_
  refine y_gr C (q := (yR4, yT4, 5)) (ci := 4) (k := 1) rfl (by decide) rfl (by decide) g_203 d_X_ahead_20 h (fun r8 h => ?_)
  exact y_aret C hr hlocks d_X_ahead_23 h
/-! X_mistakes -/
theorem d_X_mistakes_0 : decode prog_1_method_18_code 0 = .ok (.iload_n 1, 1) := by decide +kernel
theorem d_X_mistakes_1 : decode prog_1_method_18_code 1 = .ok (.invokestatic 162, 3) := by decide +kernel
theorem d_X_mistakes_4 : decode prog_1_method_18_code 4 = .ok (.ifCond .eq 14, 3) := by decide +kernel
theorem d_X_mistakes_7 : decode prog_1_method_18_code 7 = .ok (.aload_n 0, 1) := by decide +kernel
theorem d_X_mistakes_8 : decode prog_1_method_18_code 8 = .ok (.iload_n 1, 1) := by decide +kernel
theorem d_X_mistakes_9 : decode prog_1_method_18_code 9 = .ok (.invokevirtual 166, 3) := by decide +kernel
theorem d_X_mistakes_12 : decode prog_1_method_18_code 12 = .ok (.getfield 170, 3) := by decide +kernel
theorem d_X_mistakes_15 : decode prog_1_method_18_code 15 = .ok (.goto 4, 3) := by decide +kernel
theorem d_X_mistakes_18 : decode prog_1_method_18_code 18 = .ok (.iconst (-1), 1) := by decide +kernel
theorem d_X_mistakes_19 : decode prog_1_method_18_code 19 = .ok (.ireturn, 1) := by decide +kernel
theorem gc_X_mistakes_166 : GoodIn yGW (wsV "WhoseGlass" 166 yR4 m_X_ahead ws_X_ahead) := y_gV g_490 g_492 gs_4 g_1 g_493
set_option maxRecDepth 100000 in
def f_X_mistakes (F : Nat) (u : Mm) (o : Nat) (a1 : Int32) : Option (Int32 × Mm) := yb (f_X_isSpan F u a1) fun x1 u2 => (if x1 = 0 then some ((-1 : Int32), u2) else ob (jk YX 4 (some o)) fun t => yb (f_X_ahead F u2 t a1) fun r4 u5 => ob (jgi YX 2 6 u5 r4) fun (x6 : Int32) => some (x6, u5))
set_option maxHeartbeats 4000000 in
set_option maxRecDepth 100000 in
theorem c_X_mistakes (l : Launch) (w : WP) (F : Nat) (u : Mm) (o : Nat) (a1 : Int32) (out : Int32 × Mm) (h : f_X_mistakes F u o a1 = some out) : yMet l m_X_mistakes ws_X_mistakes ({ frames := 6, cells := 0, slots := 0, locals := 146 } : Room) YX w u [va_re w.1 (some o), .int a1] yfi out := by
  refine y_entry (own := "WhoseGlass") (lv := [(0, va_re w.1 (some o)), (1, .int a1)]) (by decide +kernel) rfl (by simp [lv_args, y_cat, y_catI, y_catJ]) (by simp [lg_sl, y_cat, y_catI, y_catJ]) ?_
  intro p e s m args below meth c C hr hlocks
  unfold f_X_mistakes at h
  refine y_iload_n C (i := 1) 1 d_X_mistakes_0 rfl rfl ?_
  refine y_callS 1 C (fun out hh => c_X_isSpan l w F u a1 out hh) (y_gc g_489) g_487 g_1 g_488 hn_X_isSpan ⟨Nat.le_of_ble_eq_true rfl, Nat.le_of_ble_eq_true rfl⟩ rfl rfl rfl rfl (by simp [y_cat, y_catI, y_catJ]) d_X_mistakes_1 h (fun x1 u2 h => ?_)
  refine y_stk (stp0 := [.int x1]) rfl ?_
  refine y_if_eq C 18 d_X_mistakes_4 (by decide) h (fun k3 h => ?_) (fun k3 h => ?_)
  · refine y_iconst C (v := -1) d_X_mistakes_18 (by decide) ?_
    exact y_iret C hr hlocks d_X_mistakes_19 h
  · refine y_aload_n C (i := 0) 0 d_X_mistakes_7 rfl rfl ?_
    refine y_iload_n C (i := 1) 1 d_X_mistakes_8 rfl rfl ?_
    refine y_callV 1 C (q := (yR4, yT4, 5)) (ci := 4) (fun t out hh => c_X_ahead l w F u2 t a1 out hh) gc_X_mistakes_166 rfl (by decide) hd_X_ahead ⟨Nat.le_of_ble_eq_true rfl, Nat.le_of_ble_eq_true rfl⟩ rfl rfl rfl rfl (by simp [y_cat, y_catI, y_catJ]) d_X_mistakes_9 h (fun r4 u5 h => ?_)
    refine y_stk (stp0 := [va_re w.1 r4]) rfl ?_
    refine y_gi C (q := (yR2, yT2, 9)) (ci := 2) (k := 6) rfl (by decide) rfl g_144 d_X_mistakes_12 h (fun x6 h => ?_)
    refine y_goto C (tgt := 19) d_X_mistakes_15 (by decide) ?_
    exact y_iret C hr hlocks d_X_mistakes_19 h
/-! X_fresh -/
theorem d_X_fresh_0 : decode prog_1_method_19_code 0 = .ok (.iload_n 1, 1) := by decide +kernel
theorem d_X_fresh_1 : decode prog_1_method_19_code 1 = .ok (.invokestatic 162, 3) := by decide +kernel
theorem d_X_fresh_4 : decode prog_1_method_19_code 4 = .ok (.ifCond .eq 14, 3) := by decide +kernel
theorem d_X_fresh_7 : decode prog_1_method_19_code 7 = .ok (.aload_n 0, 1) := by decide +kernel
theorem d_X_fresh_8 : decode prog_1_method_19_code 8 = .ok (.iload_n 1, 1) := by decide +kernel
theorem d_X_fresh_9 : decode prog_1_method_19_code 9 = .ok (.invokevirtual 166, 3) := by decide +kernel
theorem d_X_fresh_12 : decode prog_1_method_19_code 12 = .ok (.getfield 173, 3) := by decide +kernel
theorem d_X_fresh_15 : decode prog_1_method_19_code 15 = .ok (.goto 4, 3) := by decide +kernel
theorem d_X_fresh_18 : decode prog_1_method_19_code 18 = .ok (.iconst (-1), 1) := by decide +kernel
theorem d_X_fresh_19 : decode prog_1_method_19_code 19 = .ok (.ireturn, 1) := by decide +kernel
theorem gc_X_fresh_166 : GoodIn yGW (wsV "WhoseGlass" 166 yR4 m_X_ahead ws_X_ahead) := y_gV g_490 g_492 gs_4 g_1 g_493
set_option maxRecDepth 100000 in
def f_X_fresh (F : Nat) (u : Mm) (o : Nat) (a1 : Int32) : Option (Int32 × Mm) := yb (f_X_isSpan F u a1) fun x1 u2 => (if x1 = 0 then some ((-1 : Int32), u2) else ob (jk YX 4 (some o)) fun t => yb (f_X_ahead F u2 t a1) fun r4 u5 => ob (jgi YX 2 7 u5 r4) fun (x6 : Int32) => some (x6, u5))
set_option maxHeartbeats 4000000 in
set_option maxRecDepth 100000 in
theorem c_X_fresh (l : Launch) (w : WP) (F : Nat) (u : Mm) (o : Nat) (a1 : Int32) (out : Int32 × Mm) (h : f_X_fresh F u o a1 = some out) : yMet l m_X_fresh ws_X_fresh ({ frames := 6, cells := 0, slots := 0, locals := 146 } : Room) YX w u [va_re w.1 (some o), .int a1] yfi out := by
  refine y_entry (own := "WhoseGlass") (lv := [(0, va_re w.1 (some o)), (1, .int a1)]) (by decide +kernel) rfl (by simp [lv_args, y_cat, y_catI, y_catJ]) (by simp [lg_sl, y_cat, y_catI, y_catJ]) ?_
  intro p e s m args below meth c C hr hlocks
  unfold f_X_fresh at h
  refine y_iload_n C (i := 1) 1 d_X_fresh_0 rfl rfl ?_
  refine y_callS 1 C (fun out hh => c_X_isSpan l w F u a1 out hh) (y_gc g_489) g_487 g_1 g_488 hn_X_isSpan ⟨Nat.le_of_ble_eq_true rfl, Nat.le_of_ble_eq_true rfl⟩ rfl rfl rfl rfl (by simp [y_cat, y_catI, y_catJ]) d_X_fresh_1 h (fun x1 u2 h => ?_)
  refine y_stk (stp0 := [.int x1]) rfl ?_
  refine y_if_eq C 18 d_X_fresh_4 (by decide) h (fun k3 h => ?_) (fun k3 h => ?_)
  · refine y_iconst C (v := -1) d_X_fresh_18 (by decide) ?_
    exact y_iret C hr hlocks d_X_fresh_19 h
  · refine y_aload_n C (i := 0) 0 d_X_fresh_7 rfl rfl ?_
    refine y_iload_n C (i := 1) 1 d_X_fresh_8 rfl rfl ?_
    refine y_callV 1 C (q := (yR4, yT4, 5)) (ci := 4) (fun t out hh => c_X_ahead l w F u2 t a1 out hh) gc_X_fresh_166 rfl (by decide) hd_X_ahead ⟨Nat.le_of_ble_eq_true rfl, Nat.le_of_ble_eq_true rfl⟩ rfl rfl rfl rfl (by simp [y_cat, y_catI, y_catJ]) d_X_fresh_9 h (fun r4 u5 h => ?_)
    refine y_stk (stp0 := [va_re w.1 r4]) rfl ?_
    refine y_gi C (q := (yR2, yT2, 9)) (ci := 2) (k := 7) rfl (by decide) rfl g_146 d_X_fresh_12 h (fun x6 h => ?_)
    refine y_goto C (tgt := 19) d_X_fresh_15 (by decide) ?_
    exact y_iret C hr hlocks d_X_fresh_19 h
/-! H_coldBits -/
theorem d_H_coldBits_0 : decode prog_4_method_17_code 0 = .ok (.iconst 0, 1) := by decide +kernel
theorem d_H_coldBits_1 : decode prog_4_method_17_code 1 = .ok (.istore_n 1, 1) := by decide +kernel
theorem d_H_coldBits_2 : decode prog_4_method_17_code 2 = .ok (.iconst 0, 1) := by decide +kernel
theorem d_H_coldBits_3 : decode prog_4_method_17_code 3 = .ok (.istore_n 2, 1) := by decide +kernel
theorem d_H_coldBits_4 : decode prog_4_method_17_code 4 = .ok (.iload_n 2, 1) := by decide +kernel
theorem d_H_coldBits_5 : decode prog_4_method_17_code 5 = .ok (.aload_n 0, 1) := by decide +kernel
theorem d_H_coldBits_6 : decode prog_4_method_17_code 6 = .ok (.getfield 37, 3) := by decide +kernel
theorem d_H_coldBits_9 : decode prog_4_method_17_code 9 = .ok (.if_icmp .ge 32, 3) := by decide +kernel
theorem d_H_coldBits_12 : decode prog_4_method_17_code 12 = .ok (.aload_n 0, 1) := by decide +kernel
theorem d_H_coldBits_13 : decode prog_4_method_17_code 13 = .ok (.iload_n 2, 1) := by decide +kernel
theorem d_H_coldBits_14 : decode prog_4_method_17_code 14 = .ok (.invokevirtual 57, 3) := by decide +kernel
theorem d_H_coldBits_17 : decode prog_4_method_17_code 17 = .ok (.astore_n 3, 1) := by decide +kernel
theorem d_H_coldBits_18 : decode prog_4_method_17_code 18 = .ok (.aload_n 3, 1) := by decide +kernel
theorem d_H_coldBits_19 : decode prog_4_method_17_code 19 = .ok (.ifnull 16, 3) := by decide +kernel
theorem d_H_coldBits_22 : decode prog_4_method_17_code 22 = .ok (.aload_n 3, 1) := by decide +kernel
theorem d_H_coldBits_23 : decode prog_4_method_17_code 23 = .ok (.getfield 148, 3) := by decide +kernel
theorem d_H_coldBits_26 : decode prog_4_method_17_code 26 = .ok (.ifCond .eq 9, 3) := by decide +kernel
theorem d_H_coldBits_29 : decode prog_4_method_17_code 29 = .ok (.iload_n 1, 1) := by decide +kernel
theorem d_H_coldBits_30 : decode prog_4_method_17_code 30 = .ok (.iconst 1, 1) := by decide +kernel
theorem d_H_coldBits_31 : decode prog_4_method_17_code 31 = .ok (.iload_n 2, 1) := by decide +kernel
theorem d_H_coldBits_32 : decode prog_4_method_17_code 32 = .ok (.ishl, 1) := by decide +kernel
theorem d_H_coldBits_33 : decode prog_4_method_17_code 33 = .ok (.ior, 1) := by decide +kernel
theorem d_H_coldBits_34 : decode prog_4_method_17_code 34 = .ok (.istore_n 1, 1) := by decide +kernel
theorem d_H_coldBits_35 : decode prog_4_method_17_code 35 = .ok (.iinc 2 1, 3) := by decide +kernel
theorem d_H_coldBits_38 : decode prog_4_method_17_code 38 = .ok (.goto (-34), 3) := by decide +kernel
theorem d_H_coldBits_41 : decode prog_4_method_17_code 41 = .ok (.iload_n 1, 1) := by decide +kernel
theorem d_H_coldBits_42 : decode prog_4_method_17_code 42 = .ok (.ireturn, 1) := by decide +kernel
theorem gc_H_coldBits_57 : GoodIn yGW (wsV "WhoseGlass$House" 57 yR2 m_H_guestAt ws_H_guestAt) := y_gV g_267 g_268 g_269 g_2 g_270
set_option maxHeartbeats 4000000 in
set_option maxRecDepth 100000 in
def f_H_coldBits_L4 (F : Nat) (a0 : Option Nat) (k : Mm → Int32 → Option (Int32 × Mm)) : Nat → Mm → Int32 → Int32 → Option (Int32 × Mm)
  | 0, _, _, _ => none
  | n + 1, u, a1, a2 => ob (jgi YX 2 3 u a0) fun (x1 : Int32) => (if x1 ≤ a2 then k u a1 else ob (jk YX 2 a0) fun t => yb (f_H_guestAt F u t a2) fun r3 u4 => ob ((if r3 = none then some a1 else ob (jgi YX 1 9 u4 r3) fun (x7 : Int32) => (if x7 = 0 then some a1 else ob (some (a1 ||| ((1 : Int32) <<< (a2 &&& 31)))) fun (x9 : Int32) => some x9)) : Option (Int32)) fun q5 => ob (some (a2 + (1 : Int32))) fun (x10 : Int32) => f_H_coldBits_L4 F a0 k n u4 q5 x10)
set_option maxHeartbeats 4000000 in
set_option maxRecDepth 100000 in
theorem w_H_coldBits_L4 {p : Program} {l : Launch} {e : Env} {s : State} {m : MethodId} {args : Array Value} {below : List Frame} {meth : Method} {c : Code} {w : WP} {Q : State → Prop} (F : Nat) (C : yX p e ({ frames := 1, cells := 0, slots := 0, locals := 21 } : Room) s m args c YX w 4 prog_4_method_17_code "WhoseGlass$House") (hr : meth.sig.returnType = (some .int)) (hlocks : meth.locks = false) (a0 : Option Nat) {out : Int32 × Mm} (k : Mm → Int32 → Option (Int32 × Mm)) (hk : ∀ (u : Mm) (a1 : Int32), k u a1 = some out → yG p l e ({ frames := 1, cells := 0, slots := 0, locals := 21 } : Room) s m args below meth c YX w 4 Q u 41 [(1, .int a1)] []) : ∀ (n : Nat) (u : Mm) (a1 : Int32) (a2 : Int32), f_H_coldBits_L4 F a0 k n u a1 a2 = some out → yG p l e ({ frames := 1, cells := 0, slots := 0, locals := 21 } : Room) s m args below meth c YX w 4 Q u 4 [(0, va_re w.1 a0), (1, .int a1), (2, .int a2)] [] := by
  intro n
  induction n with
  | zero => intro u a1 a2 h; rw [f_H_coldBits_L4] at h; cases h
  | succ n ih =>
    intro u a1 a2 h
    rw [f_H_coldBits_L4] at h
    refine y_iload_n C (i := 2) 2 d_H_coldBits_4 rfl rfl ?_
    refine y_aload_n C (i := 0) 0 d_H_coldBits_5 rfl rfl ?_
    refine y_gi C (q := (yR2, yT2, 9)) (ci := 2) (k := 3) rfl (by decide) rfl g_135 d_H_coldBits_6 h (fun x1 h => ?_)
    refine y_ic_ge C 41 d_H_coldBits_9 (by decide) h (fun k2 h => ?_) (fun k2 h => ?_)
    · exact y_sub [1] rfl (hk _ _ h)
    · refine y_aload_n C (i := 0) 0 d_H_coldBits_12 rfl rfl ?_
      refine y_iload_n C (i := 2) 2 d_H_coldBits_13 rfl rfl ?_
      refine y_callV 1 C (q := (yR2, yT2, 9)) (ci := 2) (fun t out hh => c_H_guestAt l w F u t a2 out hh) gc_H_coldBits_57 rfl (by decide) hd_H_guestAt ⟨Nat.le_of_ble_eq_true rfl, Nat.le_of_ble_eq_true rfl⟩ rfl rfl rfl rfl (by simp [y_cat, y_catI, y_catJ]) d_H_coldBits_14 h (fun r3 u4 h => ?_)
      refine y_stk (stp0 := [va_re w.1 r3]) rfl ?_
      refine y_astore_n C (i := 3) (lvp := [(0, va_re w.1 a0), (1, .int a1), (2, .int a2)]) d_H_coldBits_17 rfl (by decide) (by simp [List.filter, y_cat, y_catI, y_catJ]) ?_
      refine y_aload_n C (i := 3) 0 d_H_coldBits_18 rfl rfl ?_
      obtain ⟨q5, hq5, h⟩ := ob_e h
      have hJq5 : yG p l e ({ frames := 1, cells := 0, slots := 0, locals := 21 } : Room) s m args below meth c YX w 4 Q u4 35 [(0, va_re w.1 a0), (1, .int q5), (2, .int a2)] [] := by
        refine y_iinc C (j := 2) (v := 1) (lvp := [(0, va_re w.1 a0), (1, .int q5)]) d_H_coldBits_35 rfl (by decide) (by decide) rfl h (fun x10 h => ?_)
        refine y_goto C (tgt := 4) d_H_coldBits_38 (by decide) ?_
        exact y_sub [1, 2, 0] rfl (ih _ _ _ h)
      refine y_ifnull C 35 d_H_coldBits_19 (by decide) hq5 (fun k6 hq5 => ?_) (fun k6 hq5 => ?_)
      · cases hq5
        exact y_sub [1, 2, 3] rfl hJq5
      · refine y_aload_n C (i := 3) 0 d_H_coldBits_22 rfl rfl ?_
        refine y_gi C (q := (yR1, yT1, 10)) (ci := 1) (k := 9) rfl (by decide) rfl g_109 d_H_coldBits_23 hq5 (fun x7 hq5 => ?_)
        refine y_if_eq C 35 d_H_coldBits_26 (by decide) hq5 (fun k8 hq5 => ?_) (fun k8 hq5 => ?_)
        · cases hq5
          exact y_sub [1, 2, 3] rfl hJq5
        · refine y_iload_n C (i := 1) 2 d_H_coldBits_29 rfl rfl ?_
          refine y_iconst C (v := 1) d_H_coldBits_30 (by decide) ?_
          refine y_iload_n C (i := 2) 3 d_H_coldBits_31 rfl rfl ?_
          refine y_ishl C d_H_coldBits_32 ?_
          refine y_ior C d_H_coldBits_33 ?_
          refine y_istore_nB C (i := 1) (lvp := [(3, va_re w.1 r3), (0, va_re w.1 a0), (2, .int a2)]) d_H_coldBits_34 rfl (by decide) (by simp [List.filter, y_cat, y_catI, y_catJ]) hq5 (fun x9 hq5 => ?_)
          cases hq5
          exact y_sub [2, 0, 3] rfl hJq5
set_option maxRecDepth 100000 in
def f_H_coldBits (F : Nat) (u : Mm) (o : Nat) : Option (Int32 × Mm) := f_H_coldBits_L4 F (some o) (fun (u11 : Mm) (x12 : Int32) => some (x12, u11)) F u (0 : Int32) (0 : Int32)
set_option maxHeartbeats 4000000 in
set_option maxRecDepth 100000 in
theorem c_H_coldBits (l : Launch) (w : WP) (F : Nat) (u : Mm) (o : Nat) (out : Int32 × Mm) (h : f_H_coldBits F u o = some out) : yMet l m_H_coldBits ws_H_coldBits ({ frames := 1, cells := 0, slots := 0, locals := 21 } : Room) YX w u [va_re w.1 (some o)] yfi out := by
  refine y_entry (own := "WhoseGlass$House") (lv := [(0, va_re w.1 (some o))]) (by decide +kernel) rfl (by simp [lv_args, y_cat, y_catI, y_catJ]) (by simp [lg_sl, y_cat, y_catI, y_catJ]) ?_
  intro p e s m args below meth c C hr hlocks
  unfold f_H_coldBits at h
  refine y_iconst C (v := 0) d_H_coldBits_0 (by decide) ?_
  refine y_istore_n C (i := 1) (lvp := [(0, va_re w.1 (some o))]) d_H_coldBits_1 rfl (by decide) (by simp [List.filter, y_cat, y_catI, y_catJ]) ?_
  refine y_iconst C (v := 0) d_H_coldBits_2 (by decide) ?_
  refine y_istore_n C (i := 2) (lvp := [(1, .int (0 : Int32)), (0, va_re w.1 (some o))]) d_H_coldBits_3 rfl (by decide) rfl ?_
  refine y_sub [2, 1, 0] rfl (w_H_coldBits_L4 F C hr hlocks _ _ (fun u11 x12 h => ?_) _ _ _ _ h)
  refine y_iload_n C (i := 1) 0 d_H_coldBits_41 rfl rfl ?_
  exact y_iret C hr hlocks d_H_coldBits_42 h
/-! X_colds -/
theorem d_X_colds_0 : decode prog_1_method_20_code 0 = .ok (.iload_n 1, 1) := by decide +kernel
theorem d_X_colds_1 : decode prog_1_method_20_code 1 = .ok (.invokestatic 162, 3) := by decide +kernel
theorem d_X_colds_4 : decode prog_1_method_20_code 4 = .ok (.ifCond .eq 14, 3) := by decide +kernel
theorem d_X_colds_7 : decode prog_1_method_20_code 7 = .ok (.aload_n 0, 1) := by decide +kernel
theorem d_X_colds_8 : decode prog_1_method_20_code 8 = .ok (.iload_n 1, 1) := by decide +kernel
theorem d_X_colds_9 : decode prog_1_method_20_code 9 = .ok (.invokevirtual 166, 3) := by decide +kernel
theorem d_X_colds_12 : decode prog_1_method_20_code 12 = .ok (.invokevirtual 176, 3) := by decide +kernel
theorem d_X_colds_15 : decode prog_1_method_20_code 15 = .ok (.goto 4, 3) := by decide +kernel
theorem d_X_colds_18 : decode prog_1_method_20_code 18 = .ok (.iconst (-1), 1) := by decide +kernel
theorem d_X_colds_19 : decode prog_1_method_20_code 19 = .ok (.ireturn, 1) := by decide +kernel
theorem gc_X_colds_166 : GoodIn yGW (wsV "WhoseGlass" 166 yR4 m_X_ahead ws_X_ahead) := y_gV g_490 g_492 gs_4 g_1 g_493
theorem gc_X_colds_176 : GoodIn yGW (wsV "WhoseGlass" 176 yR2 m_H_coldBits ws_H_coldBits) := y_gV g_502 g_503 g_504 g_2 g_505
set_option maxRecDepth 100000 in
def f_X_colds (F : Nat) (u : Mm) (o : Nat) (a1 : Int32) : Option (Int32 × Mm) := yb (f_X_isSpan F u a1) fun x1 u2 => (if x1 = 0 then some ((-1 : Int32), u2) else ob (jk YX 4 (some o)) fun t => yb (f_X_ahead F u2 t a1) fun r4 u5 => ob (jk YX 2 r4) fun t => yb (f_H_coldBits F u5 t ) fun x6 u7 => some (x6, u7))
set_option maxHeartbeats 4000000 in
set_option maxRecDepth 100000 in
theorem c_X_colds (l : Launch) (w : WP) (F : Nat) (u : Mm) (o : Nat) (a1 : Int32) (out : Int32 × Mm) (h : f_X_colds F u o a1 = some out) : yMet l m_X_colds ws_X_colds ({ frames := 6, cells := 0, slots := 0, locals := 146 } : Room) YX w u [va_re w.1 (some o), .int a1] yfi out := by
  refine y_entry (own := "WhoseGlass") (lv := [(0, va_re w.1 (some o)), (1, .int a1)]) (by decide +kernel) rfl (by simp [lv_args, y_cat, y_catI, y_catJ]) (by simp [lg_sl, y_cat, y_catI, y_catJ]) ?_
  intro p e s m args below meth c C hr hlocks
  unfold f_X_colds at h
  refine y_iload_n C (i := 1) 1 d_X_colds_0 rfl rfl ?_
  refine y_callS 1 C (fun out hh => c_X_isSpan l w F u a1 out hh) (y_gc g_489) g_487 g_1 g_488 hn_X_isSpan ⟨Nat.le_of_ble_eq_true rfl, Nat.le_of_ble_eq_true rfl⟩ rfl rfl rfl rfl (by simp [y_cat, y_catI, y_catJ]) d_X_colds_1 h (fun x1 u2 h => ?_)
  refine y_stk (stp0 := [.int x1]) rfl ?_
  refine y_if_eq C 18 d_X_colds_4 (by decide) h (fun k3 h => ?_) (fun k3 h => ?_)
  · refine y_iconst C (v := -1) d_X_colds_18 (by decide) ?_
    exact y_iret C hr hlocks d_X_colds_19 h
  · refine y_aload_n C (i := 0) 0 d_X_colds_7 rfl rfl ?_
    refine y_iload_n C (i := 1) 1 d_X_colds_8 rfl rfl ?_
    refine y_callV 1 C (q := (yR4, yT4, 5)) (ci := 4) (fun t out hh => c_X_ahead l w F u2 t a1 out hh) gc_X_colds_166 rfl (by decide) hd_X_ahead ⟨Nat.le_of_ble_eq_true rfl, Nat.le_of_ble_eq_true rfl⟩ rfl rfl rfl rfl (by simp [y_cat, y_catI, y_catJ]) d_X_colds_9 h (fun r4 u5 h => ?_)
    refine y_stk (stp0 := [va_re w.1 r4]) rfl ?_
    refine y_callV 0 C (q := (yR2, yT2, 9)) (ci := 2) (fun t out hh => c_H_coldBits l w F u5 t out hh) gc_X_colds_176 rfl (by decide) hd_H_coldBits ⟨Nat.le_of_ble_eq_true rfl, Nat.le_of_ble_eq_true rfl⟩ rfl rfl rfl rfl (by simp [y_cat, y_catI, y_catJ]) d_X_colds_12 h (fun x6 u7 h => ?_)
    refine y_stk (stp0 := [.int x6]) rfl ?_
    refine y_goto C (tgt := 19) d_X_colds_15 (by decide) ?_
    exact y_iret C hr hlocks d_X_colds_19 h
/-! X_had -/
theorem d_X_had_0 : decode prog_1_method_21_code 0 = .ok (.aload_n 0, 1) := by decide +kernel
theorem d_X_had_1 : decode prog_1_method_21_code 1 = .ok (.getfield 10, 3) := by decide +kernel
theorem d_X_had_4 : decode prog_1_method_21_code 4 = .ok (.iload_n 1, 1) := by decide +kernel
theorem d_X_had_5 : decode prog_1_method_21_code 5 = .ok (.invokevirtual 71, 3) := by decide +kernel
theorem d_X_had_8 : decode prog_1_method_21_code 8 = .ok (.ifnull 10, 3) := by decide +kernel
theorem d_X_had_11 : decode prog_1_method_21_code 11 = .ok (.iload_n 2, 1) := by decide +kernel
theorem d_X_had_12 : decode prog_1_method_21_code 12 = .ok (.invokestatic 162, 3) := by decide +kernel
theorem d_X_had_15 : decode prog_1_method_21_code 15 = .ok (.ifCond .ne 5, 3) := by decide +kernel
theorem d_X_had_18 : decode prog_1_method_21_code 18 = .ok (.iconst (-1), 1) := by decide +kernel
theorem d_X_had_19 : decode prog_1_method_21_code 19 = .ok (.ireturn, 1) := by decide +kernel
theorem d_X_had_20 : decode prog_1_method_21_code 20 = .ok (.aload_n 0, 1) := by decide +kernel
theorem d_X_had_21 : decode prog_1_method_21_code 21 = .ok (.iload_n 2, 1) := by decide +kernel
theorem d_X_had_22 : decode prog_1_method_21_code 22 = .ok (.invokevirtual 166, 3) := by decide +kernel
theorem d_X_had_25 : decode prog_1_method_21_code 25 = .ok (.iload_n 1, 1) := by decide +kernel
theorem d_X_had_26 : decode prog_1_method_21_code 26 = .ok (.invokevirtual 71, 3) := by decide +kernel
theorem d_X_had_29 : decode prog_1_method_21_code 29 = .ok (.astore_n 3, 1) := by decide +kernel
theorem d_X_had_30 : decode prog_1_method_21_code 30 = .ok (.aload_n 3, 1) := by decide +kernel
theorem d_X_had_31 : decode prog_1_method_21_code 31 = .ok (.ifnonnull 7, 3) := by decide +kernel
theorem d_X_had_34 : decode prog_1_method_21_code 34 = .ok (.iconst (-1), 1) := by decide +kernel
theorem d_X_had_35 : decode prog_1_method_21_code 35 = .ok (.goto 7, 3) := by decide +kernel
theorem d_X_had_38 : decode prog_1_method_21_code 38 = .ok (.aload_n 3, 1) := by decide +kernel
theorem d_X_had_39 : decode prog_1_method_21_code 39 = .ok (.getfield 179, 3) := by decide +kernel
theorem d_X_had_42 : decode prog_1_method_21_code 42 = .ok (.ireturn, 1) := by decide +kernel
theorem gc_X_had_71 : GoodIn yGW (wsV "WhoseGlass" 71 yR2 m_H_guestAt ws_H_guestAt) := y_gV g_391 g_268 g_269 g_2 g_270
theorem gc_X_had_166 : GoodIn yGW (wsV "WhoseGlass" 166 yR4 m_X_ahead ws_X_ahead) := y_gV g_490 g_492 gs_4 g_1 g_493
set_option maxRecDepth 100000 in
def f_X_had (F : Nat) (u : Mm) (o : Nat) (a1 : Int32) (a2 : Int32) : Option (Int32 × Mm) := ob (jgr YX 4 0 (some o)) fun (r1 : Option Nat) => ob (jk YX 2 r1) fun t => yb (f_H_guestAt F u t a1) fun r2 u3 => (if r2 = none then some ((-1 : Int32), u3) else yb (f_X_isSpan F u3 a2) fun x5 u6 => (if x5 = 0 then some ((-1 : Int32), u6) else ob (jk YX 4 (some o)) fun t => yb (f_X_ahead F u6 t a2) fun r8 u9 => ob (jk YX 2 r8) fun t => yb (f_H_guestAt F u9 t a1) fun r10 u11 => (if r10 = none then some ((-1 : Int32), u11) else ob (jgi YX 1 8 u11 r10) fun (x13 : Int32) => some (x13, u11))))
set_option maxHeartbeats 4000000 in
set_option maxRecDepth 100000 in
theorem c_X_had (l : Launch) (w : WP) (F : Nat) (u : Mm) (o : Nat) (a1 : Int32) (a2 : Int32) (out : Int32 × Mm) (h : f_X_had F u o a1 a2 = some out) : yMet l m_X_had ws_X_had ({ frames := 6, cells := 0, slots := 0, locals := 146 } : Room) YX w u [va_re w.1 (some o), .int a1, .int a2] yfi out := by
  refine y_entry (own := "WhoseGlass") (lv := [(0, va_re w.1 (some o)), (1, .int a1), (2, .int a2)]) (by decide +kernel) rfl (by simp [lv_args, y_cat, y_catI, y_catJ]) (by simp [lg_sl, y_cat, y_catI, y_catJ]) ?_
  intro p e s m args below meth c C hr hlocks
  unfold f_X_had at h
  refine y_aload_n C (i := 0) 0 d_X_had_0 rfl rfl ?_
  refine y_gr C (q := (yR4, yT4, 5)) (ci := 4) (k := 0) rfl (by decide) rfl (by decide) g_202 d_X_had_1 h (fun r1 h => ?_)
  refine y_iload_n C (i := 1) 1 d_X_had_4 rfl rfl ?_
  refine y_callV 1 C (q := (yR2, yT2, 9)) (ci := 2) (fun t out hh => c_H_guestAt l w F u t a1 out hh) gc_X_had_71 rfl (by decide) hd_H_guestAt ⟨Nat.le_of_ble_eq_true rfl, Nat.le_of_ble_eq_true rfl⟩ rfl rfl rfl rfl (by simp [y_cat, y_catI, y_catJ]) d_X_had_5 h (fun r2 u3 h => ?_)
  refine y_stk (stp0 := [va_re w.1 r2]) rfl ?_
  refine y_ifnull C 18 d_X_had_8 (by decide) h (fun k4 h => ?_) (fun k4 h => ?_)
  · refine y_iconst C (v := -1) d_X_had_18 (by decide) ?_
    exact y_iret C hr hlocks d_X_had_19 h
  · refine y_iload_n C (i := 2) 2 d_X_had_11 rfl rfl ?_
    refine y_callS 1 C (fun out hh => c_X_isSpan l w F u3 a2 out hh) (y_gc g_489) g_487 g_1 g_488 hn_X_isSpan ⟨Nat.le_of_ble_eq_true rfl, Nat.le_of_ble_eq_true rfl⟩ rfl rfl rfl rfl (by simp [y_cat, y_catI, y_catJ]) d_X_had_12 h (fun x5 u6 h => ?_)
    refine y_stk (stp0 := [.int x5]) rfl ?_
    refine y_if_ne C 20 d_X_had_15 (by decide) h (fun k7 h => ?_) (fun k7 h => ?_)
    · refine y_iconst C (v := -1) d_X_had_18 (by decide) ?_
      exact y_iret C hr hlocks d_X_had_19 h
    · refine y_aload_n C (i := 0) 0 d_X_had_20 rfl rfl ?_
      refine y_iload_n C (i := 2) 2 d_X_had_21 rfl rfl ?_
      refine y_callV 1 C (q := (yR4, yT4, 5)) (ci := 4) (fun t out hh => c_X_ahead l w F u6 t a2 out hh) gc_X_had_166 rfl (by decide) hd_X_ahead ⟨Nat.le_of_ble_eq_true rfl, Nat.le_of_ble_eq_true rfl⟩ rfl rfl rfl rfl (by simp [y_cat, y_catI, y_catJ]) d_X_had_22 h (fun r8 u9 h => ?_)
      refine y_stk (stp0 := [va_re w.1 r8]) rfl ?_
      refine y_iload_n C (i := 1) 1 d_X_had_25 rfl rfl ?_
      refine y_callV 1 C (q := (yR2, yT2, 9)) (ci := 2) (fun t out hh => c_H_guestAt l w F u9 t a1 out hh) gc_X_had_71 rfl (by decide) hd_H_guestAt ⟨Nat.le_of_ble_eq_true rfl, Nat.le_of_ble_eq_true rfl⟩ rfl rfl rfl rfl (by simp [y_cat, y_catI, y_catJ]) d_X_had_26 h (fun r10 u11 h => ?_)
      refine y_stk (stp0 := [va_re w.1 r10]) rfl ?_
      refine y_astore_n C (i := 3) (lvp := [(0, va_re w.1 (some o)), (1, .int a1), (2, .int a2)]) d_X_had_29 rfl (by decide) (by simp [List.filter, y_cat, y_catI, y_catJ]) ?_
      refine y_aload_n C (i := 3) 0 d_X_had_30 rfl rfl ?_
      refine y_ifnonnull C 38 d_X_had_31 (by decide) h (fun k12 h => ?_) (fun k12 h => ?_)
      · refine y_iconst C (v := -1) d_X_had_34 (by decide) ?_
        refine y_goto C (tgt := 42) d_X_had_35 (by decide) ?_
        exact y_iret C hr hlocks d_X_had_42 h
      · refine y_aload_n C (i := 3) 0 d_X_had_38 rfl rfl ?_
        refine y_gi C (q := (yR1, yT1, 10)) (ci := 1) (k := 8) rfl (by decide) rfl g_106 d_X_had_39 h (fun x13 h => ?_)
        exact y_iret C hr hlocks d_X_had_42 h
/-! X_where -/
theorem d_X_where_0 : decode prog_1_method_22_code 0 = .ok (.aload_n 0, 1) := by decide +kernel
theorem d_X_where_1 : decode prog_1_method_22_code 1 = .ok (.getfield 10, 3) := by decide +kernel
theorem d_X_where_4 : decode prog_1_method_22_code 4 = .ok (.iload_n 1, 1) := by decide +kernel
theorem d_X_where_5 : decode prog_1_method_22_code 5 = .ok (.invokevirtual 61, 3) := by decide +kernel
theorem d_X_where_8 : decode prog_1_method_22_code 8 = .ok (.ifnull 10, 3) := by decide +kernel
theorem d_X_where_11 : decode prog_1_method_22_code 11 = .ok (.iload_n 2, 1) := by decide +kernel
theorem d_X_where_12 : decode prog_1_method_22_code 12 = .ok (.invokestatic 162, 3) := by decide +kernel
theorem d_X_where_15 : decode prog_1_method_22_code 15 = .ok (.ifCond .ne 5, 3) := by decide +kernel
theorem d_X_where_18 : decode prog_1_method_22_code 18 = .ok (.iconst (-1), 1) := by decide +kernel
theorem d_X_where_19 : decode prog_1_method_22_code 19 = .ok (.ireturn, 1) := by decide +kernel
theorem d_X_where_20 : decode prog_1_method_22_code 20 = .ok (.aload_n 0, 1) := by decide +kernel
theorem d_X_where_21 : decode prog_1_method_22_code 21 = .ok (.iload_n 2, 1) := by decide +kernel
theorem d_X_where_22 : decode prog_1_method_22_code 22 = .ok (.invokevirtual 166, 3) := by decide +kernel
theorem d_X_where_25 : decode prog_1_method_22_code 25 = .ok (.iload_n 1, 1) := by decide +kernel
theorem d_X_where_26 : decode prog_1_method_22_code 26 = .ok (.invokevirtual 61, 3) := by decide +kernel
theorem d_X_where_29 : decode prog_1_method_22_code 29 = .ok (.astore_n 3, 1) := by decide +kernel
theorem d_X_where_30 : decode prog_1_method_22_code 30 = .ok (.aload_n 3, 1) := by decide +kernel
theorem d_X_where_31 : decode prog_1_method_22_code 31 = .ok (.ifnonnull 7, 3) := by decide +kernel
theorem d_X_where_34 : decode prog_1_method_22_code 34 = .ok (.iconst (-1), 1) := by decide +kernel
theorem d_X_where_35 : decode prog_1_method_22_code 35 = .ok (.goto 7, 3) := by decide +kernel
theorem d_X_where_38 : decode prog_1_method_22_code 38 = .ok (.aload_n 3, 1) := by decide +kernel
theorem d_X_where_39 : decode prog_1_method_22_code 39 = .ok (.getfield 126, 3) := by decide +kernel
theorem d_X_where_42 : decode prog_1_method_22_code 42 = .ok (.ireturn, 1) := by decide +kernel
theorem gc_X_where_61 : GoodIn yGW (wsV "WhoseGlass" 61 yR2 m_H_glassAt ws_H_glassAt) := y_gV g_381 g_260 g_261 g_2 g_262
theorem gc_X_where_166 : GoodIn yGW (wsV "WhoseGlass" 166 yR4 m_X_ahead ws_X_ahead) := y_gV g_490 g_492 gs_4 g_1 g_493
set_option maxRecDepth 100000 in
def f_X_where (F : Nat) (u : Mm) (o : Nat) (a1 : Int32) (a2 : Int32) : Option (Int32 × Mm) := ob (jgr YX 4 0 (some o)) fun (r1 : Option Nat) => ob (jk YX 2 r1) fun t => yb (f_H_glassAt F u t a1) fun r2 u3 => (if r2 = none then some ((-1 : Int32), u3) else yb (f_X_isSpan F u3 a2) fun x5 u6 => (if x5 = 0 then some ((-1 : Int32), u6) else ob (jk YX 4 (some o)) fun t => yb (f_X_ahead F u6 t a2) fun r8 u9 => ob (jk YX 2 r8) fun t => yb (f_H_glassAt F u9 t a1) fun r10 u11 => (if r10 = none then some ((-1 : Int32), u11) else ob (jgi YX 0 4 u11 r10) fun (x13 : Int32) => some (x13, u11))))
set_option maxHeartbeats 4000000 in
set_option maxRecDepth 100000 in
theorem c_X_where (l : Launch) (w : WP) (F : Nat) (u : Mm) (o : Nat) (a1 : Int32) (a2 : Int32) (out : Int32 × Mm) (h : f_X_where F u o a1 a2 = some out) : yMet l m_X_where ws_X_where ({ frames := 6, cells := 0, slots := 0, locals := 146 } : Room) YX w u [va_re w.1 (some o), .int a1, .int a2] yfi out := by
  refine y_entry (own := "WhoseGlass") (lv := [(0, va_re w.1 (some o)), (1, .int a1), (2, .int a2)]) (by decide +kernel) rfl (by simp [lv_args, y_cat, y_catI, y_catJ]) (by simp [lg_sl, y_cat, y_catI, y_catJ]) ?_
  intro p e s m args below meth c C hr hlocks
  unfold f_X_where at h
  refine y_aload_n C (i := 0) 0 d_X_where_0 rfl rfl ?_
  refine y_gr C (q := (yR4, yT4, 5)) (ci := 4) (k := 0) rfl (by decide) rfl (by decide) g_202 d_X_where_1 h (fun r1 h => ?_)
  refine y_iload_n C (i := 1) 1 d_X_where_4 rfl rfl ?_
  refine y_callV 1 C (q := (yR2, yT2, 9)) (ci := 2) (fun t out hh => c_H_glassAt l w F u t a1 out hh) gc_X_where_61 rfl (by decide) hd_H_glassAt ⟨Nat.le_of_ble_eq_true rfl, Nat.le_of_ble_eq_true rfl⟩ rfl rfl rfl rfl (by simp [y_cat, y_catI, y_catJ]) d_X_where_5 h (fun r2 u3 h => ?_)
  refine y_stk (stp0 := [va_re w.1 r2]) rfl ?_
  refine y_ifnull C 18 d_X_where_8 (by decide) h (fun k4 h => ?_) (fun k4 h => ?_)
  · refine y_iconst C (v := -1) d_X_where_18 (by decide) ?_
    exact y_iret C hr hlocks d_X_where_19 h
  · refine y_iload_n C (i := 2) 2 d_X_where_11 rfl rfl ?_
    refine y_callS 1 C (fun out hh => c_X_isSpan l w F u3 a2 out hh) (y_gc g_489) g_487 g_1 g_488 hn_X_isSpan ⟨Nat.le_of_ble_eq_true rfl, Nat.le_of_ble_eq_true rfl⟩ rfl rfl rfl rfl (by simp [y_cat, y_catI, y_catJ]) d_X_where_12 h (fun x5 u6 h => ?_)
    refine y_stk (stp0 := [.int x5]) rfl ?_
    refine y_if_ne C 20 d_X_where_15 (by decide) h (fun k7 h => ?_) (fun k7 h => ?_)
    · refine y_iconst C (v := -1) d_X_where_18 (by decide) ?_
      exact y_iret C hr hlocks d_X_where_19 h
    · refine y_aload_n C (i := 0) 0 d_X_where_20 rfl rfl ?_
      refine y_iload_n C (i := 2) 2 d_X_where_21 rfl rfl ?_
      refine y_callV 1 C (q := (yR4, yT4, 5)) (ci := 4) (fun t out hh => c_X_ahead l w F u6 t a2 out hh) gc_X_where_166 rfl (by decide) hd_X_ahead ⟨Nat.le_of_ble_eq_true rfl, Nat.le_of_ble_eq_true rfl⟩ rfl rfl rfl rfl (by simp [y_cat, y_catI, y_catJ]) d_X_where_22 h (fun r8 u9 h => ?_)
      refine y_stk (stp0 := [va_re w.1 r8]) rfl ?_
      refine y_iload_n C (i := 1) 1 d_X_where_25 rfl rfl ?_
      refine y_callV 1 C (q := (yR2, yT2, 9)) (ci := 2) (fun t out hh => c_H_glassAt l w F u9 t a1 out hh) gc_X_where_61 rfl (by decide) hd_H_glassAt ⟨Nat.le_of_ble_eq_true rfl, Nat.le_of_ble_eq_true rfl⟩ rfl rfl rfl rfl (by simp [y_cat, y_catI, y_catJ]) d_X_where_26 h (fun r10 u11 h => ?_)
      refine y_stk (stp0 := [va_re w.1 r10]) rfl ?_
      refine y_astore_n C (i := 3) (lvp := [(0, va_re w.1 (some o)), (1, .int a1), (2, .int a2)]) d_X_where_29 rfl (by decide) (by simp [List.filter, y_cat, y_catI, y_catJ]) ?_
      refine y_aload_n C (i := 3) 0 d_X_where_30 rfl rfl ?_
      refine y_ifnonnull C 38 d_X_where_31 (by decide) h (fun k12 h => ?_) (fun k12 h => ?_)
      · refine y_iconst C (v := -1) d_X_where_34 (by decide) ?_
        refine y_goto C (tgt := 42) d_X_where_35 (by decide) ?_
        exact y_iret C hr hlocks d_X_where_42 h
      · refine y_aload_n C (i := 3) 0 d_X_where_38 rfl rfl ?_
        refine y_gi C (q := (yR0, yT0, 8)) (ci := 0) (k := 4) rfl (by decide) rfl g_52 d_X_where_39 h (fun x13 h => ?_)
        exact y_iret C hr hlocks d_X_where_42 h
/-! H_leaveColdTo -/
theorem d_H_leaveColdTo_0 : decode prog_4_method_18_code 0 = .ok (.iconst 0, 1) := by decide +kernel
theorem d_H_leaveColdTo_1 : decode prog_4_method_18_code 1 = .ok (.istore_n 2, 1) := by decide +kernel
theorem d_H_leaveColdTo_2 : decode prog_4_method_18_code 2 = .ok (.iload_n 2, 1) := by decide +kernel
theorem d_H_leaveColdTo_3 : decode prog_4_method_18_code 3 = .ok (.aload_n 0, 1) := by decide +kernel
theorem d_H_leaveColdTo_4 : decode prog_4_method_18_code 4 = .ok (.getfield 34, 3) := by decide +kernel
theorem d_H_leaveColdTo_7 : decode prog_4_method_18_code 7 = .ok (.if_icmp .ge 24, 3) := by decide +kernel
theorem d_H_leaveColdTo_10 : decode prog_4_method_18_code 10 = .ok (.aload_n 0, 1) := by decide +kernel
theorem d_H_leaveColdTo_11 : decode prog_4_method_18_code 11 = .ok (.iload_n 2, 1) := by decide +kernel
theorem d_H_leaveColdTo_12 : decode prog_4_method_18_code 12 = .ok (.invokevirtual 49, 3) := by decide +kernel
theorem d_H_leaveColdTo_15 : decode prog_4_method_18_code 15 = .ok (.astore_n 3, 1) := by decide +kernel
theorem d_H_leaveColdTo_16 : decode prog_4_method_18_code 16 = .ok (.aload_n 3, 1) := by decide +kernel
theorem d_H_leaveColdTo_17 : decode prog_4_method_18_code 17 = .ok (.ifnull 8, 3) := by decide +kernel
theorem d_H_leaveColdTo_20 : decode prog_4_method_18_code 20 = .ok (.aload_n 3, 1) := by decide +kernel
theorem d_H_leaveColdTo_21 : decode prog_4_method_18_code 21 = .ok (.iconst 0, 1) := by decide +kernel
theorem d_H_leaveColdTo_22 : decode prog_4_method_18_code 22 = .ok (.putfield 152, 3) := by decide +kernel
theorem d_H_leaveColdTo_25 : decode prog_4_method_18_code 25 = .ok (.iinc 2 1, 3) := by decide +kernel
theorem d_H_leaveColdTo_28 : decode prog_4_method_18_code 28 = .ok (.goto (-26), 3) := by decide +kernel
theorem d_H_leaveColdTo_31 : decode prog_4_method_18_code 31 = .ok (.iconst 0, 1) := by decide +kernel
theorem d_H_leaveColdTo_32 : decode prog_4_method_18_code 32 = .ok (.istore_n 2, 1) := by decide +kernel
theorem d_H_leaveColdTo_33 : decode prog_4_method_18_code 33 = .ok (.iload_n 2, 1) := by decide +kernel
theorem d_H_leaveColdTo_34 : decode prog_4_method_18_code 34 = .ok (.aload_n 0, 1) := by decide +kernel
theorem d_H_leaveColdTo_35 : decode prog_4_method_18_code 35 = .ok (.getfield 37, 3) := by decide +kernel
theorem d_H_leaveColdTo_38 : decode prog_4_method_18_code 38 = .ok (.if_icmp .ge 33, 3) := by decide +kernel
theorem d_H_leaveColdTo_41 : decode prog_4_method_18_code 41 = .ok (.aload_n 0, 1) := by decide +kernel
theorem d_H_leaveColdTo_42 : decode prog_4_method_18_code 42 = .ok (.iload_n 2, 1) := by decide +kernel
theorem d_H_leaveColdTo_43 : decode prog_4_method_18_code 43 = .ok (.invokevirtual 57, 3) := by decide +kernel
theorem d_H_leaveColdTo_46 : decode prog_4_method_18_code 46 = .ok (.astore_n 3, 1) := by decide +kernel
theorem d_H_leaveColdTo_47 : decode prog_4_method_18_code 47 = .ok (.aload_n 3, 1) := by decide +kernel
theorem d_H_leaveColdTo_48 : decode prog_4_method_18_code 48 = .ok (.ifnull 17, 3) := by decide +kernel
theorem d_H_leaveColdTo_51 : decode prog_4_method_18_code 51 = .ok (.aload_n 3, 1) := by decide +kernel
theorem d_H_leaveColdTo_52 : decode prog_4_method_18_code 52 = .ok (.iload_n 2, 1) := by decide +kernel
theorem d_H_leaveColdTo_53 : decode prog_4_method_18_code 53 = .ok (.iload_n 1, 1) := by decide +kernel
theorem d_H_leaveColdTo_54 : decode prog_4_method_18_code 54 = .ok (.if_icmp .ne 7, 3) := by decide +kernel
theorem d_H_leaveColdTo_57 : decode prog_4_method_18_code 57 = .ok (.iconst 1, 1) := by decide +kernel
theorem d_H_leaveColdTo_58 : decode prog_4_method_18_code 58 = .ok (.goto 4, 3) := by decide +kernel
theorem d_H_leaveColdTo_61 : decode prog_4_method_18_code 61 = .ok (.iconst 0, 1) := by decide +kernel
theorem d_H_leaveColdTo_62 : decode prog_4_method_18_code 62 = .ok (.putfield 148, 3) := by decide +kernel
theorem d_H_leaveColdTo_65 : decode prog_4_method_18_code 65 = .ok (.iinc 2 1, 3) := by decide +kernel
theorem d_H_leaveColdTo_68 : decode prog_4_method_18_code 68 = .ok (.goto (-35), 3) := by decide +kernel
theorem d_H_leaveColdTo_71 : decode prog_4_method_18_code 71 = .ok (.return_, 1) := by decide +kernel
theorem gc_H_leaveColdTo_49 : GoodIn yGW (wsV "WhoseGlass$House" 49 yR2 m_H_glassAt ws_H_glassAt) := y_gV g_259 g_260 g_261 g_2 g_262
theorem gc_H_leaveColdTo_57 : GoodIn yGW (wsV "WhoseGlass$House" 57 yR2 m_H_guestAt ws_H_guestAt) := y_gV g_267 g_268 g_269 g_2 g_270
set_option maxHeartbeats 4000000 in
set_option maxRecDepth 100000 in
def f_H_leaveColdTo_L2 (F : Nat) (a0 : Option Nat) (a1 : Int32) (k : Mm → Option (Unit × Mm)) : Nat → Mm → Int32 → Option (Unit × Mm)
  | 0, _, _ => none
  | n + 1, u, a2 => ob (jgi YX 2 2 u a0) fun (x1 : Int32) => (if x1 ≤ a2 then k u  else ob (jk YX 2 a0) fun t => yb (f_H_glassAt F u t a2) fun r3 u4 => ob ((if r3 = none then some u4 else ob (jpz YX 0 7 u4 r3 (0 : Int32)) fun (u7 : Mm) => some u7) : Option (Mm)) fun q5 => ob (some (a2 + (1 : Int32))) fun (x8 : Int32) => f_H_leaveColdTo_L2 F a0 a1 k n q5 x8)
set_option maxHeartbeats 4000000 in
set_option maxRecDepth 100000 in
theorem w_H_leaveColdTo_L2 {p : Program} {l : Launch} {e : Env} {s : State} {m : MethodId} {args : Array Value} {below : List Frame} {meth : Method} {c : Code} {w : WP} {Q : State → Prop} (F : Nat) (C : yX p e ({ frames := 1, cells := 0, slots := 0, locals := 21 } : Room) s m args c YX w 4 prog_4_method_18_code "WhoseGlass$House") (hr : meth.sig.returnType = none) (hlocks : meth.locks = false) (a0 : Option Nat) (a1 : Int32) {out : Unit × Mm} (k : Mm → Option (Unit × Mm)) (hk : ∀ (u : Mm), k u  = some out → yG p l e ({ frames := 1, cells := 0, slots := 0, locals := 21 } : Room) s m args below meth c YX w 4 Q u 31 [(0, va_re w.1 a0), (1, .int a1)] []) : ∀ (n : Nat) (u : Mm) (a2 : Int32), f_H_leaveColdTo_L2 F a0 a1 k n u a2 = some out → yG p l e ({ frames := 1, cells := 0, slots := 0, locals := 21 } : Room) s m args below meth c YX w 4 Q u 2 [(0, va_re w.1 a0), (1, .int a1), (2, .int a2)] [] := by
  intro n
  induction n with
  | zero => intro u a2 h; rw [f_H_leaveColdTo_L2] at h; cases h
  | succ n ih =>
    intro u a2 h
    rw [f_H_leaveColdTo_L2] at h
    refine y_iload_n C (i := 2) 2 d_H_leaveColdTo_2 rfl rfl ?_
    refine y_aload_n C (i := 0) 0 d_H_leaveColdTo_3 rfl rfl ?_
    refine y_gi C (q := (yR2, yT2, 9)) (ci := 2) (k := 2) rfl (by decide) rfl g_133 d_H_leaveColdTo_4 h (fun x1 h => ?_)
    refine y_ic_ge C 31 d_H_leaveColdTo_7 (by decide) h (fun k2 h => ?_) (fun k2 h => ?_)
    · exact y_sub [0, 1] rfl (hk _ h)
    · refine y_aload_n C (i := 0) 0 d_H_leaveColdTo_10 rfl rfl ?_
      refine y_iload_n C (i := 2) 2 d_H_leaveColdTo_11 rfl rfl ?_
      refine y_callV 1 C (q := (yR2, yT2, 9)) (ci := 2) (fun t out hh => c_H_glassAt l w F u t a2 out hh) gc_H_leaveColdTo_49 rfl (by decide) hd_H_glassAt ⟨Nat.le_of_ble_eq_true rfl, Nat.le_of_ble_eq_true rfl⟩ rfl rfl rfl rfl (by simp [y_cat, y_catI, y_catJ]) d_H_leaveColdTo_12 h (fun r3 u4 h => ?_)
      refine y_stk (stp0 := [va_re w.1 r3]) rfl ?_
      refine y_astore_n C (i := 3) (lvp := [(0, va_re w.1 a0), (1, .int a1), (2, .int a2)]) d_H_leaveColdTo_15 rfl (by decide) (by simp [List.filter, y_cat, y_catI, y_catJ]) ?_
      refine y_aload_n C (i := 3) 0 d_H_leaveColdTo_16 rfl rfl ?_
      obtain ⟨q5, hq5, h⟩ := ob_e h
      have hJq5 : yG p l e ({ frames := 1, cells := 0, slots := 0, locals := 21 } : Room) s m args below meth c YX w 4 Q q5 25 [(0, va_re w.1 a0), (1, .int a1), (2, .int a2)] [] := by
        refine y_iinc C (j := 2) (v := 1) (lvp := [(0, va_re w.1 a0), (1, .int a1)]) d_H_leaveColdTo_25 rfl (by decide) (by decide) rfl h (fun x8 h => ?_)
        refine y_goto C (tgt := 2) d_H_leaveColdTo_28 (by decide) ?_
        exact y_sub [1, 2, 0] rfl (ih _ _ h)
      refine y_ifnull C 25 d_H_leaveColdTo_17 (by decide) hq5 (fun k6 hq5 => ?_) (fun k6 hq5 => ?_)
      · cases hq5
        exact y_sub [1, 2, 3] rfl hJq5
      · refine y_aload_n C (i := 3) 0 d_H_leaveColdTo_20 rfl rfl ?_
        refine y_iconst C (v := 0) d_H_leaveColdTo_21 (by decide) ?_
        refine y_pz C (q := (yR0, yT0, 8)) (ci := 0) (k := 7) rfl (by decide) rfl rfl (by decide +kernel) g_61 d_H_leaveColdTo_22 hq5 (fun u7 hq5 => ?_)
        cases hq5
        exact y_sub [1, 2, 3] rfl hJq5
set_option maxHeartbeats 4000000 in
set_option maxRecDepth 100000 in
def f_H_leaveColdTo_L33 (F : Nat) (a0 : Option Nat) (a1 : Int32) (k : Mm → Option (Unit × Mm)) : Nat → Mm → Int32 → Option (Unit × Mm)
  | 0, _, _ => none
  | n + 1, u, a2 => ob (jgi YX 2 3 u a0) fun (x10 : Int32) => (if x10 ≤ a2 then k u  else ob (jk YX 2 a0) fun t => yb (f_H_guestAt F u t a2) fun r12 u13 => ob ((if r12 = none then some u13 else ob ((if a2 = a1 then some (1 : Int32) else some (0 : Int32)) : Option (Int32)) fun q16 => ob (jpz YX 1 9 u13 r12 q16) fun (u18 : Mm) => some u18) : Option (Mm)) fun q14 => ob (some (a2 + (1 : Int32))) fun (x19 : Int32) => f_H_leaveColdTo_L33 F a0 a1 k n q14 x19)
set_option maxHeartbeats 4000000 in
set_option maxRecDepth 100000 in
theorem w_H_leaveColdTo_L33 {p : Program} {l : Launch} {e : Env} {s : State} {m : MethodId} {args : Array Value} {below : List Frame} {meth : Method} {c : Code} {w : WP} {Q : State → Prop} (F : Nat) (C : yX p e ({ frames := 1, cells := 0, slots := 0, locals := 21 } : Room) s m args c YX w 4 prog_4_method_18_code "WhoseGlass$House") (hr : meth.sig.returnType = none) (hlocks : meth.locks = false) (a0 : Option Nat) (a1 : Int32) {out : Unit × Mm} (k : Mm → Option (Unit × Mm)) (hk : ∀ (u : Mm), k u  = some out → yG p l e ({ frames := 1, cells := 0, slots := 0, locals := 21 } : Room) s m args below meth c YX w 4 Q u 71 [] []) : ∀ (n : Nat) (u : Mm) (a2 : Int32), f_H_leaveColdTo_L33 F a0 a1 k n u a2 = some out → yG p l e ({ frames := 1, cells := 0, slots := 0, locals := 21 } : Room) s m args below meth c YX w 4 Q u 33 [(0, va_re w.1 a0), (1, .int a1), (2, .int a2)] [] := by
  intro n
  induction n with
  | zero => intro u a2 h; rw [f_H_leaveColdTo_L33] at h; cases h
  | succ n ih =>
    intro u a2 h
    rw [f_H_leaveColdTo_L33] at h
    refine y_iload_n C (i := 2) 2 d_H_leaveColdTo_33 rfl rfl ?_
    refine y_aload_n C (i := 0) 0 d_H_leaveColdTo_34 rfl rfl ?_
    refine y_gi C (q := (yR2, yT2, 9)) (ci := 2) (k := 3) rfl (by decide) rfl g_135 d_H_leaveColdTo_35 h (fun x10 h => ?_)
    refine y_ic_ge C 71 d_H_leaveColdTo_38 (by decide) h (fun k11 h => ?_) (fun k11 h => ?_)
    · exact y_sub [] rfl (hk _ h)
    · refine y_aload_n C (i := 0) 0 d_H_leaveColdTo_41 rfl rfl ?_
      refine y_iload_n C (i := 2) 2 d_H_leaveColdTo_42 rfl rfl ?_
      refine y_callV 1 C (q := (yR2, yT2, 9)) (ci := 2) (fun t out hh => c_H_guestAt l w F u t a2 out hh) gc_H_leaveColdTo_57 rfl (by decide) hd_H_guestAt ⟨Nat.le_of_ble_eq_true rfl, Nat.le_of_ble_eq_true rfl⟩ rfl rfl rfl rfl (by simp [y_cat, y_catI, y_catJ]) d_H_leaveColdTo_43 h (fun r12 u13 h => ?_)
      refine y_stk (stp0 := [va_re w.1 r12]) rfl ?_
      refine y_astore_n C (i := 3) (lvp := [(0, va_re w.1 a0), (1, .int a1), (2, .int a2)]) d_H_leaveColdTo_46 rfl (by decide) (by simp [List.filter, y_cat, y_catI, y_catJ]) ?_
      refine y_aload_n C (i := 3) 0 d_H_leaveColdTo_47 rfl rfl ?_
      obtain ⟨q14, hq14, h⟩ := ob_e h
      have hJq14 : yG p l e ({ frames := 1, cells := 0, slots := 0, locals := 21 } : Room) s m args below meth c YX w 4 Q q14 65 [(0, va_re w.1 a0), (1, .int a1), (2, .int a2)] [] := by
        refine y_iinc C (j := 2) (v := 1) (lvp := [(0, va_re w.1 a0), (1, .int a1)]) d_H_leaveColdTo_65 rfl (by decide) (by decide) rfl h (fun x19 h => ?_)
        refine y_goto C (tgt := 33) d_H_leaveColdTo_68 (by decide) ?_
        exact y_sub [1, 2, 0] rfl (ih _ _ h)
      refine y_ifnull C 65 d_H_leaveColdTo_48 (by decide) hq14 (fun k15 hq14 => ?_) (fun k15 hq14 => ?_)
      · cases hq14
        exact y_sub [1, 2, 3] rfl hJq14
      · refine y_aload_n C (i := 3) 0 d_H_leaveColdTo_51 rfl rfl ?_
        refine y_iload_n C (i := 2) 3 d_H_leaveColdTo_52 rfl rfl ?_
        refine y_iload_n C (i := 1) 2 d_H_leaveColdTo_53 rfl rfl ?_
        obtain ⟨q16, hq16, hq14⟩ := ob_e hq14
        have hJq16 : yG p l e ({ frames := 1, cells := 0, slots := 0, locals := 21 } : Room) s m args below meth c YX w 4 Q u13 62 [(0, va_re w.1 a0), (1, .int a1), (2, .int a2)] [.int q16, va_re w.1 r12] := by
          refine y_pz C (q := (yR1, yT1, 10)) (ci := 1) (k := 9) rfl (by decide) rfl rfl (by decide +kernel) g_109 d_H_leaveColdTo_62 hq14 (fun u18 hq14 => ?_)
          cases hq14
          exact y_sub [0, 1, 2] rfl hJq14
        refine y_ic_ne C 61 d_H_leaveColdTo_54 (by decide) hq16 (fun k17 hq16 => ?_) (fun k17 hq16 => ?_)
        · refine y_iconst C (v := 1) d_H_leaveColdTo_57 (by decide) ?_
          refine y_goto C (tgt := 62) d_H_leaveColdTo_58 (by decide) ?_
          cases hq16
          exact y_sub [1, 2, 3] rfl hJq16
        · refine y_iconst C (v := 0) d_H_leaveColdTo_61 (by decide) ?_
          cases hq16
          exact y_sub [1, 2, 3] rfl hJq16
set_option maxRecDepth 100000 in
def f_H_leaveColdTo (F : Nat) (u : Mm) (o : Nat) (a1 : Int32) : Option (Unit × Mm) := f_H_leaveColdTo_L2 F (some o) a1 (fun (u9 : Mm) => f_H_leaveColdTo_L33 F (some o) a1 (fun (u20 : Mm) => some ((), u20)) F u9 (0 : Int32)) F u (0 : Int32)
set_option maxHeartbeats 4000000 in
set_option maxRecDepth 100000 in
theorem c_H_leaveColdTo (l : Launch) (w : WP) (F : Nat) (u : Mm) (o : Nat) (a1 : Int32) (out : Unit × Mm) (h : f_H_leaveColdTo F u o a1 = some out) : yMet l m_H_leaveColdTo ws_H_leaveColdTo ({ frames := 1, cells := 0, slots := 0, locals := 21 } : Room) YX w u [va_re w.1 (some o), .int a1] yfv out := by
  refine y_entry (own := "WhoseGlass$House") (lv := [(0, va_re w.1 (some o)), (1, .int a1)]) (by decide +kernel) rfl (by simp [lv_args, y_cat, y_catI, y_catJ]) (by simp [lg_sl, y_cat, y_catI, y_catJ]) ?_
  intro p e s m args below meth c C hr hlocks
  unfold f_H_leaveColdTo at h
  refine y_iconst C (v := 0) d_H_leaveColdTo_0 (by decide) ?_
  refine y_istore_n C (i := 2) (lvp := [(0, va_re w.1 (some o)), (1, .int a1)]) d_H_leaveColdTo_1 rfl (by decide) rfl ?_
  refine y_sub [1, 2, 0] rfl (w_H_leaveColdTo_L2 F C hr hlocks _ _ _ (fun u9 h => ?_) _ _ _ h)
  refine y_iconst C (v := 0) d_H_leaveColdTo_31 (by decide) ?_
  refine y_istore_n C (i := 2) (lvp := [(0, va_re w.1 (some o)), (1, .int a1)]) d_H_leaveColdTo_32 rfl (by decide) rfl ?_
  refine y_sub [1, 2, 0] rfl (w_H_leaveColdTo_L33 F C hr hlocks _ _ _ (fun u20 h => ?_) _ _ _ h)
  exact y_vret C hr hlocks d_H_leaveColdTo_71 h
/-! X_coldsBroughtBy -/
theorem d_X_coldsBroughtBy_0 : decode prog_1_method_47_code 0 = .ok (.aload_n 0, 1) := by decide +kernel
theorem d_X_coldsBroughtBy_1 : decode prog_1_method_47_code 1 = .ok (.getfield 16, 3) := by decide +kernel
theorem d_X_coldsBroughtBy_4 : decode prog_1_method_47_code 4 = .ok (.aload_n 0, 1) := by decide +kernel
theorem d_X_coldsBroughtBy_5 : decode prog_1_method_47_code 5 = .ok (.getfield 10, 3) := by decide +kernel
theorem d_X_coldsBroughtBy_8 : decode prog_1_method_47_code 8 = .ok (.invokevirtual 50, 3) := by decide +kernel
theorem d_X_coldsBroughtBy_11 : decode prog_1_method_47_code 11 = .ok (.aload_n 0, 1) := by decide +kernel
theorem d_X_coldsBroughtBy_12 : decode prog_1_method_47_code 12 = .ok (.getfield 16, 3) := by decide +kernel
theorem d_X_coldsBroughtBy_15 : decode prog_1_method_47_code 15 = .ok (.iload_n 1, 1) := by decide +kernel
theorem d_X_coldsBroughtBy_16 : decode prog_1_method_47_code 16 = .ok (.invokevirtual 273, 3) := by decide +kernel
theorem d_X_coldsBroughtBy_19 : decode prog_1_method_47_code 19 = .ok (.aload_n 0, 1) := by decide +kernel
theorem d_X_coldsBroughtBy_20 : decode prog_1_method_47_code 20 = .ok (.getfield 16, 3) := by decide +kernel
theorem d_X_coldsBroughtBy_23 : decode prog_1_method_47_code 23 = .ok (.iload_n 2, 1) := by decide +kernel
theorem d_X_coldsBroughtBy_24 : decode prog_1_method_47_code 24 = .ok (.invokevirtual 135, 3) := by decide +kernel
theorem d_X_coldsBroughtBy_27 : decode prog_1_method_47_code 27 = .ok (.aload_n 0, 1) := by decide +kernel
theorem d_X_coldsBroughtBy_28 : decode prog_1_method_47_code 28 = .ok (.getfield 16, 3) := by decide +kernel
theorem d_X_coldsBroughtBy_31 : decode prog_1_method_47_code 31 = .ok (.invokevirtual 176, 3) := by decide +kernel
theorem d_X_coldsBroughtBy_34 : decode prog_1_method_47_code 34 = .ok (.ireturn, 1) := by decide +kernel
theorem gc_X_coldsBroughtBy_50 : GoodIn yGW (wsV "WhoseGlass" 50 yR2 m_H_become ws_H_become) := y_gV g_255 g_256 g_257 g_2 g_258
theorem gc_X_coldsBroughtBy_273 : GoodIn yGW (wsV "WhoseGlass" 273 yR2 m_H_leaveColdTo ws_H_leaveColdTo) := y_gV g_522 g_523 g_524 g_2 g_525
theorem gc_X_coldsBroughtBy_135 : GoodIn yGW (wsV "WhoseGlass" 135 yR2 m_H_passMinutes ws_H_passMinutes) := y_gV g_438 g_279 g_280 g_2 g_281
theorem gc_X_coldsBroughtBy_176 : GoodIn yGW (wsV "WhoseGlass" 176 yR2 m_H_coldBits ws_H_coldBits) := y_gV g_502 g_503 g_504 g_2 g_505
set_option maxRecDepth 100000 in
def f_X_coldsBroughtBy (F : Nat) (u : Mm) (o : Nat) (a1 : Int32) (a2 : Int32) : Option (Int32 × Mm) := ob (jgr YX 4 1 (some o)) fun (r1 : Option Nat) => ob (jgr YX 4 0 (some o)) fun (r2 : Option Nat) => ob (jk YX 2 r1) fun t => yb (f_H_become F u t r2) fun v3 u4 => ob (jgr YX 4 1 (some o)) fun (r5 : Option Nat) => ob (jk YX 2 r5) fun t => yb (f_H_leaveColdTo F u4 t a1) fun v6 u7 => ob (jgr YX 4 1 (some o)) fun (r8 : Option Nat) => ob (jk YX 2 r8) fun t => yb (f_H_passMinutes F u7 t a2) fun v9 u10 => ob (jgr YX 4 1 (some o)) fun (r11 : Option Nat) => ob (jk YX 2 r11) fun t => yb (f_H_coldBits F u10 t ) fun x12 u13 => some (x12, u13)
set_option maxHeartbeats 4000000 in
set_option maxRecDepth 100000 in
theorem c_X_coldsBroughtBy (l : Launch) (w : WP) (F : Nat) (u : Mm) (o : Nat) (a1 : Int32) (a2 : Int32) (out : Int32 × Mm) (h : f_X_coldsBroughtBy F u o a1 a2 = some out) : yMet l m_X_coldsBroughtBy ws_X_coldsBroughtBy ({ frames := 5, cells := 0, slots := 0, locals := 125 } : Room) YX w u [va_re w.1 (some o), .int a1, .int a2] yfi out := by
  refine y_entry (own := "WhoseGlass") (lv := [(0, va_re w.1 (some o)), (1, .int a1), (2, .int a2)]) (by decide +kernel) rfl (by simp [lv_args, y_cat, y_catI, y_catJ]) (by simp [lg_sl, y_cat, y_catI, y_catJ]) ?_
  intro p e s m args below meth c C hr hlocks
  unfold f_X_coldsBroughtBy at h
  refine y_aload_n C (i := 0) 0 d_X_coldsBroughtBy_0 rfl rfl ?_
  refine y_gr C (q := (yR4, yT4, 5)) (ci := 4) (k := 1) rfl (by decide) rfl (by decide) g_203 d_X_coldsBroughtBy_1 h (fun r1 h => ?_)
  refine y_aload_n C (i := 0) 0 d_X_coldsBroughtBy_4 rfl rfl ?_
  refine y_gr C (q := (yR4, yT4, 5)) (ci := 4) (k := 0) rfl (by decide) rfl (by decide) g_202 d_X_coldsBroughtBy_5 h (fun r2 h => ?_)
  refine y_callV 1 C (q := (yR2, yT2, 9)) (ci := 2) (fun t out hh => c_H_become l w F u t r2 out hh) gc_X_coldsBroughtBy_50 rfl (by decide) hd_H_become ⟨Nat.le_of_ble_eq_true rfl, Nat.le_of_ble_eq_true rfl⟩ rfl rfl rfl rfl (by simp [y_cat, y_catI, y_catJ]) d_X_coldsBroughtBy_8 h (fun v3 u4 h => ?_)
  refine y_stk (stp0 := []) rfl ?_
  refine y_aload_n C (i := 0) 0 d_X_coldsBroughtBy_11 rfl rfl ?_
  refine y_gr C (q := (yR4, yT4, 5)) (ci := 4) (k := 1) rfl (by decide) rfl (by decide) g_203 d_X_coldsBroughtBy_12 h (fun r5 h => ?_)
  refine y_iload_n C (i := 1) 1 d_X_coldsBroughtBy_15 rfl rfl ?_
  refine y_callV 1 C (q := (yR2, yT2, 9)) (ci := 2) (fun t out hh => c_H_leaveColdTo l w F u4 t a1 out hh) gc_X_coldsBroughtBy_273 rfl (by decide) hd_H_leaveColdTo ⟨Nat.le_of_ble_eq_true rfl, Nat.le_of_ble_eq_true rfl⟩ rfl rfl rfl rfl (by simp [y_cat, y_catI, y_catJ]) d_X_coldsBroughtBy_16 h (fun v6 u7 h => ?_)
  refine y_stk (stp0 := []) rfl ?_
  refine y_aload_n C (i := 0) 0 d_X_coldsBroughtBy_19 rfl rfl ?_
  refine y_gr C (q := (yR4, yT4, 5)) (ci := 4) (k := 1) rfl (by decide) rfl (by decide) g_203 d_X_coldsBroughtBy_20 h (fun r8 h => ?_)
  refine y_iload_n C (i := 2) 2 d_X_coldsBroughtBy_23 rfl rfl ?_
  refine y_callV 1 C (q := (yR2, yT2, 9)) (ci := 2) (fun t out hh => c_H_passMinutes l w F u7 t a2 out hh) gc_X_coldsBroughtBy_135 rfl (by decide) hd_H_passMinutes ⟨Nat.le_of_ble_eq_true rfl, Nat.le_of_ble_eq_true rfl⟩ rfl rfl rfl rfl (by simp [y_cat, y_catI, y_catJ]) d_X_coldsBroughtBy_24 h (fun v9 u10 h => ?_)
  refine y_stk (stp0 := []) rfl ?_
  refine y_aload_n C (i := 0) 0 d_X_coldsBroughtBy_27 rfl rfl ?_
  refine y_gr C (q := (yR4, yT4, 5)) (ci := 4) (k := 1) rfl (by decide) rfl (by decide) g_203 d_X_coldsBroughtBy_28 h (fun r11 h => ?_)
  refine y_callV 0 C (q := (yR2, yT2, 9)) (ci := 2) (fun t out hh => c_H_coldBits l w F u10 t out hh) gc_X_coldsBroughtBy_176 rfl (by decide) hd_H_coldBits ⟨Nat.le_of_ble_eq_true rfl, Nat.le_of_ble_eq_true rfl⟩ rfl rfl rfl rfl (by simp [y_cat, y_catI, y_catJ]) d_X_coldsBroughtBy_31 h (fun x12 u13 h => ?_)
  refine y_stk (stp0 := [.int x12]) rfl ?_
  exact y_iret C hr hlocks d_X_coldsBroughtBy_34 h
end
