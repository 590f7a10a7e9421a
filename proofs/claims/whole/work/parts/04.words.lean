theorem gs_0 : Cond.selects "WhoseGlass" ⟨"WhoseGlass", "shelfAt", "(I)LWhoseGlass$Shelf;"⟩ ⟨"WhoseGlass", "shelfAt", "(I)LWhoseGlass$Shelf;"⟩ ∈ yGW := y_isel 0 rfl rfl
theorem gs_1 : Cond.selects "WhoseGlass$House" ⟨"WhoseGlass$House", "liveMinute", "(LWhoseGlass$Guest;)V"⟩ ⟨"WhoseGlass$House", "liveMinute", "(LWhoseGlass$Guest;)V"⟩ ∈ yGW := y_isel 1 rfl rfl
theorem gs_2 : Cond.selects "WhoseGlass$House" ⟨"WhoseGlass$House", "placeBehind", "(I)I"⟩ ⟨"WhoseGlass$House", "placeBehind", "(I)I"⟩ ∈ yGW := y_isel 2 rfl rfl
theorem gs_3 : Cond.selects "WhoseGlass$House" ⟨"WhoseGlass$House", "isOwned", "(I)Z"⟩ ⟨"WhoseGlass$House", "isOwned", "(I)Z"⟩ ∈ yGW := y_isel 3 rfl rfl
theorem gs_4 : Cond.selects "WhoseGlass" ⟨"WhoseGlass", "ahead", "(I)LWhoseGlass$House;"⟩ ⟨"WhoseGlass", "ahead", "(I)LWhoseGlass$House;"⟩ ∈ yGW := y_isel 4 rfl rfl
theorem gs_5 : Cond.selects "WhoseGlass" ⟨"WhoseGlass", "coldsBroughtBy", "(II)I"⟩ ⟨"WhoseGlass", "coldsBroughtBy", "(II)I"⟩ ∈ yGW := y_isel 5 rfl rfl
theorem gs_6 : Cond.selects "WhoseGlass" ⟨"WhoseGlass", "coldsByCare", "(II)I"⟩ ⟨"WhoseGlass", "coldsByCare", "(II)I"⟩ ∈ yGW := y_isel 6 rfl rfl
theorem gs_7 : Cond.selects "WhoseGlass" ⟨"WhoseGlass", "mistakesIfMarked", "(II)I"⟩ ⟨"WhoseGlass", "mistakesIfMarked", "(II)I"⟩ ∈ yGW := y_isel 7 rfl rfl
theorem gs_8 : Cond.selects "WhoseGlass" ⟨"WhoseGlass", "freshIfLeftOut", "(II)I"⟩ ⟨"WhoseGlass", "freshIfLeftOut", "(II)I"⟩ ∈ yGW := y_isel 8 rfl rfl
theorem gs_9 : Cond.selects "WhoseGlass$Shelf" ⟨"WhoseGlass$Shelf", "lowestBits", "(I)I"⟩ ⟨"WhoseGlass$Shelf", "lowestBits", "(I)I"⟩ ∈ yGW := y_isel 9 rfl rfl
theorem gs_11 : Cond.selects "WhoseGlassModel" ⟨"WhoseGlassModel", "carryAll", "([IZ)V"⟩ ⟨"WhoseGlassModel", "carryAll", "([IZ)V"⟩ ∈ yGW := y_isel 11 rfl rfl
theorem gs_12 : Cond.selects "WhoseGlassModel" ⟨"WhoseGlassModel", "carry", "(I)I"⟩ ⟨"WhoseGlassModel", "carry", "(I)I"⟩ ∈ yGW := y_isel 12 rfl rfl
theorem gs_13 : Cond.selects "WhoseGlassModel" ⟨"WhoseGlassModel", "wrongSort", "(II)I"⟩ ⟨"WhoseGlassModel", "wrongSort", "(II)I"⟩ ∈ yGW := y_isel 13 rfl rfl
theorem gs_14 : Cond.selects "WhoseGlassModel" ⟨"WhoseGlassModel", "wrongRow", "(I)I"⟩ ⟨"WhoseGlassModel", "wrongRow", "(I)I"⟩ ∈ yGW := y_isel 14 rfl rfl
theorem gs_15 : Cond.selects "WhoseGlassModel" ⟨"WhoseGlassModel", "readStatement", "()V"⟩ ⟨"WhoseGlassModel", "readStatement", "()V"⟩ ∈ yGW := y_isel 15 rfl rfl
theorem gs_16 : Cond.selects "WhoseGlassModel" ⟨"WhoseGlassModel", "here", "()I"⟩ ⟨"WhoseGlassModel", "here", "()I"⟩ ∈ yGW := y_isel 16 rfl rfl
theorem gs_17 : Cond.selects "WhoseGlassModel" ⟨"WhoseGlassModel", "readDigit", "()I"⟩ ⟨"WhoseGlassModel", "readDigit", "()I"⟩ ∈ yGW := y_isel 17 rfl rfl
theorem gs_18 : Cond.selects "WhoseGlassModel" ⟨"WhoseGlassModel", "readTwo", "()I"⟩ ⟨"WhoseGlassModel", "readTwo", "()I"⟩ ∈ yGW := y_isel 18 rfl rfl
theorem gs_19 : Cond.selects "WhoseGlassModel" ⟨"WhoseGlassModel", "open", "()V"⟩ ⟨"WhoseGlassModel", "open", "()V"⟩ ∈ yGW := y_isel 19 rfl rfl
theorem gs_20 : Cond.selects "WhoseGlassModel" ⟨"WhoseGlassModel", "comesAll", "(I)Z"⟩ ⟨"WhoseGlassModel", "comesAll", "(I)Z"⟩ ∈ yGW := y_isel 20 rfl rfl
theorem gs_21 : Cond.selects "WhoseGlassModel" ⟨"WhoseGlassModel", "glassComes", "(I)Z"⟩ ⟨"WhoseGlassModel", "glassComes", "(I)Z"⟩ ∈ yGW := y_isel 21 rfl rfl
theorem gs_22 : Cond.selects "WhoseGlassModel" ⟨"WhoseGlassModel", "bring", "(IIII)I"⟩ ⟨"WhoseGlassModel", "bring", "(IIII)I"⟩ ∈ yGW := y_isel 22 rfl rfl
theorem gs_23 : Cond.selects "WhoseGlassModel" ⟨"WhoseGlassModel", "guestComes", "(I)Z"⟩ ⟨"WhoseGlassModel", "guestComes", "(I)Z"⟩ ∈ yGW := y_isel 23 rfl rfl
theorem gs_24 : Cond.selects "WhoseGlassModel" ⟨"WhoseGlassModel", "holdComes", "(II)Z"⟩ ⟨"WhoseGlassModel", "holdComes", "(II)Z"⟩ ∈ yGW := y_isel 24 rfl rfl
theorem gs_25 : Cond.selects "WhoseGlassModel" ⟨"WhoseGlassModel", "isGuest", "(I)Z"⟩ ⟨"WhoseGlassModel", "isGuest", "(I)Z"⟩ ∈ yGW := y_isel 25 rfl rfl
theorem gs_26 : Cond.selects "WhoseGlassModel" ⟨"WhoseGlassModel", "isGlass", "(I)Z"⟩ ⟨"WhoseGlassModel", "isGlass", "(I)Z"⟩ ∈ yGW := y_isel 26 rfl rfl
theorem gs_27 : Cond.selects "WhoseGlassModel" ⟨"WhoseGlassModel", "hold", "(II)V"⟩ ⟨"WhoseGlassModel", "hold", "(II)V"⟩ ∈ yGW := y_isel 27 rfl rfl
theorem gs_28 : Cond.selects "WhoseGlassModel" ⟨"WhoseGlassModel", "minuteOn", "()V"⟩ ⟨"WhoseGlassModel", "minuteOn", "()V"⟩ ∈ yGW := y_isel 28 rfl rfl
theorem gs_29 : Cond.selects "WhoseGlassModel" ⟨"WhoseGlassModel", "guestOn", "(I)V"⟩ ⟨"WhoseGlassModel", "guestOn", "(I)V"⟩ ∈ yGW := y_isel 29 rfl rfl
theorem gs_30 : Cond.selects "WhoseGlassModel" ⟨"WhoseGlassModel", "goOn", "(I)V"⟩ ⟨"WhoseGlassModel", "goOn", "(I)V"⟩ ∈ yGW := y_isel 30 rfl rfl
theorem gs_31 : Cond.selects "WhoseGlassModel" ⟨"WhoseGlassModel", "takeOne", "(I)I"⟩ ⟨"WhoseGlassModel", "takeOne", "(I)I"⟩ ∈ yGW := y_isel 31 rfl rfl
theorem gs_32 : Cond.selects "WhoseGlassModel" ⟨"WhoseGlassModel", "wouldTake", "(I)I"⟩ ⟨"WhoseGlassModel", "wouldTake", "(I)I"⟩ ∈ yGW := y_isel 32 rfl rfl
theorem gs_33 : Cond.selects "WhoseGlassModel" ⟨"WhoseGlassModel", "likeOf", "(II)I"⟩ ⟨"WhoseGlassModel", "likeOf", "(II)I"⟩ ∈ yGW := y_isel 33 rfl rfl
theorem gs_34 : Cond.selects "WhoseGlassModel" ⟨"WhoseGlassModel", "plainly", "(II)I"⟩ ⟨"WhoseGlassModel", "plainly", "(II)I"⟩ ∈ yGW := y_isel 34 rfl rfl
theorem gs_35 : Cond.selects "WhoseGlassModel" ⟨"WhoseGlassModel", "tally", "(II)I"⟩ ⟨"WhoseGlassModel", "tally", "(II)I"⟩ ∈ yGW := y_isel 35 rfl rfl
theorem gs_36 : Cond.selects "WhoseGlassModel" ⟨"WhoseGlassModel", "redly", "(II)I"⟩ ⟨"WhoseGlassModel", "redly", "(II)I"⟩ ∈ yGW := y_isel 36 rfl rfl
theorem gs_37 : Cond.selects "WhoseGlassModel" ⟨"WhoseGlassModel", "isLater", "(II)Z"⟩ ⟨"WhoseGlassModel", "isLater", "(II)Z"⟩ ∈ yGW := y_isel 37 rfl rfl
theorem gs_38 : Cond.selects "WhoseGlassModel" ⟨"WhoseGlassModel", "sipOne", "(I)I"⟩ ⟨"WhoseGlassModel", "sipOne", "(I)I"⟩ ∈ yGW := y_isel 38 rfl rfl
theorem gs_39 : Cond.selects "WhoseGlassModel" ⟨"WhoseGlassModel", "strengthOf", "(I)I"⟩ ⟨"WhoseGlassModel", "strengthOf", "(I)I"⟩ ∈ yGW := y_isel 39 rfl rfl
theorem gs_40 : Cond.selects "WhoseGlassModel" ⟨"WhoseGlassModel", "layOne", "(I)I"⟩ ⟨"WhoseGlassModel", "layOne", "(I)I"⟩ ∈ yGW := y_isel 40 rfl rfl
theorem gs_41 : Cond.selects "WhoseGlassModel" ⟨"WhoseGlassModel", "again", "()V"⟩ ⟨"WhoseGlassModel", "again", "()V"⟩ ∈ yGW := y_isel 41 rfl rfl
theorem gs_42 : Cond.selects "WhoseGlassModel" ⟨"WhoseGlassModel", "wrongKept", "(I)I"⟩ ⟨"WhoseGlassModel", "wrongKept", "(I)I"⟩ ∈ yGW := y_isel 42 rfl rfl
theorem gs_43 : Cond.selects "WhoseGlassModel" ⟨"WhoseGlassModel", "sink", "(I)V"⟩ ⟨"WhoseGlassModel", "sink", "(I)V"⟩ ∈ yGW := y_isel 43 rfl rfl
theorem gs_44 : Cond.selects "WhoseGlassModel" ⟨"WhoseGlassModel", "goThrough", "(I)V"⟩ ⟨"WhoseGlassModel", "goThrough", "(I)V"⟩ ∈ yGW := y_isel 44 rfl rfl
theorem gs_45 : Cond.selects "WhoseGlassModel" ⟨"WhoseGlassModel", "coldBits", "()I"⟩ ⟨"WhoseGlassModel", "coldBits", "()I"⟩ ∈ yGW := y_isel 45 rfl rfl
theorem gs_46 : Cond.selects "WhoseGlassModel" ⟨"WhoseGlassModel", "coldAlone", "(I)V"⟩ ⟨"WhoseGlassModel", "coldAlone", "(I)V"⟩ ∈ yGW := y_isel 46 rfl rfl
theorem gs_47 : Cond.selects "WhoseGlassModel" ⟨"WhoseGlassModel", "isSomeEmpty", "()Z"⟩ ⟨"WhoseGlassModel", "isSomeEmpty", "()Z"⟩ ∈ yGW := y_isel 47 rfl rfl
theorem gs_48 : Cond.selects "WhoseGlassModel" ⟨"WhoseGlassModel", "draw", "(I)I"⟩ ⟨"WhoseGlassModel", "draw", "(I)I"⟩ ∈ yGW := y_isel 48 rfl rfl
theorem gs_49 : Cond.selects "WhoseGlassModel" ⟨"WhoseGlassModel", "skippedIn", "(I)J"⟩ ⟨"WhoseGlassModel", "skippedIn", "(I)J"⟩ ∈ yGW := y_isel 49 rfl rfl
theorem g_1 : (Jvm.Cond.initialized "WhoseGlass") ∈ yGW := y_i1 1 rfl rfl
theorem g_2 : (Jvm.Cond.initialized "WhoseGlass$House") ∈ yGW := y_i1 2 rfl rfl
theorem g_3 : (Jvm.Cond.initialized "WhoseGlass$Glass") ∈ yGW := y_i1 3 rfl rfl
theorem g_4 : (Jvm.Cond.initialized "WhoseGlass$Guest") ∈ yGW := y_i1 4 rfl rfl
theorem g_5 : (Jvm.Cond.initialized "WhoseGlass$Shelf") ∈ yGW := y_i1 5 rfl rfl
theorem g_6 : (Jvm.Cond.initialized "WhoseGlassModel") ∈ yGW := y_i1 6 rfl rfl
theorem g_7 : (Jvm.Cond.initialized "WhoseGlass$HouseText") ∈ yGW := y_i1 7 rfl rfl
theorem g_8 : (Jvm.Cond.initialized "java/lang/Math") ∈ yGW := y_i1 8 rfl rfl
theorem g_14 : (Jvm.Cond.initialized "java/lang/System") ∈ yGW := y_i1 14 rfl rfl
theorem g_39 : (Jvm.Cond.fieldLink "WhoseGlass$Glass" (9 : Nat) "WhoseGlass$Glass" "number" "I") ∈ yGW := y_i1 39 rfl rfl
theorem g_40 : (Jvm.Cond.fieldLink "WhoseGlass$Guest" (43 : Nat) "WhoseGlass$Glass" "number" "I") ∈ yGW := y_i1 40 rfl rfl
theorem g_41 : (Jvm.Cond.fieldLink "WhoseGlass" (99 : Nat) "WhoseGlass$Glass" "number" "I") ∈ yGW := y_i1 41 rfl rfl
theorem g_42 : (Jvm.Cond.fieldLink "WhoseGlass$House" (119 : Nat) "WhoseGlass$Glass" "number" "I") ∈ yGW := y_i1 42 rfl rfl
theorem g_43 : (Jvm.Cond.fieldLink "WhoseGlass$Glass" (15 : Nat) "WhoseGlass$Glass" "kind" "I") ∈ yGW := y_i1 43 rfl rfl
theorem g_44 : (Jvm.Cond.fieldLink "WhoseGlass" (279 : Nat) "WhoseGlass$Glass" "kind" "I") ∈ yGW := y_i1 44 rfl rfl
theorem g_45 : (Jvm.Cond.fieldLink "WhoseGlass$Glass" (18 : Nat) "WhoseGlass$Glass" "figure" "I") ∈ yGW := y_i1 45 rfl rfl
theorem g_46 : (Jvm.Cond.fieldLink "WhoseGlass$Glass" (21 : Nat) "WhoseGlass$Glass" "fill" "I") ∈ yGW := y_i1 46 rfl rfl
theorem g_47 : (Jvm.Cond.fieldLink "WhoseGlass$Guest" (53 : Nat) "WhoseGlass$Glass" "fill" "I") ∈ yGW := y_i1 47 rfl rfl
theorem g_48 : (Jvm.Cond.fieldLink "WhoseGlass" (108 : Nat) "WhoseGlass$Glass" "fill" "I") ∈ yGW := y_i1 48 rfl rfl
theorem g_49 : (Jvm.Cond.fieldLink "WhoseGlass$House" (98 : Nat) "WhoseGlass$Glass" "fill" "I") ∈ yGW := y_i1 49 rfl rfl
theorem g_50 : (Jvm.Cond.fieldLink "WhoseGlass$Glass" (31 : Nat) "WhoseGlass$Glass" "where" "I") ∈ yGW := y_i1 50 rfl rfl
theorem g_51 : (Jvm.Cond.fieldLink "WhoseGlass$Guest" (46 : Nat) "WhoseGlass$Glass" "where" "I") ∈ yGW := y_i1 51 rfl rfl
theorem g_52 : (Jvm.Cond.fieldLink "WhoseGlass" (126 : Nat) "WhoseGlass$Glass" "where" "I") ∈ yGW := y_i1 52 rfl rfl
theorem g_53 : (Jvm.Cond.fieldLink "WhoseGlass$House" (132 : Nat) "WhoseGlass$Glass" "where" "I") ∈ yGW := y_i1 53 rfl rfl
theorem g_54 : (Jvm.Cond.fieldLink "WhoseGlass$Glass" (34 : Nat) "WhoseGlass$Glass" "laid" "I") ∈ yGW := y_i1 54 rfl rfl
theorem g_55 : (Jvm.Cond.fieldLink "WhoseGlass" (129 : Nat) "WhoseGlass$Glass" "laid" "I") ∈ yGW := y_i1 55 rfl rfl
theorem g_56 : (Jvm.Cond.fieldLink "WhoseGlass$House" (138 : Nat) "WhoseGlass$Glass" "laid" "I") ∈ yGW := y_i1 56 rfl rfl
theorem g_57 : (Jvm.Cond.fieldLink "WhoseGlass$Glass" (24 : Nat) "WhoseGlass$Glass" "sippedBy" "I") ∈ yGW := y_i1 57 rfl rfl
theorem g_58 : (Jvm.Cond.fieldLink "WhoseGlass$Guest" (56 : Nat) "WhoseGlass$Glass" "sippedBy" "I") ∈ yGW := y_i1 58 rfl rfl
theorem g_59 : (Jvm.Cond.fieldLink "WhoseGlass$Glass" (27 : Nat) "WhoseGlass$Glass" "germs" "Z") ∈ yGW := y_i1 59 rfl rfl
theorem g_60 : (Jvm.Cond.fieldLink "WhoseGlass$Guest" (59 : Nat) "WhoseGlass$Glass" "germs" "Z") ∈ yGW := y_i1 60 rfl rfl
theorem g_61 : (Jvm.Cond.fieldLink "WhoseGlass$House" (152 : Nat) "WhoseGlass$Glass" "germs" "Z") ∈ yGW := y_i1 61 rfl rfl
theorem g_84 : (Jvm.Cond.fieldLink "WhoseGlass$Guest" (9 : Nat) "WhoseGlass$Guest" "number" "I") ∈ yGW := y_i1 84 rfl rfl
theorem g_85 : (Jvm.Cond.fieldLink "WhoseGlass$House" (158 : Nat) "WhoseGlass$Guest" "number" "I") ∈ yGW := y_i1 85 rfl rfl
theorem g_86 : (Jvm.Cond.fieldLink "WhoseGlass$Guest" (15 : Nat) "WhoseGlass$Guest" "pace" "I") ∈ yGW := y_i1 86 rfl rfl
theorem g_87 : (Jvm.Cond.fieldLink "WhoseGlass$House" (95 : Nat) "WhoseGlass$Guest" "pace" "I") ∈ yGW := y_i1 87 rfl rfl
theorem g_88 : (Jvm.Cond.fieldLink "WhoseGlass$Guest" (18 : Nat) "WhoseGlass$Guest" "lays" "I") ∈ yGW := y_i1 88 rfl rfl
theorem g_89 : (Jvm.Cond.fieldLink "WhoseGlass$House" (105 : Nat) "WhoseGlass$Guest" "lays" "I") ∈ yGW := y_i1 89 rfl rfl
theorem g_90 : (Jvm.Cond.fieldLink "WhoseGlass$Guest" (21 : Nat) "WhoseGlass$Guest" "step" "I") ∈ yGW := y_i1 90 rfl rfl
theorem g_91 : (Jvm.Cond.fieldLink "WhoseGlass$House" (74 : Nat) "WhoseGlass$Guest" "step" "I") ∈ yGW := y_i1 91 rfl rfl
theorem g_92 : (Jvm.Cond.fieldLink "WhoseGlass$Guest" (24 : Nat) "WhoseGlass$Guest" "care" "I") ∈ yGW := y_i1 92 rfl rfl
theorem g_93 : (Jvm.Cond.fieldLink "WhoseGlass$House" (141 : Nat) "WhoseGlass$Guest" "care" "I") ∈ yGW := y_i1 93 rfl rfl
theorem g_94 : (Jvm.Cond.fieldLink "WhoseGlass$Guest" (27 : Nat) "WhoseGlass$Guest" "place" "I") ∈ yGW := y_i1 94 rfl rfl
theorem g_95 : (Jvm.Cond.fieldLink "WhoseGlass" (102 : Nat) "WhoseGlass$Guest" "place" "I") ∈ yGW := y_i1 95 rfl rfl
theorem g_96 : (Jvm.Cond.fieldLink "WhoseGlass$House" (81 : Nat) "WhoseGlass$Guest" "place" "I") ∈ yGW := y_i1 96 rfl rfl
theorem g_97 : (Jvm.Cond.fieldLink "WhoseGlass$Guest" (30 : Nat) "WhoseGlass$Guest" "holds" "I") ∈ yGW := y_i1 97 rfl rfl
theorem g_98 : (Jvm.Cond.fieldLink "WhoseGlass" (105 : Nat) "WhoseGlass$Guest" "holds" "I") ∈ yGW := y_i1 98 rfl rfl
theorem g_99 : (Jvm.Cond.fieldLink "WhoseGlass$House" (88 : Nat) "WhoseGlass$Guest" "holds" "I") ∈ yGW := y_i1 99 rfl rfl
theorem g_100 : (Jvm.Cond.fieldLink "WhoseGlass$HouseText" (102 : Nat) "WhoseGlass$Guest" "holds" "I") ∈ yGW := y_i1 100 rfl rfl
theorem g_101 : (Jvm.Cond.fieldLink "WhoseGlass$Guest" (33 : Nat) "WhoseGlass$Guest" "own" "I") ∈ yGW := y_i1 101 rfl rfl
theorem g_102 : (Jvm.Cond.fieldLink "WhoseGlass$House" (122 : Nat) "WhoseGlass$Guest" "own" "I") ∈ yGW := y_i1 102 rfl rfl
theorem g_103 : (Jvm.Cond.fieldLink "WhoseGlass" (145 : Nat) "WhoseGlass$Guest" "own" "I") ∈ yGW := y_i1 103 rfl rfl
theorem g_104 : (Jvm.Cond.fieldLink "WhoseGlass$Guest" (36 : Nat) "WhoseGlass$Guest" "had" "I") ∈ yGW := y_i1 104 rfl rfl
theorem g_105 : (Jvm.Cond.fieldLink "WhoseGlass$House" (155 : Nat) "WhoseGlass$Guest" "had" "I") ∈ yGW := y_i1 105 rfl rfl
theorem g_106 : (Jvm.Cond.fieldLink "WhoseGlass" (179 : Nat) "WhoseGlass$Guest" "had" "I") ∈ yGW := y_i1 106 rfl rfl
theorem g_107 : (Jvm.Cond.fieldLink "WhoseGlass$Guest" (39 : Nat) "WhoseGlass$Guest" "cold" "Z") ∈ yGW := y_i1 107 rfl rfl
theorem g_108 : (Jvm.Cond.fieldLink "WhoseGlass$HouseText" (115 : Nat) "WhoseGlass$Guest" "cold" "Z") ∈ yGW := y_i1 108 rfl rfl
theorem g_109 : (Jvm.Cond.fieldLink "WhoseGlass$House" (148 : Nat) "WhoseGlass$Guest" "cold" "Z") ∈ yGW := y_i1 109 rfl rfl
theorem g_131 : (Jvm.Cond.fieldLink "WhoseGlass$House" (11 : Nat) "WhoseGlass$House" "glasses" "[LWhoseGlass$Glass;") ∈ yGW := y_i1 131 rfl rfl
theorem g_132 : (Jvm.Cond.fieldLink "WhoseGlass$House" (19 : Nat) "WhoseGlass$House" "guests" "[LWhoseGlass$Guest;") ∈ yGW := y_i1 132 rfl rfl
theorem g_133 : (Jvm.Cond.fieldLink "WhoseGlass$House" (34 : Nat) "WhoseGlass$House" "glassCount" "I") ∈ yGW := y_i1 133 rfl rfl
theorem g_134 : (Jvm.Cond.fieldLink "WhoseGlass" (123 : Nat) "WhoseGlass$House" "glassCount" "I") ∈ yGW := y_i1 134 rfl rfl
theorem g_135 : (Jvm.Cond.fieldLink "WhoseGlass$House" (37 : Nat) "WhoseGlass$House" "guestCount" "I") ∈ yGW := y_i1 135 rfl rfl
theorem g_136 : (Jvm.Cond.fieldLink "WhoseGlass" (182 : Nat) "WhoseGlass$House" "guestCount" "I") ∈ yGW := y_i1 136 rfl rfl
theorem g_137 : (Jvm.Cond.fieldLink "WhoseGlass$House" (23 : Nat) "WhoseGlass$House" "tray" "I") ∈ yGW := y_i1 137 rfl rfl
theorem g_138 : (Jvm.Cond.fieldLink "WhoseGlass$HouseText" (119 : Nat) "WhoseGlass$House" "tray" "I") ∈ yGW := y_i1 138 rfl rfl
theorem g_139 : (Jvm.Cond.fieldLink "WhoseGlass" (220 : Nat) "WhoseGlass$House" "tray" "I") ∈ yGW := y_i1 139 rfl rfl
theorem g_140 : (Jvm.Cond.fieldLink "WhoseGlass$House" (40 : Nat) "WhoseGlass$House" "minute" "I") ∈ yGW := y_i1 140 rfl rfl
theorem g_141 : (Jvm.Cond.fieldLink "WhoseGlass$HouseText" (36 : Nat) "WhoseGlass$House" "minute" "I") ∈ yGW := y_i1 141 rfl rfl
theorem g_142 : (Jvm.Cond.fieldLink "WhoseGlass" (92 : Nat) "WhoseGlass$House" "minute" "I") ∈ yGW := y_i1 142 rfl rfl
theorem g_143 : (Jvm.Cond.fieldLink "WhoseGlass$House" (43 : Nat) "WhoseGlass$House" "mistakes" "I") ∈ yGW := y_i1 143 rfl rfl
theorem g_144 : (Jvm.Cond.fieldLink "WhoseGlass" (170 : Nat) "WhoseGlass$House" "mistakes" "I") ∈ yGW := y_i1 144 rfl rfl
theorem g_145 : (Jvm.Cond.fieldLink "WhoseGlass$House" (46 : Nat) "WhoseGlass$House" "fresh" "I") ∈ yGW := y_i1 145 rfl rfl
theorem g_146 : (Jvm.Cond.fieldLink "WhoseGlass" (173 : Nat) "WhoseGlass$House" "fresh" "I") ∈ yGW := y_i1 146 rfl rfl
theorem g_147 : (Jvm.Cond.fieldLink "WhoseGlass$House" (27 : Nat) "WhoseGlass$House" "leftOut" "I") ∈ yGW := y_i1 147 rfl rfl
theorem g_148 : (Jvm.Cond.fieldLink "WhoseGlass" (280 : Nat) "WhoseGlass$House" "leftOut" "I") ∈ yGW := y_i1 148 rfl rfl
theorem g_175 : (Jvm.Cond.fieldLink "WhoseGlass$Shelf" (9 : Nat) "WhoseGlass$Shelf" "content" "I") ∈ yGW := y_i1 175 rfl rfl
theorem g_176 : (Jvm.Cond.fieldLink "WhoseGlass" (33 : Nat) "WhoseGlass$Shelf" "content" "I") ∈ yGW := y_i1 176 rfl rfl
theorem g_177 : (Jvm.Cond.fieldLink "WhoseGlass" (82 : Nat) "WhoseGlass$Shelf" "kind" "I") ∈ yGW := y_i1 177 rfl rfl
theorem g_178 : (Jvm.Cond.fieldLink "WhoseGlass$Shelf" (30 : Nat) "WhoseGlass$Shelf" "kind" "I") ∈ yGW := y_i1 178 rfl rfl
theorem g_179 : (Jvm.Cond.fieldLink "WhoseGlass" (85 : Nat) "WhoseGlass$Shelf" "figure" "I") ∈ yGW := y_i1 179 rfl rfl
theorem g_180 : (Jvm.Cond.fieldLink "WhoseGlass$Shelf" (33 : Nat) "WhoseGlass$Shelf" "figure" "I") ∈ yGW := y_i1 180 rfl rfl
theorem g_181 : (Jvm.Cond.fieldLink "WhoseGlass" (37 : Nat) "WhoseGlass$Shelf" "sort" "I") ∈ yGW := y_i1 181 rfl rfl
theorem g_182 : (Jvm.Cond.fieldLink "WhoseGlass$Shelf" (19 : Nat) "WhoseGlass$Shelf" "sort" "I") ∈ yGW := y_i1 182 rfl rfl
theorem g_183 : (Jvm.Cond.fieldLink "WhoseGlass$HouseText" (9 : Nat) "WhoseGlass$Shelf" "size" "I") ∈ yGW := y_i1 183 rfl rfl
theorem g_184 : (Jvm.Cond.fieldLink "WhoseGlass$Shelf" (22 : Nat) "WhoseGlass$Shelf" "size" "I") ∈ yGW := y_i1 184 rfl rfl
theorem g_185 : (Jvm.Cond.fieldLink "WhoseGlass" (207 : Nat) "WhoseGlass$Shelf" "size" "I") ∈ yGW := y_i1 185 rfl rfl
theorem g_186 : (Jvm.Cond.fieldLink "WhoseGlass$Shelf" (15 : Nat) "WhoseGlass$Shelf" "elements" "[I") ∈ yGW := y_i1 186 rfl rfl
theorem g_187 : (Jvm.Cond.fieldLink "WhoseGlass" (250 : Nat) "WhoseGlass$Shelf" "elements" "[I") ∈ yGW := y_i1 187 rfl rfl
theorem g_202 : (Jvm.Cond.fieldLink "WhoseGlass" (10 : Nat) "WhoseGlass" "now" "LWhoseGlass$House;") ∈ yGW := y_i1 202 rfl rfl
theorem g_203 : (Jvm.Cond.fieldLink "WhoseGlass" (16 : Nat) "WhoseGlass" "mind" "LWhoseGlass$House;") ∈ yGW := y_i1 203 rfl rfl
theorem g_204 : (Jvm.Cond.fieldLink "WhoseGlass" (19 : Nat) "WhoseGlass" "picture" "LWhoseGlass$House;") ∈ yGW := y_i1 204 rfl rfl
theorem g_205 : (Jvm.Cond.fieldLink "WhoseGlass" (216 : Nat) "WhoseGlass" "pictured" "Z") ∈ yGW := y_i1 205 rfl rfl
theorem g_206 : (Jvm.Cond.fieldLink "WhoseGlass" (24 : Nat) "WhoseGlass" "shelves" "[LWhoseGlass$Shelf;") ∈ yGW := y_i1 206 rfl rfl
theorem g_222 : (Jvm.Cond.methodLink "WhoseGlass" (29 : Nat) ({ cls := "WhoseGlass", name := "shelfAt", desc := "(I)LWhoseGlass$Shelf;" } : Jvm.MethodName)) ∈ yGW := y_i1 222 rfl rfl
theorem g_224 : (Jvm.Cond.instanceMethod ({ cls := "WhoseGlass", name := "shelfAt", desc := "(I)LWhoseGlass$Shelf;" } : Jvm.MethodName)) ∈ yGW := y_i1 224 rfl rfl
theorem g_225 : (Jvm.Cond.code ({ cls := "WhoseGlass", name := "shelfAt", desc := "(I)LWhoseGlass$Shelf;" } : Jvm.MethodName) prog_1_method_41_code (2 : Nat) (Option.some (Jvm.ClassFile.FieldType.object "WhoseGlass$Shelf"))) ∈ yGW := y_i1 225 rfl rfl
theorem g_226 : (Jvm.Cond.methodLink "WhoseGlass" (40 : Nat) ({ cls := "WhoseGlass$Shelf", name := "whyNot", desc := "()I" } : Jvm.MethodName)) ∈ yGW := y_i1 226 rfl rfl
theorem g_227 : (Jvm.Cond.instanceMethod ({ cls := "WhoseGlass$Shelf", name := "whyNot", desc := "()I" } : Jvm.MethodName)) ∈ yGW := y_i1 227 rfl rfl
theorem g_228 : (Jvm.Cond.selects "WhoseGlass$Shelf" ({ cls := "WhoseGlass$Shelf", name := "whyNot", desc := "()I" } : Jvm.MethodName) ({ cls := "WhoseGlass$Shelf", name := "whyNot", desc := "()I" } : Jvm.MethodName)) ∈ yGW := y_i1 228 rfl rfl
theorem g_229 : (Jvm.Cond.code ({ cls := "WhoseGlass$Shelf", name := "whyNot", desc := "()I" } : Jvm.MethodName) prog_6_method_2_code (1 : Nat) (Option.some Jvm.ClassFile.FieldType.int)) ∈ yGW := y_i1 229 rfl rfl
theorem g_230 : (Jvm.Cond.methodLink "WhoseGlass" (44 : Nat) ({ cls := "WhoseGlass$HouseText", name := "breakIn", desc := "(LWhoseGlass$Shelf;)I" } : Jvm.MethodName)) ∈ yGW := y_i1 230 rfl rfl
theorem g_231 : (Jvm.Cond.static ({ cls := "WhoseGlass$HouseText", name := "breakIn", desc := "(LWhoseGlass$Shelf;)I" } : Jvm.MethodName)) ∈ yGW := y_i1 231 rfl rfl
theorem g_232 : (Jvm.Cond.code ({ cls := "WhoseGlass$HouseText", name := "breakIn", desc := "(LWhoseGlass$Shelf;)I" } : Jvm.MethodName) prog_5_method_2_code (4 : Nat) (Option.some Jvm.ClassFile.FieldType.int)) ∈ yGW := y_i1 232 rfl rfl
theorem g_233 : (Jvm.Cond.methodLink "WhoseGlass$HouseText" (15 : Nat) ({ cls := "WhoseGlass$HouseText", name := "digitsEnd", desc := "(LWhoseGlass$Shelf;I)I" } : Jvm.MethodName)) ∈ yGW := y_i1 233 rfl rfl
theorem g_234 : (Jvm.Cond.static ({ cls := "WhoseGlass$HouseText", name := "digitsEnd", desc := "(LWhoseGlass$Shelf;I)I" } : Jvm.MethodName)) ∈ yGW := y_i1 234 rfl rfl
theorem g_235 : (Jvm.Cond.code ({ cls := "WhoseGlass$HouseText", name := "digitsEnd", desc := "(LWhoseGlass$Shelf;I)I" } : Jvm.MethodName) prog_5_method_6_code (4 : Nat) (Option.some Jvm.ClassFile.FieldType.int)) ∈ yGW := y_i1 235 rfl rfl
theorem g_236 : (Jvm.Cond.methodLink "WhoseGlass$HouseText" (25 : Nat) ({ cls := "WhoseGlass$Shelf", name := "elementAt", desc := "(I)I" } : Jvm.MethodName)) ∈ yGW := y_i1 236 rfl rfl
theorem g_237 : (Jvm.Cond.instanceMethod ({ cls := "WhoseGlass$Shelf", name := "elementAt", desc := "(I)I" } : Jvm.MethodName)) ∈ yGW := y_i1 237 rfl rfl
theorem g_238 : (Jvm.Cond.selects "WhoseGlass$Shelf" ({ cls := "WhoseGlass$Shelf", name := "elementAt", desc := "(I)I" } : Jvm.MethodName) ({ cls := "WhoseGlass$Shelf", name := "elementAt", desc := "(I)I" } : Jvm.MethodName)) ∈ yGW := y_i1 238 rfl rfl
theorem g_239 : (Jvm.Cond.code ({ cls := "WhoseGlass$Shelf", name := "elementAt", desc := "(I)I" } : Jvm.MethodName) prog_6_method_4_code (2 : Nat) (Option.some Jvm.ClassFile.FieldType.int)) ∈ yGW := y_i1 239 rfl rfl
theorem g_240 : (Jvm.Cond.methodLink "WhoseGlass$HouseText" (49 : Nat) ({ cls := "WhoseGlass$HouseText", name := "mostDigits", desc := "(I)I" } : Jvm.MethodName)) ∈ yGW := y_i2 0 rfl rfl
theorem g_241 : (Jvm.Cond.static ({ cls := "WhoseGlass$HouseText", name := "mostDigits", desc := "(I)I" } : Jvm.MethodName)) ∈ yGW := y_i2 1 rfl rfl
theorem g_242 : (Jvm.Cond.code ({ cls := "WhoseGlass$HouseText", name := "mostDigits", desc := "(I)I" } : Jvm.MethodName) prog_5_method_10_code (1 : Nat) (Option.some Jvm.ClassFile.FieldType.int)) ∈ yGW := y_i2 2 rfl rfl
theorem g_243 : (Jvm.Cond.methodLink "WhoseGlass$HouseText" (52 : Nat) ({ cls := "WhoseGlass$HouseText", name := "isDigit", desc := "(LWhoseGlass$Shelf;I)Z" } : Jvm.MethodName)) ∈ yGW := y_i2 3 rfl rfl
theorem g_244 : (Jvm.Cond.static ({ cls := "WhoseGlass$HouseText", name := "isDigit", desc := "(LWhoseGlass$Shelf;I)Z" } : Jvm.MethodName)) ∈ yGW := y_i2 4 rfl rfl
theorem g_245 : (Jvm.Cond.code ({ cls := "WhoseGlass$HouseText", name := "isDigit", desc := "(LWhoseGlass$Shelf;I)Z" } : Jvm.MethodName) prog_5_method_8_code (2 : Nat) (Option.some Jvm.ClassFile.FieldType.boolean)) ∈ yGW := y_i2 5 rfl rfl
theorem g_246 : (Jvm.Cond.methodLink "WhoseGlass$HouseText" (21 : Nat) ({ cls := "WhoseGlass$HouseText", name := "isWhole", desc := "(LWhoseGlass$Shelf;II)Z" } : Jvm.MethodName)) ∈ yGW := y_i2 6 rfl rfl
theorem g_247 : (Jvm.Cond.static ({ cls := "WhoseGlass$HouseText", name := "isWhole", desc := "(LWhoseGlass$Shelf;II)Z" } : Jvm.MethodName)) ∈ yGW := y_i2 7 rfl rfl
theorem g_248 : (Jvm.Cond.code ({ cls := "WhoseGlass$HouseText", name := "isWhole", desc := "(LWhoseGlass$Shelf;II)Z" } : Jvm.MethodName) prog_5_method_3_code (3 : Nat) (Option.some Jvm.ClassFile.FieldType.boolean)) ∈ yGW := y_i2 8 rfl rfl
theorem g_249 : (Jvm.Cond.methodLink "WhoseGlass$HouseText" (29 : Nat) ({ cls := "WhoseGlass$HouseText", name := "leastDigits", desc := "(I)I" } : Jvm.MethodName)) ∈ yGW := y_i2 9 rfl rfl
theorem g_250 : (Jvm.Cond.static ({ cls := "WhoseGlass$HouseText", name := "leastDigits", desc := "(I)I" } : Jvm.MethodName)) ∈ yGW := y_i2 10 rfl rfl
theorem g_251 : (Jvm.Cond.code ({ cls := "WhoseGlass$HouseText", name := "leastDigits", desc := "(I)I" } : Jvm.MethodName) prog_5_method_9_code (1 : Nat) (Option.some Jvm.ClassFile.FieldType.int)) ∈ yGW := y_i2 11 rfl rfl
theorem g_252 : (Jvm.Cond.methodLink "WhoseGlass$HouseText" (32 : Nat) ({ cls := "WhoseGlass$HouseText", name := "isAt", desc := "(LWhoseGlass$Shelf;IC)Z" } : Jvm.MethodName)) ∈ yGW := y_i2 12 rfl rfl
theorem g_253 : (Jvm.Cond.static ({ cls := "WhoseGlass$HouseText", name := "isAt", desc := "(LWhoseGlass$Shelf;IC)Z" } : Jvm.MethodName)) ∈ yGW := y_i2 13 rfl rfl
theorem g_254 : (Jvm.Cond.code ({ cls := "WhoseGlass$HouseText", name := "isAt", desc := "(LWhoseGlass$Shelf;IC)Z" } : Jvm.MethodName) prog_5_method_7_code (3 : Nat) (Option.some Jvm.ClassFile.FieldType.boolean)) ∈ yGW := y_i2 14 rfl rfl
theorem g_255 : (Jvm.Cond.methodLink "WhoseGlass" (50 : Nat) ({ cls := "WhoseGlass$House", name := "become", desc := "(LWhoseGlass$House;)V" } : Jvm.MethodName)) ∈ yGW := y_i2 15 rfl rfl
theorem g_256 : (Jvm.Cond.instanceMethod ({ cls := "WhoseGlass$House", name := "become", desc := "(LWhoseGlass$House;)V" } : Jvm.MethodName)) ∈ yGW := y_i2 16 rfl rfl
theorem g_257 : (Jvm.Cond.selects "WhoseGlass$House" ({ cls := "WhoseGlass$House", name := "become", desc := "(LWhoseGlass$House;)V" } : Jvm.MethodName) ({ cls := "WhoseGlass$House", name := "become", desc := "(LWhoseGlass$House;)V" } : Jvm.MethodName)) ∈ yGW := y_i2 17 rfl rfl
theorem g_258 : (Jvm.Cond.code ({ cls := "WhoseGlass$House", name := "become", desc := "(LWhoseGlass$House;)V" } : Jvm.MethodName) prog_4_method_2_code (5 : Nat) (Option.none : Option Jvm.ClassFile.FieldType)) ∈ yGW := y_i2 18 rfl rfl
theorem g_259 : (Jvm.Cond.methodLink "WhoseGlass$House" (49 : Nat) ({ cls := "WhoseGlass$House", name := "glassAt", desc := "(I)LWhoseGlass$Glass;" } : Jvm.MethodName)) ∈ yGW := y_i2 19 rfl rfl
theorem g_260 : (Jvm.Cond.instanceMethod ({ cls := "WhoseGlass$House", name := "glassAt", desc := "(I)LWhoseGlass$Glass;" } : Jvm.MethodName)) ∈ yGW := y_i2 20 rfl rfl
theorem g_261 : (Jvm.Cond.selects "WhoseGlass$House" ({ cls := "WhoseGlass$House", name := "glassAt", desc := "(I)LWhoseGlass$Glass;" } : Jvm.MethodName) ({ cls := "WhoseGlass$House", name := "glassAt", desc := "(I)LWhoseGlass$Glass;" } : Jvm.MethodName)) ∈ yGW := y_i2 21 rfl rfl
theorem g_262 : (Jvm.Cond.code ({ cls := "WhoseGlass$House", name := "glassAt", desc := "(I)LWhoseGlass$Glass;" } : Jvm.MethodName) prog_4_method_3_code (2 : Nat) (Option.some (Jvm.ClassFile.FieldType.object "WhoseGlass$Glass"))) ∈ yGW := y_i2 22 rfl rfl
theorem g_263 : (Jvm.Cond.methodLink "WhoseGlass$House" (53 : Nat) ({ cls := "WhoseGlass$Glass", name := "become", desc := "(LWhoseGlass$Glass;)V" } : Jvm.MethodName)) ∈ yGW := y_i2 23 rfl rfl
theorem g_264 : (Jvm.Cond.instanceMethod ({ cls := "WhoseGlass$Glass", name := "become", desc := "(LWhoseGlass$Glass;)V" } : Jvm.MethodName)) ∈ yGW := y_i2 24 rfl rfl
theorem g_265 : (Jvm.Cond.selects "WhoseGlass$Glass" ({ cls := "WhoseGlass$Glass", name := "become", desc := "(LWhoseGlass$Glass;)V" } : Jvm.MethodName) ({ cls := "WhoseGlass$Glass", name := "become", desc := "(LWhoseGlass$Glass;)V" } : Jvm.MethodName)) ∈ yGW := y_i2 25 rfl rfl
theorem g_266 : (Jvm.Cond.code ({ cls := "WhoseGlass$Glass", name := "become", desc := "(LWhoseGlass$Glass;)V" } : Jvm.MethodName) prog_2_method_3_code (2 : Nat) (Option.none : Option Jvm.ClassFile.FieldType)) ∈ yGW := y_i2 26 rfl rfl
theorem g_267 : (Jvm.Cond.methodLink "WhoseGlass$House" (57 : Nat) ({ cls := "WhoseGlass$House", name := "guestAt", desc := "(I)LWhoseGlass$Guest;" } : Jvm.MethodName)) ∈ yGW := y_i2 27 rfl rfl
theorem g_268 : (Jvm.Cond.instanceMethod ({ cls := "WhoseGlass$House", name := "guestAt", desc := "(I)LWhoseGlass$Guest;" } : Jvm.MethodName)) ∈ yGW := y_i2 28 rfl rfl
theorem g_269 : (Jvm.Cond.selects "WhoseGlass$House" ({ cls := "WhoseGlass$House", name := "guestAt", desc := "(I)LWhoseGlass$Guest;" } : Jvm.MethodName) ({ cls := "WhoseGlass$House", name := "guestAt", desc := "(I)LWhoseGlass$Guest;" } : Jvm.MethodName)) ∈ yGW := y_i2 29 rfl rfl
theorem g_270 : (Jvm.Cond.code ({ cls := "WhoseGlass$House", name := "guestAt", desc := "(I)LWhoseGlass$Guest;" } : Jvm.MethodName) prog_4_method_4_code (2 : Nat) (Option.some (Jvm.ClassFile.FieldType.object "WhoseGlass$Guest"))) ∈ yGW := y_i2 30 rfl rfl
theorem g_271 : (Jvm.Cond.methodLink "WhoseGlass$House" (61 : Nat) ({ cls := "WhoseGlass$Guest", name := "become", desc := "(LWhoseGlass$Guest;)V" } : Jvm.MethodName)) ∈ yGW := y_i2 31 rfl rfl
theorem g_272 : (Jvm.Cond.instanceMethod ({ cls := "WhoseGlass$Guest", name := "become", desc := "(LWhoseGlass$Guest;)V" } : Jvm.MethodName)) ∈ yGW := y_i2 32 rfl rfl
theorem g_273 : (Jvm.Cond.selects "WhoseGlass$Guest" ({ cls := "WhoseGlass$Guest", name := "become", desc := "(LWhoseGlass$Guest;)V" } : Jvm.MethodName) ({ cls := "WhoseGlass$Guest", name := "become", desc := "(LWhoseGlass$Guest;)V" } : Jvm.MethodName)) ∈ yGW := y_i2 33 rfl rfl
theorem g_274 : (Jvm.Cond.code ({ cls := "WhoseGlass$Guest", name := "become", desc := "(LWhoseGlass$Guest;)V" } : Jvm.MethodName) prog_3_method_3_code (2 : Nat) (Option.none : Option Jvm.ClassFile.FieldType)) ∈ yGW := y_i2 34 rfl rfl
theorem g_275 : (Jvm.Cond.methodLink "WhoseGlass" (54 : Nat) ({ cls := "WhoseGlass$HouseText", name := "build", desc := "(LWhoseGlass$Shelf;LWhoseGlass$House;)I" } : Jvm.MethodName)) ∈ yGW := y_i2 35 rfl rfl
theorem g_276 : (Jvm.Cond.static ({ cls := "WhoseGlass$HouseText", name := "build", desc := "(LWhoseGlass$Shelf;LWhoseGlass$House;)I" } : Jvm.MethodName)) ∈ yGW := y_i2 36 rfl rfl
theorem g_277 : (Jvm.Cond.code ({ cls := "WhoseGlass$HouseText", name := "build", desc := "(LWhoseGlass$Shelf;LWhoseGlass$House;)I" } : Jvm.MethodName) prog_5_method_4_code (4 : Nat) (Option.some Jvm.ClassFile.FieldType.int)) ∈ yGW := y_i2 37 rfl rfl
theorem g_278 : (Jvm.Cond.methodLink "WhoseGlass$HouseText" (41 : Nat) ({ cls := "WhoseGlass$House", name := "passMinutes", desc := "(I)V" } : Jvm.MethodName)) ∈ yGW := y_i2 38 rfl rfl
theorem g_279 : (Jvm.Cond.instanceMethod ({ cls := "WhoseGlass$House", name := "passMinutes", desc := "(I)V" } : Jvm.MethodName)) ∈ yGW := y_i2 39 rfl rfl
theorem g_280 : (Jvm.Cond.selects "WhoseGlass$House" ({ cls := "WhoseGlass$House", name := "passMinutes", desc := "(I)V" } : Jvm.MethodName) ({ cls := "WhoseGlass$House", name := "passMinutes", desc := "(I)V" } : Jvm.MethodName)) ∈ yGW := y_i2 40 rfl rfl
theorem g_281 : (Jvm.Cond.code ({ cls := "WhoseGlass$House", name := "passMinutes", desc := "(I)V" } : Jvm.MethodName) prog_4_method_7_code (5 : Nat) (Option.none : Option Jvm.ClassFile.FieldType)) ∈ yGW := y_i2 41 rfl rfl
theorem g_282 : (Jvm.Cond.methodLink "WhoseGlass$House" (71 : Nat) ({ cls := "WhoseGlass$House", name := "liveMinute", desc := "(LWhoseGlass$Guest;)V" } : Jvm.MethodName)) ∈ yGW := y_i2 42 rfl rfl
theorem g_284 : (Jvm.Cond.instanceMethod ({ cls := "WhoseGlass$House", name := "liveMinute", desc := "(LWhoseGlass$Guest;)V" } : Jvm.MethodName)) ∈ yGW := y_i2 44 rfl rfl
theorem g_285 : (Jvm.Cond.code ({ cls := "WhoseGlass$House", name := "liveMinute", desc := "(LWhoseGlass$Guest;)V" } : Jvm.MethodName) prog_4_method_8_code (3 : Nat) (Option.none : Option Jvm.ClassFile.FieldType)) ∈ yGW := y_i2 45 rfl rfl
theorem g_287 : (Jvm.Cond.static ({ cls := "WhoseGlass", name := "isMultiple", desc := "(II)Z" } : Jvm.MethodName)) ∈ yGW := y_i2 47 rfl rfl
theorem g_288 : (Jvm.Cond.code ({ cls := "WhoseGlass", name := "isMultiple", desc := "(II)Z" } : Jvm.MethodName) prog_1_method_44_code (2 : Nat) (Option.some Jvm.ClassFile.FieldType.boolean)) ∈ yGW := y_i2 48 rfl rfl
theorem g_289 : (Jvm.Cond.methodLink "WhoseGlass$House" (84 : Nat) ({ cls := "WhoseGlass$House", name := "placeBehind", desc := "(I)I" } : Jvm.MethodName)) ∈ yGW := y_i2 49 rfl rfl
theorem g_291 : (Jvm.Cond.instanceMethod ({ cls := "WhoseGlass$House", name := "placeBehind", desc := "(I)I" } : Jvm.MethodName)) ∈ yGW := y_i2 51 rfl rfl
theorem g_292 : (Jvm.Cond.code ({ cls := "WhoseGlass$House", name := "placeBehind", desc := "(I)I" } : Jvm.MethodName) prog_4_method_9_code (3 : Nat) (Option.some Jvm.ClassFile.FieldType.int)) ∈ yGW := y_i2 52 rfl rfl
theorem g_293 : (Jvm.Cond.methodLink "WhoseGlass$House" (91 : Nat) ({ cls := "WhoseGlass$House", name := "takeUp", desc := "(LWhoseGlass$Guest;)I" } : Jvm.MethodName)) ∈ yGW := y_i2 53 rfl rfl
theorem g_294 : (Jvm.Cond.instanceMethod ({ cls := "WhoseGlass$House", name := "takeUp", desc := "(LWhoseGlass$Guest;)I" } : Jvm.MethodName)) ∈ yGW := y_i2 54 rfl rfl
theorem g_295 : (Jvm.Cond.selects "WhoseGlass$House" ({ cls := "WhoseGlass$House", name := "takeUp", desc := "(LWhoseGlass$Guest;)I" } : Jvm.MethodName) ({ cls := "WhoseGlass$House", name := "takeUp", desc := "(LWhoseGlass$Guest;)I" } : Jvm.MethodName)) ∈ yGW := y_i2 55 rfl rfl
theorem g_296 : (Jvm.Cond.code ({ cls := "WhoseGlass$House", name := "takeUp", desc := "(LWhoseGlass$Guest;)I" } : Jvm.MethodName) prog_4_method_11_code (4 : Nat) (Option.some Jvm.ClassFile.FieldType.int)) ∈ yGW := y_i2 56 rfl rfl
theorem g_297 : (Jvm.Cond.methodLink "WhoseGlass$House" (116 : Nat) ({ cls := "WhoseGlass$House", name := "choiceOf", desc := "(LWhoseGlass$Guest;)I" } : Jvm.MethodName)) ∈ yGW := y_i2 57 rfl rfl
theorem g_298 : (Jvm.Cond.instanceMethod ({ cls := "WhoseGlass$House", name := "choiceOf", desc := "(LWhoseGlass$Guest;)I" } : Jvm.MethodName)) ∈ yGW := y_i2 58 rfl rfl
theorem g_299 : (Jvm.Cond.selects "WhoseGlass$House" ({ cls := "WhoseGlass$House", name := "choiceOf", desc := "(LWhoseGlass$Guest;)I" } : Jvm.MethodName) ({ cls := "WhoseGlass$House", name := "choiceOf", desc := "(LWhoseGlass$Guest;)I" } : Jvm.MethodName)) ∈ yGW := y_i2 59 rfl rfl
theorem g_300 : (Jvm.Cond.code ({ cls := "WhoseGlass$House", name := "choiceOf", desc := "(LWhoseGlass$Guest;)I" } : Jvm.MethodName) prog_4_method_12_code (9 : Nat) (Option.some Jvm.ClassFile.FieldType.int)) ∈ yGW := y_i2 60 rfl rfl
theorem g_301 : (Jvm.Cond.methodLink "WhoseGlass$House" (135 : Nat) ({ cls := "WhoseGlass$Glass", name := "likeTo", desc := "(LWhoseGlass$Glass;)I" } : Jvm.MethodName)) ∈ yGW := y_i2 61 rfl rfl
theorem g_302 : (Jvm.Cond.instanceMethod ({ cls := "WhoseGlass$Glass", name := "likeTo", desc := "(LWhoseGlass$Glass;)I" } : Jvm.MethodName)) ∈ yGW := y_i2 62 rfl rfl
theorem g_303 : (Jvm.Cond.selects "WhoseGlass$Glass" ({ cls := "WhoseGlass$Glass", name := "likeTo", desc := "(LWhoseGlass$Glass;)I" } : Jvm.MethodName) ({ cls := "WhoseGlass$Glass", name := "likeTo", desc := "(LWhoseGlass$Glass;)I" } : Jvm.MethodName)) ∈ yGW := y_i2 63 rfl rfl
theorem g_304 : (Jvm.Cond.code ({ cls := "WhoseGlass$Glass", name := "likeTo", desc := "(LWhoseGlass$Glass;)I" } : Jvm.MethodName) prog_2_method_8_code (9 : Nat) (Option.some Jvm.ClassFile.FieldType.int)) ∈ yGW := y_i2 64 rfl rfl
theorem g_305 : (Jvm.Cond.methodLink "WhoseGlass$House" (125 : Nat) ({ cls := "WhoseGlass$Guest", name := "hold", desc := "(LWhoseGlass$Glass;)V" } : Jvm.MethodName)) ∈ yGW := y_i2 65 rfl rfl
theorem g_306 : (Jvm.Cond.instanceMethod ({ cls := "WhoseGlass$Guest", name := "hold", desc := "(LWhoseGlass$Glass;)V" } : Jvm.MethodName)) ∈ yGW := y_i2 66 rfl rfl
theorem g_307 : (Jvm.Cond.selects "WhoseGlass$Guest" ({ cls := "WhoseGlass$Guest", name := "hold", desc := "(LWhoseGlass$Glass;)V" } : Jvm.MethodName) ({ cls := "WhoseGlass$Guest", name := "hold", desc := "(LWhoseGlass$Glass;)V" } : Jvm.MethodName)) ∈ yGW := y_i2 67 rfl rfl
theorem g_308 : (Jvm.Cond.code ({ cls := "WhoseGlass$Guest", name := "hold", desc := "(LWhoseGlass$Glass;)V" } : Jvm.MethodName) prog_3_method_5_code (2 : Nat) (Option.none : Option Jvm.ClassFile.FieldType)) ∈ yGW := y_i2 68 rfl rfl
theorem g_309 : (Jvm.Cond.methodLink "WhoseGlass$House" (128 : Nat) ({ cls := "WhoseGlass$House", name := "addGlass", desc := "(III)LWhoseGlass$Glass;" } : Jvm.MethodName)) ∈ yGW := y_i2 69 rfl rfl
theorem g_310 : (Jvm.Cond.instanceMethod ({ cls := "WhoseGlass$House", name := "addGlass", desc := "(III)LWhoseGlass$Glass;" } : Jvm.MethodName)) ∈ yGW := y_i2 70 rfl rfl
theorem g_311 : (Jvm.Cond.selects "WhoseGlass$House" ({ cls := "WhoseGlass$House", name := "addGlass", desc := "(III)LWhoseGlass$Glass;" } : Jvm.MethodName) ({ cls := "WhoseGlass$House", name := "addGlass", desc := "(III)LWhoseGlass$Glass;" } : Jvm.MethodName)) ∈ yGW := y_i2 71 rfl rfl
theorem g_312 : (Jvm.Cond.code ({ cls := "WhoseGlass$House", name := "addGlass", desc := "(III)LWhoseGlass$Glass;" } : Jvm.MethodName) prog_4_method_5_code (5 : Nat) (Option.some (Jvm.ClassFile.FieldType.object "WhoseGlass$Glass"))) ∈ yGW := y_i2 72 rfl rfl
theorem g_313 : (Jvm.Cond.methodLink "WhoseGlass$House" (64 : Nat) ({ cls := "WhoseGlass$Glass", name := "begin", desc := "(III)V" } : Jvm.MethodName)) ∈ yGW := y_i2 73 rfl rfl
theorem g_314 : (Jvm.Cond.instanceMethod ({ cls := "WhoseGlass$Glass", name := "begin", desc := "(III)V" } : Jvm.MethodName)) ∈ yGW := y_i2 74 rfl rfl
theorem g_315 : (Jvm.Cond.selects "WhoseGlass$Glass" ({ cls := "WhoseGlass$Glass", name := "begin", desc := "(III)V" } : Jvm.MethodName) ({ cls := "WhoseGlass$Glass", name := "begin", desc := "(III)V" } : Jvm.MethodName)) ∈ yGW := y_i2 75 rfl rfl
theorem g_316 : (Jvm.Cond.code ({ cls := "WhoseGlass$Glass", name := "begin", desc := "(III)V" } : Jvm.MethodName) prog_2_method_2_code (4 : Nat) (Option.none : Option Jvm.ClassFile.FieldType)) ∈ yGW := y_i2 76 rfl rfl
theorem g_317 : (Jvm.Cond.methodLink "WhoseGlass$House" (101 : Nat) ({ cls := "WhoseGlass$Guest", name := "sipFrom", desc := "(LWhoseGlass$Glass;)I" } : Jvm.MethodName)) ∈ yGW := y_i2 77 rfl rfl
theorem g_318 : (Jvm.Cond.instanceMethod ({ cls := "WhoseGlass$Guest", name := "sipFrom", desc := "(LWhoseGlass$Glass;)I" } : Jvm.MethodName)) ∈ yGW := y_i2 78 rfl rfl
theorem g_319 : (Jvm.Cond.selects "WhoseGlass$Guest" ({ cls := "WhoseGlass$Guest", name := "sipFrom", desc := "(LWhoseGlass$Glass;)I" } : Jvm.MethodName) ({ cls := "WhoseGlass$Guest", name := "sipFrom", desc := "(LWhoseGlass$Glass;)I" } : Jvm.MethodName)) ∈ yGW := y_i2 79 rfl rfl
theorem g_320 : (Jvm.Cond.code ({ cls := "WhoseGlass$Guest", name := "sipFrom", desc := "(LWhoseGlass$Glass;)I" } : Jvm.MethodName) prog_3_method_6_code (3 : Nat) (Option.some Jvm.ClassFile.FieldType.int)) ∈ yGW := y_i2 80 rfl rfl
theorem g_321 : (Jvm.Cond.methodLink "WhoseGlass$Guest" (49 : Nat) ({ cls := "WhoseGlass$Glass", name := "strength", desc := "()I" } : Jvm.MethodName)) ∈ yGW := y_i2 81 rfl rfl
theorem g_322 : (Jvm.Cond.instanceMethod ({ cls := "WhoseGlass$Glass", name := "strength", desc := "()I" } : Jvm.MethodName)) ∈ yGW := y_i2 82 rfl rfl
theorem g_323 : (Jvm.Cond.selects "WhoseGlass$Glass" ({ cls := "WhoseGlass$Glass", name := "strength", desc := "()I" } : Jvm.MethodName) ({ cls := "WhoseGlass$Glass", name := "strength", desc := "()I" } : Jvm.MethodName)) ∈ yGW := y_i2 83 rfl rfl
theorem g_324 : (Jvm.Cond.code ({ cls := "WhoseGlass$Glass", name := "strength", desc := "()I" } : Jvm.MethodName) prog_2_method_9_code (1 : Nat) (Option.some Jvm.ClassFile.FieldType.int)) ∈ yGW := y_i2 84 rfl rfl
theorem g_325 : (Jvm.Cond.methodLink "WhoseGlass$House" (108 : Nat) ({ cls := "WhoseGlass$House", name := "layDown", desc := "(LWhoseGlass$Guest;LWhoseGlass$Glass;)V" } : Jvm.MethodName)) ∈ yGW := y_i2 85 rfl rfl
theorem g_326 : (Jvm.Cond.instanceMethod ({ cls := "WhoseGlass$House", name := "layDown", desc := "(LWhoseGlass$Guest;LWhoseGlass$Glass;)V" } : Jvm.MethodName)) ∈ yGW := y_i2 86 rfl rfl
theorem g_327 : (Jvm.Cond.selects "WhoseGlass$House" ({ cls := "WhoseGlass$House", name := "layDown", desc := "(LWhoseGlass$Guest;LWhoseGlass$Glass;)V" } : Jvm.MethodName) ({ cls := "WhoseGlass$House", name := "layDown", desc := "(LWhoseGlass$Guest;LWhoseGlass$Glass;)V" } : Jvm.MethodName)) ∈ yGW := y_i2 87 rfl rfl
theorem g_328 : (Jvm.Cond.code ({ cls := "WhoseGlass$House", name := "layDown", desc := "(LWhoseGlass$Guest;LWhoseGlass$Glass;)V" } : Jvm.MethodName) prog_4_method_10_code (3 : Nat) (Option.none : Option Jvm.ClassFile.FieldType)) ∈ yGW := y_i2 88 rfl rfl
theorem g_329 : (Jvm.Cond.methodLink "WhoseGlass$House" (112 : Nat) ({ cls := "WhoseGlass$Glass", name := "layAt", desc := "(II)V" } : Jvm.MethodName)) ∈ yGW := y_i2 89 rfl rfl
theorem g_330 : (Jvm.Cond.instanceMethod ({ cls := "WhoseGlass$Glass", name := "layAt", desc := "(II)V" } : Jvm.MethodName)) ∈ yGW := y_i2 90 rfl rfl
theorem g_331 : (Jvm.Cond.selects "WhoseGlass$Glass" ({ cls := "WhoseGlass$Glass", name := "layAt", desc := "(II)V" } : Jvm.MethodName) ({ cls := "WhoseGlass$Glass", name := "layAt", desc := "(II)V" } : Jvm.MethodName)) ∈ yGW := y_i2 91 rfl rfl
theorem g_332 : (Jvm.Cond.code ({ cls := "WhoseGlass$Glass", name := "layAt", desc := "(II)V" } : Jvm.MethodName) prog_2_method_4_code (3 : Nat) (Option.none : Option Jvm.ClassFile.FieldType)) ∈ yGW := y_i2 92 rfl rfl
theorem g_333 : (Jvm.Cond.methodLink "WhoseGlass$HouseText" (45 : Nat) ({ cls := "WhoseGlass$HouseText", name := "obeys", desc := "(LWhoseGlass$House;LWhoseGlass$Shelf;I)Z" } : Jvm.MethodName)) ∈ yGW := y_i2 93 rfl rfl
theorem g_334 : (Jvm.Cond.static ({ cls := "WhoseGlass$HouseText", name := "obeys", desc := "(LWhoseGlass$House;LWhoseGlass$Shelf;I)Z" } : Jvm.MethodName)) ∈ yGW := y_i2 94 rfl rfl
theorem g_335 : (Jvm.Cond.code ({ cls := "WhoseGlass$HouseText", name := "obeys", desc := "(LWhoseGlass$House;LWhoseGlass$Shelf;I)Z" } : Jvm.MethodName) prog_5_method_12_code (3 : Nat) (Option.some Jvm.ClassFile.FieldType.boolean)) ∈ yGW := y_i2 95 rfl rfl
theorem g_336 : (Jvm.Cond.methodLink "WhoseGlass$HouseText" (56 : Nat) ({ cls := "WhoseGlass$HouseText", name := "glassStands", desc := "(LWhoseGlass$Shelf;ILWhoseGlass$House;)Z" } : Jvm.MethodName)) ∈ yGW := y_i2 96 rfl rfl
theorem g_337 : (Jvm.Cond.static ({ cls := "WhoseGlass$HouseText", name := "glassStands", desc := "(LWhoseGlass$Shelf;ILWhoseGlass$House;)Z" } : Jvm.MethodName)) ∈ yGW := y_i2 97 rfl rfl
theorem g_338 : (Jvm.Cond.code ({ cls := "WhoseGlass$HouseText", name := "glassStands", desc := "(LWhoseGlass$Shelf;ILWhoseGlass$House;)Z" } : Jvm.MethodName) prog_5_method_13_code (6 : Nat) (Option.some Jvm.ClassFile.FieldType.boolean)) ∈ yGW := y_i2 98 rfl rfl
theorem g_339 : (Jvm.Cond.methodLink "WhoseGlass$HouseText" (73 : Nat) ({ cls := "WhoseGlass$HouseText", name := "digit", desc := "(LWhoseGlass$Shelf;I)I" } : Jvm.MethodName)) ∈ yGW := y_i2 99 rfl rfl
theorem g_340 : (Jvm.Cond.static ({ cls := "WhoseGlass$HouseText", name := "digit", desc := "(LWhoseGlass$Shelf;I)I" } : Jvm.MethodName)) ∈ yGW := y_i2 100 rfl rfl
theorem g_341 : (Jvm.Cond.code ({ cls := "WhoseGlass$HouseText", name := "digit", desc := "(LWhoseGlass$Shelf;I)I" } : Jvm.MethodName) prog_5_method_11_code (2 : Nat) (Option.some Jvm.ClassFile.FieldType.int)) ∈ yGW := y_i2 101 rfl rfl
theorem g_343 : (Jvm.Cond.static ({ cls := "WhoseGlass", name := "isBelow", desc := "(II)Z" } : Jvm.MethodName)) ∈ yGW := y_i2 103 rfl rfl
theorem g_344 : (Jvm.Cond.code ({ cls := "WhoseGlass", name := "isBelow", desc := "(II)Z" } : Jvm.MethodName) prog_1_method_42_code (2 : Nat) (Option.some Jvm.ClassFile.FieldType.boolean)) ∈ yGW := y_i2 104 rfl rfl
theorem g_345 : (Jvm.Cond.methodLink "WhoseGlass$HouseText" (80 : Nat) ({ cls := "WhoseGlass$House", name := "addGlass", desc := "(III)LWhoseGlass$Glass;" } : Jvm.MethodName)) ∈ yGW := y_i2 105 rfl rfl
theorem g_346 : (Jvm.Cond.methodLink "WhoseGlass$HouseText" (84 : Nat) ({ cls := "WhoseGlass$Glass", name := "layAt", desc := "(II)V" } : Jvm.MethodName)) ∈ yGW := y_i2 106 rfl rfl
theorem g_347 : (Jvm.Cond.methodLink "WhoseGlass$HouseText" (60 : Nat) ({ cls := "WhoseGlass$HouseText", name := "guestEnters", desc := "(LWhoseGlass$Shelf;ILWhoseGlass$House;)Z" } : Jvm.MethodName)) ∈ yGW := y_i2 107 rfl rfl
theorem g_348 : (Jvm.Cond.static ({ cls := "WhoseGlass$HouseText", name := "guestEnters", desc := "(LWhoseGlass$Shelf;ILWhoseGlass$House;)Z" } : Jvm.MethodName)) ∈ yGW := y_i2 108 rfl rfl
theorem g_349 : (Jvm.Cond.code ({ cls := "WhoseGlass$HouseText", name := "guestEnters", desc := "(LWhoseGlass$Shelf;ILWhoseGlass$House;)Z" } : Jvm.MethodName) prog_5_method_14_code (8 : Nat) (Option.some Jvm.ClassFile.FieldType.boolean)) ∈ yGW := y_i2 109 rfl rfl
theorem g_350 : (Jvm.Cond.methodLink "WhoseGlass$HouseText" (90 : Nat) ({ cls := "WhoseGlass$House", name := "addGuest", desc := "(IIIII)LWhoseGlass$Guest;" } : Jvm.MethodName)) ∈ yGW := y_i2 110 rfl rfl
theorem g_351 : (Jvm.Cond.instanceMethod ({ cls := "WhoseGlass$House", name := "addGuest", desc := "(IIIII)LWhoseGlass$Guest;" } : Jvm.MethodName)) ∈ yGW := y_i2 111 rfl rfl
theorem g_352 : (Jvm.Cond.selects "WhoseGlass$House" ({ cls := "WhoseGlass$House", name := "addGuest", desc := "(IIIII)LWhoseGlass$Guest;" } : Jvm.MethodName) ({ cls := "WhoseGlass$House", name := "addGuest", desc := "(IIIII)LWhoseGlass$Guest;" } : Jvm.MethodName)) ∈ yGW := y_i2 112 rfl rfl
theorem g_353 : (Jvm.Cond.code ({ cls := "WhoseGlass$House", name := "addGuest", desc := "(IIIII)LWhoseGlass$Guest;" } : Jvm.MethodName) prog_4_method_6_code (7 : Nat) (Option.some (Jvm.ClassFile.FieldType.object "WhoseGlass$Guest"))) ∈ yGW := y_i2 113 rfl rfl
theorem g_354 : (Jvm.Cond.methodLink "WhoseGlass$House" (68 : Nat) ({ cls := "WhoseGlass$Guest", name := "begin", desc := "(IIIII)V" } : Jvm.MethodName)) ∈ yGW := y_i2 114 rfl rfl
theorem g_355 : (Jvm.Cond.instanceMethod ({ cls := "WhoseGlass$Guest", name := "begin", desc := "(IIIII)V" } : Jvm.MethodName)) ∈ yGW := y_i2 115 rfl rfl
theorem g_356 : (Jvm.Cond.selects "WhoseGlass$Guest" ({ cls := "WhoseGlass$Guest", name := "begin", desc := "(IIIII)V" } : Jvm.MethodName) ({ cls := "WhoseGlass$Guest", name := "begin", desc := "(IIIII)V" } : Jvm.MethodName)) ∈ yGW := y_i2 116 rfl rfl
theorem g_357 : (Jvm.Cond.code ({ cls := "WhoseGlass$Guest", name := "begin", desc := "(IIIII)V" } : Jvm.MethodName) prog_3_method_2_code (6 : Nat) (Option.none : Option Jvm.ClassFile.FieldType)) ∈ yGW := y_i2 117 rfl rfl
theorem g_358 : (Jvm.Cond.methodLink "WhoseGlass$HouseText" (63 : Nat) ({ cls := "WhoseGlass$HouseText", name := "guestHolds", desc := "(LWhoseGlass$Shelf;ILWhoseGlass$House;)Z" } : Jvm.MethodName)) ∈ yGW := y_i2 118 rfl rfl
theorem g_359 : (Jvm.Cond.static ({ cls := "WhoseGlass$HouseText", name := "guestHolds", desc := "(LWhoseGlass$Shelf;ILWhoseGlass$House;)Z" } : Jvm.MethodName)) ∈ yGW := y_i2 119 rfl rfl
theorem g_360 : (Jvm.Cond.code ({ cls := "WhoseGlass$HouseText", name := "guestHolds", desc := "(LWhoseGlass$Shelf;ILWhoseGlass$House;)Z" } : Jvm.MethodName) prog_5_method_15_code (5 : Nat) (Option.some Jvm.ClassFile.FieldType.boolean)) ∈ yGW := y_i2 120 rfl rfl
theorem g_361 : (Jvm.Cond.methodLink "WhoseGlass$HouseText" (94 : Nat) ({ cls := "WhoseGlass$House", name := "guestAt", desc := "(I)LWhoseGlass$Guest;" } : Jvm.MethodName)) ∈ yGW := y_i2 121 rfl rfl
theorem g_362 : (Jvm.Cond.methodLink "WhoseGlass$HouseText" (98 : Nat) ({ cls := "WhoseGlass$House", name := "glassAt", desc := "(I)LWhoseGlass$Glass;" } : Jvm.MethodName)) ∈ yGW := y_i2 122 rfl rfl
theorem g_363 : (Jvm.Cond.methodLink "WhoseGlass$HouseText" (107 : Nat) ({ cls := "WhoseGlass$Glass", name := "isLaid", desc := "()Z" } : Jvm.MethodName)) ∈ yGW := y_i2 123 rfl rfl
theorem g_364 : (Jvm.Cond.instanceMethod ({ cls := "WhoseGlass$Glass", name := "isLaid", desc := "()Z" } : Jvm.MethodName)) ∈ yGW := y_i2 124 rfl rfl
theorem g_365 : (Jvm.Cond.selects "WhoseGlass$Glass" ({ cls := "WhoseGlass$Glass", name := "isLaid", desc := "()Z" } : Jvm.MethodName) ({ cls := "WhoseGlass$Glass", name := "isLaid", desc := "()Z" } : Jvm.MethodName)) ∈ yGW := y_i2 125 rfl rfl
theorem g_366 : (Jvm.Cond.code ({ cls := "WhoseGlass$Glass", name := "isLaid", desc := "()Z" } : Jvm.MethodName) prog_2_method_6_code (1 : Nat) (Option.some Jvm.ClassFile.FieldType.boolean)) ∈ yGW := y_i2 126 rfl rfl
theorem g_367 : (Jvm.Cond.methodLink "WhoseGlass$HouseText" (111 : Nat) ({ cls := "WhoseGlass$Guest", name := "hold", desc := "(LWhoseGlass$Glass;)V" } : Jvm.MethodName)) ∈ yGW := y_i2 127 rfl rfl
theorem g_368 : (Jvm.Cond.methodLink "WhoseGlass$HouseText" (66 : Nat) ({ cls := "WhoseGlass$HouseText", name := "coldTurns", desc := "(LWhoseGlass$Shelf;ILWhoseGlass$House;)Z" } : Jvm.MethodName)) ∈ yGW := y_i2 128 rfl rfl
theorem g_369 : (Jvm.Cond.static ({ cls := "WhoseGlass$HouseText", name := "coldTurns", desc := "(LWhoseGlass$Shelf;ILWhoseGlass$House;)Z" } : Jvm.MethodName)) ∈ yGW := y_i2 129 rfl rfl
theorem g_370 : (Jvm.Cond.code ({ cls := "WhoseGlass$HouseText", name := "coldTurns", desc := "(LWhoseGlass$Shelf;ILWhoseGlass$House;)Z" } : Jvm.MethodName) prog_5_method_16_code (4 : Nat) (Option.some Jvm.ClassFile.FieldType.boolean)) ∈ yGW := y_i2 130 rfl rfl
theorem g_371 : (Jvm.Cond.methodLink "WhoseGlass$HouseText" (69 : Nat) ({ cls := "WhoseGlass$HouseText", name := "setTray", desc := "(LWhoseGlass$Shelf;ILWhoseGlass$House;)V" } : Jvm.MethodName)) ∈ yGW := y_i2 131 rfl rfl
theorem g_372 : (Jvm.Cond.static ({ cls := "WhoseGlass$HouseText", name := "setTray", desc := "(LWhoseGlass$Shelf;ILWhoseGlass$House;)V" } : Jvm.MethodName)) ∈ yGW := y_i2 132 rfl rfl
theorem g_373 : (Jvm.Cond.code ({ cls := "WhoseGlass$HouseText", name := "setTray", desc := "(LWhoseGlass$Shelf;ILWhoseGlass$House;)V" } : Jvm.MethodName) prog_5_method_17_code (5 : Nat) (Option.none : Option Jvm.ClassFile.FieldType)) ∈ yGW := y_i2 133 rfl rfl
theorem g_374 : (Jvm.Cond.methodLink "WhoseGlass" (58 : Nat) ({ cls := "WhoseGlass$HouseText", name := "statementsIn", desc := "(LWhoseGlass$Shelf;)I" } : Jvm.MethodName)) ∈ yGW := y_i2 134 rfl rfl
theorem g_375 : (Jvm.Cond.static ({ cls := "WhoseGlass$HouseText", name := "statementsIn", desc := "(LWhoseGlass$Shelf;)I" } : Jvm.MethodName)) ∈ yGW := y_i2 135 rfl rfl
theorem g_376 : (Jvm.Cond.code ({ cls := "WhoseGlass$HouseText", name := "statementsIn", desc := "(LWhoseGlass$Shelf;)I" } : Jvm.MethodName) prog_5_method_5_code (3 : Nat) (Option.some Jvm.ClassFile.FieldType.int)) ∈ yGW := y_i2 136 rfl rfl
theorem g_381 : (Jvm.Cond.methodLink "WhoseGlass" (61 : Nat) ({ cls := "WhoseGlass$House", name := "glassAt", desc := "(I)LWhoseGlass$Glass;" } : Jvm.MethodName)) ∈ yGW := y_i2 141 rfl rfl
theorem g_382 : (Jvm.Cond.methodLink "WhoseGlass" (65 : Nat) ({ cls := "WhoseGlass$Glass", name := "told", desc := "(I)I" } : Jvm.MethodName)) ∈ yGW := y_i2 142 rfl rfl
theorem g_383 : (Jvm.Cond.instanceMethod ({ cls := "WhoseGlass$Glass", name := "told", desc := "(I)I" } : Jvm.MethodName)) ∈ yGW := y_i2 143 rfl rfl
theorem g_384 : (Jvm.Cond.selects "WhoseGlass$Glass" ({ cls := "WhoseGlass$Glass", name := "told", desc := "(I)I" } : Jvm.MethodName) ({ cls := "WhoseGlass$Glass", name := "told", desc := "(I)I" } : Jvm.MethodName)) ∈ yGW := y_i2 144 rfl rfl
theorem g_385 : (Jvm.Cond.code ({ cls := "WhoseGlass$Glass", name := "told", desc := "(I)I" } : Jvm.MethodName) prog_2_method_7_code (2 : Nat) (Option.some Jvm.ClassFile.FieldType.int)) ∈ yGW := y_i2 145 rfl rfl
theorem g_386 : (Jvm.Cond.methodLink "WhoseGlass$Glass" (37 : Nat) ({ cls := "WhoseGlass$Glass", name := "isLaid", desc := "()Z" } : Jvm.MethodName)) ∈ yGW := y_i2 146 rfl rfl
theorem g_391 : (Jvm.Cond.methodLink "WhoseGlass" (71 : Nat) ({ cls := "WhoseGlass$House", name := "guestAt", desc := "(I)LWhoseGlass$Guest;" } : Jvm.MethodName)) ∈ yGW := y_i2 151 rfl rfl
theorem g_392 : (Jvm.Cond.methodLink "WhoseGlass" (75 : Nat) ({ cls := "WhoseGlass$Guest", name := "told", desc := "(I)I" } : Jvm.MethodName)) ∈ yGW := y_i2 152 rfl rfl
theorem g_393 : (Jvm.Cond.instanceMethod ({ cls := "WhoseGlass$Guest", name := "told", desc := "(I)I" } : Jvm.MethodName)) ∈ yGW := y_i2 153 rfl rfl
theorem g_394 : (Jvm.Cond.selects "WhoseGlass$Guest" ({ cls := "WhoseGlass$Guest", name := "told", desc := "(I)I" } : Jvm.MethodName) ({ cls := "WhoseGlass$Guest", name := "told", desc := "(I)I" } : Jvm.MethodName)) ∈ yGW := y_i2 154 rfl rfl
theorem g_395 : (Jvm.Cond.code ({ cls := "WhoseGlass$Guest", name := "told", desc := "(I)I" } : Jvm.MethodName) prog_3_method_4_code (2 : Nat) (Option.some Jvm.ClassFile.FieldType.int)) ∈ yGW := y_i2 155 rfl rfl
theorem g_400 : (Jvm.Cond.methodLink "WhoseGlass" (78 : Nat) ({ cls := "WhoseGlass", name := "isBelow", desc := "(II)Z" } : Jvm.MethodName)) ∈ yGW := y_i2 160 rfl rfl
theorem g_401 : (Jvm.Cond.methodLink "WhoseGlass" (88 : Nat) ({ cls := "WhoseGlass$House", name := "addGlass", desc := "(III)LWhoseGlass$Glass;" } : Jvm.MethodName)) ∈ yGW := y_i2 161 rfl rfl
theorem g_402 : (Jvm.Cond.methodLink "WhoseGlass" (95 : Nat) ({ cls := "WhoseGlass$Glass", name := "layAt", desc := "(II)V" } : Jvm.MethodName)) ∈ yGW := y_i2 162 rfl rfl
theorem g_411 : (Jvm.Cond.methodLink "WhoseGlass" (111 : Nat) ({ cls := "WhoseGlass$Guest", name := "sipFrom", desc := "(LWhoseGlass$Glass;)I" } : Jvm.MethodName)) ∈ yGW := y_i2 171 rfl rfl
theorem g_416 : (Jvm.Cond.methodLink "WhoseGlass" (115 : Nat) ({ cls := "WhoseGlass$House", name := "layDown", desc := "(LWhoseGlass$Guest;LWhoseGlass$Glass;)V" } : Jvm.MethodName)) ∈ yGW := y_i2 176 rfl rfl
theorem g_421 : (Jvm.Cond.methodLink "WhoseGlass" (119 : Nat) ({ cls := "WhoseGlass$House", name := "takeUp", desc := "(LWhoseGlass$Guest;)I" } : Jvm.MethodName)) ∈ yGW := y_i2 181 rfl rfl
theorem g_430 : (Jvm.Cond.methodLink "WhoseGlass" (132 : Nat) ({ cls := "WhoseGlass$Glass", name := "sink", desc := "()V" } : Jvm.MethodName)) ∈ yGW := y_i2 190 rfl rfl
theorem g_431 : (Jvm.Cond.instanceMethod ({ cls := "WhoseGlass$Glass", name := "sink", desc := "()V" } : Jvm.MethodName)) ∈ yGW := y_i2 191 rfl rfl
theorem g_432 : (Jvm.Cond.selects "WhoseGlass$Glass" ({ cls := "WhoseGlass$Glass", name := "sink", desc := "()V" } : Jvm.MethodName) ({ cls := "WhoseGlass$Glass", name := "sink", desc := "()V" } : Jvm.MethodName)) ∈ yGW := y_i2 192 rfl rfl
theorem g_433 : (Jvm.Cond.code ({ cls := "WhoseGlass$Glass", name := "sink", desc := "()V" } : Jvm.MethodName) prog_2_method_5_code (1 : Nat) (Option.none : Option Jvm.ClassFile.FieldType)) ∈ yGW := y_i2 193 rfl rfl
theorem g_438 : (Jvm.Cond.methodLink "WhoseGlass" (135 : Nat) ({ cls := "WhoseGlass$House", name := "passMinutes", desc := "(I)V" } : Jvm.MethodName)) ∈ yGW := y_i2 198 rfl rfl
theorem g_443 : (Jvm.Cond.methodLink "WhoseGlass" (139 : Nat) ({ cls := "WhoseGlass$Glass", name := "likeTo", desc := "(LWhoseGlass$Glass;)I" } : Jvm.MethodName)) ∈ yGW := y_i2 203 rfl rfl
theorem g_448 : (Jvm.Cond.methodLink "WhoseGlass" (142 : Nat) ({ cls := "WhoseGlass$House", name := "choiceOf", desc := "(LWhoseGlass$Guest;)I" } : Jvm.MethodName)) ∈ yGW := y_i2 208 rfl rfl
theorem g_453 : (Jvm.Cond.methodLink "WhoseGlass" (148 : Nat) ({ cls := "WhoseGlass$House", name := "likeToAllAt", desc := "(LWhoseGlass$Glass;I)I" } : Jvm.MethodName)) ∈ yGW := y_i2 213 rfl rfl
theorem g_454 : (Jvm.Cond.instanceMethod ({ cls := "WhoseGlass$House", name := "likeToAllAt", desc := "(LWhoseGlass$Glass;I)I" } : Jvm.MethodName)) ∈ yGW := y_i2 214 rfl rfl
theorem g_455 : (Jvm.Cond.selects "WhoseGlass$House" ({ cls := "WhoseGlass$House", name := "likeToAllAt", desc := "(LWhoseGlass$Glass;I)I" } : Jvm.MethodName) ({ cls := "WhoseGlass$House", name := "likeToAllAt", desc := "(LWhoseGlass$Glass;I)I" } : Jvm.MethodName)) ∈ yGW := y_i2 215 rfl rfl
theorem g_456 : (Jvm.Cond.code ({ cls := "WhoseGlass$House", name := "likeToAllAt", desc := "(LWhoseGlass$Glass;I)I" } : Jvm.MethodName) prog_4_method_13_code (6 : Nat) (Option.some Jvm.ClassFile.FieldType.int)) ∈ yGW := y_i2 216 rfl rfl
theorem g_457 : (Jvm.Cond.methodLink "WhoseGlass" (152 : Nat) ({ cls := "WhoseGlass", name := "reduced", desc := "(II)I" } : Jvm.MethodName)) ∈ yGW := y_i2 217 rfl rfl
theorem g_458 : (Jvm.Cond.static ({ cls := "WhoseGlass", name := "reduced", desc := "(II)I" } : Jvm.MethodName)) ∈ yGW := y_i2 218 rfl rfl
theorem g_459 : (Jvm.Cond.code ({ cls := "WhoseGlass", name := "reduced", desc := "(II)I" } : Jvm.MethodName) prog_1_method_45_code (3 : Nat) (Option.some Jvm.ClassFile.FieldType.int)) ∈ yGW := y_i2 219 rfl rfl
theorem g_460 : (Jvm.Cond.methodLink "WhoseGlass" (268 : Nat) ({ cls := "java/lang/Math", name := "max", desc := "(II)I" } : Jvm.MethodName)) ∈ yGW := y_i2 220 rfl rfl
theorem g_461 : (Jvm.Cond.static ({ cls := "java/lang/Math", name := "max", desc := "(II)I" } : Jvm.MethodName)) ∈ yGW := y_i2 221 rfl rfl
theorem g_462 : (Jvm.Cond.code ({ cls := "java/lang/Math", name := "max", desc := "(II)I" } : Jvm.MethodName) prog_12_method_65_code (2 : Nat) (Option.some Jvm.ClassFile.FieldType.int)) ∈ yGW := y_i2 222 rfl rfl
theorem g_467 : (Jvm.Cond.methodLink "WhoseGlass" (156 : Nat) ({ cls := "WhoseGlass$House", name := "idleAt", desc := "(I)I" } : Jvm.MethodName)) ∈ yGW := y_i2 227 rfl rfl
theorem g_468 : (Jvm.Cond.instanceMethod ({ cls := "WhoseGlass$House", name := "idleAt", desc := "(I)I" } : Jvm.MethodName)) ∈ yGW := y_i2 228 rfl rfl
theorem g_469 : (Jvm.Cond.selects "WhoseGlass$House" ({ cls := "WhoseGlass$House", name := "idleAt", desc := "(I)I" } : Jvm.MethodName) ({ cls := "WhoseGlass$House", name := "idleAt", desc := "(I)I" } : Jvm.MethodName)) ∈ yGW := y_i2 229 rfl rfl
theorem g_470 : (Jvm.Cond.code ({ cls := "WhoseGlass$House", name := "idleAt", desc := "(I)I" } : Jvm.MethodName) prog_4_method_14_code (5 : Nat) (Option.some Jvm.ClassFile.FieldType.int)) ∈ yGW := y_i2 230 rfl rfl
theorem g_471 : (Jvm.Cond.methodLink "WhoseGlass$House" (144 : Nat) ({ cls := "WhoseGlass$House", name := "isOwned", desc := "(I)Z" } : Jvm.MethodName)) ∈ yGW := y_i2 231 rfl rfl
theorem g_473 : (Jvm.Cond.instanceMethod ({ cls := "WhoseGlass$House", name := "isOwned", desc := "(I)Z" } : Jvm.MethodName)) ∈ yGW := y_i2 233 rfl rfl
theorem g_474 : (Jvm.Cond.code ({ cls := "WhoseGlass$House", name := "isOwned", desc := "(I)Z" } : Jvm.MethodName) prog_4_method_15_code (4 : Nat) (Option.some Jvm.ClassFile.FieldType.boolean)) ∈ yGW := y_i2 234 rfl rfl
theorem g_479 : (Jvm.Cond.methodLink "WhoseGlass" (159 : Nat) ({ cls := "WhoseGlass$House", name := "oldestAt", desc := "(I)I" } : Jvm.MethodName)) ∈ yGW := y_i2 239 rfl rfl
theorem g_480 : (Jvm.Cond.instanceMethod ({ cls := "WhoseGlass$House", name := "oldestAt", desc := "(I)I" } : Jvm.MethodName)) ∈ yGW := y_i3 0 rfl rfl
theorem g_481 : (Jvm.Cond.selects "WhoseGlass$House" ({ cls := "WhoseGlass$House", name := "oldestAt", desc := "(I)I" } : Jvm.MethodName) ({ cls := "WhoseGlass$House", name := "oldestAt", desc := "(I)I" } : Jvm.MethodName)) ∈ yGW := y_i3 1 rfl rfl
theorem g_482 : (Jvm.Cond.code ({ cls := "WhoseGlass$House", name := "oldestAt", desc := "(I)I" } : Jvm.MethodName) prog_4_method_16_code (5 : Nat) (Option.some Jvm.ClassFile.FieldType.int)) ∈ yGW := y_i3 2 rfl rfl
theorem g_487 : (Jvm.Cond.methodLink "WhoseGlass" (162 : Nat) ({ cls := "WhoseGlass", name := "isSpan", desc := "(I)Z" } : Jvm.MethodName)) ∈ yGW := y_i3 7 rfl rfl
theorem g_488 : (Jvm.Cond.static ({ cls := "WhoseGlass", name := "isSpan", desc := "(I)Z" } : Jvm.MethodName)) ∈ yGW := y_i3 8 rfl rfl
theorem g_489 : (Jvm.Cond.code ({ cls := "WhoseGlass", name := "isSpan", desc := "(I)Z" } : Jvm.MethodName) prog_1_method_43_code (1 : Nat) (Option.some Jvm.ClassFile.FieldType.boolean)) ∈ yGW := y_i3 9 rfl rfl
theorem g_490 : (Jvm.Cond.methodLink "WhoseGlass" (166 : Nat) ({ cls := "WhoseGlass", name := "ahead", desc := "(I)LWhoseGlass$House;" } : Jvm.MethodName)) ∈ yGW := y_i3 10 rfl rfl
theorem g_492 : (Jvm.Cond.instanceMethod ({ cls := "WhoseGlass", name := "ahead", desc := "(I)LWhoseGlass$House;" } : Jvm.MethodName)) ∈ yGW := y_i3 12 rfl rfl
theorem g_493 : (Jvm.Cond.code ({ cls := "WhoseGlass", name := "ahead", desc := "(I)LWhoseGlass$House;" } : Jvm.MethodName) prog_1_method_46_code (2 : Nat) (Option.some (Jvm.ClassFile.FieldType.object "WhoseGlass$House"))) ∈ yGW := y_i3 13 rfl rfl
theorem g_502 : (Jvm.Cond.methodLink "WhoseGlass" (176 : Nat) ({ cls := "WhoseGlass$House", name := "coldBits", desc := "()I" } : Jvm.MethodName)) ∈ yGW := y_i3 22 rfl rfl
theorem g_503 : (Jvm.Cond.instanceMethod ({ cls := "WhoseGlass$House", name := "coldBits", desc := "()I" } : Jvm.MethodName)) ∈ yGW := y_i3 23 rfl rfl
theorem g_504 : (Jvm.Cond.selects "WhoseGlass$House" ({ cls := "WhoseGlass$House", name := "coldBits", desc := "()I" } : Jvm.MethodName) ({ cls := "WhoseGlass$House", name := "coldBits", desc := "()I" } : Jvm.MethodName)) ∈ yGW := y_i3 24 rfl rfl
theorem g_505 : (Jvm.Cond.code ({ cls := "WhoseGlass$House", name := "coldBits", desc := "()I" } : Jvm.MethodName) prog_4_method_17_code (4 : Nat) (Option.some Jvm.ClassFile.FieldType.int)) ∈ yGW := y_i3 25 rfl rfl
theorem g_518 : (Jvm.Cond.methodLink "WhoseGlass" (185 : Nat) ({ cls := "WhoseGlass", name := "coldsBroughtBy", desc := "(II)I" } : Jvm.MethodName)) ∈ yGW := y_i3 38 rfl rfl
theorem g_520 : (Jvm.Cond.instanceMethod ({ cls := "WhoseGlass", name := "coldsBroughtBy", desc := "(II)I" } : Jvm.MethodName)) ∈ yGW := y_i3 40 rfl rfl
theorem g_521 : (Jvm.Cond.code ({ cls := "WhoseGlass", name := "coldsBroughtBy", desc := "(II)I" } : Jvm.MethodName) prog_1_method_47_code (3 : Nat) (Option.some Jvm.ClassFile.FieldType.int)) ∈ yGW := y_i3 41 rfl rfl
theorem g_522 : (Jvm.Cond.methodLink "WhoseGlass" (273 : Nat) ({ cls := "WhoseGlass$House", name := "leaveColdTo", desc := "(I)V" } : Jvm.MethodName)) ∈ yGW := y_i3 42 rfl rfl
theorem g_523 : (Jvm.Cond.instanceMethod ({ cls := "WhoseGlass$House", name := "leaveColdTo", desc := "(I)V" } : Jvm.MethodName)) ∈ yGW := y_i3 43 rfl rfl
theorem g_524 : (Jvm.Cond.selects "WhoseGlass$House" ({ cls := "WhoseGlass$House", name := "leaveColdTo", desc := "(I)V" } : Jvm.MethodName) ({ cls := "WhoseGlass$House", name := "leaveColdTo", desc := "(I)V" } : Jvm.MethodName)) ∈ yGW := y_i3 44 rfl rfl
theorem g_525 : (Jvm.Cond.code ({ cls := "WhoseGlass$House", name := "leaveColdTo", desc := "(I)V" } : Jvm.MethodName) prog_4_method_18_code (4 : Nat) (Option.none : Option Jvm.ClassFile.FieldType)) ∈ yGW := y_i3 45 rfl rfl
theorem g_530 : (Jvm.Cond.methodLink "WhoseGlass" (188 : Nat) ({ cls := "WhoseGlass", name := "coldsByCare", desc := "(II)I" } : Jvm.MethodName)) ∈ yGW := y_i3 50 rfl rfl
theorem g_532 : (Jvm.Cond.instanceMethod ({ cls := "WhoseGlass", name := "coldsByCare", desc := "(II)I" } : Jvm.MethodName)) ∈ yGW := y_i3 52 rfl rfl
theorem g_533 : (Jvm.Cond.code ({ cls := "WhoseGlass", name := "coldsByCare", desc := "(II)I" } : Jvm.MethodName) prog_1_method_48_code (3 : Nat) (Option.some Jvm.ClassFile.FieldType.int)) ∈ yGW := y_i3 53 rfl rfl
theorem g_534 : (Jvm.Cond.methodLink "WhoseGlass" (276 : Nat) ({ cls := "WhoseGlass$House", name := "careAlike", desc := "(I)V" } : Jvm.MethodName)) ∈ yGW := y_i3 54 rfl rfl
theorem g_535 : (Jvm.Cond.instanceMethod ({ cls := "WhoseGlass$House", name := "careAlike", desc := "(I)V" } : Jvm.MethodName)) ∈ yGW := y_i3 55 rfl rfl
theorem g_536 : (Jvm.Cond.selects "WhoseGlass$House" ({ cls := "WhoseGlass$House", name := "careAlike", desc := "(I)V" } : Jvm.MethodName) ({ cls := "WhoseGlass$House", name := "careAlike", desc := "(I)V" } : Jvm.MethodName)) ∈ yGW := y_i3 56 rfl rfl
theorem g_537 : (Jvm.Cond.code ({ cls := "WhoseGlass$House", name := "careAlike", desc := "(I)V" } : Jvm.MethodName) prog_4_method_19_code (4 : Nat) (Option.none : Option Jvm.ClassFile.FieldType)) ∈ yGW := y_i3 57 rfl rfl
theorem g_542 : (Jvm.Cond.methodLink "WhoseGlass" (191 : Nat) ({ cls := "WhoseGlass", name := "mistakesIfMarked", desc := "(II)I" } : Jvm.MethodName)) ∈ yGW := y_i3 62 rfl rfl
theorem g_544 : (Jvm.Cond.instanceMethod ({ cls := "WhoseGlass", name := "mistakesIfMarked", desc := "(II)I" } : Jvm.MethodName)) ∈ yGW := y_i3 64 rfl rfl
theorem g_545 : (Jvm.Cond.code ({ cls := "WhoseGlass", name := "mistakesIfMarked", desc := "(II)I" } : Jvm.MethodName) prog_1_method_49_code (4 : Nat) (Option.some Jvm.ClassFile.FieldType.int)) ∈ yGW := y_i3 65 rfl rfl
theorem g_550 : (Jvm.Cond.methodLink "WhoseGlass" (194 : Nat) ({ cls := "WhoseGlass", name := "freshIfLeftOut", desc := "(II)I" } : Jvm.MethodName)) ∈ yGW := y_i3 70 rfl rfl
theorem g_552 : (Jvm.Cond.instanceMethod ({ cls := "WhoseGlass", name := "freshIfLeftOut", desc := "(II)I" } : Jvm.MethodName)) ∈ yGW := y_i3 72 rfl rfl
theorem g_553 : (Jvm.Cond.code ({ cls := "WhoseGlass", name := "freshIfLeftOut", desc := "(II)I" } : Jvm.MethodName) prog_1_method_50_code (3 : Nat) (Option.some Jvm.ClassFile.FieldType.int)) ∈ yGW := y_i3 73 rfl rfl
theorem g_558 : (Jvm.Cond.methodLink "WhoseGlass" (197 : Nat) ({ cls := "WhoseGlass$House", name := "soberest", desc := "()I" } : Jvm.MethodName)) ∈ yGW := y_i3 78 rfl rfl
theorem g_559 : (Jvm.Cond.instanceMethod ({ cls := "WhoseGlass$House", name := "soberest", desc := "()I" } : Jvm.MethodName)) ∈ yGW := y_i3 79 rfl rfl
theorem g_560 : (Jvm.Cond.selects "WhoseGlass$House" ({ cls := "WhoseGlass$House", name := "soberest", desc := "()I" } : Jvm.MethodName) ({ cls := "WhoseGlass$House", name := "soberest", desc := "()I" } : Jvm.MethodName)) ∈ yGW := y_i3 80 rfl rfl
theorem g_561 : (Jvm.Cond.code ({ cls := "WhoseGlass$House", name := "soberest", desc := "()I" } : Jvm.MethodName) prog_4_method_20_code (4 : Nat) (Option.some Jvm.ClassFile.FieldType.int)) ∈ yGW := y_i3 81 rfl rfl
theorem g_566 : (Jvm.Cond.methodLink "WhoseGlass" (200 : Nat) ({ cls := "WhoseGlass$House", name := "hasEmptyGlass", desc := "()Z" } : Jvm.MethodName)) ∈ yGW := y_i3 86 rfl rfl
theorem g_567 : (Jvm.Cond.instanceMethod ({ cls := "WhoseGlass$House", name := "hasEmptyGlass", desc := "()Z" } : Jvm.MethodName)) ∈ yGW := y_i3 87 rfl rfl
theorem g_568 : (Jvm.Cond.selects "WhoseGlass$House" ({ cls := "WhoseGlass$House", name := "hasEmptyGlass", desc := "()Z" } : Jvm.MethodName) ({ cls := "WhoseGlass$House", name := "hasEmptyGlass", desc := "()Z" } : Jvm.MethodName)) ∈ yGW := y_i3 88 rfl rfl
theorem g_569 : (Jvm.Cond.code ({ cls := "WhoseGlass$House", name := "hasEmptyGlass", desc := "()Z" } : Jvm.MethodName) prog_4_method_21_code (3 : Nat) (Option.some Jvm.ClassFile.FieldType.boolean)) ∈ yGW := y_i3 89 rfl rfl
theorem g_574 : (Jvm.Cond.methodLink "WhoseGlass" (204 : Nat) ({ cls := "WhoseGlass$House", name := "scatter", desc := "(I)I" } : Jvm.MethodName)) ∈ yGW := y_i3 94 rfl rfl
theorem g_575 : (Jvm.Cond.instanceMethod ({ cls := "WhoseGlass$House", name := "scatter", desc := "(I)I" } : Jvm.MethodName)) ∈ yGW := y_i3 95 rfl rfl
theorem g_576 : (Jvm.Cond.selects "WhoseGlass$House" ({ cls := "WhoseGlass$House", name := "scatter", desc := "(I)I" } : Jvm.MethodName) ({ cls := "WhoseGlass$House", name := "scatter", desc := "(I)I" } : Jvm.MethodName)) ∈ yGW := y_i3 96 rfl rfl
theorem g_577 : (Jvm.Cond.code ({ cls := "WhoseGlass$House", name := "scatter", desc := "(I)I" } : Jvm.MethodName) prog_4_method_22_code (5 : Nat) (Option.some Jvm.ClassFile.FieldType.int)) ∈ yGW := y_i3 97 rfl rfl
theorem g_578 : (Jvm.Cond.constant "WhoseGlass$House" (159 : Nat) (1103515245 : Int32)) ∈ yGW := y_i3 98 rfl rfl
theorem g_579 : (Jvm.Cond.constant "WhoseGlass$House" (160 : Nat) (2147483647 : Int32)) ∈ yGW := y_i3 99 rfl rfl
theorem g_580 : (Jvm.Cond.constant "WhoseGlass$House" (161 : Nat) (65536 : Int32)) ∈ yGW := y_i3 100 rfl rfl
theorem g_585 : (Jvm.Cond.methodLink "WhoseGlass" (210 : Nat) ({ cls := "WhoseGlass$Shelf", name := "elementAt", desc := "(I)I" } : Jvm.MethodName)) ∈ yGW := y_i3 105 rfl rfl
theorem g_586 : (Jvm.Cond.methodLink "WhoseGlass" (213 : Nat) ({ cls := "WhoseGlass$Shelf", name := "leastNumber", desc := "()I" } : Jvm.MethodName)) ∈ yGW := y_i3 106 rfl rfl
theorem g_587 : (Jvm.Cond.instanceMethod ({ cls := "WhoseGlass$Shelf", name := "leastNumber", desc := "()I" } : Jvm.MethodName)) ∈ yGW := y_i3 107 rfl rfl
theorem g_588 : (Jvm.Cond.selects "WhoseGlass$Shelf" ({ cls := "WhoseGlass$Shelf", name := "leastNumber", desc := "()I" } : Jvm.MethodName) ({ cls := "WhoseGlass$Shelf", name := "leastNumber", desc := "()I" } : Jvm.MethodName)) ∈ yGW := y_i3 108 rfl rfl
theorem g_589 : (Jvm.Cond.code ({ cls := "WhoseGlass$Shelf", name := "leastNumber", desc := "()I" } : Jvm.MethodName) prog_6_method_7_code (1 : Nat) (Option.some Jvm.ClassFile.FieldType.int)) ∈ yGW := y_i3 109 rfl rfl
theorem g_590 : (Jvm.Cond.constant "WhoseGlass$Shelf" (29 : Nat) (-2147483648 : Int32)) ∈ yGW := y_i3 110 rfl rfl
theorem g_603 : (Jvm.Cond.methodLink "WhoseGlass" (223 : Nat) ({ cls := "WhoseGlass$House", name := "allFills", desc := "()I" } : Jvm.MethodName)) ∈ yGW := y_i3 123 rfl rfl
theorem g_604 : (Jvm.Cond.instanceMethod ({ cls := "WhoseGlass$House", name := "allFills", desc := "()I" } : Jvm.MethodName)) ∈ yGW := y_i3 124 rfl rfl
theorem g_605 : (Jvm.Cond.selects "WhoseGlass$House" ({ cls := "WhoseGlass$House", name := "allFills", desc := "()I" } : Jvm.MethodName) ({ cls := "WhoseGlass$House", name := "allFills", desc := "()I" } : Jvm.MethodName)) ∈ yGW := y_i3 125 rfl rfl
theorem g_606 : (Jvm.Cond.code ({ cls := "WhoseGlass$House", name := "allFills", desc := "()I" } : Jvm.MethodName) prog_4_method_23_code (4 : Nat) (Option.some Jvm.ClassFile.FieldType.int)) ∈ yGW := y_i3 126 rfl rfl
theorem g_607 : (Jvm.Cond.methodLink "WhoseGlass" (226 : Nat) ({ cls := "WhoseGlass$House", name := "countInSink", desc := "()I" } : Jvm.MethodName)) ∈ yGW := y_i3 127 rfl rfl
theorem g_608 : (Jvm.Cond.instanceMethod ({ cls := "WhoseGlass$House", name := "countInSink", desc := "()I" } : Jvm.MethodName)) ∈ yGW := y_i3 128 rfl rfl
theorem g_609 : (Jvm.Cond.selects "WhoseGlass$House" ({ cls := "WhoseGlass$House", name := "countInSink", desc := "()I" } : Jvm.MethodName) ({ cls := "WhoseGlass$House", name := "countInSink", desc := "()I" } : Jvm.MethodName)) ∈ yGW := y_i3 129 rfl rfl
theorem g_610 : (Jvm.Cond.code ({ cls := "WhoseGlass$House", name := "countInSink", desc := "()I" } : Jvm.MethodName) prog_4_method_24_code (4 : Nat) (Option.some Jvm.ClassFile.FieldType.int)) ∈ yGW := y_i3 130 rfl rfl
theorem g_619 : (Jvm.Cond.methodLink "WhoseGlass" (229 : Nat) ({ cls := "WhoseGlass$Shelf", name := "beginRow", desc := "(II)V" } : Jvm.MethodName)) ∈ yGW := y_i3 139 rfl rfl
theorem g_620 : (Jvm.Cond.instanceMethod ({ cls := "WhoseGlass$Shelf", name := "beginRow", desc := "(II)V" } : Jvm.MethodName)) ∈ yGW := y_i3 140 rfl rfl
theorem g_621 : (Jvm.Cond.selects "WhoseGlass$Shelf" ({ cls := "WhoseGlass$Shelf", name := "beginRow", desc := "(II)V" } : Jvm.MethodName) ({ cls := "WhoseGlass$Shelf", name := "beginRow", desc := "(II)V" } : Jvm.MethodName)) ∈ yGW := y_i3 141 rfl rfl
theorem g_622 : (Jvm.Cond.code ({ cls := "WhoseGlass$Shelf", name := "beginRow", desc := "(II)V" } : Jvm.MethodName) prog_6_method_3_code (4 : Nat) (Option.none : Option Jvm.ClassFile.FieldType)) ∈ yGW := y_i3 142 rfl rfl
theorem g_627 : (Jvm.Cond.methodLink "WhoseGlass" (232 : Nat) ({ cls := "WhoseGlass$Shelf", name := "set", desc := "(II)V" } : Jvm.MethodName)) ∈ yGW := y_i3 147 rfl rfl
theorem g_628 : (Jvm.Cond.instanceMethod ({ cls := "WhoseGlass$Shelf", name := "set", desc := "(II)V" } : Jvm.MethodName)) ∈ yGW := y_i3 148 rfl rfl
theorem g_629 : (Jvm.Cond.selects "WhoseGlass$Shelf" ({ cls := "WhoseGlass$Shelf", name := "set", desc := "(II)V" } : Jvm.MethodName) ({ cls := "WhoseGlass$Shelf", name := "set", desc := "(II)V" } : Jvm.MethodName)) ∈ yGW := y_i3 149 rfl rfl
theorem g_630 : (Jvm.Cond.code ({ cls := "WhoseGlass$Shelf", name := "set", desc := "(II)V" } : Jvm.MethodName) prog_6_method_5_code (3 : Nat) (Option.none : Option Jvm.ClassFile.FieldType)) ∈ yGW := y_i3 150 rfl rfl
theorem g_631 : (Jvm.Cond.methodLink "WhoseGlass$Shelf" (25 : Nat) ({ cls := "WhoseGlass$Shelf", name := "lowestBits", desc := "(I)I" } : Jvm.MethodName)) ∈ yGW := y_i3 151 rfl rfl
theorem g_633 : (Jvm.Cond.instanceMethod ({ cls := "WhoseGlass$Shelf", name := "lowestBits", desc := "(I)I" } : Jvm.MethodName)) ∈ yGW := y_i3 153 rfl rfl
theorem g_634 : (Jvm.Cond.code ({ cls := "WhoseGlass$Shelf", name := "lowestBits", desc := "(I)I" } : Jvm.MethodName) prog_6_method_6_code (2 : Nat) (Option.some Jvm.ClassFile.FieldType.int)) ∈ yGW := y_i3 154 rfl rfl
theorem g_639 : (Jvm.Cond.methodLink "WhoseGlass" (247 : Nat) ({ cls := "WhoseGlass$Shelf", name := "hasStretch", desc := "(II)Z" } : Jvm.MethodName)) ∈ yGW := y_i3 159 rfl rfl
theorem g_640 : (Jvm.Cond.instanceMethod ({ cls := "WhoseGlass$Shelf", name := "hasStretch", desc := "(II)Z" } : Jvm.MethodName)) ∈ yGW := y_i3 160 rfl rfl
theorem g_641 : (Jvm.Cond.selects "WhoseGlass$Shelf" ({ cls := "WhoseGlass$Shelf", name := "hasStretch", desc := "(II)Z" } : Jvm.MethodName) ({ cls := "WhoseGlass$Shelf", name := "hasStretch", desc := "(II)Z" } : Jvm.MethodName)) ∈ yGW := y_i3 161 rfl rfl
theorem g_642 : (Jvm.Cond.code ({ cls := "WhoseGlass$Shelf", name := "hasStretch", desc := "(II)Z" } : Jvm.MethodName) prog_6_method_8_code (3 : Nat) (Option.some Jvm.ClassFile.FieldType.boolean)) ∈ yGW := y_i3 162 rfl rfl
theorem g_643 : (Jvm.Cond.methodLink "WhoseGlass" (254 : Nat) ({ cls := "java/lang/System", name := "arraycopy", desc := "(Ljava/lang/Object;ILjava/lang/Object;II)V" } : Jvm.MethodName)) ∈ yGW := y_i3 163 rfl rfl
theorem g_644 : (Jvm.Cond.static ({ cls := "java/lang/System", name := "arraycopy", desc := "(Ljava/lang/Object;ILjava/lang/Object;II)V" } : Jvm.MethodName)) ∈ yGW := y_i3 164 rfl rfl
theorem g_645 : (Jvm.Cond.native ({ cls := "java/lang/System", name := "arraycopy", desc := "(Ljava/lang/Object;ILjava/lang/Object;II)V" } : Jvm.MethodName)) ∈ yGW := y_i3 165 rfl rfl
theorem g_650 : (Jvm.Cond.methodLink "WhoseGlass" (260 : Nat) ({ cls := "WhoseGlass$Shelf", name := "glassCost", desc := "()I" } : Jvm.MethodName)) ∈ yGW := y_i3 170 rfl rfl
theorem g_651 : (Jvm.Cond.instanceMethod ({ cls := "WhoseGlass$Shelf", name := "glassCost", desc := "()I" } : Jvm.MethodName)) ∈ yGW := y_i3 171 rfl rfl
theorem g_652 : (Jvm.Cond.selects "WhoseGlass$Shelf" ({ cls := "WhoseGlass$Shelf", name := "glassCost", desc := "()I" } : Jvm.MethodName) ({ cls := "WhoseGlass$Shelf", name := "glassCost", desc := "()I" } : Jvm.MethodName)) ∈ yGW := y_i3 172 rfl rfl
theorem g_653 : (Jvm.Cond.code ({ cls := "WhoseGlass$Shelf", name := "glassCost", desc := "()I" } : Jvm.MethodName) prog_6_method_9_code (1 : Nat) (Option.some Jvm.ClassFile.FieldType.int)) ∈ yGW := y_i3 173 rfl rfl
theorem g_784 : (Jvm.Cond.fieldLink "WhoseGlassModel" (105 : Nat) "WhoseGlassModel" "glasses" "I") ∈ yGW := y_i4 64 rfl rfl
theorem g_785 : (Jvm.Cond.fieldLink "WhoseGlassModel" (112 : Nat) "WhoseGlassModel" "guests" "I") ∈ yGW := y_i4 65 rfl rfl
theorem g_786 : (Jvm.Cond.fieldLink "WhoseGlassModel" (7 : Nat) "WhoseGlassModel" "tray0" "I") ∈ yGW := y_i4 66 rfl rfl
theorem g_787 : (Jvm.Cond.fieldLink "WhoseGlassModel" (133 : Nat) "WhoseGlassModel" "minute" "I") ∈ yGW := y_i4 67 rfl rfl
theorem g_788 : (Jvm.Cond.fieldLink "WhoseGlassModel" (13 : Nat) "WhoseGlassModel" "kinds" "[I") ∈ yGW := y_i4 68 rfl rfl
theorem g_789 : (Jvm.Cond.fieldLink "WhoseGlassModel" (17 : Nat) "WhoseGlassModel" "figures" "[I") ∈ yGW := y_i4 69 rfl rfl
theorem g_790 : (Jvm.Cond.fieldLink "WhoseGlassModel" (20 : Nat) "WhoseGlassModel" "fills" "[I") ∈ yGW := y_i4 70 rfl rfl
theorem g_791 : (Jvm.Cond.fieldLink "WhoseGlassModel" (23 : Nat) "WhoseGlassModel" "wheres" "[I") ∈ yGW := y_i4 71 rfl rfl
theorem g_792 : (Jvm.Cond.fieldLink "WhoseGlassModel" (26 : Nat) "WhoseGlassModel" "laid" "[I") ∈ yGW := y_i4 72 rfl rfl
theorem g_793 : (Jvm.Cond.fieldLink "WhoseGlassModel" (29 : Nat) "WhoseGlassModel" "sips" "[I") ∈ yGW := y_i4 73 rfl rfl
theorem g_794 : (Jvm.Cond.fieldLink "WhoseGlassModel" (32 : Nat) "WhoseGlassModel" "germs" "[I") ∈ yGW := y_i4 74 rfl rfl
theorem g_795 : (Jvm.Cond.fieldLink "WhoseGlassModel" (35 : Nat) "WhoseGlassModel" "paces" "[I") ∈ yGW := y_i4 75 rfl rfl
theorem g_796 : (Jvm.Cond.fieldLink "WhoseGlassModel" (38 : Nat) "WhoseGlassModel" "lays" "[I") ∈ yGW := y_i4 76 rfl rfl
theorem g_797 : (Jvm.Cond.fieldLink "WhoseGlassModel" (41 : Nat) "WhoseGlassModel" "steps" "[I") ∈ yGW := y_i4 77 rfl rfl
theorem g_798 : (Jvm.Cond.fieldLink "WhoseGlassModel" (44 : Nat) "WhoseGlassModel" "cares" "[I") ∈ yGW := y_i4 78 rfl rfl
theorem g_799 : (Jvm.Cond.fieldLink "WhoseGlassModel" (47 : Nat) "WhoseGlassModel" "places" "[I") ∈ yGW := y_i4 79 rfl rfl
theorem g_800 : (Jvm.Cond.fieldLink "WhoseGlassModel" (50 : Nat) "WhoseGlassModel" "holds" "[I") ∈ yGW := y_i4 80 rfl rfl
theorem g_801 : (Jvm.Cond.fieldLink "WhoseGlassModel" (53 : Nat) "WhoseGlassModel" "owns" "[I") ∈ yGW := y_i4 81 rfl rfl
theorem g_802 : (Jvm.Cond.fieldLink "WhoseGlassModel" (56 : Nat) "WhoseGlassModel" "hads" "[I") ∈ yGW := y_i4 82 rfl rfl
theorem g_803 : (Jvm.Cond.fieldLink "WhoseGlassModel" (59 : Nat) "WhoseGlassModel" "cold" "[I") ∈ yGW := y_i4 83 rfl rfl
theorem g_804 : (Jvm.Cond.fieldLink "WhoseGlassModel" (146 : Nat) "WhoseGlassModel" "wrongs" "I") ∈ yGW := y_i4 84 rfl rfl
theorem g_805 : (Jvm.Cond.fieldLink "WhoseGlassModel" (157 : Nat) "WhoseGlassModel" "freshes" "I") ∈ yGW := y_i4 85 rfl rfl
theorem g_806 : (Jvm.Cond.fieldLink "WhoseGlassModel" (62 : Nat) "WhoseGlassModel" "closed" "I") ∈ yGW := y_i4 86 rfl rfl
theorem g_807 : (Jvm.Cond.fieldLink "WhoseGlassModel" (102 : Nat) "WhoseGlassModel" "thrown" "I") ∈ yGW := y_i4 87 rfl rfl
theorem g_808 : (Jvm.Cond.fieldLink "WhoseGlassModel" (65 : Nat) "WhoseGlassModel" "kept" "[I") ∈ yGW := y_i4 88 rfl rfl
theorem g_809 : (Jvm.Cond.fieldLink "WhoseGlassModel" (68 : Nat) "WhoseGlassModel" "imaged" "[I") ∈ yGW := y_i4 89 rfl rfl
theorem g_810 : (Jvm.Cond.fieldLink "WhoseGlassModel" (196 : Nat) "WhoseGlassModel" "hasImage" "Z") ∈ yGW := y_i4 90 rfl rfl
theorem g_811 : (Jvm.Cond.fieldLink "WhoseGlassModel" (183 : Nat) "WhoseGlassModel" "place0" "I") ∈ yGW := y_i4 91 rfl rfl
theorem g_812 : (Jvm.Cond.fieldLink "WhoseGlassModel" (176 : Nat) "WhoseGlassModel" "isTaking" "Z") ∈ yGW := y_i4 92 rfl rfl
theorem g_813 : (Jvm.Cond.fieldLink "WhoseGlassModel" (180 : Nat) "WhoseGlassModel" "keptIn" "[I") ∈ yGW := y_i4 93 rfl rfl
theorem g_814 : (Jvm.Cond.fieldLink "WhoseGlassModel" (205 : Nat) "WhoseGlassModel" "base" "I") ∈ yGW := y_i4 94 rfl rfl
theorem g_815 : (Jvm.Cond.fieldLink "WhoseGlassModel" (202 : Nat) "WhoseGlassModel" "end" "I") ∈ yGW := y_i4 95 rfl rfl
theorem g_816 : (Jvm.Cond.fieldLink "WhoseGlassModel" (199 : Nat) "WhoseGlassModel" "at" "I") ∈ yGW := y_i4 96 rfl rfl
theorem g_817 : (Jvm.Cond.fieldLink "WhoseGlassModel" (208 : Nat) "WhoseGlassModel" "isBad" "Z") ∈ yGW := y_i4 97 rfl rfl
theorem g_818 : (Jvm.Cond.fieldLink "WhoseGlassModel" (222 : Nat) "WhoseGlassModel" "statements" "I") ∈ yGW := y_i4 98 rfl rfl
theorem g_819 : (Jvm.Cond.fieldLink "WhoseGlassModel" (71 : Nat) "WhoseGlassModel" "placeOf" "[I") ∈ yGW := y_i4 99 rfl rfl
theorem g_820 : (Jvm.Cond.fieldLink "WhoseGlassModel" (74 : Nat) "WhoseGlassModel" "letterOf" "[I") ∈ yGW := y_i4 100 rfl rfl
theorem g_821 : (Jvm.Cond.fieldLink "WhoseGlassModel" (77 : Nat) "WhoseGlassModel" "told" "[I") ∈ yGW := y_i4 101 rfl rfl
theorem g_822 : (Jvm.Cond.fieldLink "WhoseGlassModel" (295 : Nat) "WhoseGlassModel" "seed" "I") ∈ yGW := y_i4 102 rfl rfl
theorem g_823 : (Jvm.Cond.fieldLink "WhoseGlassModel" (80 : Nat) "WhoseGlassModel" "holdsWhat" "[I") ∈ yGW := y_i4 103 rfl rfl
theorem g_824 : (Jvm.Cond.fieldLink "WhoseGlassModel" (83 : Nat) "WhoseGlassModel" "keptKind" "[I") ∈ yGW := y_i4 104 rfl rfl
theorem g_825 : (Jvm.Cond.fieldLink "WhoseGlassModel" (86 : Nat) "WhoseGlassModel" "keptFigure" "[I") ∈ yGW := y_i4 105 rfl rfl
theorem g_826 : (Jvm.Cond.fieldLink "WhoseGlassModel" (89 : Nat) "WhoseGlassModel" "rowSort" "[I") ∈ yGW := y_i4 106 rfl rfl
theorem g_827 : (Jvm.Cond.fieldLink "WhoseGlassModel" (92 : Nat) "WhoseGlassModel" "rowMany" "[I") ∈ yGW := y_i4 107 rfl rfl
theorem g_828 : (Jvm.Cond.fieldLink "WhoseGlassModel" (95 : Nat) "WhoseGlassModel" "rows" "[J") ∈ yGW := y_i4 108 rfl rfl
theorem g_829 : (Jvm.Cond.fieldLink "WhoseGlassModel" (99 : Nat) "WhoseGlassModel" "between" "[J") ∈ yGW := y_i4 109 rfl rfl
theorem g_932 : (Jvm.Cond.methodLink "WhoseGlassModel" (189 : Nat) ({ cls := "WhoseGlassModel", name := "carryAll", desc := "([IZ)V" } : Jvm.MethodName)) ∈ yGW := y_i4 212 rfl rfl
theorem g_934 : (Jvm.Cond.instanceMethod ({ cls := "WhoseGlassModel", name := "carryAll", desc := "([IZ)V" } : Jvm.MethodName)) ∈ yGW := y_i4 214 rfl rfl
theorem g_935 : (Jvm.Cond.code ({ cls := "WhoseGlassModel", name := "carryAll", desc := "([IZ)V" } : Jvm.MethodName) prog_8_method_24_code (4 : Nat) (Option.none : Option Jvm.ClassFile.FieldType)) ∈ yGW := y_i4 215 rfl rfl
theorem g_936 : (Jvm.Cond.methodLink "WhoseGlassModel" (186 : Nat) ({ cls := "WhoseGlassModel", name := "carry", desc := "(I)I" } : Jvm.MethodName)) ∈ yGW := y_i4 216 rfl rfl
theorem g_938 : (Jvm.Cond.instanceMethod ({ cls := "WhoseGlassModel", name := "carry", desc := "(I)I" } : Jvm.MethodName)) ∈ yGW := y_i4 218 rfl rfl
theorem g_939 : (Jvm.Cond.code ({ cls := "WhoseGlassModel", name := "carry", desc := "(I)I" } : Jvm.MethodName) prog_8_method_23_code (2 : Nat) (Option.some Jvm.ClassFile.FieldType.int)) ∈ yGW := y_i4 219 rfl rfl
theorem g_948 : (Jvm.Cond.methodLink "WhoseGlassModel" (244 : Nat) ({ cls := "WhoseGlassModel", name := "wrongSort", desc := "(II)I" } : Jvm.MethodName)) ∈ yGW := y_i4 228 rfl rfl
theorem g_950 : (Jvm.Cond.instanceMethod ({ cls := "WhoseGlassModel", name := "wrongSort", desc := "(II)I" } : Jvm.MethodName)) ∈ yGW := y_i4 230 rfl rfl
theorem g_951 : (Jvm.Cond.code ({ cls := "WhoseGlassModel", name := "wrongSort", desc := "(II)I" } : Jvm.MethodName) prog_8_method_76_code (3 : Nat) (Option.some Jvm.ClassFile.FieldType.int)) ∈ yGW := y_i4 231 rfl rfl
theorem g_952 : (Jvm.Cond.methodLink "WhoseGlassModel" (312 : Nat) ({ cls := "WhoseGlassModel", name := "wrongRow", desc := "(I)I" } : Jvm.MethodName)) ∈ yGW := y_i4 232 rfl rfl
theorem g_954 : (Jvm.Cond.instanceMethod ({ cls := "WhoseGlassModel", name := "wrongRow", desc := "(I)I" } : Jvm.MethodName)) ∈ yGW := y_i4 234 rfl rfl
theorem g_955 : (Jvm.Cond.code ({ cls := "WhoseGlassModel", name := "wrongRow", desc := "(I)I" } : Jvm.MethodName) prog_8_method_78_code (2 : Nat) (Option.some Jvm.ClassFile.FieldType.int)) ∈ yGW := y_i4 235 rfl rfl
theorem g_956 : (Jvm.Cond.constantLong "WhoseGlassModel" (263 : Nat) (7 : Int64)) ∈ yGW := y_i4 236 rfl rfl
theorem g_957 : (Jvm.Cond.methodLink "WhoseGlassModel" (108 : Nat) ({ cls := "WhoseGlassModel", name := "in", desc := "(JJJ)Z" } : Jvm.MethodName)) ∈ yGW := y_i4 237 rfl rfl
theorem g_958 : (Jvm.Cond.static ({ cls := "WhoseGlassModel", name := "in", desc := "(JJJ)Z" } : Jvm.MethodName)) ∈ yGW := y_i4 238 rfl rfl
theorem g_959 : (Jvm.Cond.code ({ cls := "WhoseGlassModel", name := "in", desc := "(JJJ)Z" } : Jvm.MethodName) prog_8_method_3_code (6 : Nat) (Option.some Jvm.ClassFile.FieldType.boolean)) ∈ yGW := y_i4 239 rfl rfl
theorem g_960 : (Jvm.Cond.methodLink "WhoseGlassModel" (247 : Nat) ({ cls := "WhoseGlassModel", name := "readStatement", desc := "()V" } : Jvm.MethodName)) ∈ yGW := y_i5 0 rfl rfl
theorem g_962 : (Jvm.Cond.instanceMethod ({ cls := "WhoseGlassModel", name := "readStatement", desc := "()V" } : Jvm.MethodName)) ∈ yGW := y_i5 2 rfl rfl
theorem g_963 : (Jvm.Cond.code ({ cls := "WhoseGlassModel", name := "readStatement", desc := "()V" } : Jvm.MethodName) prog_8_method_33_code (5 : Nat) (Option.none : Option Jvm.ClassFile.FieldType)) ∈ yGW := y_i5 3 rfl rfl
theorem g_964 : (Jvm.Cond.methodLink "WhoseGlassModel" (211 : Nat) ({ cls := "WhoseGlassModel", name := "here", desc := "()I" } : Jvm.MethodName)) ∈ yGW := y_i5 4 rfl rfl
theorem g_966 : (Jvm.Cond.instanceMethod ({ cls := "WhoseGlassModel", name := "here", desc := "()I" } : Jvm.MethodName)) ∈ yGW := y_i5 6 rfl rfl
theorem g_967 : (Jvm.Cond.code ({ cls := "WhoseGlassModel", name := "here", desc := "()I" } : Jvm.MethodName) prog_8_method_30_code (1 : Nat) (Option.some Jvm.ClassFile.FieldType.int)) ∈ yGW := y_i5 7 rfl rfl
theorem g_968 : (Jvm.Cond.methodLink "WhoseGlassModel" (219 : Nat) ({ cls := "WhoseGlassModel", name := "readDigit", desc := "()I" } : Jvm.MethodName)) ∈ yGW := y_i5 8 rfl rfl
theorem g_970 : (Jvm.Cond.instanceMethod ({ cls := "WhoseGlassModel", name := "readDigit", desc := "()I" } : Jvm.MethodName)) ∈ yGW := y_i5 10 rfl rfl
theorem g_971 : (Jvm.Cond.code ({ cls := "WhoseGlassModel", name := "readDigit", desc := "()I" } : Jvm.MethodName) prog_8_method_31_code (1 : Nat) (Option.some Jvm.ClassFile.FieldType.int)) ∈ yGW := y_i5 11 rfl rfl
theorem g_972 : (Jvm.Cond.constantLong "WhoseGlassModel" (215 : Nat) (48 : Int64)) ∈ yGW := y_i5 12 rfl rfl
theorem g_973 : (Jvm.Cond.constantLong "WhoseGlassModel" (217 : Nat) (57 : Int64)) ∈ yGW := y_i5 13 rfl rfl
theorem g_974 : (Jvm.Cond.methodLink "WhoseGlassModel" (225 : Nat) ({ cls := "WhoseGlassModel", name := "readTwo", desc := "()I" } : Jvm.MethodName)) ∈ yGW := y_i5 14 rfl rfl
theorem g_976 : (Jvm.Cond.instanceMethod ({ cls := "WhoseGlassModel", name := "readTwo", desc := "()I" } : Jvm.MethodName)) ∈ yGW := y_i5 16 rfl rfl
theorem g_977 : (Jvm.Cond.code ({ cls := "WhoseGlassModel", name := "readTwo", desc := "()I" } : Jvm.MethodName) prog_8_method_32_code (2 : Nat) (Option.some Jvm.ClassFile.FieldType.int)) ∈ yGW := y_i5 17 rfl rfl
theorem g_978 : (Jvm.Cond.methodLink "WhoseGlassModel" (250 : Nat) ({ cls := "WhoseGlassModel", name := "open", desc := "()V" } : Jvm.MethodName)) ∈ yGW := y_i5 18 rfl rfl
theorem g_980 : (Jvm.Cond.instanceMethod ({ cls := "WhoseGlassModel", name := "open", desc := "()V" } : Jvm.MethodName)) ∈ yGW := y_i5 20 rfl rfl
theorem g_981 : (Jvm.Cond.code ({ cls := "WhoseGlassModel", name := "open", desc := "()V" } : Jvm.MethodName) prog_8_method_25_code (1 : Nat) (Option.none : Option Jvm.ClassFile.FieldType)) ∈ yGW := y_i5 21 rfl rfl
theorem g_982 : (Jvm.Cond.methodLink "WhoseGlassModel" (253 : Nat) ({ cls := "WhoseGlassModel", name := "comesAll", desc := "(I)Z" } : Jvm.MethodName)) ∈ yGW := y_i5 22 rfl rfl
theorem g_984 : (Jvm.Cond.instanceMethod ({ cls := "WhoseGlassModel", name := "comesAll", desc := "(I)Z" } : Jvm.MethodName)) ∈ yGW := y_i5 24 rfl rfl
theorem g_985 : (Jvm.Cond.code ({ cls := "WhoseGlassModel", name := "comesAll", desc := "(I)Z" } : Jvm.MethodName) prog_8_method_37_code (3 : Nat) (Option.some Jvm.ClassFile.FieldType.boolean)) ∈ yGW := y_i5 25 rfl rfl
theorem g_986 : (Jvm.Cond.methodLink "WhoseGlassModel" (235 : Nat) ({ cls := "WhoseGlassModel", name := "glassComes", desc := "(I)Z" } : Jvm.MethodName)) ∈ yGW := y_i5 26 rfl rfl
theorem g_988 : (Jvm.Cond.instanceMethod ({ cls := "WhoseGlassModel", name := "glassComes", desc := "(I)Z" } : Jvm.MethodName)) ∈ yGW := y_i5 28 rfl rfl
theorem g_989 : (Jvm.Cond.code ({ cls := "WhoseGlassModel", name := "glassComes", desc := "(I)Z" } : Jvm.MethodName) prog_8_method_34_code (3 : Nat) (Option.some Jvm.ClassFile.FieldType.boolean)) ∈ yGW := y_i5 29 rfl rfl
theorem g_990 : (Jvm.Cond.methodLink "WhoseGlassModel" (153 : Nat) ({ cls := "WhoseGlassModel", name := "bring", desc := "(IIII)I" } : Jvm.MethodName)) ∈ yGW := y_i5 30 rfl rfl
theorem g_992 : (Jvm.Cond.instanceMethod ({ cls := "WhoseGlassModel", name := "bring", desc := "(IIII)I" } : Jvm.MethodName)) ∈ yGW := y_i5 32 rfl rfl
theorem g_993 : (Jvm.Cond.code ({ cls := "WhoseGlassModel", name := "bring", desc := "(IIII)I" } : Jvm.MethodName) prog_8_method_17_code (6 : Nat) (Option.some Jvm.ClassFile.FieldType.int)) ∈ yGW := y_i5 33 rfl rfl
theorem g_994 : (Jvm.Cond.methodLink "WhoseGlassModel" (238 : Nat) ({ cls := "WhoseGlassModel", name := "guestComes", desc := "(I)Z" } : Jvm.MethodName)) ∈ yGW := y_i5 34 rfl rfl
theorem g_996 : (Jvm.Cond.instanceMethod ({ cls := "WhoseGlassModel", name := "guestComes", desc := "(I)Z" } : Jvm.MethodName)) ∈ yGW := y_i5 36 rfl rfl
theorem g_997 : (Jvm.Cond.code ({ cls := "WhoseGlassModel", name := "guestComes", desc := "(I)Z" } : Jvm.MethodName) prog_8_method_35_code (3 : Nat) (Option.some Jvm.ClassFile.FieldType.boolean)) ∈ yGW := y_i5 37 rfl rfl
theorem g_998 : (Jvm.Cond.methodLink "WhoseGlassModel" (241 : Nat) ({ cls := "WhoseGlassModel", name := "holdComes", desc := "(II)Z" } : Jvm.MethodName)) ∈ yGW := y_i5 38 rfl rfl
theorem g_1000 : (Jvm.Cond.instanceMethod ({ cls := "WhoseGlassModel", name := "holdComes", desc := "(II)Z" } : Jvm.MethodName)) ∈ yGW := y_i5 40 rfl rfl
theorem g_1001 : (Jvm.Cond.code ({ cls := "WhoseGlassModel", name := "holdComes", desc := "(II)Z" } : Jvm.MethodName) prog_8_method_36_code (4 : Nat) (Option.some Jvm.ClassFile.FieldType.boolean)) ∈ yGW := y_i5 41 rfl rfl
theorem g_1002 : (Jvm.Cond.methodLink "WhoseGlassModel" (228 : Nat) ({ cls := "WhoseGlassModel", name := "isGuest", desc := "(I)Z" } : Jvm.MethodName)) ∈ yGW := y_i5 42 rfl rfl
theorem g_1004 : (Jvm.Cond.instanceMethod ({ cls := "WhoseGlassModel", name := "isGuest", desc := "(I)Z" } : Jvm.MethodName)) ∈ yGW := y_i5 44 rfl rfl
theorem g_1005 : (Jvm.Cond.code ({ cls := "WhoseGlassModel", name := "isGuest", desc := "(I)Z" } : Jvm.MethodName) prog_8_method_5_code (2 : Nat) (Option.some Jvm.ClassFile.FieldType.boolean)) ∈ yGW := y_i5 45 rfl rfl
theorem g_1006 : (Jvm.Cond.methodLink "WhoseGlassModel" (232 : Nat) ({ cls := "WhoseGlassModel", name := "isGlass", desc := "(I)Z" } : Jvm.MethodName)) ∈ yGW := y_i5 46 rfl rfl
theorem g_1008 : (Jvm.Cond.instanceMethod ({ cls := "WhoseGlassModel", name := "isGlass", desc := "(I)Z" } : Jvm.MethodName)) ∈ yGW := y_i5 48 rfl rfl
theorem g_1009 : (Jvm.Cond.code ({ cls := "WhoseGlassModel", name := "isGlass", desc := "(I)Z" } : Jvm.MethodName) prog_8_method_4_code (2 : Nat) (Option.some Jvm.ClassFile.FieldType.boolean)) ∈ yGW := y_i5 49 rfl rfl
theorem g_1010 : (Jvm.Cond.methodLink "WhoseGlassModel" (149 : Nat) ({ cls := "WhoseGlassModel", name := "hold", desc := "(II)V" } : Jvm.MethodName)) ∈ yGW := y_i5 50 rfl rfl
theorem g_1012 : (Jvm.Cond.instanceMethod ({ cls := "WhoseGlassModel", name := "hold", desc := "(II)V" } : Jvm.MethodName)) ∈ yGW := y_i5 52 rfl rfl
theorem g_1013 : (Jvm.Cond.code ({ cls := "WhoseGlassModel", name := "hold", desc := "(II)V" } : Jvm.MethodName) prog_8_method_18_code (3 : Nat) (Option.none : Option Jvm.ClassFile.FieldType)) ∈ yGW := y_i5 53 rfl rfl
theorem g_1014 : (Jvm.Cond.methodLink "WhoseGlassModel" (193 : Nat) ({ cls := "WhoseGlassModel", name := "minuteOn", desc := "()V" } : Jvm.MethodName)) ∈ yGW := y_i5 54 rfl rfl
theorem g_1016 : (Jvm.Cond.instanceMethod ({ cls := "WhoseGlassModel", name := "minuteOn", desc := "()V" } : Jvm.MethodName)) ∈ yGW := y_i5 56 rfl rfl
theorem g_1017 : (Jvm.Cond.code ({ cls := "WhoseGlassModel", name := "minuteOn", desc := "()V" } : Jvm.MethodName) prog_8_method_22_code (2 : Nat) (Option.none : Option Jvm.ClassFile.FieldType)) ∈ yGW := y_i5 57 rfl rfl
theorem g_1018 : (Jvm.Cond.methodLink "WhoseGlassModel" (173 : Nat) ({ cls := "WhoseGlassModel", name := "guestOn", desc := "(I)V" } : Jvm.MethodName)) ∈ yGW := y_i5 58 rfl rfl
theorem g_1020 : (Jvm.Cond.instanceMethod ({ cls := "WhoseGlassModel", name := "guestOn", desc := "(I)V" } : Jvm.MethodName)) ∈ yGW := y_i5 60 rfl rfl
theorem g_1021 : (Jvm.Cond.code ({ cls := "WhoseGlassModel", name := "guestOn", desc := "(I)V" } : Jvm.MethodName) prog_8_method_21_code (2 : Nat) (Option.none : Option Jvm.ClassFile.FieldType)) ∈ yGW := y_i5 61 rfl rfl
theorem g_1022 : (Jvm.Cond.methodLink "WhoseGlassModel" (160 : Nat) ({ cls := "WhoseGlassModel", name := "goOn", desc := "(I)V" } : Jvm.MethodName)) ∈ yGW := y_i5 62 rfl rfl
theorem g_1024 : (Jvm.Cond.instanceMethod ({ cls := "WhoseGlassModel", name := "goOn", desc := "(I)V" } : Jvm.MethodName)) ∈ yGW := y_i5 64 rfl rfl
theorem g_1025 : (Jvm.Cond.code ({ cls := "WhoseGlassModel", name := "goOn", desc := "(I)V" } : Jvm.MethodName) prog_8_method_20_code (3 : Nat) (Option.none : Option Jvm.ClassFile.FieldType)) ∈ yGW := y_i5 65 rfl rfl
theorem g_1026 : (Jvm.Cond.methodLink "WhoseGlassModel" (164 : Nat) ({ cls := "WhoseGlassModel", name := "takeOne", desc := "(I)I" } : Jvm.MethodName)) ∈ yGW := y_i5 66 rfl rfl
theorem g_1028 : (Jvm.Cond.instanceMethod ({ cls := "WhoseGlassModel", name := "takeOne", desc := "(I)I" } : Jvm.MethodName)) ∈ yGW := y_i5 68 rfl rfl
theorem g_1029 : (Jvm.Cond.code ({ cls := "WhoseGlassModel", name := "takeOne", desc := "(I)I" } : Jvm.MethodName) prog_8_method_19_code (3 : Nat) (Option.some Jvm.ClassFile.FieldType.int)) ∈ yGW := y_i5 69 rfl rfl
theorem g_1030 : (Jvm.Cond.methodLink "WhoseGlassModel" (143 : Nat) ({ cls := "WhoseGlassModel", name := "wouldTake", desc := "(I)I" } : Jvm.MethodName)) ∈ yGW := y_i5 70 rfl rfl
theorem g_1032 : (Jvm.Cond.instanceMethod ({ cls := "WhoseGlassModel", name := "wouldTake", desc := "(I)I" } : Jvm.MethodName)) ∈ yGW := y_i5 72 rfl rfl
theorem g_1033 : (Jvm.Cond.code ({ cls := "WhoseGlassModel", name := "wouldTake", desc := "(I)I" } : Jvm.MethodName) prog_8_method_16_code (9 : Nat) (Option.some Jvm.ClassFile.FieldType.int)) ∈ yGW := y_i5 73 rfl rfl
theorem g_1034 : (Jvm.Cond.methodLink "WhoseGlassModel" (136 : Nat) ({ cls := "WhoseGlassModel", name := "likeOf", desc := "(II)I" } : Jvm.MethodName)) ∈ yGW := y_i5 74 rfl rfl
theorem g_1036 : (Jvm.Cond.instanceMethod ({ cls := "WhoseGlassModel", name := "likeOf", desc := "(II)I" } : Jvm.MethodName)) ∈ yGW := y_i5 76 rfl rfl
theorem g_1037 : (Jvm.Cond.code ({ cls := "WhoseGlassModel", name := "likeOf", desc := "(II)I" } : Jvm.MethodName) prog_8_method_11_code (3 : Nat) (Option.some Jvm.ClassFile.FieldType.int)) ∈ yGW := y_i5 77 rfl rfl
theorem g_1038 : (Jvm.Cond.methodLink "WhoseGlassModel" (119 : Nat) ({ cls := "WhoseGlassModel", name := "plainly", desc := "(II)I" } : Jvm.MethodName)) ∈ yGW := y_i5 78 rfl rfl
theorem g_1040 : (Jvm.Cond.instanceMethod ({ cls := "WhoseGlassModel", name := "plainly", desc := "(II)I" } : Jvm.MethodName)) ∈ yGW := y_i5 80 rfl rfl
theorem g_1041 : (Jvm.Cond.code ({ cls := "WhoseGlassModel", name := "plainly", desc := "(II)I" } : Jvm.MethodName) prog_8_method_8_code (3 : Nat) (Option.some Jvm.ClassFile.FieldType.int)) ∈ yGW := y_i5 81 rfl rfl
theorem g_1042 : (Jvm.Cond.methodLink "WhoseGlassModel" (123 : Nat) ({ cls := "WhoseGlassModel", name := "tally", desc := "(II)I" } : Jvm.MethodName)) ∈ yGW := y_i5 82 rfl rfl
theorem g_1044 : (Jvm.Cond.instanceMethod ({ cls := "WhoseGlassModel", name := "tally", desc := "(II)I" } : Jvm.MethodName)) ∈ yGW := y_i5 84 rfl rfl
theorem g_1045 : (Jvm.Cond.code ({ cls := "WhoseGlassModel", name := "tally", desc := "(II)I" } : Jvm.MethodName) prog_8_method_10_code (3 : Nat) (Option.some Jvm.ClassFile.FieldType.int)) ∈ yGW := y_i5 85 rfl rfl
theorem g_1046 : (Jvm.Cond.methodLink "WhoseGlassModel" (126 : Nat) ({ cls := "WhoseGlassModel", name := "redly", desc := "(II)I" } : Jvm.MethodName)) ∈ yGW := y_i5 86 rfl rfl
theorem g_1048 : (Jvm.Cond.instanceMethod ({ cls := "WhoseGlassModel", name := "redly", desc := "(II)I" } : Jvm.MethodName)) ∈ yGW := y_i5 88 rfl rfl
theorem g_1049 : (Jvm.Cond.code ({ cls := "WhoseGlassModel", name := "redly", desc := "(II)I" } : Jvm.MethodName) prog_8_method_9_code (4 : Nat) (Option.some Jvm.ClassFile.FieldType.int)) ∈ yGW := y_i5 89 rfl rfl
theorem g_1050 : (Jvm.Cond.methodLink "WhoseGlassModel" (139 : Nat) ({ cls := "WhoseGlassModel", name := "isLater", desc := "(II)Z" } : Jvm.MethodName)) ∈ yGW := y_i5 90 rfl rfl
theorem g_1052 : (Jvm.Cond.instanceMethod ({ cls := "WhoseGlassModel", name := "isLater", desc := "(II)Z" } : Jvm.MethodName)) ∈ yGW := y_i5 92 rfl rfl
theorem g_1053 : (Jvm.Cond.code ({ cls := "WhoseGlassModel", name := "isLater", desc := "(II)Z" } : Jvm.MethodName) prog_8_method_15_code (3 : Nat) (Option.some Jvm.ClassFile.FieldType.boolean)) ∈ yGW := y_i5 93 rfl rfl
theorem g_1054 : (Jvm.Cond.methodLink "WhoseGlassModel" (167 : Nat) ({ cls := "WhoseGlassModel", name := "sipOne", desc := "(I)I" } : Jvm.MethodName)) ∈ yGW := y_i5 94 rfl rfl
theorem g_1056 : (Jvm.Cond.instanceMethod ({ cls := "WhoseGlassModel", name := "sipOne", desc := "(I)I" } : Jvm.MethodName)) ∈ yGW := y_i5 96 rfl rfl
theorem g_1057 : (Jvm.Cond.code ({ cls := "WhoseGlassModel", name := "sipOne", desc := "(I)I" } : Jvm.MethodName) prog_8_method_13_code (4 : Nat) (Option.some Jvm.ClassFile.FieldType.int)) ∈ yGW := y_i5 97 rfl rfl
theorem g_1058 : (Jvm.Cond.methodLink "WhoseGlassModel" (129 : Nat) ({ cls := "WhoseGlassModel", name := "strengthOf", desc := "(I)I" } : Jvm.MethodName)) ∈ yGW := y_i5 98 rfl rfl
theorem g_1060 : (Jvm.Cond.instanceMethod ({ cls := "WhoseGlassModel", name := "strengthOf", desc := "(I)I" } : Jvm.MethodName)) ∈ yGW := y_i5 100 rfl rfl
theorem g_1061 : (Jvm.Cond.code ({ cls := "WhoseGlassModel", name := "strengthOf", desc := "(I)I" } : Jvm.MethodName) prog_8_method_12_code (2 : Nat) (Option.some Jvm.ClassFile.FieldType.int)) ∈ yGW := y_i5 101 rfl rfl
theorem g_1062 : (Jvm.Cond.methodLink "WhoseGlassModel" (170 : Nat) ({ cls := "WhoseGlassModel", name := "layOne", desc := "(I)I" } : Jvm.MethodName)) ∈ yGW := y_i5 102 rfl rfl
theorem g_1064 : (Jvm.Cond.instanceMethod ({ cls := "WhoseGlassModel", name := "layOne", desc := "(I)I" } : Jvm.MethodName)) ∈ yGW := y_i5 104 rfl rfl
theorem g_1065 : (Jvm.Cond.code ({ cls := "WhoseGlassModel", name := "layOne", desc := "(I)I" } : Jvm.MethodName) prog_8_method_14_code (3 : Nat) (Option.some Jvm.ClassFile.FieldType.int)) ∈ yGW := y_i5 105 rfl rfl
theorem g_1066 : (Jvm.Cond.methodLink "WhoseGlassModel" (256 : Nat) ({ cls := "WhoseGlassModel", name := "again", desc := "()V" } : Jvm.MethodName)) ∈ yGW := y_i5 106 rfl rfl
theorem g_1068 : (Jvm.Cond.instanceMethod ({ cls := "WhoseGlassModel", name := "again", desc := "()V" } : Jvm.MethodName)) ∈ yGW := y_i5 108 rfl rfl
theorem g_1069 : (Jvm.Cond.code ({ cls := "WhoseGlassModel", name := "again", desc := "()V" } : Jvm.MethodName) prog_8_method_26_code (1 : Nat) (Option.none : Option Jvm.ClassFile.FieldType)) ∈ yGW := y_i5 109 rfl rfl
theorem g_1074 : (Jvm.Cond.constantLong "WhoseGlassModel" (259 : Nat) (6 : Int64)) ∈ yGW := y_i5 114 rfl rfl
theorem g_1079 : (Jvm.Cond.constantLong "WhoseGlassModel" (261 : Nat) (8 : Int64)) ∈ yGW := y_i5 119 rfl rfl
theorem g_1084 : (Jvm.Cond.methodLink "WhoseGlassModel" (265 : Nat) ({ cls := "WhoseGlassModel", name := "isPlace", desc := "(I)Z" } : Jvm.MethodName)) ∈ yGW := y_i5 124 rfl rfl
theorem g_1085 : (Jvm.Cond.static ({ cls := "WhoseGlassModel", name := "isPlace", desc := "(I)Z" } : Jvm.MethodName)) ∈ yGW := y_i5 125 rfl rfl
theorem g_1086 : (Jvm.Cond.code ({ cls := "WhoseGlassModel", name := "isPlace", desc := "(I)Z" } : Jvm.MethodName) prog_8_method_6_code (1 : Nat) (Option.some Jvm.ClassFile.FieldType.boolean)) ∈ yGW := y_i5 126 rfl rfl
theorem g_1087 : (Jvm.Cond.constantLong "WhoseGlassModel" (115 : Nat) (5 : Int64)) ∈ yGW := y_i5 127 rfl rfl
theorem g_1088 : (Jvm.Cond.methodLink "WhoseGlassModel" (268 : Nat) ({ cls := "WhoseGlassModel", name := "wrongKept", desc := "(I)I" } : Jvm.MethodName)) ∈ yGW := y_i5 128 rfl rfl
theorem g_1090 : (Jvm.Cond.instanceMethod ({ cls := "WhoseGlassModel", name := "wrongKept", desc := "(I)I" } : Jvm.MethodName)) ∈ yGW := y_i5 130 rfl rfl
theorem g_1091 : (Jvm.Cond.code ({ cls := "WhoseGlassModel", name := "wrongKept", desc := "(I)I" } : Jvm.MethodName) prog_8_method_41_code (2 : Nat) (Option.some Jvm.ClassFile.FieldType.int)) ∈ yGW := y_i5 131 rfl rfl
theorem g_1116 : (Jvm.Cond.constantLong "WhoseGlassModel" (271 : Nat) (99 : Int64)) ∈ yGW := y_i5 156 rfl rfl
theorem g_1117 : (Jvm.Cond.methodLink "WhoseGlassModel" (273 : Nat) ({ cls := "WhoseGlassModel", name := "sink", desc := "(I)V" } : Jvm.MethodName)) ∈ yGW := y_i5 157 rfl rfl
theorem g_1119 : (Jvm.Cond.instanceMethod ({ cls := "WhoseGlassModel", name := "sink", desc := "(I)V" } : Jvm.MethodName)) ∈ yGW := y_i5 159 rfl rfl
theorem g_1120 : (Jvm.Cond.code ({ cls := "WhoseGlassModel", name := "sink", desc := "(I)V" } : Jvm.MethodName) prog_8_method_48_code (2 : Nat) (Option.none : Option Jvm.ClassFile.FieldType)) ∈ yGW := y_i5 160 rfl rfl
theorem g_1125 : (Jvm.Cond.methodLink "WhoseGlassModel" (276 : Nat) ({ cls := "WhoseGlassModel", name := "goThrough", desc := "(I)V" } : Jvm.MethodName)) ∈ yGW := y_i5 165 rfl rfl
theorem g_1127 : (Jvm.Cond.instanceMethod ({ cls := "WhoseGlassModel", name := "goThrough", desc := "(I)V" } : Jvm.MethodName)) ∈ yGW := y_i5 167 rfl rfl
theorem g_1128 : (Jvm.Cond.code ({ cls := "WhoseGlassModel", name := "goThrough", desc := "(I)V" } : Jvm.MethodName) prog_8_method_27_code (3 : Nat) (Option.none : Option Jvm.ClassFile.FieldType)) ∈ yGW := y_i5 168 rfl rfl
theorem g_1141 : (Jvm.Cond.methodLink "WhoseGlassModel" (279 : Nat) ({ cls := "WhoseGlassModel", name := "divisor", desc := "(II)I" } : Jvm.MethodName)) ∈ yGW := y_i5 181 rfl rfl
theorem g_1142 : (Jvm.Cond.static ({ cls := "WhoseGlassModel", name := "divisor", desc := "(II)I" } : Jvm.MethodName)) ∈ yGW := y_i5 182 rfl rfl
theorem g_1143 : (Jvm.Cond.code ({ cls := "WhoseGlassModel", name := "divisor", desc := "(II)I" } : Jvm.MethodName) prog_8_method_53_code (5 : Nat) (Option.some Jvm.ClassFile.FieldType.int)) ∈ yGW := y_i5 183 rfl rfl
theorem g_1156 : (Jvm.Cond.methodLink "WhoseGlassModel" (282 : Nat) ({ cls := "WhoseGlassModel", name := "isMinutes", desc := "(I)Z" } : Jvm.MethodName)) ∈ yGW := y_i5 196 rfl rfl
theorem g_1157 : (Jvm.Cond.static ({ cls := "WhoseGlassModel", name := "isMinutes", desc := "(I)Z" } : Jvm.MethodName)) ∈ yGW := y_i5 197 rfl rfl
theorem g_1158 : (Jvm.Cond.code ({ cls := "WhoseGlassModel", name := "isMinutes", desc := "(I)Z" } : Jvm.MethodName) prog_8_method_7_code (1 : Nat) (Option.some Jvm.ClassFile.FieldType.boolean)) ∈ yGW := y_i5 198 rfl rfl
theorem g_1159 : (Jvm.Cond.constantLong "WhoseGlassModel" (117 : Nat) (60 : Int64)) ∈ yGW := y_i5 199 rfl rfl
theorem g_1168 : (Jvm.Cond.methodLink "WhoseGlassModel" (285 : Nat) ({ cls := "WhoseGlassModel", name := "coldBits", desc := "()I" } : Jvm.MethodName)) ∈ yGW := y_i5 208 rfl rfl
theorem g_1170 : (Jvm.Cond.instanceMethod ({ cls := "WhoseGlassModel", name := "coldBits", desc := "()I" } : Jvm.MethodName)) ∈ yGW := y_i5 210 rfl rfl
theorem g_1171 : (Jvm.Cond.code ({ cls := "WhoseGlassModel", name := "coldBits", desc := "()I" } : Jvm.MethodName) prog_8_method_57_code (3 : Nat) (Option.some Jvm.ClassFile.FieldType.int)) ∈ yGW := y_i5 211 rfl rfl
theorem g_1184 : (Jvm.Cond.methodLink "WhoseGlassModel" (288 : Nat) ({ cls := "WhoseGlassModel", name := "coldAlone", desc := "(I)V" } : Jvm.MethodName)) ∈ yGW := y_i5 224 rfl rfl
theorem g_1186 : (Jvm.Cond.instanceMethod ({ cls := "WhoseGlassModel", name := "coldAlone", desc := "(I)V" } : Jvm.MethodName)) ∈ yGW := y_i5 226 rfl rfl
theorem g_1187 : (Jvm.Cond.code ({ cls := "WhoseGlassModel", name := "coldAlone", desc := "(I)V" } : Jvm.MethodName) prog_8_method_63_code (3 : Nat) (Option.none : Option Jvm.ClassFile.FieldType)) ∈ yGW := y_i5 227 rfl rfl
theorem g_1208 : (Jvm.Cond.methodLink "WhoseGlassModel" (291 : Nat) ({ cls := "WhoseGlassModel", name := "isSomeEmpty", desc := "()Z" } : Jvm.MethodName)) ∈ yGW := y_i6 8 rfl rfl
theorem g_1210 : (Jvm.Cond.instanceMethod ({ cls := "WhoseGlassModel", name := "isSomeEmpty", desc := "()Z" } : Jvm.MethodName)) ∈ yGW := y_i6 10 rfl rfl
theorem g_1211 : (Jvm.Cond.code ({ cls := "WhoseGlassModel", name := "isSomeEmpty", desc := "()Z" } : Jvm.MethodName) prog_8_method_69_code (3 : Nat) (Option.some Jvm.ClassFile.FieldType.boolean)) ∈ yGW := y_i6 11 rfl rfl
theorem g_1216 : (Jvm.Cond.constantLong "WhoseGlassModel" (301 : Nat) (30 : Int64)) ∈ yGW := y_i6 16 rfl rfl
theorem g_1217 : (Jvm.Cond.methodLink "WhoseGlassModel" (303 : Nat) ({ cls := "WhoseGlassModel", name := "draw", desc := "(I)I" } : Jvm.MethodName)) ∈ yGW := y_i6 17 rfl rfl
theorem g_1219 : (Jvm.Cond.instanceMethod ({ cls := "WhoseGlassModel", name := "draw", desc := "(I)I" } : Jvm.MethodName)) ∈ yGW := y_i6 19 rfl rfl
theorem g_1220 : (Jvm.Cond.code ({ cls := "WhoseGlassModel", name := "draw", desc := "(I)I" } : Jvm.MethodName) prog_8_method_71_code (2 : Nat) (Option.some Jvm.ClassFile.FieldType.int)) ∈ yGW := y_i6 20 rfl rfl
theorem g_1221 : (Jvm.Cond.constant "WhoseGlassModel" (298 : Nat) (1103515245 : Int32)) ∈ yGW := y_i6 21 rfl rfl
theorem g_1222 : (Jvm.Cond.constant "WhoseGlassModel" (299 : Nat) (2147483647 : Int32)) ∈ yGW := y_i6 22 rfl rfl
theorem g_1223 : (Jvm.Cond.constant "WhoseGlassModel" (300 : Nat) (65536 : Int32)) ∈ yGW := y_i6 23 rfl rfl
theorem g_1228 : (Jvm.Cond.methodLink "WhoseGlassModel" (315 : Nat) ({ cls := "WhoseGlassModel", name := "skippedIn", desc := "(I)J" } : Jvm.MethodName)) ∈ yGW := y_i6 28 rfl rfl
theorem g_1230 : (Jvm.Cond.instanceMethod ({ cls := "WhoseGlassModel", name := "skippedIn", desc := "(I)J" } : Jvm.MethodName)) ∈ yGW := y_i6 30 rfl rfl
theorem g_1231 : (Jvm.Cond.code ({ cls := "WhoseGlassModel", name := "skippedIn", desc := "(I)J" } : Jvm.MethodName) prog_8_method_73_code (2 : Nat) (Option.some Jvm.ClassFile.FieldType.long)) ∈ yGW := y_i6 31 rfl rfl
theorem g_1232 : (Jvm.Cond.constantLong "WhoseGlassModel" (306 : Nat) (-128 : Int64)) ∈ yGW := y_i6 32 rfl rfl
theorem g_1233 : (Jvm.Cond.constantLong "WhoseGlassModel" (308 : Nat) (-32768 : Int64)) ∈ yGW := y_i6 33 rfl rfl
theorem g_1234 : (Jvm.Cond.constantLong "WhoseGlassModel" (310 : Nat) (-2147483648 : Int64)) ∈ yGW := y_i6 34 rfl rfl
theorem g_1243 : (Jvm.Cond.constantLong "WhoseGlassModel" (319 : Nat) (9 : Int64)) ∈ yGW := y_i6 43 rfl rfl
theorem g_1248 : (Jvm.Cond.constantLong "WhoseGlassModel" (321 : Nat) (2 : Int64)) ∈ yGW := y_i6 48 rfl rfl
theorem g_1253 : (Jvm.Cond.methodLink "WhoseGlassModel" (323 : Nat) ({ cls := "WhoseGlassModel", name := "narrowed", desc := "(II)J" } : Jvm.MethodName)) ∈ yGW := y_i6 53 rfl rfl
theorem g_1254 : (Jvm.Cond.static ({ cls := "WhoseGlassModel", name := "narrowed", desc := "(II)J" } : Jvm.MethodName)) ∈ yGW := y_i6 54 rfl rfl
theorem g_1255 : (Jvm.Cond.code ({ cls := "WhoseGlassModel", name := "narrowed", desc := "(II)J" } : Jvm.MethodName) prog_8_method_79_code (2 : Nat) (Option.some Jvm.ClassFile.FieldType.long)) ∈ yGW := y_i6 55 rfl rfl
theorem g_1268 : (Jvm.Cond.methodLink "WhoseGlassModel" (327 : Nat) ({ cls := "WhoseGlassModel", name := "costOf", desc := "(II)I" } : Jvm.MethodName)) ∈ yGW := y_i6 68 rfl rfl
theorem g_1269 : (Jvm.Cond.static ({ cls := "WhoseGlassModel", name := "costOf", desc := "(II)I" } : Jvm.MethodName)) ∈ yGW := y_i6 69 rfl rfl
theorem g_1270 : (Jvm.Cond.code ({ cls := "WhoseGlassModel", name := "costOf", desc := "(II)I" } : Jvm.MethodName) prog_8_method_84_code (2 : Nat) (Option.some Jvm.ClassFile.FieldType.int)) ∈ yGW := y_i6 70 rfl rfl
