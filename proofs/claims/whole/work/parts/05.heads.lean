def m_X_shelfAt : MethodName := ⟨"WhoseGlass", "shelfAt", "(I)LWhoseGlass$Shelf;"⟩
abbrev ws_X_shelfAt : List Cond := yWs m_X_shelfAt prog_1_method_41_code 2 (some (.object "WhoseGlass$Shelf"))
theorem hd_X_shelfAt : m_X_shelfAt.cls = yR4 ∧ m_X_shelfAt.cls ≠ "java/lang/invoke/MethodHandle" ∧ m_X_shelfAt.cls ≠ "java/lang/invoke/VarHandle" ∧ (parseMethodDescriptor m_X_shelfAt.desc).map (fun d => d.parameters.length) = some 1 := ⟨rfl, by decide +kernel, by decide +kernel, by decide +kernel⟩
def m_S_whyNot : MethodName := ⟨"WhoseGlass$Shelf", "whyNot", "()I"⟩
abbrev ws_S_whyNot : List Cond := yWs m_S_whyNot prog_6_method_2_code 1 (some .int)
theorem hd_S_whyNot : m_S_whyNot.cls = yR3 ∧ m_S_whyNot.cls ≠ "java/lang/invoke/MethodHandle" ∧ m_S_whyNot.cls ≠ "java/lang/invoke/VarHandle" ∧ (parseMethodDescriptor m_S_whyNot.desc).map (fun d => d.parameters.length) = some 0 := ⟨rfl, by decide +kernel, by decide +kernel, by decide +kernel⟩
def m_S_elementAt : MethodName := ⟨"WhoseGlass$Shelf", "elementAt", "(I)I"⟩
abbrev ws_S_elementAt : List Cond := yWs m_S_elementAt prog_6_method_4_code 2 (some .int)
theorem hd_S_elementAt : m_S_elementAt.cls = yR3 ∧ m_S_elementAt.cls ≠ "java/lang/invoke/MethodHandle" ∧ m_S_elementAt.cls ≠ "java/lang/invoke/VarHandle" ∧ (parseMethodDescriptor m_S_elementAt.desc).map (fun d => d.parameters.length) = some 1 := ⟨rfl, by decide +kernel, by decide +kernel, by decide +kernel⟩
def m_T_mostDigits : MethodName := ⟨"WhoseGlass$HouseText", "mostDigits", "(I)I"⟩
abbrev ws_T_mostDigits : List Cond := yWs m_T_mostDigits prog_5_method_10_code 1 (some .int)
theorem hn_T_mostDigits : m_T_mostDigits.cls ≠ "java/lang/invoke/MethodHandle" ∧ m_T_mostDigits.cls ≠ "java/lang/invoke/VarHandle" ∧ (parseMethodDescriptor m_T_mostDigits.desc).map (fun d => d.parameters.length) = some 1 := ⟨by decide +kernel, by decide +kernel, by decide +kernel⟩
def m_T_isDigit : MethodName := ⟨"WhoseGlass$HouseText", "isDigit", "(LWhoseGlass$Shelf;I)Z"⟩
abbrev ws_T_isDigit : List Cond := yWs m_T_isDigit prog_5_method_8_code 2 (some .boolean)
theorem hn_T_isDigit : m_T_isDigit.cls ≠ "java/lang/invoke/MethodHandle" ∧ m_T_isDigit.cls ≠ "java/lang/invoke/VarHandle" ∧ (parseMethodDescriptor m_T_isDigit.desc).map (fun d => d.parameters.length) = some 2 := ⟨by decide +kernel, by decide +kernel, by decide +kernel⟩
def m_T_digitsEnd : MethodName := ⟨"WhoseGlass$HouseText", "digitsEnd", "(LWhoseGlass$Shelf;I)I"⟩
abbrev ws_T_digitsEnd : List Cond := yWs m_T_digitsEnd prog_5_method_6_code 4 (some .int)
theorem hn_T_digitsEnd : m_T_digitsEnd.cls ≠ "java/lang/invoke/MethodHandle" ∧ m_T_digitsEnd.cls ≠ "java/lang/invoke/VarHandle" ∧ (parseMethodDescriptor m_T_digitsEnd.desc).map (fun d => d.parameters.length) = some 2 := ⟨by decide +kernel, by decide +kernel, by decide +kernel⟩
def m_T_leastDigits : MethodName := ⟨"WhoseGlass$HouseText", "leastDigits", "(I)I"⟩
abbrev ws_T_leastDigits : List Cond := yWs m_T_leastDigits prog_5_method_9_code 1 (some .int)
theorem hn_T_leastDigits : m_T_leastDigits.cls ≠ "java/lang/invoke/MethodHandle" ∧ m_T_leastDigits.cls ≠ "java/lang/invoke/VarHandle" ∧ (parseMethodDescriptor m_T_leastDigits.desc).map (fun d => d.parameters.length) = some 1 := ⟨by decide +kernel, by decide +kernel, by decide +kernel⟩
def m_T_isAt : MethodName := ⟨"WhoseGlass$HouseText", "isAt", "(LWhoseGlass$Shelf;IC)Z"⟩
abbrev ws_T_isAt : List Cond := yWs m_T_isAt prog_5_method_7_code 3 (some .boolean)
theorem hn_T_isAt : m_T_isAt.cls ≠ "java/lang/invoke/MethodHandle" ∧ m_T_isAt.cls ≠ "java/lang/invoke/VarHandle" ∧ (parseMethodDescriptor m_T_isAt.desc).map (fun d => d.parameters.length) = some 3 := ⟨by decide +kernel, by decide +kernel, by decide +kernel⟩
def m_T_isWhole : MethodName := ⟨"WhoseGlass$HouseText", "isWhole", "(LWhoseGlass$Shelf;II)Z"⟩
abbrev ws_T_isWhole : List Cond := yWs m_T_isWhole prog_5_method_3_code 3 (some .boolean)
theorem hn_T_isWhole : m_T_isWhole.cls ≠ "java/lang/invoke/MethodHandle" ∧ m_T_isWhole.cls ≠ "java/lang/invoke/VarHandle" ∧ (parseMethodDescriptor m_T_isWhole.desc).map (fun d => d.parameters.length) = some 3 := ⟨by decide +kernel, by decide +kernel, by decide +kernel⟩
def m_T_breakIn : MethodName := ⟨"WhoseGlass$HouseText", "breakIn", "(LWhoseGlass$Shelf;)I"⟩
abbrev ws_T_breakIn : List Cond := yWs m_T_breakIn prog_5_method_2_code 4 (some .int)
theorem hn_T_breakIn : m_T_breakIn.cls ≠ "java/lang/invoke/MethodHandle" ∧ m_T_breakIn.cls ≠ "java/lang/invoke/VarHandle" ∧ (parseMethodDescriptor m_T_breakIn.desc).map (fun d => d.parameters.length) = some 1 := ⟨by decide +kernel, by decide +kernel, by decide +kernel⟩
def m_H_glassAt : MethodName := ⟨"WhoseGlass$House", "glassAt", "(I)LWhoseGlass$Glass;"⟩
abbrev ws_H_glassAt : List Cond := yWs m_H_glassAt prog_4_method_3_code 2 (some (.object "WhoseGlass$Glass"))
theorem hd_H_glassAt : m_H_glassAt.cls = yR2 ∧ m_H_glassAt.cls ≠ "java/lang/invoke/MethodHandle" ∧ m_H_glassAt.cls ≠ "java/lang/invoke/VarHandle" ∧ (parseMethodDescriptor m_H_glassAt.desc).map (fun d => d.parameters.length) = some 1 := ⟨rfl, by decide +kernel, by decide +kernel, by decide +kernel⟩
def m_G_become : MethodName := ⟨"WhoseGlass$Glass", "become", "(LWhoseGlass$Glass;)V"⟩
abbrev ws_G_become : List Cond := yWs m_G_become prog_2_method_3_code 2 none
theorem hd_G_become : m_G_become.cls = yR0 ∧ m_G_become.cls ≠ "java/lang/invoke/MethodHandle" ∧ m_G_become.cls ≠ "java/lang/invoke/VarHandle" ∧ (parseMethodDescriptor m_G_become.desc).map (fun d => d.parameters.length) = some 1 := ⟨rfl, by decide +kernel, by decide +kernel, by decide +kernel⟩
def m_H_guestAt : MethodName := ⟨"WhoseGlass$House", "guestAt", "(I)LWhoseGlass$Guest;"⟩
abbrev ws_H_guestAt : List Cond := yWs m_H_guestAt prog_4_method_4_code 2 (some (.object "WhoseGlass$Guest"))
theorem hd_H_guestAt : m_H_guestAt.cls = yR2 ∧ m_H_guestAt.cls ≠ "java/lang/invoke/MethodHandle" ∧ m_H_guestAt.cls ≠ "java/lang/invoke/VarHandle" ∧ (parseMethodDescriptor m_H_guestAt.desc).map (fun d => d.parameters.length) = some 1 := ⟨rfl, by decide +kernel, by decide +kernel, by decide +kernel⟩
def m_U_become : MethodName := ⟨"WhoseGlass$Guest", "become", "(LWhoseGlass$Guest;)V"⟩
abbrev ws_U_become : List Cond := yWs m_U_become prog_3_method_3_code 2 none
theorem hd_U_become : m_U_become.cls = yR1 ∧ m_U_become.cls ≠ "java/lang/invoke/MethodHandle" ∧ m_U_become.cls ≠ "java/lang/invoke/VarHandle" ∧ (parseMethodDescriptor m_U_become.desc).map (fun d => d.parameters.length) = some 1 := ⟨rfl, by decide +kernel, by decide +kernel, by decide +kernel⟩
def m_H_become : MethodName := ⟨"WhoseGlass$House", "become", "(LWhoseGlass$House;)V"⟩
abbrev ws_H_become : List Cond := yWs m_H_become prog_4_method_2_code 5 none
theorem hd_H_become : m_H_become.cls = yR2 ∧ m_H_become.cls ≠ "java/lang/invoke/MethodHandle" ∧ m_H_become.cls ≠ "java/lang/invoke/VarHandle" ∧ (parseMethodDescriptor m_H_become.desc).map (fun d => d.parameters.length) = some 1 := ⟨rfl, by decide +kernel, by decide +kernel, by decide +kernel⟩
def m_X_isMultiple : MethodName := ⟨"WhoseGlass", "isMultiple", "(II)Z"⟩
abbrev ws_X_isMultiple : List Cond := yWs m_X_isMultiple prog_1_method_44_code 2 (some .boolean)
theorem hn_X_isMultiple : m_X_isMultiple.cls ≠ "java/lang/invoke/MethodHandle" ∧ m_X_isMultiple.cls ≠ "java/lang/invoke/VarHandle" ∧ (parseMethodDescriptor m_X_isMultiple.desc).map (fun d => d.parameters.length) = some 2 := ⟨by decide +kernel, by decide +kernel, by decide +kernel⟩
def m_H_placeBehind : MethodName := ⟨"WhoseGlass$House", "placeBehind", "(I)I"⟩
abbrev ws_H_placeBehind : List Cond := yWs m_H_placeBehind prog_4_method_9_code 3 (some .int)
theorem hd_H_placeBehind : m_H_placeBehind.cls = yR2 ∧ m_H_placeBehind.cls ≠ "java/lang/invoke/MethodHandle" ∧ m_H_placeBehind.cls ≠ "java/lang/invoke/VarHandle" ∧ (parseMethodDescriptor m_H_placeBehind.desc).map (fun d => d.parameters.length) = some 1 := ⟨rfl, by decide +kernel, by decide +kernel, by decide +kernel⟩
def m_G_likeTo : MethodName := ⟨"WhoseGlass$Glass", "likeTo", "(LWhoseGlass$Glass;)I"⟩
abbrev ws_G_likeTo : List Cond := yWs m_G_likeTo prog_2_method_8_code 9 (some .int)
theorem hd_G_likeTo : m_G_likeTo.cls = yR0 ∧ m_G_likeTo.cls ≠ "java/lang/invoke/MethodHandle" ∧ m_G_likeTo.cls ≠ "java/lang/invoke/VarHandle" ∧ (parseMethodDescriptor m_G_likeTo.desc).map (fun d => d.parameters.length) = some 1 := ⟨rfl, by decide +kernel, by decide +kernel, by decide +kernel⟩
def m_H_choiceOf : MethodName := ⟨"WhoseGlass$House", "choiceOf", "(LWhoseGlass$Guest;)I"⟩
abbrev ws_H_choiceOf : List Cond := yWs m_H_choiceOf prog_4_method_12_code 9 (some .int)
theorem hd_H_choiceOf : m_H_choiceOf.cls = yR2 ∧ m_H_choiceOf.cls ≠ "java/lang/invoke/MethodHandle" ∧ m_H_choiceOf.cls ≠ "java/lang/invoke/VarHandle" ∧ (parseMethodDescriptor m_H_choiceOf.desc).map (fun d => d.parameters.length) = some 1 := ⟨rfl, by decide +kernel, by decide +kernel, by decide +kernel⟩
def m_U_hold : MethodName := ⟨"WhoseGlass$Guest", "hold", "(LWhoseGlass$Glass;)V"⟩
abbrev ws_U_hold : List Cond := yWs m_U_hold prog_3_method_5_code 2 none
theorem hd_U_hold : m_U_hold.cls = yR1 ∧ m_U_hold.cls ≠ "java/lang/invoke/MethodHandle" ∧ m_U_hold.cls ≠ "java/lang/invoke/VarHandle" ∧ (parseMethodDescriptor m_U_hold.desc).map (fun d => d.parameters.length) = some 1 := ⟨rfl, by decide +kernel, by decide +kernel, by decide +kernel⟩
def m_G_begin : MethodName := ⟨"WhoseGlass$Glass", "begin", "(III)V"⟩
abbrev ws_G_begin : List Cond := yWs m_G_begin prog_2_method_2_code 4 none
theorem hd_G_begin : m_G_begin.cls = yR0 ∧ m_G_begin.cls ≠ "java/lang/invoke/MethodHandle" ∧ m_G_begin.cls ≠ "java/lang/invoke/VarHandle" ∧ (parseMethodDescriptor m_G_begin.desc).map (fun d => d.parameters.length) = some 3 := ⟨rfl, by decide +kernel, by decide +kernel, by decide +kernel⟩
def m_H_addGlass : MethodName := ⟨"WhoseGlass$House", "addGlass", "(III)LWhoseGlass$Glass;"⟩
abbrev ws_H_addGlass : List Cond := yWs m_H_addGlass prog_4_method_5_code 5 (some (.object "WhoseGlass$Glass"))
theorem hd_H_addGlass : m_H_addGlass.cls = yR2 ∧ m_H_addGlass.cls ≠ "java/lang/invoke/MethodHandle" ∧ m_H_addGlass.cls ≠ "java/lang/invoke/VarHandle" ∧ (parseMethodDescriptor m_H_addGlass.desc).map (fun d => d.parameters.length) = some 3 := ⟨rfl, by decide +kernel, by decide +kernel, by decide +kernel⟩
def m_H_takeUp : MethodName := ⟨"WhoseGlass$House", "takeUp", "(LWhoseGlass$Guest;)I"⟩
abbrev ws_H_takeUp : List Cond := yWs m_H_takeUp prog_4_method_11_code 4 (some .int)
theorem hd_H_takeUp : m_H_takeUp.cls = yR2 ∧ m_H_takeUp.cls ≠ "java/lang/invoke/MethodHandle" ∧ m_H_takeUp.cls ≠ "java/lang/invoke/VarHandle" ∧ (parseMethodDescriptor m_H_takeUp.desc).map (fun d => d.parameters.length) = some 1 := ⟨rfl, by decide +kernel, by decide +kernel, by decide +kernel⟩
def m_G_strength : MethodName := ⟨"WhoseGlass$Glass", "strength", "()I"⟩
abbrev ws_G_strength : List Cond := yWs m_G_strength prog_2_method_9_code 1 (some .int)
theorem hd_G_strength : m_G_strength.cls = yR0 ∧ m_G_strength.cls ≠ "java/lang/invoke/MethodHandle" ∧ m_G_strength.cls ≠ "java/lang/invoke/VarHandle" ∧ (parseMethodDescriptor m_G_strength.desc).map (fun d => d.parameters.length) = some 0 := ⟨rfl, by decide +kernel, by decide +kernel, by decide +kernel⟩
def m_U_sipFrom : MethodName := ⟨"WhoseGlass$Guest", "sipFrom", "(LWhoseGlass$Glass;)I"⟩
abbrev ws_U_sipFrom : List Cond := yWs m_U_sipFrom prog_3_method_6_code 3 (some .int)
theorem hd_U_sipFrom : m_U_sipFrom.cls = yR1 ∧ m_U_sipFrom.cls ≠ "java/lang/invoke/MethodHandle" ∧ m_U_sipFrom.cls ≠ "java/lang/invoke/VarHandle" ∧ (parseMethodDescriptor m_U_sipFrom.desc).map (fun d => d.parameters.length) = some 1 := ⟨rfl, by decide +kernel, by decide +kernel, by decide +kernel⟩
def m_G_layAt : MethodName := ⟨"WhoseGlass$Glass", "layAt", "(II)V"⟩
abbrev ws_G_layAt : List Cond := yWs m_G_layAt prog_2_method_4_code 3 none
theorem hd_G_layAt : m_G_layAt.cls = yR0 ∧ m_G_layAt.cls ≠ "java/lang/invoke/MethodHandle" ∧ m_G_layAt.cls ≠ "java/lang/invoke/VarHandle" ∧ (parseMethodDescriptor m_G_layAt.desc).map (fun d => d.parameters.length) = some 2 := ⟨rfl, by decide +kernel, by decide +kernel, by decide +kernel⟩
def m_H_layDown : MethodName := ⟨"WhoseGlass$House", "layDown", "(LWhoseGlass$Guest;LWhoseGlass$Glass;)V"⟩
abbrev ws_H_layDown : List Cond := yWs m_H_layDown prog_4_method_10_code 3 none
theorem hd_H_layDown : m_H_layDown.cls = yR2 ∧ m_H_layDown.cls ≠ "java/lang/invoke/MethodHandle" ∧ m_H_layDown.cls ≠ "java/lang/invoke/VarHandle" ∧ (parseMethodDescriptor m_H_layDown.desc).map (fun d => d.parameters.length) = some 2 := ⟨rfl, by decide +kernel, by decide +kernel, by decide +kernel⟩
def m_H_liveMinute : MethodName := ⟨"WhoseGlass$House", "liveMinute", "(LWhoseGlass$Guest;)V"⟩
abbrev ws_H_liveMinute : List Cond := yWs m_H_liveMinute prog_4_method_8_code 3 none
theorem hd_H_liveMinute : m_H_liveMinute.cls = yR2 ∧ m_H_liveMinute.cls ≠ "java/lang/invoke/MethodHandle" ∧ m_H_liveMinute.cls ≠ "java/lang/invoke/VarHandle" ∧ (parseMethodDescriptor m_H_liveMinute.desc).map (fun d => d.parameters.length) = some 1 := ⟨rfl, by decide +kernel, by decide +kernel, by decide +kernel⟩
def m_H_passMinutes : MethodName := ⟨"WhoseGlass$House", "passMinutes", "(I)V"⟩
abbrev ws_H_passMinutes : List Cond := yWs m_H_passMinutes prog_4_method_7_code 5 none
theorem hd_H_passMinutes : m_H_passMinutes.cls = yR2 ∧ m_H_passMinutes.cls ≠ "java/lang/invoke/MethodHandle" ∧ m_H_passMinutes.cls ≠ "java/lang/invoke/VarHandle" ∧ (parseMethodDescriptor m_H_passMinutes.desc).map (fun d => d.parameters.length) = some 1 := ⟨rfl, by decide +kernel, by decide +kernel, by decide +kernel⟩
def m_T_digit : MethodName := ⟨"WhoseGlass$HouseText", "digit", "(LWhoseGlass$Shelf;I)I"⟩
abbrev ws_T_digit : List Cond := yWs m_T_digit prog_5_method_11_code 2 (some .int)
theorem hn_T_digit : m_T_digit.cls ≠ "java/lang/invoke/MethodHandle" ∧ m_T_digit.cls ≠ "java/lang/invoke/VarHandle" ∧ (parseMethodDescriptor m_T_digit.desc).map (fun d => d.parameters.length) = some 2 := ⟨by decide +kernel, by decide +kernel, by decide +kernel⟩
def m_X_isBelow : MethodName := ⟨"WhoseGlass", "isBelow", "(II)Z"⟩
abbrev ws_X_isBelow : List Cond := yWs m_X_isBelow prog_1_method_42_code 2 (some .boolean)
theorem hn_X_isBelow : m_X_isBelow.cls ≠ "java/lang/invoke/MethodHandle" ∧ m_X_isBelow.cls ≠ "java/lang/invoke/VarHandle" ∧ (parseMethodDescriptor m_X_isBelow.desc).map (fun d => d.parameters.length) = some 2 := ⟨by decide +kernel, by decide +kernel, by decide +kernel⟩
def m_T_glassStands : MethodName := ⟨"WhoseGlass$HouseText", "glassStands", "(LWhoseGlass$Shelf;ILWhoseGlass$House;)Z"⟩
abbrev ws_T_glassStands : List Cond := yWs m_T_glassStands prog_5_method_13_code 6 (some .boolean)
theorem hn_T_glassStands : m_T_glassStands.cls ≠ "java/lang/invoke/MethodHandle" ∧ m_T_glassStands.cls ≠ "java/lang/invoke/VarHandle" ∧ (parseMethodDescriptor m_T_glassStands.desc).map (fun d => d.parameters.length) = some 3 := ⟨by decide +kernel, by decide +kernel, by decide +kernel⟩
def m_U_begin : MethodName := ⟨"WhoseGlass$Guest", "begin", "(IIIII)V"⟩
abbrev ws_U_begin : List Cond := yWs m_U_begin prog_3_method_2_code 6 none
theorem hd_U_begin : m_U_begin.cls = yR1 ∧ m_U_begin.cls ≠ "java/lang/invoke/MethodHandle" ∧ m_U_begin.cls ≠ "java/lang/invoke/VarHandle" ∧ (parseMethodDescriptor m_U_begin.desc).map (fun d => d.parameters.length) = some 5 := ⟨rfl, by decide +kernel, by decide +kernel, by decide +kernel⟩
def m_H_addGuest : MethodName := ⟨"WhoseGlass$House", "addGuest", "(IIIII)LWhoseGlass$Guest;"⟩
abbrev ws_H_addGuest : List Cond := yWs m_H_addGuest prog_4_method_6_code 7 (some (.object "WhoseGlass$Guest"))
theorem hd_H_addGuest : m_H_addGuest.cls = yR2 ∧ m_H_addGuest.cls ≠ "java/lang/invoke/MethodHandle" ∧ m_H_addGuest.cls ≠ "java/lang/invoke/VarHandle" ∧ (parseMethodDescriptor m_H_addGuest.desc).map (fun d => d.parameters.length) = some 5 := ⟨rfl, by decide +kernel, by decide +kernel, by decide +kernel⟩
def m_T_guestEnters : MethodName := ⟨"WhoseGlass$HouseText", "guestEnters", "(LWhoseGlass$Shelf;ILWhoseGlass$House;)Z"⟩
abbrev ws_T_guestEnters : List Cond := yWs m_T_guestEnters prog_5_method_14_code 8 (some .boolean)
theorem hn_T_guestEnters : m_T_guestEnters.cls ≠ "java/lang/invoke/MethodHandle" ∧ m_T_guestEnters.cls ≠ "java/lang/invoke/VarHandle" ∧ (parseMethodDescriptor m_T_guestEnters.desc).map (fun d => d.parameters.length) = some 3 := ⟨by decide +kernel, by decide +kernel, by decide +kernel⟩
def m_G_isLaid : MethodName := ⟨"WhoseGlass$Glass", "isLaid", "()Z"⟩
abbrev ws_G_isLaid : List Cond := yWs m_G_isLaid prog_2_method_6_code 1 (some .boolean)
theorem hd_G_isLaid : m_G_isLaid.cls = yR0 ∧ m_G_isLaid.cls ≠ "java/lang/invoke/MethodHandle" ∧ m_G_isLaid.cls ≠ "java/lang/invoke/VarHandle" ∧ (parseMethodDescriptor m_G_isLaid.desc).map (fun d => d.parameters.length) = some 0 := ⟨rfl, by decide +kernel, by decide +kernel, by decide +kernel⟩
def m_T_guestHolds : MethodName := ⟨"WhoseGlass$HouseText", "guestHolds", "(LWhoseGlass$Shelf;ILWhoseGlass$House;)Z"⟩
abbrev ws_T_guestHolds : List Cond := yWs m_T_guestHolds prog_5_method_15_code 5 (some .boolean)
theorem hn_T_guestHolds : m_T_guestHolds.cls ≠ "java/lang/invoke/MethodHandle" ∧ m_T_guestHolds.cls ≠ "java/lang/invoke/VarHandle" ∧ (parseMethodDescriptor m_T_guestHolds.desc).map (fun d => d.parameters.length) = some 3 := ⟨by decide +kernel, by decide +kernel, by decide +kernel⟩
def m_T_coldTurns : MethodName := ⟨"WhoseGlass$HouseText", "coldTurns", "(LWhoseGlass$Shelf;ILWhoseGlass$House;)Z"⟩
abbrev ws_T_coldTurns : List Cond := yWs m_T_coldTurns prog_5_method_16_code 4 (some .boolean)
theorem hn_T_coldTurns : m_T_coldTurns.cls ≠ "java/lang/invoke/MethodHandle" ∧ m_T_coldTurns.cls ≠ "java/lang/invoke/VarHandle" ∧ (parseMethodDescriptor m_T_coldTurns.desc).map (fun d => d.parameters.length) = some 3 := ⟨by decide +kernel, by decide +kernel, by decide +kernel⟩
def m_T_setTray : MethodName := ⟨"WhoseGlass$HouseText", "setTray", "(LWhoseGlass$Shelf;ILWhoseGlass$House;)V"⟩
abbrev ws_T_setTray : List Cond := yWs m_T_setTray prog_5_method_17_code 5 none
theorem hn_T_setTray : m_T_setTray.cls ≠ "java/lang/invoke/MethodHandle" ∧ m_T_setTray.cls ≠ "java/lang/invoke/VarHandle" ∧ (parseMethodDescriptor m_T_setTray.desc).map (fun d => d.parameters.length) = some 3 := ⟨by decide +kernel, by decide +kernel, by decide +kernel⟩
def m_T_obeys : MethodName := ⟨"WhoseGlass$HouseText", "obeys", "(LWhoseGlass$House;LWhoseGlass$Shelf;I)Z"⟩
abbrev ws_T_obeys : List Cond := yWs m_T_obeys prog_5_method_12_code 3 (some .boolean)
theorem hn_T_obeys : m_T_obeys.cls ≠ "java/lang/invoke/MethodHandle" ∧ m_T_obeys.cls ≠ "java/lang/invoke/VarHandle" ∧ (parseMethodDescriptor m_T_obeys.desc).map (fun d => d.parameters.length) = some 3 := ⟨by decide +kernel, by decide +kernel, by decide +kernel⟩
def m_T_build : MethodName := ⟨"WhoseGlass$HouseText", "build", "(LWhoseGlass$Shelf;LWhoseGlass$House;)I"⟩
abbrev ws_T_build : List Cond := yWs m_T_build prog_5_method_4_code 4 (some .int)
theorem hn_T_build : m_T_build.cls ≠ "java/lang/invoke/MethodHandle" ∧ m_T_build.cls ≠ "java/lang/invoke/VarHandle" ∧ (parseMethodDescriptor m_T_build.desc).map (fun d => d.parameters.length) = some 2 := ⟨by decide +kernel, by decide +kernel, by decide +kernel⟩
def m_T_statementsIn : MethodName := ⟨"WhoseGlass$HouseText", "statementsIn", "(LWhoseGlass$Shelf;)I"⟩
abbrev ws_T_statementsIn : List Cond := yWs m_T_statementsIn prog_5_method_5_code 3 (some .int)
theorem hn_T_statementsIn : m_T_statementsIn.cls ≠ "java/lang/invoke/MethodHandle" ∧ m_T_statementsIn.cls ≠ "java/lang/invoke/VarHandle" ∧ (parseMethodDescriptor m_T_statementsIn.desc).map (fun d => d.parameters.length) = some 1 := ⟨by decide +kernel, by decide +kernel, by decide +kernel⟩
def m_X_house : MethodName := ⟨"WhoseGlass", "house", "(I)I"⟩
abbrev ws_X_house : List Cond := yWs m_X_house prog_1_method_2_code 5 (some .int)
theorem hd_X_house : m_X_house.cls = yR4 ∧ m_X_house.cls ≠ "java/lang/invoke/MethodHandle" ∧ m_X_house.cls ≠ "java/lang/invoke/VarHandle" ∧ (parseMethodDescriptor m_X_house.desc).map (fun d => d.parameters.length) = some 1 := ⟨rfl, by decide +kernel, by decide +kernel, by decide +kernel⟩
def m_G_told : MethodName := ⟨"WhoseGlass$Glass", "told", "(I)I"⟩
abbrev ws_G_told : List Cond := yWs m_G_told prog_2_method_7_code 2 (some .int)
theorem hd_G_told : m_G_told.cls = yR0 ∧ m_G_told.cls ≠ "java/lang/invoke/MethodHandle" ∧ m_G_told.cls ≠ "java/lang/invoke/VarHandle" ∧ (parseMethodDescriptor m_G_told.desc).map (fun d => d.parameters.length) = some 1 := ⟨rfl, by decide +kernel, by decide +kernel, by decide +kernel⟩
def m_X_glass : MethodName := ⟨"WhoseGlass", "glass", "(II)I"⟩
abbrev ws_X_glass : List Cond := yWs m_X_glass prog_1_method_3_code 4 (some .int)
theorem hd_X_glass : m_X_glass.cls = yR4 ∧ m_X_glass.cls ≠ "java/lang/invoke/MethodHandle" ∧ m_X_glass.cls ≠ "java/lang/invoke/VarHandle" ∧ (parseMethodDescriptor m_X_glass.desc).map (fun d => d.parameters.length) = some 2 := ⟨rfl, by decide +kernel, by decide +kernel, by decide +kernel⟩
def m_U_told : MethodName := ⟨"WhoseGlass$Guest", "told", "(I)I"⟩
abbrev ws_U_told : List Cond := yWs m_U_told prog_3_method_4_code 2 (some .int)
theorem hd_U_told : m_U_told.cls = yR1 ∧ m_U_told.cls ≠ "java/lang/invoke/MethodHandle" ∧ m_U_told.cls ≠ "java/lang/invoke/VarHandle" ∧ (parseMethodDescriptor m_U_told.desc).map (fun d => d.parameters.length) = some 1 := ⟨rfl, by decide +kernel, by decide +kernel, by decide +kernel⟩
def m_X_guest : MethodName := ⟨"WhoseGlass", "guest", "(II)I"⟩
abbrev ws_X_guest : List Cond := yWs m_X_guest prog_1_method_4_code 4 (some .int)
theorem hd_X_guest : m_X_guest.cls = yR4 ∧ m_X_guest.cls ≠ "java/lang/invoke/MethodHandle" ∧ m_X_guest.cls ≠ "java/lang/invoke/VarHandle" ∧ (parseMethodDescriptor m_X_guest.desc).map (fun d => d.parameters.length) = some 2 := ⟨rfl, by decide +kernel, by decide +kernel, by decide +kernel⟩
def m_X_comes : MethodName := ⟨"WhoseGlass", "comes", "(II)I"⟩
abbrev ws_X_comes : List Cond := yWs m_X_comes prog_1_method_5_code 5 (some .int)
theorem hd_X_comes : m_X_comes.cls = yR4 ∧ m_X_comes.cls ≠ "java/lang/invoke/MethodHandle" ∧ m_X_comes.cls ≠ "java/lang/invoke/VarHandle" ∧ (parseMethodDescriptor m_X_comes.desc).map (fun d => d.parameters.length) = some 2 := ⟨rfl, by decide +kernel, by decide +kernel, by decide +kernel⟩
def m_X_go : MethodName := ⟨"WhoseGlass", "go", "(II)I"⟩
abbrev ws_X_go : List Cond := yWs m_X_go prog_1_method_6_code 5 (some .int)
theorem hd_X_go : m_X_go.cls = yR4 ∧ m_X_go.cls ≠ "java/lang/invoke/MethodHandle" ∧ m_X_go.cls ≠ "java/lang/invoke/VarHandle" ∧ (parseMethodDescriptor m_X_go.desc).map (fun d => d.parameters.length) = some 2 := ⟨rfl, by decide +kernel, by decide +kernel, by decide +kernel⟩
def m_X_sip : MethodName := ⟨"WhoseGlass", "sip", "(I)I"⟩
abbrev ws_X_sip : List Cond := yWs m_X_sip prog_1_method_7_code 4 (some .int)
theorem hd_X_sip : m_X_sip.cls = yR4 ∧ m_X_sip.cls ≠ "java/lang/invoke/MethodHandle" ∧ m_X_sip.cls ≠ "java/lang/invoke/VarHandle" ∧ (parseMethodDescriptor m_X_sip.desc).map (fun d => d.parameters.length) = some 1 := ⟨rfl, by decide +kernel, by decide +kernel, by decide +kernel⟩
def m_X_lay : MethodName := ⟨"WhoseGlass", "lay", "(I)I"⟩
abbrev ws_X_lay : List Cond := yWs m_X_lay prog_1_method_8_code 4 (some .int)
theorem hd_X_lay : m_X_lay.cls = yR4 ∧ m_X_lay.cls ≠ "java/lang/invoke/MethodHandle" ∧ m_X_lay.cls ≠ "java/lang/invoke/VarHandle" ∧ (parseMethodDescriptor m_X_lay.desc).map (fun d => d.parameters.length) = some 1 := ⟨rfl, by decide +kernel, by decide +kernel, by decide +kernel⟩
def m_X_take : MethodName := ⟨"WhoseGlass", "take", "(I)I"⟩
abbrev ws_X_take : List Cond := yWs m_X_take prog_1_method_9_code 3 (some .int)
theorem hd_X_take : m_X_take.cls = yR4 ∧ m_X_take.cls ≠ "java/lang/invoke/MethodHandle" ∧ m_X_take.cls ≠ "java/lang/invoke/VarHandle" ∧ (parseMethodDescriptor m_X_take.desc).map (fun d => d.parameters.length) = some 1 := ⟨rfl, by decide +kernel, by decide +kernel, by decide +kernel⟩
def m_X_fill : MethodName := ⟨"WhoseGlass", "fill", "(I)I"⟩
abbrev ws_X_fill : List Cond := yWs m_X_fill prog_1_method_10_code 5 (some .int)
theorem hd_X_fill : m_X_fill.cls = yR4 ∧ m_X_fill.cls ≠ "java/lang/invoke/MethodHandle" ∧ m_X_fill.cls ≠ "java/lang/invoke/VarHandle" ∧ (parseMethodDescriptor m_X_fill.desc).map (fun d => d.parameters.length) = some 1 := ⟨rfl, by decide +kernel, by decide +kernel, by decide +kernel⟩
def m_G_sink : MethodName := ⟨"WhoseGlass$Glass", "sink", "()V"⟩
abbrev ws_G_sink : List Cond := yWs m_G_sink prog_2_method_5_code 1 none
theorem hd_G_sink : m_G_sink.cls = yR0 ∧ m_G_sink.cls ≠ "java/lang/invoke/MethodHandle" ∧ m_G_sink.cls ≠ "java/lang/invoke/VarHandle" ∧ (parseMethodDescriptor m_G_sink.desc).map (fun d => d.parameters.length) = some 0 := ⟨rfl, by decide +kernel, by decide +kernel, by decide +kernel⟩
def m_X_clear : MethodName := ⟨"WhoseGlass", "clear", "(II)I"⟩
abbrev ws_X_clear : List Cond := yWs m_X_clear prog_1_method_11_code 6 (some .int)
theorem hd_X_clear : m_X_clear.cls = yR4 ∧ m_X_clear.cls ≠ "java/lang/invoke/MethodHandle" ∧ m_X_clear.cls ≠ "java/lang/invoke/VarHandle" ∧ (parseMethodDescriptor m_X_clear.desc).map (fun d => d.parameters.length) = some 2 := ⟨rfl, by decide +kernel, by decide +kernel, by decide +kernel⟩
def m_X_minutes : MethodName := ⟨"WhoseGlass", "minutes", "(I)I"⟩
abbrev ws_X_minutes : List Cond := yWs m_X_minutes prog_1_method_12_code 2 (some .int)
theorem hd_X_minutes : m_X_minutes.cls = yR4 ∧ m_X_minutes.cls ≠ "java/lang/invoke/MethodHandle" ∧ m_X_minutes.cls ≠ "java/lang/invoke/VarHandle" ∧ (parseMethodDescriptor m_X_minutes.desc).map (fun d => d.parameters.length) = some 1 := ⟨rfl, by decide +kernel, by decide +kernel, by decide +kernel⟩
def m_X_like : MethodName := ⟨"WhoseGlass", "like", "(II)I"⟩
abbrev ws_X_like : List Cond := yWs m_X_like prog_1_method_13_code 5 (some .int)
theorem hd_X_like : m_X_like.cls = yR4 ∧ m_X_like.cls ≠ "java/lang/invoke/MethodHandle" ∧ m_X_like.cls ≠ "java/lang/invoke/VarHandle" ∧ (parseMethodDescriptor m_X_like.desc).map (fun d => d.parameters.length) = some 2 := ⟨rfl, by decide +kernel, by decide +kernel, by decide +kernel⟩
def m_X_mine : MethodName := ⟨"WhoseGlass", "mine", "(I)I"⟩
abbrev ws_X_mine : List Cond := yWs m_X_mine prog_1_method_14_code 3 (some .int)
theorem hd_X_mine : m_X_mine.cls = yR4 ∧ m_X_mine.cls ≠ "java/lang/invoke/MethodHandle" ∧ m_X_mine.cls ≠ "java/lang/invoke/VarHandle" ∧ (parseMethodDescriptor m_X_mine.desc).map (fun d => d.parameters.length) = some 1 := ⟨rfl, by decide +kernel, by decide +kernel, by decide +kernel⟩
def m_H_likeToAllAt : MethodName := ⟨"WhoseGlass$House", "likeToAllAt", "(LWhoseGlass$Glass;I)I"⟩
abbrev ws_H_likeToAllAt : List Cond := yWs m_H_likeToAllAt prog_4_method_13_code 6 (some .int)
theorem hd_H_likeToAllAt : m_H_likeToAllAt.cls = yR2 ∧ m_H_likeToAllAt.cls ≠ "java/lang/invoke/MethodHandle" ∧ m_H_likeToAllAt.cls ≠ "java/lang/invoke/VarHandle" ∧ (parseMethodDescriptor m_H_likeToAllAt.desc).map (fun d => d.parameters.length) = some 2 := ⟨rfl, by decide +kernel, by decide +kernel, by decide +kernel⟩
def m_X_reduced : MethodName := ⟨"WhoseGlass", "reduced", "(II)I"⟩
abbrev ws_X_reduced : List Cond := yWs m_X_reduced prog_1_method_45_code 3 (some .int)
theorem hn_X_reduced : m_X_reduced.cls ≠ "java/lang/invoke/MethodHandle" ∧ m_X_reduced.cls ≠ "java/lang/invoke/VarHandle" ∧ (parseMethodDescriptor m_X_reduced.desc).map (fun d => d.parameters.length) = some 2 := ⟨by decide +kernel, by decide +kernel, by decide +kernel⟩
def m_X_likely : MethodName := ⟨"WhoseGlass", "likely", "(III)I"⟩
abbrev ws_X_likely : List Cond := yWs m_X_likely prog_1_method_15_code 9 (some .int)
theorem hd_X_likely : m_X_likely.cls = yR4 ∧ m_X_likely.cls ≠ "java/lang/invoke/MethodHandle" ∧ m_X_likely.cls ≠ "java/lang/invoke/VarHandle" ∧ (parseMethodDescriptor m_X_likely.desc).map (fun d => d.parameters.length) = some 3 := ⟨rfl, by decide +kernel, by decide +kernel, by decide +kernel⟩
def m_H_isOwned : MethodName := ⟨"WhoseGlass$House", "isOwned", "(I)Z"⟩
abbrev ws_H_isOwned : List Cond := yWs m_H_isOwned prog_4_method_15_code 4 (some .boolean)
theorem hd_H_isOwned : m_H_isOwned.cls = yR2 ∧ m_H_isOwned.cls ≠ "java/lang/invoke/MethodHandle" ∧ m_H_isOwned.cls ≠ "java/lang/invoke/VarHandle" ∧ (parseMethodDescriptor m_H_isOwned.desc).map (fun d => d.parameters.length) = some 1 := ⟨rfl, by decide +kernel, by decide +kernel, by decide +kernel⟩
def m_H_idleAt : MethodName := ⟨"WhoseGlass$House", "idleAt", "(I)I"⟩
abbrev ws_H_idleAt : List Cond := yWs m_H_idleAt prog_4_method_14_code 5 (some .int)
theorem hd_H_idleAt : m_H_idleAt.cls = yR2 ∧ m_H_idleAt.cls ≠ "java/lang/invoke/MethodHandle" ∧ m_H_idleAt.cls ≠ "java/lang/invoke/VarHandle" ∧ (parseMethodDescriptor m_H_idleAt.desc).map (fun d => d.parameters.length) = some 1 := ⟨rfl, by decide +kernel, by decide +kernel, by decide +kernel⟩
def m_X_idle : MethodName := ⟨"WhoseGlass", "idle", "(I)I"⟩
abbrev ws_X_idle : List Cond := yWs m_X_idle prog_1_method_16_code 2 (some .int)
theorem hd_X_idle : m_X_idle.cls = yR4 ∧ m_X_idle.cls ≠ "java/lang/invoke/MethodHandle" ∧ m_X_idle.cls ≠ "java/lang/invoke/VarHandle" ∧ (parseMethodDescriptor m_X_idle.desc).map (fun d => d.parameters.length) = some 1 := ⟨rfl, by decide +kernel, by decide +kernel, by decide +kernel⟩
def m_H_oldestAt : MethodName := ⟨"WhoseGlass$House", "oldestAt", "(I)I"⟩
abbrev ws_H_oldestAt : List Cond := yWs m_H_oldestAt prog_4_method_16_code 5 (some .int)
theorem hd_H_oldestAt : m_H_oldestAt.cls = yR2 ∧ m_H_oldestAt.cls ≠ "java/lang/invoke/MethodHandle" ∧ m_H_oldestAt.cls ≠ "java/lang/invoke/VarHandle" ∧ (parseMethodDescriptor m_H_oldestAt.desc).map (fun d => d.parameters.length) = some 1 := ⟨rfl, by decide +kernel, by decide +kernel, by decide +kernel⟩
def m_X_oldest : MethodName := ⟨"WhoseGlass", "oldest", "(I)I"⟩
abbrev ws_X_oldest : List Cond := yWs m_X_oldest prog_1_method_17_code 2 (some .int)
theorem hd_X_oldest : m_X_oldest.cls = yR4 ∧ m_X_oldest.cls ≠ "java/lang/invoke/MethodHandle" ∧ m_X_oldest.cls ≠ "java/lang/invoke/VarHandle" ∧ (parseMethodDescriptor m_X_oldest.desc).map (fun d => d.parameters.length) = some 1 := ⟨rfl, by decide +kernel, by decide +kernel, by decide +kernel⟩
def m_X_isSpan : MethodName := ⟨"WhoseGlass", "isSpan", "(I)Z"⟩
abbrev ws_X_isSpan : List Cond := yWs m_X_isSpan prog_1_method_43_code 1 (some .boolean)
theorem hn_X_isSpan : m_X_isSpan.cls ≠ "java/lang/invoke/MethodHandle" ∧ m_X_isSpan.cls ≠ "java/lang/invoke/VarHandle" ∧ (parseMethodDescriptor m_X_isSpan.desc).map (fun d => d.parameters.length) = some 1 := ⟨by decide +kernel, by decide +kernel, by decide +kernel⟩
def m_X_ahead : MethodName := ⟨"WhoseGlass", "ahead", "(I)LWhoseGlass$House;"⟩
abbrev ws_X_ahead : List Cond := yWs m_X_ahead prog_1_method_46_code 2 (some (.object "WhoseGlass$House"))
theorem hd_X_ahead : m_X_ahead.cls = yR4 ∧ m_X_ahead.cls ≠ "java/lang/invoke/MethodHandle" ∧ m_X_ahead.cls ≠ "java/lang/invoke/VarHandle" ∧ (parseMethodDescriptor m_X_ahead.desc).map (fun d => d.parameters.length) = some 1 := ⟨rfl, by decide +kernel, by decide +kernel, by decide +kernel⟩
def m_X_mistakes : MethodName := ⟨"WhoseGlass", "mistakes", "(I)I"⟩
abbrev ws_X_mistakes : List Cond := yWs m_X_mistakes prog_1_method_18_code 2 (some .int)
theorem hd_X_mistakes : m_X_mistakes.cls = yR4 ∧ m_X_mistakes.cls ≠ "java/lang/invoke/MethodHandle" ∧ m_X_mistakes.cls ≠ "java/lang/invoke/VarHandle" ∧ (parseMethodDescriptor m_X_mistakes.desc).map (fun d => d.parameters.length) = some 1 := ⟨rfl, by decide +kernel, by decide +kernel, by decide +kernel⟩
def m_X_fresh : MethodName := ⟨"WhoseGlass", "fresh", "(I)I"⟩
abbrev ws_X_fresh : List Cond := yWs m_X_fresh prog_1_method_19_code 2 (some .int)
theorem hd_X_fresh : m_X_fresh.cls = yR4 ∧ m_X_fresh.cls ≠ "java/lang/invoke/MethodHandle" ∧ m_X_fresh.cls ≠ "java/lang/invoke/VarHandle" ∧ (parseMethodDescriptor m_X_fresh.desc).map (fun d => d.parameters.length) = some 1 := ⟨rfl, by decide +kernel, by decide +kernel, by decide +kernel⟩
def m_H_coldBits : MethodName := ⟨"WhoseGlass$House", "coldBits", "()I"⟩
abbrev ws_H_coldBits : List Cond := yWs m_H_coldBits prog_4_method_17_code 4 (some .int)
theorem hd_H_coldBits : m_H_coldBits.cls = yR2 ∧ m_H_coldBits.cls ≠ "java/lang/invoke/MethodHandle" ∧ m_H_coldBits.cls ≠ "java/lang/invoke/VarHandle" ∧ (parseMethodDescriptor m_H_coldBits.desc).map (fun d => d.parameters.length) = some 0 := ⟨rfl, by decide +kernel, by decide +kernel, by decide +kernel⟩
def m_X_colds : MethodName := ⟨"WhoseGlass", "colds", "(I)I"⟩
abbrev ws_X_colds : List Cond := yWs m_X_colds prog_1_method_20_code 2 (some .int)
theorem hd_X_colds : m_X_colds.cls = yR4 ∧ m_X_colds.cls ≠ "java/lang/invoke/MethodHandle" ∧ m_X_colds.cls ≠ "java/lang/invoke/VarHandle" ∧ (parseMethodDescriptor m_X_colds.desc).map (fun d => d.parameters.length) = some 1 := ⟨rfl, by decide +kernel, by decide +kernel, by decide +kernel⟩
def m_X_had : MethodName := ⟨"WhoseGlass", "had", "(II)I"⟩
abbrev ws_X_had : List Cond := yWs m_X_had prog_1_method_21_code 4 (some .int)
theorem hd_X_had : m_X_had.cls = yR4 ∧ m_X_had.cls ≠ "java/lang/invoke/MethodHandle" ∧ m_X_had.cls ≠ "java/lang/invoke/VarHandle" ∧ (parseMethodDescriptor m_X_had.desc).map (fun d => d.parameters.length) = some 2 := ⟨rfl, by decide +kernel, by decide +kernel, by decide +kernel⟩
def m_X_where : MethodName := ⟨"WhoseGlass", "where", "(II)I"⟩
abbrev ws_X_where : List Cond := yWs m_X_where prog_1_method_22_code 4 (some .int)
theorem hd_X_where : m_X_where.cls = yR4 ∧ m_X_where.cls ≠ "java/lang/invoke/MethodHandle" ∧ m_X_where.cls ≠ "java/lang/invoke/VarHandle" ∧ (parseMethodDescriptor m_X_where.desc).map (fun d => d.parameters.length) = some 2 := ⟨rfl, by decide +kernel, by decide +kernel, by decide +kernel⟩
def m_H_leaveColdTo : MethodName := ⟨"WhoseGlass$House", "leaveColdTo", "(I)V"⟩
abbrev ws_H_leaveColdTo : List Cond := yWs m_H_leaveColdTo prog_4_method_18_code 4 none
theorem hd_H_leaveColdTo : m_H_leaveColdTo.cls = yR2 ∧ m_H_leaveColdTo.cls ≠ "java/lang/invoke/MethodHandle" ∧ m_H_leaveColdTo.cls ≠ "java/lang/invoke/VarHandle" ∧ (parseMethodDescriptor m_H_leaveColdTo.desc).map (fun d => d.parameters.length) = some 1 := ⟨rfl, by decide +kernel, by decide +kernel, by decide +kernel⟩
def m_X_coldsBroughtBy : MethodName := ⟨"WhoseGlass", "coldsBroughtBy", "(II)I"⟩
abbrev ws_X_coldsBroughtBy : List Cond := yWs m_X_coldsBroughtBy prog_1_method_47_code 3 (some .int)
theorem hd_X_coldsBroughtBy : m_X_coldsBroughtBy.cls = yR4 ∧ m_X_coldsBroughtBy.cls ≠ "java/lang/invoke/MethodHandle" ∧ m_X_coldsBroughtBy.cls ≠ "java/lang/invoke/VarHandle" ∧ (parseMethodDescriptor m_X_coldsBroughtBy.desc).map (fun d => d.parameters.length) = some 2 := ⟨rfl, by decide +kernel, by decide +kernel, by decide +kernel⟩
def m_X_brought : MethodName := ⟨"WhoseGlass", "brought", "(II)I"⟩
abbrev ws_X_brought : List Cond := yWs m_X_brought prog_1_method_23_code 5 (some .int)
theorem hd_X_brought : m_X_brought.cls = yR4 ∧ m_X_brought.cls ≠ "java/lang/invoke/MethodHandle" ∧ m_X_brought.cls ≠ "java/lang/invoke/VarHandle" ∧ (parseMethodDescriptor m_X_brought.desc).map (fun d => d.parameters.length) = some 2 := ⟨rfl, by decide +kernel, by decide +kernel, by decide +kernel⟩
def m_H_careAlike : MethodName := ⟨"WhoseGlass$House", "careAlike", "(I)V"⟩
abbrev ws_H_careAlike : List Cond := yWs m_H_careAlike prog_4_method_19_code 4 none
theorem hd_H_careAlike : m_H_careAlike.cls = yR2 ∧ m_H_careAlike.cls ≠ "java/lang/invoke/MethodHandle" ∧ m_H_careAlike.cls ≠ "java/lang/invoke/VarHandle" ∧ (parseMethodDescriptor m_H_careAlike.desc).map (fun d => d.parameters.length) = some 1 := ⟨rfl, by decide +kernel, by decide +kernel, by decide +kernel⟩
def m_X_coldsByCare : MethodName := ⟨"WhoseGlass", "coldsByCare", "(II)I"⟩
abbrev ws_X_coldsByCare : List Cond := yWs m_X_coldsByCare prog_1_method_48_code 3 (some .int)
theorem hd_X_coldsByCare : m_X_coldsByCare.cls = yR4 ∧ m_X_coldsByCare.cls ≠ "java/lang/invoke/MethodHandle" ∧ m_X_coldsByCare.cls ≠ "java/lang/invoke/VarHandle" ∧ (parseMethodDescriptor m_X_coldsByCare.desc).map (fun d => d.parameters.length) = some 2 := ⟨rfl, by decide +kernel, by decide +kernel, by decide +kernel⟩
def m_X_particular : MethodName := ⟨"WhoseGlass", "particular", "(I)I"⟩
abbrev ws_X_particular : List Cond := yWs m_X_particular prog_1_method_24_code 4 (some .int)
theorem hd_X_particular : m_X_particular.cls = yR4 ∧ m_X_particular.cls ≠ "java/lang/invoke/MethodHandle" ∧ m_X_particular.cls ≠ "java/lang/invoke/VarHandle" ∧ (parseMethodDescriptor m_X_particular.desc).map (fun d => d.parameters.length) = some 1 := ⟨rfl, by decide +kernel, by decide +kernel, by decide +kernel⟩
def m_X_mistakesIfMarked : MethodName := ⟨"WhoseGlass", "mistakesIfMarked", "(II)I"⟩
abbrev ws_X_mistakesIfMarked : List Cond := yWs m_X_mistakesIfMarked prog_1_method_49_code 4 (some .int)
theorem hd_X_mistakesIfMarked : m_X_mistakesIfMarked.cls = yR4 ∧ m_X_mistakesIfMarked.cls ≠ "java/lang/invoke/MethodHandle" ∧ m_X_mistakesIfMarked.cls ≠ "java/lang/invoke/VarHandle" ∧ (parseMethodDescriptor m_X_mistakesIfMarked.desc).map (fun d => d.parameters.length) = some 2 := ⟨rfl, by decide +kernel, by decide +kernel, by decide +kernel⟩
def m_X_mark : MethodName := ⟨"WhoseGlass", "mark", "(I)I"⟩
abbrev ws_X_mark : List Cond := yWs m_X_mark prog_1_method_25_code 6 (some .int)
theorem hd_X_mark : m_X_mark.cls = yR4 ∧ m_X_mark.cls ≠ "java/lang/invoke/MethodHandle" ∧ m_X_mark.cls ≠ "java/lang/invoke/VarHandle" ∧ (parseMethodDescriptor m_X_mark.desc).map (fun d => d.parameters.length) = some 1 := ⟨rfl, by decide +kernel, by decide +kernel, by decide +kernel⟩
def m_X_freshIfLeftOut : MethodName := ⟨"WhoseGlass", "freshIfLeftOut", "(II)I"⟩
abbrev ws_X_freshIfLeftOut : List Cond := yWs m_X_freshIfLeftOut prog_1_method_50_code 3 (some .int)
theorem hd_X_freshIfLeftOut : m_X_freshIfLeftOut.cls = yR4 ∧ m_X_freshIfLeftOut.cls ≠ "java/lang/invoke/MethodHandle" ∧ m_X_freshIfLeftOut.cls ≠ "java/lang/invoke/VarHandle" ∧ (parseMethodDescriptor m_X_freshIfLeftOut.desc).map (fun d => d.parameters.length) = some 2 := ⟨rfl, by decide +kernel, by decide +kernel, by decide +kernel⟩
def m_X_close : MethodName := ⟨"WhoseGlass", "close", "(I)I"⟩
abbrev ws_X_close : List Cond := yWs m_X_close prog_1_method_26_code 6 (some .int)
theorem hd_X_close : m_X_close.cls = yR4 ∧ m_X_close.cls ≠ "java/lang/invoke/MethodHandle" ∧ m_X_close.cls ≠ "java/lang/invoke/VarHandle" ∧ (parseMethodDescriptor m_X_close.desc).map (fun d => d.parameters.length) = some 1 := ⟨rfl, by decide +kernel, by decide +kernel, by decide +kernel⟩
def m_H_soberest : MethodName := ⟨"WhoseGlass$House", "soberest", "()I"⟩
abbrev ws_H_soberest : List Cond := yWs m_H_soberest prog_4_method_20_code 4 (some .int)
theorem hd_H_soberest : m_H_soberest.cls = yR2 ∧ m_H_soberest.cls ≠ "java/lang/invoke/MethodHandle" ∧ m_H_soberest.cls ≠ "java/lang/invoke/VarHandle" ∧ (parseMethodDescriptor m_H_soberest.desc).map (fun d => d.parameters.length) = some 0 := ⟨rfl, by decide +kernel, by decide +kernel, by decide +kernel⟩
def m_X_driver : MethodName := ⟨"WhoseGlass", "driver", "(I)I"⟩
abbrev ws_X_driver : List Cond := yWs m_X_driver prog_1_method_27_code 2 (some .int)
theorem hd_X_driver : m_X_driver.cls = yR4 ∧ m_X_driver.cls ≠ "java/lang/invoke/MethodHandle" ∧ m_X_driver.cls ≠ "java/lang/invoke/VarHandle" ∧ (parseMethodDescriptor m_X_driver.desc).map (fun d => d.parameters.length) = some 1 := ⟨rfl, by decide +kernel, by decide +kernel, by decide +kernel⟩
def m_H_hasEmptyGlass : MethodName := ⟨"WhoseGlass$House", "hasEmptyGlass", "()Z"⟩
abbrev ws_H_hasEmptyGlass : List Cond := yWs m_H_hasEmptyGlass prog_4_method_21_code 3 (some .boolean)
theorem hd_H_hasEmptyGlass : m_H_hasEmptyGlass.cls = yR2 ∧ m_H_hasEmptyGlass.cls ≠ "java/lang/invoke/MethodHandle" ∧ m_H_hasEmptyGlass.cls ≠ "java/lang/invoke/VarHandle" ∧ (parseMethodDescriptor m_H_hasEmptyGlass.desc).map (fun d => d.parameters.length) = some 0 := ⟨rfl, by decide +kernel, by decide +kernel, by decide +kernel⟩
def m_X_full : MethodName := ⟨"WhoseGlass", "full", "()I"⟩
abbrev ws_X_full : List Cond := yWs m_X_full prog_1_method_28_code 2 (some .int)
theorem hd_X_full : m_X_full.cls = yR4 ∧ m_X_full.cls ≠ "java/lang/invoke/MethodHandle" ∧ m_X_full.cls ≠ "java/lang/invoke/VarHandle" ∧ (parseMethodDescriptor m_X_full.desc).map (fun d => d.parameters.length) = some 0 := ⟨rfl, by decide +kernel, by decide +kernel, by decide +kernel⟩
def m_H_scatter : MethodName := ⟨"WhoseGlass$House", "scatter", "(I)I"⟩
abbrev ws_H_scatter : List Cond := yWs m_H_scatter prog_4_method_22_code 5 (some .int)
theorem hd_H_scatter : m_H_scatter.cls = yR2 ∧ m_H_scatter.cls ≠ "java/lang/invoke/MethodHandle" ∧ m_H_scatter.cls ≠ "java/lang/invoke/VarHandle" ∧ (parseMethodDescriptor m_H_scatter.desc).map (fun d => d.parameters.length) = some 1 := ⟨rfl, by decide +kernel, by decide +kernel, by decide +kernel⟩
def m_X_seeded : MethodName := ⟨"WhoseGlass", "seeded", "(III)I"⟩
abbrev ws_X_seeded : List Cond := yWs m_X_seeded prog_1_method_29_code 6 (some .int)
theorem hd_X_seeded : m_X_seeded.cls = yR4 ∧ m_X_seeded.cls ≠ "java/lang/invoke/MethodHandle" ∧ m_X_seeded.cls ≠ "java/lang/invoke/VarHandle" ∧ (parseMethodDescriptor m_X_seeded.desc).map (fun d => d.parameters.length) = some 3 := ⟨rfl, by decide +kernel, by decide +kernel, by decide +kernel⟩
def m_S_leastNumber : MethodName := ⟨"WhoseGlass$Shelf", "leastNumber", "()I"⟩
abbrev ws_S_leastNumber : List Cond := yWs m_S_leastNumber prog_6_method_7_code 1 (some .int)
theorem hd_S_leastNumber : m_S_leastNumber.cls = yR3 ∧ m_S_leastNumber.cls ≠ "java/lang/invoke/MethodHandle" ∧ m_S_leastNumber.cls ≠ "java/lang/invoke/VarHandle" ∧ (parseMethodDescriptor m_S_leastNumber.desc).map (fun d => d.parameters.length) = some 0 := ⟨rfl, by decide +kernel, by decide +kernel, by decide +kernel⟩
def m_X_judge : MethodName := ⟨"WhoseGlass", "judge", "(II)I"⟩
abbrev ws_X_judge : List Cond := yWs m_X_judge prog_1_method_30_code 7 (some .int)
theorem hd_X_judge : m_X_judge.cls = yR4 ∧ m_X_judge.cls ≠ "java/lang/invoke/MethodHandle" ∧ m_X_judge.cls ≠ "java/lang/invoke/VarHandle" ∧ (parseMethodDescriptor m_X_judge.desc).map (fun d => d.parameters.length) = some 2 := ⟨rfl, by decide +kernel, by decide +kernel, by decide +kernel⟩
def m_X_image : MethodName := ⟨"WhoseGlass", "image", "()I"⟩
abbrev ws_X_image : List Cond := yWs m_X_image prog_1_method_31_code 1 (some .int)
theorem hd_X_image : m_X_image.cls = yR4 ∧ m_X_image.cls ≠ "java/lang/invoke/MethodHandle" ∧ m_X_image.cls ≠ "java/lang/invoke/VarHandle" ∧ (parseMethodDescriptor m_X_image.desc).map (fun d => d.parameters.length) = some 0 := ⟨rfl, by decide +kernel, by decide +kernel, by decide +kernel⟩
def m_X_restore : MethodName := ⟨"WhoseGlass", "restore", "()I"⟩
abbrev ws_X_restore : List Cond := yWs m_X_restore prog_1_method_32_code 1 (some .int)
theorem hd_X_restore : m_X_restore.cls = yR4 ∧ m_X_restore.cls ≠ "java/lang/invoke/MethodHandle" ∧ m_X_restore.cls ≠ "java/lang/invoke/VarHandle" ∧ (parseMethodDescriptor m_X_restore.desc).map (fun d => d.parameters.length) = some 0 := ⟨rfl, by decide +kernel, by decide +kernel, by decide +kernel⟩
def m_H_allFills : MethodName := ⟨"WhoseGlass$House", "allFills", "()I"⟩
abbrev ws_H_allFills : List Cond := yWs m_H_allFills prog_4_method_23_code 4 (some .int)
theorem hd_H_allFills : m_H_allFills.cls = yR2 ∧ m_H_allFills.cls ≠ "java/lang/invoke/MethodHandle" ∧ m_H_allFills.cls ≠ "java/lang/invoke/VarHandle" ∧ (parseMethodDescriptor m_H_allFills.desc).map (fun d => d.parameters.length) = some 0 := ⟨rfl, by decide +kernel, by decide +kernel, by decide +kernel⟩
def m_H_countInSink : MethodName := ⟨"WhoseGlass$House", "countInSink", "()I"⟩
abbrev ws_H_countInSink : List Cond := yWs m_H_countInSink prog_4_method_24_code 4 (some .int)
theorem hd_H_countInSink : m_H_countInSink.cls = yR2 ∧ m_H_countInSink.cls ≠ "java/lang/invoke/MethodHandle" ∧ m_H_countInSink.cls ≠ "java/lang/invoke/VarHandle" ∧ (parseMethodDescriptor m_H_countInSink.desc).map (fun d => d.parameters.length) = some 0 := ⟨rfl, by decide +kernel, by decide +kernel, by decide +kernel⟩
def m_X_count : MethodName := ⟨"WhoseGlass", "count", "(I)I"⟩
abbrev ws_X_count : List Cond := yWs m_X_count prog_1_method_33_code 2 (some .int)
theorem hd_X_count : m_X_count.cls = yR4 ∧ m_X_count.cls ≠ "java/lang/invoke/MethodHandle" ∧ m_X_count.cls ≠ "java/lang/invoke/VarHandle" ∧ (parseMethodDescriptor m_X_count.desc).map (fun d => d.parameters.length) = some 1 := ⟨rfl, by decide +kernel, by decide +kernel, by decide +kernel⟩
def m_X_keep : MethodName := ⟨"WhoseGlass", "keep", "(IIII)I"⟩
abbrev ws_X_keep : List Cond := yWs m_X_keep prog_1_method_34_code 6 (some .int)
theorem hd_X_keep : m_X_keep.cls = yR4 ∧ m_X_keep.cls ≠ "java/lang/invoke/MethodHandle" ∧ m_X_keep.cls ≠ "java/lang/invoke/VarHandle" ∧ (parseMethodDescriptor m_X_keep.desc).map (fun d => d.parameters.length) = some 4 := ⟨rfl, by decide +kernel, by decide +kernel, by decide +kernel⟩
def m_S_beginRow : MethodName := ⟨"WhoseGlass$Shelf", "beginRow", "(II)V"⟩
abbrev ws_S_beginRow : List Cond := yWs m_S_beginRow prog_6_method_3_code 4 none
theorem hd_S_beginRow : m_S_beginRow.cls = yR3 ∧ m_S_beginRow.cls ≠ "java/lang/invoke/MethodHandle" ∧ m_S_beginRow.cls ≠ "java/lang/invoke/VarHandle" ∧ (parseMethodDescriptor m_S_beginRow.desc).map (fun d => d.parameters.length) = some 2 := ⟨rfl, by decide +kernel, by decide +kernel, by decide +kernel⟩
def m_X_row : MethodName := ⟨"WhoseGlass", "row", "(III)I"⟩
abbrev ws_X_row : List Cond := yWs m_X_row prog_1_method_35_code 5 (some .int)
theorem hd_X_row : m_X_row.cls = yR4 ∧ m_X_row.cls ≠ "java/lang/invoke/MethodHandle" ∧ m_X_row.cls ≠ "java/lang/invoke/VarHandle" ∧ (parseMethodDescriptor m_X_row.desc).map (fun d => d.parameters.length) = some 3 := ⟨rfl, by decide +kernel, by decide +kernel, by decide +kernel⟩
def m_S_lowestBits : MethodName := ⟨"WhoseGlass$Shelf", "lowestBits", "(I)I"⟩
abbrev ws_S_lowestBits : List Cond := yWs m_S_lowestBits prog_6_method_6_code 2 (some .int)
theorem hd_S_lowestBits : m_S_lowestBits.cls = yR3 ∧ m_S_lowestBits.cls ≠ "java/lang/invoke/MethodHandle" ∧ m_S_lowestBits.cls ≠ "java/lang/invoke/VarHandle" ∧ (parseMethodDescriptor m_S_lowestBits.desc).map (fun d => d.parameters.length) = some 1 := ⟨rfl, by decide +kernel, by decide +kernel, by decide +kernel⟩
def m_S_set : MethodName := ⟨"WhoseGlass$Shelf", "set", "(II)V"⟩
abbrev ws_S_set : List Cond := yWs m_S_set prog_6_method_5_code 3 none
theorem hd_S_set : m_S_set.cls = yR3 ∧ m_S_set.cls ≠ "java/lang/invoke/MethodHandle" ∧ m_S_set.cls ≠ "java/lang/invoke/VarHandle" ∧ (parseMethodDescriptor m_S_set.desc).map (fun d => d.parameters.length) = some 2 := ⟨rfl, by decide +kernel, by decide +kernel, by decide +kernel⟩
def m_X_put : MethodName := ⟨"WhoseGlass", "put", "(III)I"⟩
abbrev ws_X_put : List Cond := yWs m_X_put prog_1_method_36_code 5 (some .int)
theorem hd_X_put : m_X_put.cls = yR4 ∧ m_X_put.cls ≠ "java/lang/invoke/MethodHandle" ∧ m_X_put.cls ≠ "java/lang/invoke/VarHandle" ∧ (parseMethodDescriptor m_X_put.desc).map (fun d => d.parameters.length) = some 3 := ⟨rfl, by decide +kernel, by decide +kernel, by decide +kernel⟩
def m_S_hasStretch : MethodName := ⟨"WhoseGlass$Shelf", "hasStretch", "(II)Z"⟩
abbrev ws_S_hasStretch : List Cond := yWs m_S_hasStretch prog_6_method_8_code 3 (some .boolean)
theorem hd_S_hasStretch : m_S_hasStretch.cls = yR3 ∧ m_S_hasStretch.cls ≠ "java/lang/invoke/MethodHandle" ∧ m_S_hasStretch.cls ≠ "java/lang/invoke/VarHandle" ∧ (parseMethodDescriptor m_S_hasStretch.desc).map (fun d => d.parameters.length) = some 2 := ⟨rfl, by decide +kernel, by decide +kernel, by decide +kernel⟩
def m_X_copy : MethodName := ⟨"WhoseGlass", "copy", "(IIIII)I"⟩
abbrev ws_X_copy : List Cond := yWs m_X_copy prog_1_method_38_code 8 (some .int)
theorem hd_X_copy : m_X_copy.cls = yR4 ∧ m_X_copy.cls ≠ "java/lang/invoke/MethodHandle" ∧ m_X_copy.cls ≠ "java/lang/invoke/VarHandle" ∧ (parseMethodDescriptor m_X_copy.desc).map (fun d => d.parameters.length) = some 5 := ⟨rfl, by decide +kernel, by decide +kernel, by decide +kernel⟩
def m_S_glassCost : MethodName := ⟨"WhoseGlass$Shelf", "glassCost", "()I"⟩
abbrev ws_S_glassCost : List Cond := yWs m_S_glassCost prog_6_method_9_code 1 (some .int)
theorem hd_S_glassCost : m_S_glassCost.cls = yR3 ∧ m_S_glassCost.cls ≠ "java/lang/invoke/MethodHandle" ∧ m_S_glassCost.cls ≠ "java/lang/invoke/VarHandle" ∧ (parseMethodDescriptor m_S_glassCost.desc).map (fun d => d.parameters.length) = some 0 := ⟨rfl, by decide +kernel, by decide +kernel, by decide +kernel⟩
def m_X_cost : MethodName := ⟨"WhoseGlass", "cost", "(I)I"⟩
abbrev ws_X_cost : List Cond := yWs m_X_cost prog_1_method_39_code 3 (some .int)
theorem hd_X_cost : m_X_cost.cls = yR4 ∧ m_X_cost.cls ≠ "java/lang/invoke/MethodHandle" ∧ m_X_cost.cls ≠ "java/lang/invoke/VarHandle" ∧ (parseMethodDescriptor m_X_cost.desc).map (fun d => d.parameters.length) = some 1 := ⟨rfl, by decide +kernel, by decide +kernel, by decide +kernel⟩
def m_M_thrown : MethodName := ⟨"WhoseGlassModel", "thrown", "()I"⟩
abbrev ws_M_thrown : List Cond := yWs m_M_thrown prog_8_method_2_code 1 (some .int)
theorem hd_M_thrown : m_M_thrown.cls = yR5 ∧ m_M_thrown.cls ≠ "java/lang/invoke/MethodHandle" ∧ m_M_thrown.cls ≠ "java/lang/invoke/VarHandle" ∧ (parseMethodDescriptor m_M_thrown.desc).map (fun d => d.parameters.length) = some 0 := ⟨rfl, by decide +kernel, by decide +kernel, by decide +kernel⟩
def m_M_carry : MethodName := ⟨"WhoseGlassModel", "carry", "(I)I"⟩
abbrev ws_M_carry : List Cond := yWs m_M_carry prog_8_method_23_code 2 (some .int)
theorem hd_M_carry : m_M_carry.cls = yR5 ∧ m_M_carry.cls ≠ "java/lang/invoke/MethodHandle" ∧ m_M_carry.cls ≠ "java/lang/invoke/VarHandle" ∧ (parseMethodDescriptor m_M_carry.desc).map (fun d => d.parameters.length) = some 1 := ⟨rfl, by decide +kernel, by decide +kernel, by decide +kernel⟩
def m_M_carryAll : MethodName := ⟨"WhoseGlassModel", "carryAll", "([IZ)V"⟩
abbrev ws_M_carryAll : List Cond := yWs m_M_carryAll prog_8_method_24_code 4 none
theorem hd_M_carryAll : m_M_carryAll.cls = yR5 ∧ m_M_carryAll.cls ≠ "java/lang/invoke/MethodHandle" ∧ m_M_carryAll.cls ≠ "java/lang/invoke/VarHandle" ∧ (parseMethodDescriptor m_M_carryAll.desc).map (fun d => d.parameters.length) = some 2 := ⟨rfl, by decide +kernel, by decide +kernel, by decide +kernel⟩
def m_M_image : MethodName := ⟨"WhoseGlassModel", "image", "()I"⟩
abbrev ws_M_image : List Cond := yWs m_M_image prog_8_method_28_code 1 (some .int)
theorem hd_M_image : m_M_image.cls = yR5 ∧ m_M_image.cls ≠ "java/lang/invoke/MethodHandle" ∧ m_M_image.cls ≠ "java/lang/invoke/VarHandle" ∧ (parseMethodDescriptor m_M_image.desc).map (fun d => d.parameters.length) = some 0 := ⟨rfl, by decide +kernel, by decide +kernel, by decide +kernel⟩
def m_M_restore : MethodName := ⟨"WhoseGlassModel", "restore", "()I"⟩
abbrev ws_M_restore : List Cond := yWs m_M_restore prog_8_method_29_code 1 (some .int)
theorem hd_M_restore : m_M_restore.cls = yR5 ∧ m_M_restore.cls ≠ "java/lang/invoke/MethodHandle" ∧ m_M_restore.cls ≠ "java/lang/invoke/VarHandle" ∧ (parseMethodDescriptor m_M_restore.desc).map (fun d => d.parameters.length) = some 0 := ⟨rfl, by decide +kernel, by decide +kernel, by decide +kernel⟩
def m_M_in : MethodName := ⟨"WhoseGlassModel", "in", "(JJJ)Z"⟩
abbrev ws_M_in : List Cond := yWs m_M_in prog_8_method_3_code 6 (some .boolean)
theorem hn_M_in : m_M_in.cls ≠ "java/lang/invoke/MethodHandle" ∧ m_M_in.cls ≠ "java/lang/invoke/VarHandle" ∧ (parseMethodDescriptor m_M_in.desc).map (fun d => d.parameters.length) = some 3 := ⟨by decide +kernel, by decide +kernel, by decide +kernel⟩
def m_M_wrongRow : MethodName := ⟨"WhoseGlassModel", "wrongRow", "(I)I"⟩
abbrev ws_M_wrongRow : List Cond := yWs m_M_wrongRow prog_8_method_78_code 2 (some .int)
theorem hd_M_wrongRow : m_M_wrongRow.cls = yR5 ∧ m_M_wrongRow.cls ≠ "java/lang/invoke/MethodHandle" ∧ m_M_wrongRow.cls ≠ "java/lang/invoke/VarHandle" ∧ (parseMethodDescriptor m_M_wrongRow.desc).map (fun d => d.parameters.length) = some 1 := ⟨rfl, by decide +kernel, by decide +kernel, by decide +kernel⟩
def m_M_wrongSort : MethodName := ⟨"WhoseGlassModel", "wrongSort", "(II)I"⟩
abbrev ws_M_wrongSort : List Cond := yWs m_M_wrongSort prog_8_method_76_code 3 (some .int)
theorem hd_M_wrongSort : m_M_wrongSort.cls = yR5 ∧ m_M_wrongSort.cls ≠ "java/lang/invoke/MethodHandle" ∧ m_M_wrongSort.cls ≠ "java/lang/invoke/VarHandle" ∧ (parseMethodDescriptor m_M_wrongSort.desc).map (fun d => d.parameters.length) = some 2 := ⟨rfl, by decide +kernel, by decide +kernel, by decide +kernel⟩
def m_M_here : MethodName := ⟨"WhoseGlassModel", "here", "()I"⟩
abbrev ws_M_here : List Cond := yWs m_M_here prog_8_method_30_code 1 (some .int)
theorem hd_M_here : m_M_here.cls = yR5 ∧ m_M_here.cls ≠ "java/lang/invoke/MethodHandle" ∧ m_M_here.cls ≠ "java/lang/invoke/VarHandle" ∧ (parseMethodDescriptor m_M_here.desc).map (fun d => d.parameters.length) = some 0 := ⟨rfl, by decide +kernel, by decide +kernel, by decide +kernel⟩
def m_M_readDigit : MethodName := ⟨"WhoseGlassModel", "readDigit", "()I"⟩
abbrev ws_M_readDigit : List Cond := yWs m_M_readDigit prog_8_method_31_code 1 (some .int)
theorem hd_M_readDigit : m_M_readDigit.cls = yR5 ∧ m_M_readDigit.cls ≠ "java/lang/invoke/MethodHandle" ∧ m_M_readDigit.cls ≠ "java/lang/invoke/VarHandle" ∧ (parseMethodDescriptor m_M_readDigit.desc).map (fun d => d.parameters.length) = some 0 := ⟨rfl, by decide +kernel, by decide +kernel, by decide +kernel⟩
def m_M_readTwo : MethodName := ⟨"WhoseGlassModel", "readTwo", "()I"⟩
abbrev ws_M_readTwo : List Cond := yWs m_M_readTwo prog_8_method_32_code 2 (some .int)
theorem hd_M_readTwo : m_M_readTwo.cls = yR5 ∧ m_M_readTwo.cls ≠ "java/lang/invoke/MethodHandle" ∧ m_M_readTwo.cls ≠ "java/lang/invoke/VarHandle" ∧ (parseMethodDescriptor m_M_readTwo.desc).map (fun d => d.parameters.length) = some 0 := ⟨rfl, by decide +kernel, by decide +kernel, by decide +kernel⟩
def m_M_readStatement : MethodName := ⟨"WhoseGlassModel", "readStatement", "()V"⟩
abbrev ws_M_readStatement : List Cond := yWs m_M_readStatement prog_8_method_33_code 5 none
theorem hd_M_readStatement : m_M_readStatement.cls = yR5 ∧ m_M_readStatement.cls ≠ "java/lang/invoke/MethodHandle" ∧ m_M_readStatement.cls ≠ "java/lang/invoke/VarHandle" ∧ (parseMethodDescriptor m_M_readStatement.desc).map (fun d => d.parameters.length) = some 0 := ⟨rfl, by decide +kernel, by decide +kernel, by decide +kernel⟩
def m_M_open : MethodName := ⟨"WhoseGlassModel", "open", "()V"⟩
abbrev ws_M_open : List Cond := yWs m_M_open prog_8_method_25_code 1 none
theorem hd_M_open : m_M_open.cls = yR5 ∧ m_M_open.cls ≠ "java/lang/invoke/MethodHandle" ∧ m_M_open.cls ≠ "java/lang/invoke/VarHandle" ∧ (parseMethodDescriptor m_M_open.desc).map (fun d => d.parameters.length) = some 0 := ⟨rfl, by decide +kernel, by decide +kernel, by decide +kernel⟩
def m_M_bring : MethodName := ⟨"WhoseGlassModel", "bring", "(IIII)I"⟩
abbrev ws_M_bring : List Cond := yWs m_M_bring prog_8_method_17_code 6 (some .int)
theorem hd_M_bring : m_M_bring.cls = yR5 ∧ m_M_bring.cls ≠ "java/lang/invoke/MethodHandle" ∧ m_M_bring.cls ≠ "java/lang/invoke/VarHandle" ∧ (parseMethodDescriptor m_M_bring.desc).map (fun d => d.parameters.length) = some 4 := ⟨rfl, by decide +kernel, by decide +kernel, by decide +kernel⟩
def m_M_glassComes : MethodName := ⟨"WhoseGlassModel", "glassComes", "(I)Z"⟩
abbrev ws_M_glassComes : List Cond := yWs m_M_glassComes prog_8_method_34_code 3 (some .boolean)
theorem hd_M_glassComes : m_M_glassComes.cls = yR5 ∧ m_M_glassComes.cls ≠ "java/lang/invoke/MethodHandle" ∧ m_M_glassComes.cls ≠ "java/lang/invoke/VarHandle" ∧ (parseMethodDescriptor m_M_glassComes.desc).map (fun d => d.parameters.length) = some 1 := ⟨rfl, by decide +kernel, by decide +kernel, by decide +kernel⟩
def m_M_guestComes : MethodName := ⟨"WhoseGlassModel", "guestComes", "(I)Z"⟩
abbrev ws_M_guestComes : List Cond := yWs m_M_guestComes prog_8_method_35_code 3 (some .boolean)
theorem hd_M_guestComes : m_M_guestComes.cls = yR5 ∧ m_M_guestComes.cls ≠ "java/lang/invoke/MethodHandle" ∧ m_M_guestComes.cls ≠ "java/lang/invoke/VarHandle" ∧ (parseMethodDescriptor m_M_guestComes.desc).map (fun d => d.parameters.length) = some 1 := ⟨rfl, by decide +kernel, by decide +kernel, by decide +kernel⟩
def m_M_isGuest : MethodName := ⟨"WhoseGlassModel", "isGuest", "(I)Z"⟩
abbrev ws_M_isGuest : List Cond := yWs m_M_isGuest prog_8_method_5_code 2 (some .boolean)
theorem hd_M_isGuest : m_M_isGuest.cls = yR5 ∧ m_M_isGuest.cls ≠ "java/lang/invoke/MethodHandle" ∧ m_M_isGuest.cls ≠ "java/lang/invoke/VarHandle" ∧ (parseMethodDescriptor m_M_isGuest.desc).map (fun d => d.parameters.length) = some 1 := ⟨rfl, by decide +kernel, by decide +kernel, by decide +kernel⟩
def m_M_isGlass : MethodName := ⟨"WhoseGlassModel", "isGlass", "(I)Z"⟩
abbrev ws_M_isGlass : List Cond := yWs m_M_isGlass prog_8_method_4_code 2 (some .boolean)
theorem hd_M_isGlass : m_M_isGlass.cls = yR5 ∧ m_M_isGlass.cls ≠ "java/lang/invoke/MethodHandle" ∧ m_M_isGlass.cls ≠ "java/lang/invoke/VarHandle" ∧ (parseMethodDescriptor m_M_isGlass.desc).map (fun d => d.parameters.length) = some 1 := ⟨rfl, by decide +kernel, by decide +kernel, by decide +kernel⟩
def m_M_hold : MethodName := ⟨"WhoseGlassModel", "hold", "(II)V"⟩
abbrev ws_M_hold : List Cond := yWs m_M_hold prog_8_method_18_code 3 none
theorem hd_M_hold : m_M_hold.cls = yR5 ∧ m_M_hold.cls ≠ "java/lang/invoke/MethodHandle" ∧ m_M_hold.cls ≠ "java/lang/invoke/VarHandle" ∧ (parseMethodDescriptor m_M_hold.desc).map (fun d => d.parameters.length) = some 2 := ⟨rfl, by decide +kernel, by decide +kernel, by decide +kernel⟩
def m_M_holdComes : MethodName := ⟨"WhoseGlassModel", "holdComes", "(II)Z"⟩
abbrev ws_M_holdComes : List Cond := yWs m_M_holdComes prog_8_method_36_code 4 (some .boolean)
theorem hd_M_holdComes : m_M_holdComes.cls = yR5 ∧ m_M_holdComes.cls ≠ "java/lang/invoke/MethodHandle" ∧ m_M_holdComes.cls ≠ "java/lang/invoke/VarHandle" ∧ (parseMethodDescriptor m_M_holdComes.desc).map (fun d => d.parameters.length) = some 2 := ⟨rfl, by decide +kernel, by decide +kernel, by decide +kernel⟩
def m_M_goOn : MethodName := ⟨"WhoseGlassModel", "goOn", "(I)V"⟩
abbrev ws_M_goOn : List Cond := yWs m_M_goOn prog_8_method_20_code 3 none
theorem hd_M_goOn : m_M_goOn.cls = yR5 ∧ m_M_goOn.cls ≠ "java/lang/invoke/MethodHandle" ∧ m_M_goOn.cls ≠ "java/lang/invoke/VarHandle" ∧ (parseMethodDescriptor m_M_goOn.desc).map (fun d => d.parameters.length) = some 1 := ⟨rfl, by decide +kernel, by decide +kernel, by decide +kernel⟩
def m_M_plainly : MethodName := ⟨"WhoseGlassModel", "plainly", "(II)I"⟩
abbrev ws_M_plainly : List Cond := yWs m_M_plainly prog_8_method_8_code 3 (some .int)
theorem hd_M_plainly : m_M_plainly.cls = yR5 ∧ m_M_plainly.cls ≠ "java/lang/invoke/MethodHandle" ∧ m_M_plainly.cls ≠ "java/lang/invoke/VarHandle" ∧ (parseMethodDescriptor m_M_plainly.desc).map (fun d => d.parameters.length) = some 2 := ⟨rfl, by decide +kernel, by decide +kernel, by decide +kernel⟩
def m_M_tally : MethodName := ⟨"WhoseGlassModel", "tally", "(II)I"⟩
abbrev ws_M_tally : List Cond := yWs m_M_tally prog_8_method_10_code 3 (some .int)
theorem hd_M_tally : m_M_tally.cls = yR5 ∧ m_M_tally.cls ≠ "java/lang/invoke/MethodHandle" ∧ m_M_tally.cls ≠ "java/lang/invoke/VarHandle" ∧ (parseMethodDescriptor m_M_tally.desc).map (fun d => d.parameters.length) = some 2 := ⟨rfl, by decide +kernel, by decide +kernel, by decide +kernel⟩
def m_M_redly : MethodName := ⟨"WhoseGlassModel", "redly", "(II)I"⟩
abbrev ws_M_redly : List Cond := yWs m_M_redly prog_8_method_9_code 4 (some .int)
theorem hd_M_redly : m_M_redly.cls = yR5 ∧ m_M_redly.cls ≠ "java/lang/invoke/MethodHandle" ∧ m_M_redly.cls ≠ "java/lang/invoke/VarHandle" ∧ (parseMethodDescriptor m_M_redly.desc).map (fun d => d.parameters.length) = some 2 := ⟨rfl, by decide +kernel, by decide +kernel, by decide +kernel⟩
def m_M_likeOf : MethodName := ⟨"WhoseGlassModel", "likeOf", "(II)I"⟩
abbrev ws_M_likeOf : List Cond := yWs m_M_likeOf prog_8_method_11_code 3 (some .int)
theorem hd_M_likeOf : m_M_likeOf.cls = yR5 ∧ m_M_likeOf.cls ≠ "java/lang/invoke/MethodHandle" ∧ m_M_likeOf.cls ≠ "java/lang/invoke/VarHandle" ∧ (parseMethodDescriptor m_M_likeOf.desc).map (fun d => d.parameters.length) = some 2 := ⟨rfl, by decide +kernel, by decide +kernel, by decide +kernel⟩
def m_M_isLater : MethodName := ⟨"WhoseGlassModel", "isLater", "(II)Z"⟩
abbrev ws_M_isLater : List Cond := yWs m_M_isLater prog_8_method_15_code 3 (some .boolean)
theorem hd_M_isLater : m_M_isLater.cls = yR5 ∧ m_M_isLater.cls ≠ "java/lang/invoke/MethodHandle" ∧ m_M_isLater.cls ≠ "java/lang/invoke/VarHandle" ∧ (parseMethodDescriptor m_M_isLater.desc).map (fun d => d.parameters.length) = some 2 := ⟨rfl, by decide +kernel, by decide +kernel, by decide +kernel⟩
def m_M_wouldTake : MethodName := ⟨"WhoseGlassModel", "wouldTake", "(I)I"⟩
abbrev ws_M_wouldTake : List Cond := yWs m_M_wouldTake prog_8_method_16_code 9 (some .int)
theorem hd_M_wouldTake : m_M_wouldTake.cls = yR5 ∧ m_M_wouldTake.cls ≠ "java/lang/invoke/MethodHandle" ∧ m_M_wouldTake.cls ≠ "java/lang/invoke/VarHandle" ∧ (parseMethodDescriptor m_M_wouldTake.desc).map (fun d => d.parameters.length) = some 1 := ⟨rfl, by decide +kernel, by decide +kernel, by decide +kernel⟩
def m_M_takeOne : MethodName := ⟨"WhoseGlassModel", "takeOne", "(I)I"⟩
abbrev ws_M_takeOne : List Cond := yWs m_M_takeOne prog_8_method_19_code 3 (some .int)
theorem hd_M_takeOne : m_M_takeOne.cls = yR5 ∧ m_M_takeOne.cls ≠ "java/lang/invoke/MethodHandle" ∧ m_M_takeOne.cls ≠ "java/lang/invoke/VarHandle" ∧ (parseMethodDescriptor m_M_takeOne.desc).map (fun d => d.parameters.length) = some 1 := ⟨rfl, by decide +kernel, by decide +kernel, by decide +kernel⟩
def m_M_strengthOf : MethodName := ⟨"WhoseGlassModel", "strengthOf", "(I)I"⟩
abbrev ws_M_strengthOf : List Cond := yWs m_M_strengthOf prog_8_method_12_code 2 (some .int)
theorem hd_M_strengthOf : m_M_strengthOf.cls = yR5 ∧ m_M_strengthOf.cls ≠ "java/lang/invoke/MethodHandle" ∧ m_M_strengthOf.cls ≠ "java/lang/invoke/VarHandle" ∧ (parseMethodDescriptor m_M_strengthOf.desc).map (fun d => d.parameters.length) = some 1 := ⟨rfl, by decide +kernel, by decide +kernel, by decide +kernel⟩
def m_M_sipOne : MethodName := ⟨"WhoseGlassModel", "sipOne", "(I)I"⟩
abbrev ws_M_sipOne : List Cond := yWs m_M_sipOne prog_8_method_13_code 4 (some .int)
theorem hd_M_sipOne : m_M_sipOne.cls = yR5 ∧ m_M_sipOne.cls ≠ "java/lang/invoke/MethodHandle" ∧ m_M_sipOne.cls ≠ "java/lang/invoke/VarHandle" ∧ (parseMethodDescriptor m_M_sipOne.desc).map (fun d => d.parameters.length) = some 1 := ⟨rfl, by decide +kernel, by decide +kernel, by decide +kernel⟩
def m_M_layOne : MethodName := ⟨"WhoseGlassModel", "layOne", "(I)I"⟩
abbrev ws_M_layOne : List Cond := yWs m_M_layOne prog_8_method_14_code 3 (some .int)
theorem hd_M_layOne : m_M_layOne.cls = yR5 ∧ m_M_layOne.cls ≠ "java/lang/invoke/MethodHandle" ∧ m_M_layOne.cls ≠ "java/lang/invoke/VarHandle" ∧ (parseMethodDescriptor m_M_layOne.desc).map (fun d => d.parameters.length) = some 1 := ⟨rfl, by decide +kernel, by decide +kernel, by decide +kernel⟩
def m_M_guestOn : MethodName := ⟨"WhoseGlassModel", "guestOn", "(I)V"⟩
abbrev ws_M_guestOn : List Cond := yWs m_M_guestOn prog_8_method_21_code 2 none
theorem hd_M_guestOn : m_M_guestOn.cls = yR5 ∧ m_M_guestOn.cls ≠ "java/lang/invoke/MethodHandle" ∧ m_M_guestOn.cls ≠ "java/lang/invoke/VarHandle" ∧ (parseMethodDescriptor m_M_guestOn.desc).map (fun d => d.parameters.length) = some 1 := ⟨rfl, by decide +kernel, by decide +kernel, by decide +kernel⟩
def m_M_minuteOn : MethodName := ⟨"WhoseGlassModel", "minuteOn", "()V"⟩
abbrev ws_M_minuteOn : List Cond := yWs m_M_minuteOn prog_8_method_22_code 2 none
theorem hd_M_minuteOn : m_M_minuteOn.cls = yR5 ∧ m_M_minuteOn.cls ≠ "java/lang/invoke/MethodHandle" ∧ m_M_minuteOn.cls ≠ "java/lang/invoke/VarHandle" ∧ (parseMethodDescriptor m_M_minuteOn.desc).map (fun d => d.parameters.length) = some 0 := ⟨rfl, by decide +kernel, by decide +kernel, by decide +kernel⟩
def m_M_comesAll : MethodName := ⟨"WhoseGlassModel", "comesAll", "(I)Z"⟩
abbrev ws_M_comesAll : List Cond := yWs m_M_comesAll prog_8_method_37_code 3 (some .boolean)
theorem hd_M_comesAll : m_M_comesAll.cls = yR5 ∧ m_M_comesAll.cls ≠ "java/lang/invoke/MethodHandle" ∧ m_M_comesAll.cls ≠ "java/lang/invoke/VarHandle" ∧ (parseMethodDescriptor m_M_comesAll.desc).map (fun d => d.parameters.length) = some 1 := ⟨rfl, by decide +kernel, by decide +kernel, by decide +kernel⟩
def m_M_again : MethodName := ⟨"WhoseGlassModel", "again", "()V"⟩
abbrev ws_M_again : List Cond := yWs m_M_again prog_8_method_26_code 1 none
theorem hd_M_again : m_M_again.cls = yR5 ∧ m_M_again.cls ≠ "java/lang/invoke/MethodHandle" ∧ m_M_again.cls ≠ "java/lang/invoke/VarHandle" ∧ (parseMethodDescriptor m_M_again.desc).map (fun d => d.parameters.length) = some 0 := ⟨rfl, by decide +kernel, by decide +kernel, by decide +kernel⟩
def m_M_house : MethodName := ⟨"WhoseGlassModel", "house", "(I)I"⟩
abbrev ws_M_house : List Cond := yWs m_M_house prog_8_method_38_code 4 (some .int)
theorem hd_M_house : m_M_house.cls = yR5 ∧ m_M_house.cls ≠ "java/lang/invoke/MethodHandle" ∧ m_M_house.cls ≠ "java/lang/invoke/VarHandle" ∧ (parseMethodDescriptor m_M_house.desc).map (fun d => d.parameters.length) = some 1 := ⟨rfl, by decide +kernel, by decide +kernel, by decide +kernel⟩
def m_M_glass : MethodName := ⟨"WhoseGlassModel", "glass", "(II)I"⟩
abbrev ws_M_glass : List Cond := yWs m_M_glass prog_8_method_39_code 3 (some .int)
theorem hd_M_glass : m_M_glass.cls = yR5 ∧ m_M_glass.cls ≠ "java/lang/invoke/MethodHandle" ∧ m_M_glass.cls ≠ "java/lang/invoke/VarHandle" ∧ (parseMethodDescriptor m_M_glass.desc).map (fun d => d.parameters.length) = some 2 := ⟨rfl, by decide +kernel, by decide +kernel, by decide +kernel⟩
def m_M_guest : MethodName := ⟨"WhoseGlassModel", "guest", "(II)I"⟩
abbrev ws_M_guest : List Cond := yWs m_M_guest prog_8_method_40_code 3 (some .int)
theorem hd_M_guest : m_M_guest.cls = yR5 ∧ m_M_guest.cls ≠ "java/lang/invoke/MethodHandle" ∧ m_M_guest.cls ≠ "java/lang/invoke/VarHandle" ∧ (parseMethodDescriptor m_M_guest.desc).map (fun d => d.parameters.length) = some 2 := ⟨rfl, by decide +kernel, by decide +kernel, by decide +kernel⟩
def m_M_isPlace : MethodName := ⟨"WhoseGlassModel", "isPlace", "(I)Z"⟩
abbrev ws_M_isPlace : List Cond := yWs m_M_isPlace prog_8_method_6_code 1 (some .boolean)
theorem hn_M_isPlace : m_M_isPlace.cls ≠ "java/lang/invoke/MethodHandle" ∧ m_M_isPlace.cls ≠ "java/lang/invoke/VarHandle" ∧ (parseMethodDescriptor m_M_isPlace.desc).map (fun d => d.parameters.length) = some 1 := ⟨by decide +kernel, by decide +kernel, by decide +kernel⟩
def m_M_wrongKept : MethodName := ⟨"WhoseGlassModel", "wrongKept", "(I)I"⟩
abbrev ws_M_wrongKept : List Cond := yWs m_M_wrongKept prog_8_method_41_code 2 (some .int)
theorem hd_M_wrongKept : m_M_wrongKept.cls = yR5 ∧ m_M_wrongKept.cls ≠ "java/lang/invoke/MethodHandle" ∧ m_M_wrongKept.cls ≠ "java/lang/invoke/VarHandle" ∧ (parseMethodDescriptor m_M_wrongKept.desc).map (fun d => d.parameters.length) = some 1 := ⟨rfl, by decide +kernel, by decide +kernel, by decide +kernel⟩
def m_M_comes : MethodName := ⟨"WhoseGlassModel", "comes", "(II)I"⟩
abbrev ws_M_comes : List Cond := yWs m_M_comes prog_8_method_42_code 4 (some .int)
theorem hd_M_comes : m_M_comes.cls = yR5 ∧ m_M_comes.cls ≠ "java/lang/invoke/MethodHandle" ∧ m_M_comes.cls ≠ "java/lang/invoke/VarHandle" ∧ (parseMethodDescriptor m_M_comes.desc).map (fun d => d.parameters.length) = some 2 := ⟨rfl, by decide +kernel, by decide +kernel, by decide +kernel⟩
def m_M_go : MethodName := ⟨"WhoseGlassModel", "go", "(II)I"⟩
abbrev ws_M_go : List Cond := yWs m_M_go prog_8_method_43_code 4 (some .int)
theorem hd_M_go : m_M_go.cls = yR5 ∧ m_M_go.cls ≠ "java/lang/invoke/MethodHandle" ∧ m_M_go.cls ≠ "java/lang/invoke/VarHandle" ∧ (parseMethodDescriptor m_M_go.desc).map (fun d => d.parameters.length) = some 2 := ⟨rfl, by decide +kernel, by decide +kernel, by decide +kernel⟩
def m_M_sip : MethodName := ⟨"WhoseGlassModel", "sip", "(I)I"⟩
abbrev ws_M_sip : List Cond := yWs m_M_sip prog_8_method_44_code 2 (some .int)
theorem hd_M_sip : m_M_sip.cls = yR5 ∧ m_M_sip.cls ≠ "java/lang/invoke/MethodHandle" ∧ m_M_sip.cls ≠ "java/lang/invoke/VarHandle" ∧ (parseMethodDescriptor m_M_sip.desc).map (fun d => d.parameters.length) = some 1 := ⟨rfl, by decide +kernel, by decide +kernel, by decide +kernel⟩
def m_M_lay : MethodName := ⟨"WhoseGlassModel", "lay", "(I)I"⟩
abbrev ws_M_lay : List Cond := yWs m_M_lay prog_8_method_45_code 2 (some .int)
theorem hd_M_lay : m_M_lay.cls = yR5 ∧ m_M_lay.cls ≠ "java/lang/invoke/MethodHandle" ∧ m_M_lay.cls ≠ "java/lang/invoke/VarHandle" ∧ (parseMethodDescriptor m_M_lay.desc).map (fun d => d.parameters.length) = some 1 := ⟨rfl, by decide +kernel, by decide +kernel, by decide +kernel⟩
def m_M_take : MethodName := ⟨"WhoseGlassModel", "take", "(I)I"⟩
abbrev ws_M_take : List Cond := yWs m_M_take prog_8_method_46_code 2 (some .int)
theorem hd_M_take : m_M_take.cls = yR5 ∧ m_M_take.cls ≠ "java/lang/invoke/MethodHandle" ∧ m_M_take.cls ≠ "java/lang/invoke/VarHandle" ∧ (parseMethodDescriptor m_M_take.desc).map (fun d => d.parameters.length) = some 1 := ⟨rfl, by decide +kernel, by decide +kernel, by decide +kernel⟩
def m_M_fill : MethodName := ⟨"WhoseGlassModel", "fill", "(I)I"⟩
abbrev ws_M_fill : List Cond := yWs m_M_fill prog_8_method_47_code 5 (some .int)
theorem hd_M_fill : m_M_fill.cls = yR5 ∧ m_M_fill.cls ≠ "java/lang/invoke/MethodHandle" ∧ m_M_fill.cls ≠ "java/lang/invoke/VarHandle" ∧ (parseMethodDescriptor m_M_fill.desc).map (fun d => d.parameters.length) = some 1 := ⟨rfl, by decide +kernel, by decide +kernel, by decide +kernel⟩
def m_M_sink : MethodName := ⟨"WhoseGlassModel", "sink", "(I)V"⟩
abbrev ws_M_sink : List Cond := yWs m_M_sink prog_8_method_48_code 2 none
theorem hd_M_sink : m_M_sink.cls = yR5 ∧ m_M_sink.cls ≠ "java/lang/invoke/MethodHandle" ∧ m_M_sink.cls ≠ "java/lang/invoke/VarHandle" ∧ (parseMethodDescriptor m_M_sink.desc).map (fun d => d.parameters.length) = some 1 := ⟨rfl, by decide +kernel, by decide +kernel, by decide +kernel⟩
def m_M_clear : MethodName := ⟨"WhoseGlassModel", "clear", "(II)I"⟩
abbrev ws_M_clear : List Cond := yWs m_M_clear prog_8_method_49_code 5 (some .int)
theorem hd_M_clear : m_M_clear.cls = yR5 ∧ m_M_clear.cls ≠ "java/lang/invoke/MethodHandle" ∧ m_M_clear.cls ≠ "java/lang/invoke/VarHandle" ∧ (parseMethodDescriptor m_M_clear.desc).map (fun d => d.parameters.length) = some 2 := ⟨rfl, by decide +kernel, by decide +kernel, by decide +kernel⟩
def m_M_goThrough : MethodName := ⟨"WhoseGlassModel", "goThrough", "(I)V"⟩
abbrev ws_M_goThrough : List Cond := yWs m_M_goThrough prog_8_method_27_code 3 none
theorem hd_M_goThrough : m_M_goThrough.cls = yR5 ∧ m_M_goThrough.cls ≠ "java/lang/invoke/MethodHandle" ∧ m_M_goThrough.cls ≠ "java/lang/invoke/VarHandle" ∧ (parseMethodDescriptor m_M_goThrough.desc).map (fun d => d.parameters.length) = some 1 := ⟨rfl, by decide +kernel, by decide +kernel, by decide +kernel⟩
def m_M_minutes : MethodName := ⟨"WhoseGlassModel", "minutes", "(I)I"⟩
abbrev ws_M_minutes : List Cond := yWs m_M_minutes prog_8_method_50_code 2 (some .int)
theorem hd_M_minutes : m_M_minutes.cls = yR5 ∧ m_M_minutes.cls ≠ "java/lang/invoke/MethodHandle" ∧ m_M_minutes.cls ≠ "java/lang/invoke/VarHandle" ∧ (parseMethodDescriptor m_M_minutes.desc).map (fun d => d.parameters.length) = some 1 := ⟨rfl, by decide +kernel, by decide +kernel, by decide +kernel⟩
def m_M_like : MethodName := ⟨"WhoseGlassModel", "like", "(II)I"⟩
abbrev ws_M_like : List Cond := yWs m_M_like prog_8_method_51_code 3 (some .int)
theorem hd_M_like : m_M_like.cls = yR5 ∧ m_M_like.cls ≠ "java/lang/invoke/MethodHandle" ∧ m_M_like.cls ≠ "java/lang/invoke/VarHandle" ∧ (parseMethodDescriptor m_M_like.desc).map (fun d => d.parameters.length) = some 2 := ⟨rfl, by decide +kernel, by decide +kernel, by decide +kernel⟩
def m_M_mine : MethodName := ⟨"WhoseGlassModel", "mine", "(I)I"⟩
abbrev ws_M_mine : List Cond := yWs m_M_mine prog_8_method_52_code 2 (some .int)
theorem hd_M_mine : m_M_mine.cls = yR5 ∧ m_M_mine.cls ≠ "java/lang/invoke/MethodHandle" ∧ m_M_mine.cls ≠ "java/lang/invoke/VarHandle" ∧ (parseMethodDescriptor m_M_mine.desc).map (fun d => d.parameters.length) = some 1 := ⟨rfl, by decide +kernel, by decide +kernel, by decide +kernel⟩
def m_M_divisor : MethodName := ⟨"WhoseGlassModel", "divisor", "(II)I"⟩
abbrev ws_M_divisor : List Cond := yWs m_M_divisor prog_8_method_53_code 5 (some .int)
theorem hn_M_divisor : m_M_divisor.cls ≠ "java/lang/invoke/MethodHandle" ∧ m_M_divisor.cls ≠ "java/lang/invoke/VarHandle" ∧ (parseMethodDescriptor m_M_divisor.desc).map (fun d => d.parameters.length) = some 2 := ⟨by decide +kernel, by decide +kernel, by decide +kernel⟩
def m_M_likely : MethodName := ⟨"WhoseGlassModel", "likely", "(III)I"⟩
abbrev ws_M_likely : List Cond := yWs m_M_likely prog_8_method_54_code 7 (some .int)
theorem hd_M_likely : m_M_likely.cls = yR5 ∧ m_M_likely.cls ≠ "java/lang/invoke/MethodHandle" ∧ m_M_likely.cls ≠ "java/lang/invoke/VarHandle" ∧ (parseMethodDescriptor m_M_likely.desc).map (fun d => d.parameters.length) = some 3 := ⟨rfl, by decide +kernel, by decide +kernel, by decide +kernel⟩
def m_M_idle : MethodName := ⟨"WhoseGlassModel", "idle", "(I)I"⟩
abbrev ws_M_idle : List Cond := yWs m_M_idle prog_8_method_55_code 6 (some .int)
theorem hd_M_idle : m_M_idle.cls = yR5 ∧ m_M_idle.cls ≠ "java/lang/invoke/MethodHandle" ∧ m_M_idle.cls ≠ "java/lang/invoke/VarHandle" ∧ (parseMethodDescriptor m_M_idle.desc).map (fun d => d.parameters.length) = some 1 := ⟨rfl, by decide +kernel, by decide +kernel, by decide +kernel⟩
def m_M_oldest : MethodName := ⟨"WhoseGlassModel", "oldest", "(I)I"⟩
abbrev ws_M_oldest : List Cond := yWs m_M_oldest prog_8_method_56_code 4 (some .int)
theorem hd_M_oldest : m_M_oldest.cls = yR5 ∧ m_M_oldest.cls ≠ "java/lang/invoke/MethodHandle" ∧ m_M_oldest.cls ≠ "java/lang/invoke/VarHandle" ∧ (parseMethodDescriptor m_M_oldest.desc).map (fun d => d.parameters.length) = some 1 := ⟨rfl, by decide +kernel, by decide +kernel, by decide +kernel⟩
def m_M_isMinutes : MethodName := ⟨"WhoseGlassModel", "isMinutes", "(I)Z"⟩
abbrev ws_M_isMinutes : List Cond := yWs m_M_isMinutes prog_8_method_7_code 1 (some .boolean)
theorem hn_M_isMinutes : m_M_isMinutes.cls ≠ "java/lang/invoke/MethodHandle" ∧ m_M_isMinutes.cls ≠ "java/lang/invoke/VarHandle" ∧ (parseMethodDescriptor m_M_isMinutes.desc).map (fun d => d.parameters.length) = some 1 := ⟨by decide +kernel, by decide +kernel, by decide +kernel⟩
def m_M_mistakes : MethodName := ⟨"WhoseGlassModel", "mistakes", "(I)I"⟩
abbrev ws_M_mistakes : List Cond := yWs m_M_mistakes prog_8_method_58_code 2 (some .int)
theorem hd_M_mistakes : m_M_mistakes.cls = yR5 ∧ m_M_mistakes.cls ≠ "java/lang/invoke/MethodHandle" ∧ m_M_mistakes.cls ≠ "java/lang/invoke/VarHandle" ∧ (parseMethodDescriptor m_M_mistakes.desc).map (fun d => d.parameters.length) = some 1 := ⟨rfl, by decide +kernel, by decide +kernel, by decide +kernel⟩
def m_M_fresh : MethodName := ⟨"WhoseGlassModel", "fresh", "(I)I"⟩
abbrev ws_M_fresh : List Cond := yWs m_M_fresh prog_8_method_59_code 2 (some .int)
theorem hd_M_fresh : m_M_fresh.cls = yR5 ∧ m_M_fresh.cls ≠ "java/lang/invoke/MethodHandle" ∧ m_M_fresh.cls ≠ "java/lang/invoke/VarHandle" ∧ (parseMethodDescriptor m_M_fresh.desc).map (fun d => d.parameters.length) = some 1 := ⟨rfl, by decide +kernel, by decide +kernel, by decide +kernel⟩
def m_M_coldBits : MethodName := ⟨"WhoseGlassModel", "coldBits", "()I"⟩
abbrev ws_M_coldBits : List Cond := yWs m_M_coldBits prog_8_method_57_code 3 (some .int)
theorem hd_M_coldBits : m_M_coldBits.cls = yR5 ∧ m_M_coldBits.cls ≠ "java/lang/invoke/MethodHandle" ∧ m_M_coldBits.cls ≠ "java/lang/invoke/VarHandle" ∧ (parseMethodDescriptor m_M_coldBits.desc).map (fun d => d.parameters.length) = some 0 := ⟨rfl, by decide +kernel, by decide +kernel, by decide +kernel⟩
def m_M_colds : MethodName := ⟨"WhoseGlassModel", "colds", "(I)I"⟩
abbrev ws_M_colds : List Cond := yWs m_M_colds prog_8_method_60_code 3 (some .int)
theorem hd_M_colds : m_M_colds.cls = yR5 ∧ m_M_colds.cls ≠ "java/lang/invoke/MethodHandle" ∧ m_M_colds.cls ≠ "java/lang/invoke/VarHandle" ∧ (parseMethodDescriptor m_M_colds.desc).map (fun d => d.parameters.length) = some 1 := ⟨rfl, by decide +kernel, by decide +kernel, by decide +kernel⟩
def m_M_had : MethodName := ⟨"WhoseGlassModel", "had", "(II)I"⟩
abbrev ws_M_had : List Cond := yWs m_M_had prog_8_method_61_code 4 (some .int)
theorem hd_M_had : m_M_had.cls = yR5 ∧ m_M_had.cls ≠ "java/lang/invoke/MethodHandle" ∧ m_M_had.cls ≠ "java/lang/invoke/VarHandle" ∧ (parseMethodDescriptor m_M_had.desc).map (fun d => d.parameters.length) = some 2 := ⟨rfl, by decide +kernel, by decide +kernel, by decide +kernel⟩
def m_M_where : MethodName := ⟨"WhoseGlassModel", "where", "(II)I"⟩
abbrev ws_M_where : List Cond := yWs m_M_where prog_8_method_62_code 4 (some .int)
theorem hd_M_where : m_M_where.cls = yR5 ∧ m_M_where.cls ≠ "java/lang/invoke/MethodHandle" ∧ m_M_where.cls ≠ "java/lang/invoke/VarHandle" ∧ (parseMethodDescriptor m_M_where.desc).map (fun d => d.parameters.length) = some 2 := ⟨rfl, by decide +kernel, by decide +kernel, by decide +kernel⟩
def m_M_coldAlone : MethodName := ⟨"WhoseGlassModel", "coldAlone", "(I)V"⟩
abbrev ws_M_coldAlone : List Cond := yWs m_M_coldAlone prog_8_method_63_code 3 none
theorem hd_M_coldAlone : m_M_coldAlone.cls = yR5 ∧ m_M_coldAlone.cls ≠ "java/lang/invoke/MethodHandle" ∧ m_M_coldAlone.cls ≠ "java/lang/invoke/VarHandle" ∧ (parseMethodDescriptor m_M_coldAlone.desc).map (fun d => d.parameters.length) = some 1 := ⟨rfl, by decide +kernel, by decide +kernel, by decide +kernel⟩
def m_M_brought : MethodName := ⟨"WhoseGlassModel", "brought", "(II)I"⟩
abbrev ws_M_brought : List Cond := yWs m_M_brought prog_8_method_64_code 5 (some .int)
theorem hd_M_brought : m_M_brought.cls = yR5 ∧ m_M_brought.cls ≠ "java/lang/invoke/MethodHandle" ∧ m_M_brought.cls ≠ "java/lang/invoke/VarHandle" ∧ (parseMethodDescriptor m_M_brought.desc).map (fun d => d.parameters.length) = some 2 := ⟨rfl, by decide +kernel, by decide +kernel, by decide +kernel⟩
def m_M_particular : MethodName := ⟨"WhoseGlassModel", "particular", "(I)I"⟩
abbrev ws_M_particular : List Cond := yWs m_M_particular prog_8_method_65_code 6 (some .int)
theorem hd_M_particular : m_M_particular.cls = yR5 ∧ m_M_particular.cls ≠ "java/lang/invoke/MethodHandle" ∧ m_M_particular.cls ≠ "java/lang/invoke/VarHandle" ∧ (parseMethodDescriptor m_M_particular.desc).map (fun d => d.parameters.length) = some 1 := ⟨rfl, by decide +kernel, by decide +kernel, by decide +kernel⟩
def m_M_mark : MethodName := ⟨"WhoseGlassModel", "mark", "(I)I"⟩
abbrev ws_M_mark : List Cond := yWs m_M_mark prog_8_method_66_code 6 (some .int)
theorem hd_M_mark : m_M_mark.cls = yR5 ∧ m_M_mark.cls ≠ "java/lang/invoke/MethodHandle" ∧ m_M_mark.cls ≠ "java/lang/invoke/VarHandle" ∧ (parseMethodDescriptor m_M_mark.desc).map (fun d => d.parameters.length) = some 1 := ⟨rfl, by decide +kernel, by decide +kernel, by decide +kernel⟩
def m_M_close : MethodName := ⟨"WhoseGlassModel", "close", "(I)I"⟩
abbrev ws_M_close : List Cond := yWs m_M_close prog_8_method_67_code 5 (some .int)
theorem hd_M_close : m_M_close.cls = yR5 ∧ m_M_close.cls ≠ "java/lang/invoke/MethodHandle" ∧ m_M_close.cls ≠ "java/lang/invoke/VarHandle" ∧ (parseMethodDescriptor m_M_close.desc).map (fun d => d.parameters.length) = some 1 := ⟨rfl, by decide +kernel, by decide +kernel, by decide +kernel⟩
def m_M_driver : MethodName := ⟨"WhoseGlassModel", "driver", "(I)I"⟩
abbrev ws_M_driver : List Cond := yWs m_M_driver prog_8_method_68_code 4 (some .int)
theorem hd_M_driver : m_M_driver.cls = yR5 ∧ m_M_driver.cls ≠ "java/lang/invoke/MethodHandle" ∧ m_M_driver.cls ≠ "java/lang/invoke/VarHandle" ∧ (parseMethodDescriptor m_M_driver.desc).map (fun d => d.parameters.length) = some 1 := ⟨rfl, by decide +kernel, by decide +kernel, by decide +kernel⟩
def m_M_isSomeEmpty : MethodName := ⟨"WhoseGlassModel", "isSomeEmpty", "()Z"⟩
abbrev ws_M_isSomeEmpty : List Cond := yWs m_M_isSomeEmpty prog_8_method_69_code 3 (some .boolean)
theorem hd_M_isSomeEmpty : m_M_isSomeEmpty.cls = yR5 ∧ m_M_isSomeEmpty.cls ≠ "java/lang/invoke/MethodHandle" ∧ m_M_isSomeEmpty.cls ≠ "java/lang/invoke/VarHandle" ∧ (parseMethodDescriptor m_M_isSomeEmpty.desc).map (fun d => d.parameters.length) = some 0 := ⟨rfl, by decide +kernel, by decide +kernel, by decide +kernel⟩
def m_M_full : MethodName := ⟨"WhoseGlassModel", "full", "()I"⟩
abbrev ws_M_full : List Cond := yWs m_M_full prog_8_method_70_code 3 (some .int)
theorem hd_M_full : m_M_full.cls = yR5 ∧ m_M_full.cls ≠ "java/lang/invoke/MethodHandle" ∧ m_M_full.cls ≠ "java/lang/invoke/VarHandle" ∧ (parseMethodDescriptor m_M_full.desc).map (fun d => d.parameters.length) = some 0 := ⟨rfl, by decide +kernel, by decide +kernel, by decide +kernel⟩
def m_M_draw : MethodName := ⟨"WhoseGlassModel", "draw", "(I)I"⟩
abbrev ws_M_draw : List Cond := yWs m_M_draw prog_8_method_71_code 2 (some .int)
theorem hd_M_draw : m_M_draw.cls = yR5 ∧ m_M_draw.cls ≠ "java/lang/invoke/MethodHandle" ∧ m_M_draw.cls ≠ "java/lang/invoke/VarHandle" ∧ (parseMethodDescriptor m_M_draw.desc).map (fun d => d.parameters.length) = some 1 := ⟨rfl, by decide +kernel, by decide +kernel, by decide +kernel⟩
def m_M_seeded : MethodName := ⟨"WhoseGlassModel", "seeded", "(III)I"⟩
abbrev ws_M_seeded : List Cond := yWs m_M_seeded prog_8_method_72_code 6 (some .int)
theorem hd_M_seeded : m_M_seeded.cls = yR5 ∧ m_M_seeded.cls ≠ "java/lang/invoke/MethodHandle" ∧ m_M_seeded.cls ≠ "java/lang/invoke/VarHandle" ∧ (parseMethodDescriptor m_M_seeded.desc).map (fun d => d.parameters.length) = some 3 := ⟨rfl, by decide +kernel, by decide +kernel, by decide +kernel⟩
def m_M_skippedIn : MethodName := ⟨"WhoseGlassModel", "skippedIn", "(I)J"⟩
abbrev ws_M_skippedIn : List Cond := yWs m_M_skippedIn prog_8_method_73_code 2 (some .long)
theorem hd_M_skippedIn : m_M_skippedIn.cls = yR5 ∧ m_M_skippedIn.cls ≠ "java/lang/invoke/MethodHandle" ∧ m_M_skippedIn.cls ≠ "java/lang/invoke/VarHandle" ∧ (parseMethodDescriptor m_M_skippedIn.desc).map (fun d => d.parameters.length) = some 1 := ⟨rfl, by decide +kernel, by decide +kernel, by decide +kernel⟩
def m_M_judge : MethodName := ⟨"WhoseGlassModel", "judge", "(II)I"⟩
abbrev ws_M_judge : List Cond := yWs m_M_judge prog_8_method_74_code 8 (some .int)
theorem hd_M_judge : m_M_judge.cls = yR5 ∧ m_M_judge.cls ≠ "java/lang/invoke/MethodHandle" ∧ m_M_judge.cls ≠ "java/lang/invoke/VarHandle" ∧ (parseMethodDescriptor m_M_judge.desc).map (fun d => d.parameters.length) = some 2 := ⟨rfl, by decide +kernel, by decide +kernel, by decide +kernel⟩
def m_M_count : MethodName := ⟨"WhoseGlassModel", "count", "(I)I"⟩
abbrev ws_M_count : List Cond := yWs m_M_count prog_8_method_75_code 5 (some .int)
theorem hd_M_count : m_M_count.cls = yR5 ∧ m_M_count.cls ≠ "java/lang/invoke/MethodHandle" ∧ m_M_count.cls ≠ "java/lang/invoke/VarHandle" ∧ (parseMethodDescriptor m_M_count.desc).map (fun d => d.parameters.length) = some 1 := ⟨rfl, by decide +kernel, by decide +kernel, by decide +kernel⟩
def m_M_keep : MethodName := ⟨"WhoseGlassModel", "keep", "(IIII)I"⟩
abbrev ws_M_keep : List Cond := yWs m_M_keep prog_8_method_77_code 5 (some .int)
theorem hd_M_keep : m_M_keep.cls = yR5 ∧ m_M_keep.cls ≠ "java/lang/invoke/MethodHandle" ∧ m_M_keep.cls ≠ "java/lang/invoke/VarHandle" ∧ (parseMethodDescriptor m_M_keep.desc).map (fun d => d.parameters.length) = some 4 := ⟨rfl, by decide +kernel, by decide +kernel, by decide +kernel⟩
def m_M_row : MethodName := ⟨"WhoseGlassModel", "row", "(III)I"⟩
abbrev ws_M_row : List Cond := yWs m_M_row prog_8_method_80_code 5 (some .int)
theorem hd_M_row : m_M_row.cls = yR5 ∧ m_M_row.cls ≠ "java/lang/invoke/MethodHandle" ∧ m_M_row.cls ≠ "java/lang/invoke/VarHandle" ∧ (parseMethodDescriptor m_M_row.desc).map (fun d => d.parameters.length) = some 3 := ⟨rfl, by decide +kernel, by decide +kernel, by decide +kernel⟩
def m_M_narrowed : MethodName := ⟨"WhoseGlassModel", "narrowed", "(II)J"⟩
abbrev ws_M_narrowed : List Cond := yWs m_M_narrowed prog_8_method_79_code 2 (some .long)
theorem hn_M_narrowed : m_M_narrowed.cls ≠ "java/lang/invoke/MethodHandle" ∧ m_M_narrowed.cls ≠ "java/lang/invoke/VarHandle" ∧ (parseMethodDescriptor m_M_narrowed.desc).map (fun d => d.parameters.length) = some 2 := ⟨by decide +kernel, by decide +kernel, by decide +kernel⟩
def m_M_put : MethodName := ⟨"WhoseGlassModel", "put", "(III)I"⟩
abbrev ws_M_put : List Cond := yWs m_M_put prog_8_method_81_code 5 (some .int)
theorem hd_M_put : m_M_put.cls = yR5 ∧ m_M_put.cls ≠ "java/lang/invoke/MethodHandle" ∧ m_M_put.cls ≠ "java/lang/invoke/VarHandle" ∧ (parseMethodDescriptor m_M_put.desc).map (fun d => d.parameters.length) = some 3 := ⟨rfl, by decide +kernel, by decide +kernel, by decide +kernel⟩
def m_M_element : MethodName := ⟨"WhoseGlassModel", "element", "(II)J"⟩
abbrev ws_M_element : List Cond := yWs m_M_element prog_8_method_82_code 4 (some .long)
theorem hd_M_element : m_M_element.cls = yR5 ∧ m_M_element.cls ≠ "java/lang/invoke/MethodHandle" ∧ m_M_element.cls ≠ "java/lang/invoke/VarHandle" ∧ (parseMethodDescriptor m_M_element.desc).map (fun d => d.parameters.length) = some 2 := ⟨rfl, by decide +kernel, by decide +kernel, by decide +kernel⟩
def m_M_copy : MethodName := ⟨"WhoseGlassModel", "copy", "(IIIII)I"⟩
abbrev ws_M_copy : List Cond := yWs m_M_copy prog_8_method_83_code 7 (some .int)
theorem hd_M_copy : m_M_copy.cls = yR5 ∧ m_M_copy.cls ≠ "java/lang/invoke/MethodHandle" ∧ m_M_copy.cls ≠ "java/lang/invoke/VarHandle" ∧ (parseMethodDescriptor m_M_copy.desc).map (fun d => d.parameters.length) = some 5 := ⟨rfl, by decide +kernel, by decide +kernel, by decide +kernel⟩
def m_M_costOf : MethodName := ⟨"WhoseGlassModel", "costOf", "(II)I"⟩
abbrev ws_M_costOf : List Cond := yWs m_M_costOf prog_8_method_84_code 2 (some .int)
theorem hn_M_costOf : m_M_costOf.cls ≠ "java/lang/invoke/MethodHandle" ∧ m_M_costOf.cls ≠ "java/lang/invoke/VarHandle" ∧ (parseMethodDescriptor m_M_costOf.desc).map (fun d => d.parameters.length) = some 2 := ⟨by decide +kernel, by decide +kernel, by decide +kernel⟩
def m_M_cost : MethodName := ⟨"WhoseGlassModel", "cost", "(I)I"⟩
abbrev ws_M_cost : List Cond := yWs m_M_cost prog_8_method_85_code 2 (some .int)
theorem hd_M_cost : m_M_cost.cls = yR5 ∧ m_M_cost.cls ≠ "java/lang/invoke/MethodHandle" ∧ m_M_cost.cls ≠ "java/lang/invoke/VarHandle" ∧ (parseMethodDescriptor m_M_cost.desc).map (fun d => d.parameters.length) = some 1 := ⟨rfl, by decide +kernel, by decide +kernel, by decide +kernel⟩
def m_M_toss : MethodName := ⟨"WhoseGlassModel", "toss", "(I)I"⟩
abbrev ws_M_toss : List Cond := yWs m_M_toss prog_8_method_86_code 4 (some .int)
theorem hd_M_toss : m_M_toss.cls = yR5 ∧ m_M_toss.cls ≠ "java/lang/invoke/MethodHandle" ∧ m_M_toss.cls ≠ "java/lang/invoke/VarHandle" ∧ (parseMethodDescriptor m_M_toss.desc).map (fun d => d.parameters.length) = some 1 := ⟨rfl, by decide +kernel, by decide +kernel, by decide +kernel⟩
