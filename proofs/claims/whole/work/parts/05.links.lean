theorem tm {i : Nat} {c : Cond} (h : tables_1[i]? = some c) (g : goodWord c = true) : c ∈ ex_tb := ex_tb_mem (List.mem_append_right _ (List.mem_of_getElem? h)) g
theorem tn {i : Nat} {c : Cond} (h : tables_1[i]? = some c) : c ∈ lw_tbl := List.mem_append_right _ (List.mem_of_getElem? h)
theorem tp {i : Nat} {c : Cond} (h : (k2_sels lw_privs)[i]? = some c) (g : goodWord c = true) : c ∈ ex_tb := ex_tb_mem (List.mem_append_left _ (List.mem_of_getElem? h)) g
theorem se_Day_refuse : Cond.selects "DayBehind" ⟨"DayBehind", "refuse", "(I)I"⟩ ⟨"DayBehind", "refuse", "(I)I"⟩ ∈ ex_tb := tp (i := 0) (by decide +kernel) rfl
theorem se_Day_noEvent : Cond.selects "DayBehind" ⟨"DayBehind", "noEvent", "(I)Z"⟩ ⟨"DayBehind", "noEvent", "(I)Z"⟩ ∈ ex_tb := tp (i := 1) (by decide +kernel) rfl
theorem se_Day_noOne : Cond.selects "DayBehind" ⟨"DayBehind", "noOne", "(I)Z"⟩ ⟨"DayBehind", "noOne", "(I)Z"⟩ ∈ ex_tb := tp (i := 2) (by decide +kernel) rfl
theorem se_Day_maySet : Cond.selects "DayBehind" ⟨"DayBehind", "maySet", "(II)Z"⟩ ⟨"DayBehind", "maySet", "(II)Z"⟩ ∈ ex_tb := tp (i := 3) (by decide +kernel) rfl
theorem se_River_letCross : Cond.selects "DayBehind$River" ⟨"DayBehind$River", "letCross", "(I)V"⟩ ⟨"DayBehind$River", "letCross", "(I)V"⟩ ∈ ex_tb := tp (i := 4) (by decide +kernel) rfl
theorem se_River_spread : Cond.selects "DayBehind$River" ⟨"DayBehind$River", "spread", "(I)V"⟩ ⟨"DayBehind$River", "spread", "(I)V"⟩ ∈ ex_tb := tp (i := 5) (by decide +kernel) rfl
theorem se_River_meet : Cond.selects "DayBehind$River" ⟨"DayBehind$River", "meet", "()V"⟩ ⟨"DayBehind$River", "meet", "()V"⟩ ∈ ex_tb := tp (i := 6) (by decide +kernel) rfl
theorem se_River_meetWhatIsKnownTo : Cond.selects "DayBehind$River" ⟨"DayBehind$River", "meetWhatIsKnownTo", "(LDayBehind$One;)V"⟩ ⟨"DayBehind$River", "meetWhatIsKnownTo", "(LDayBehind$One;)V"⟩ ∈ ex_tb := tp (i := 7) (by decide +kernel) rfl
theorem se_River_befall : Cond.selects "DayBehind$River" ⟨"DayBehind$River", "befall", "(II)V"⟩ ⟨"DayBehind$River", "befall", "(II)V"⟩ ∈ ex_tb := tp (i := 8) (by decide +kernel) rfl
theorem se_Day_startTrial : Cond.selects "DayBehind" ⟨"DayBehind", "startTrial", "()V"⟩ ⟨"DayBehind", "startTrial", "()V"⟩ ∈ ex_tb := tp (i := 9) (by decide +kernel) rfl
theorem se_Day_seekClocks : Cond.selects "DayBehind" ⟨"DayBehind", "seekClocks", "(II)V"⟩ ⟨"DayBehind", "seekClocks", "(II)V"⟩ ∈ ex_tb := tp (i := 10) (by decide +kernel) rfl
theorem se_Day_startTrialByClocks : Cond.selects "DayBehind" ⟨"DayBehind", "startTrialByClocks", "(III)V"⟩ ⟨"DayBehind", "startTrialByClocks", "(III)V"⟩ ∈ ex_tb := tp (i := 11) (by decide +kernel) rfl
theorem se_Day_purseInTrial : Cond.selects "DayBehind" ⟨"DayBehind", "purseInTrial", "(II)I"⟩ ⟨"DayBehind", "purseInTrial", "(II)I"⟩ ∈ ex_tb := tp (i := 12) (by decide +kernel) rfl
theorem se_Day_metInTrial : Cond.selects "DayBehind" ⟨"DayBehind", "metInTrial", "(I)I"⟩ ⟨"DayBehind", "metInTrial", "(I)I"⟩ ∈ ex_tb := tp (i := 13) (by decide +kernel) rfl
theorem se_Text_step : Cond.selects "DayBehind$Text" ⟨"DayBehind$Text", "step", "()V"⟩ ⟨"DayBehind$Text", "step", "()V"⟩ ∈ ex_tb := tp (i := 14) (by decide +kernel) rfl
theorem se_Text_parseItem : Cond.selects "DayBehind$Text" ⟨"DayBehind$Text", "parseItem", "(LDayBehind$River;)Z"⟩ ⟨"DayBehind$Text", "parseItem", "(LDayBehind$River;)Z"⟩ ∈ ex_tb := tp (i := 15) (by decide +kernel) rfl
theorem se_Text_takes : Cond.selects "DayBehind$Text" ⟨"DayBehind$Text", "takes", "(Ljava/lang/String;)Z"⟩ ⟨"DayBehind$Text", "takes", "(Ljava/lang/String;)Z"⟩ ∈ ex_tb := tp (i := 16) (by decide +kernel) rfl
theorem se_Text_isWord : Cond.selects "DayBehind$Text" ⟨"DayBehind$Text", "isWord", "(Ljava/lang/String;)Z"⟩ ⟨"DayBehind$Text", "isWord", "(Ljava/lang/String;)Z"⟩ ∈ ex_tb := tp (i := 17) (by decide +kernel) rfl
theorem se_Text_parseToll : Cond.selects "DayBehind$Text" ⟨"DayBehind$Text", "parseToll", "(LDayBehind$River;)Z"⟩ ⟨"DayBehind$Text", "parseToll", "(LDayBehind$River;)Z"⟩ ∈ ex_tb := tp (i := 18) (by decide +kernel) rfl
theorem se_Text_takesNumber : Cond.selects "DayBehind$Text" ⟨"DayBehind$Text", "takesNumber", "(I)Z"⟩ ⟨"DayBehind$Text", "takesNumber", "(I)Z"⟩ ∈ ex_tb := tp (i := 19) (by decide +kernel) rfl
theorem se_Text_parseEvent : Cond.selects "DayBehind$Text" ⟨"DayBehind$Text", "parseEvent", "(LDayBehind$River;)Z"⟩ ⟨"DayBehind$Text", "parseEvent", "(LDayBehind$River;)Z"⟩ ∈ ex_tb := tp (i := 20) (by decide +kernel) rfl
theorem se_Text_parseOne : Cond.selects "DayBehind$Text" ⟨"DayBehind$Text", "parseOne", "(LDayBehind$River;I)Z"⟩ ⟨"DayBehind$Text", "parseOne", "(LDayBehind$River;I)Z"⟩ ∈ ex_tb := tp (i := 21) (by decide +kernel) rfl
theorem se_Day_findingOf : Cond.selects "DayBehind" ⟨"DayBehind", "findingOf", "(I)I"⟩ ⟨"DayBehind", "findingOf", "(I)I"⟩ ∈ ex_tb := tp (i := 22) (by decide +kernel) rfl
theorem se_Day_trialFits : Cond.selects "DayBehind" ⟨"DayBehind", "trialFits", "(LDayBehind$Sheet;I)Z"⟩ ⟨"DayBehind", "trialFits", "(LDayBehind$Sheet;I)Z"⟩ ∈ ex_tb := tp (i := 23) (by decide +kernel) rfl
theorem se_Mod_become : Cond.selects "DayBehindModel" ⟨"DayBehindModel", "become", "(II)I"⟩ ⟨"DayBehindModel", "become", "(II)I"⟩ ∈ ex_tb := tp (i := 24) (by decide +kernel) rfl
theorem se_Mod_finding : Cond.selects "DayBehindModel" ⟨"DayBehindModel", "finding", "(I)I"⟩ ⟨"DayBehindModel", "finding", "(I)I"⟩ ∈ ex_tb := tp (i := 25) (by decide +kernel) rfl
theorem se_Mod_happens : Cond.selects "DayBehindModel" ⟨"DayBehindModel", "happens", "(II)I"⟩ ⟨"DayBehindModel", "happens", "(II)I"⟩ ∈ ex_tb := tp (i := 26) (by decide +kernel) rfl
theorem se_Mod_isEvent : Cond.selects "DayBehindModel" ⟨"DayBehindModel", "isEvent", "(I)Z"⟩ ⟨"DayBehindModel", "isEvent", "(I)Z"⟩ ∈ ex_tb := tp (i := 27) (by decide +kernel) rfl
theorem se_Mod_eventIs : Cond.selects "DayBehindModel" ⟨"DayBehindModel", "eventIs", "(II)I"⟩ ⟨"DayBehindModel", "eventIs", "(II)I"⟩ ∈ ex_tb := tp (i := 28) (by decide +kernel) rfl
theorem se_Mod_whoKnow : Cond.selects "DayBehindModel" ⟨"DayBehindModel", "whoKnow", "(I)I"⟩ ⟨"DayBehindModel", "whoKnow", "(I)I"⟩ ∈ ex_tb := tp (i := 29) (by decide +kernel) rfl
theorem se_Mod_oneIs : Cond.selects "DayBehindModel" ⟨"DayBehindModel", "oneIs", "(II)I"⟩ ⟨"DayBehindModel", "oneIs", "(II)I"⟩ ∈ ex_tb := tp (i := 30) (by decide +kernel) rfl
theorem se_Mod_comes : Cond.selects "DayBehindModel" ⟨"DayBehindModel", "comes", "(IIIII)I"⟩ ⟨"DayBehindModel", "comes", "(IIIII)I"⟩ ∈ ex_tb := tp (i := 31) (by decide +kernel) rfl
theorem se_Mod_isOne : Cond.selects "DayBehindModel" ⟨"DayBehindModel", "isOne", "(I)Z"⟩ ⟨"DayBehindModel", "isOne", "(I)Z"⟩ ∈ ex_tb := tp (i := 32) (by decide +kernel) rfl
theorem se_Mod_maySet : Cond.selects "DayBehindModel" ⟨"DayBehindModel", "maySet", "(II)Z"⟩ ⟨"DayBehindModel", "maySet", "(II)Z"⟩ ∈ ex_tb := tp (i := 33) (by decide +kernel) rfl
theorem se_Mod_canPay : Cond.selects "DayBehindModel" ⟨"DayBehindModel", "canPay", "(I)Z"⟩ ⟨"DayBehindModel", "canPay", "(I)Z"⟩ ∈ ex_tb := tp (i := 34) (by decide +kernel) rfl
theorem se_Mod_crosses : Cond.selects "DayBehindModel" ⟨"DayBehindModel", "crosses", "(I)V"⟩ ⟨"DayBehindModel", "crosses", "(I)V"⟩ ∈ ex_tb := tp (i := 35) (by decide +kernel) rfl
theorem se_Mod_pays : Cond.selects "DayBehindModel" ⟨"DayBehindModel", "pays", "(II)V"⟩ ⟨"DayBehindModel", "pays", "(II)V"⟩ ∈ ex_tb := tp (i := 36) (by decide +kernel) rfl
theorem se_Mod_told : Cond.selects "DayBehindModel" ⟨"DayBehindModel", "told", "(II)I"⟩ ⟨"DayBehindModel", "told", "(II)I"⟩ ∈ ex_tb := tp (i := 37) (by decide +kernel) rfl
theorem se_Mod_hoursGo : Cond.selects "DayBehindModel" ⟨"DayBehindModel", "hoursGo", "(I)V"⟩ ⟨"DayBehindModel", "hoursGo", "(I)V"⟩ ∈ ex_tb := tp (i := 38) (by decide +kernel) rfl
theorem se_Mod_hour : Cond.selects "DayBehindModel" ⟨"DayBehindModel", "hour", "()V"⟩ ⟨"DayBehindModel", "hour", "()V"⟩ ∈ ex_tb := tp (i := 39) (by decide +kernel) rfl
theorem se_Mod_isThere : Cond.selects "DayBehindModel" ⟨"DayBehindModel", "isThere", "(I)Z"⟩ ⟨"DayBehindModel", "isThere", "(I)Z"⟩ ∈ ex_tb := tp (i := 40) (by decide +kernel) rfl
theorem se_Mod_tellersTell : Cond.selects "DayBehindModel" ⟨"DayBehindModel", "tellersTell", "()V"⟩ ⟨"DayBehindModel", "tellersTell", "()V"⟩ ∈ ex_tb := tp (i := 41) (by decide +kernel) rfl
theorem se_Mod_firemenMeet : Cond.selects "DayBehindModel" ⟨"DayBehindModel", "firemenMeet", "()V"⟩ ⟨"DayBehindModel", "firemenMeet", "()V"⟩ ∈ ex_tb := tp (i := 42) (by decide +kernel) rfl
theorem se_Mod_comesOn : Cond.selects "DayBehindModel" ⟨"DayBehindModel", "comesOn", "(II)V"⟩ ⟨"DayBehindModel", "comesOn", "(II)V"⟩ ∈ ex_tb := tp (i := 43) (by decide +kernel) rfl
theorem se_Mod_sumOf : Cond.selects "DayBehindModel" ⟨"DayBehindModel", "sumOf", "(I)I"⟩ ⟨"DayBehindModel", "sumOf", "(I)I"⟩ ∈ ex_tb := tp (i := 44) (by decide +kernel) rfl
theorem se_Mod_onLeft : Cond.selects "DayBehindModel" ⟨"DayBehindModel", "onLeft", "()I"⟩ ⟨"DayBehindModel", "onLeft", "()I"⟩ ∈ ex_tb := tp (i := 45) (by decide +kernel) rfl
theorem se_Mod_metNow : Cond.selects "DayBehindModel" ⟨"DayBehindModel", "metNow", "()I"⟩ ⟨"DayBehindModel", "metNow", "()I"⟩ ∈ ex_tb := tp (i := 46) (by decide +kernel) rfl
theorem se_Mod_fieldOn : Cond.selects "DayBehindModel" ⟨"DayBehindModel", "fieldOn", "(III)I"⟩ ⟨"DayBehindModel", "fieldOn", "(III)I"⟩ ∈ ex_tb := tp (i := 47) (by decide +kernel) rfl
theorem se_Mod_putBack : Cond.selects "DayBehindModel" ⟨"DayBehindModel", "putBack", "(I)I"⟩ ⟨"DayBehindModel", "putBack", "(I)I"⟩ ∈ ex_tb := tp (i := 48) (by decide +kernel) rfl
theorem se_Mod_learnsIn : Cond.selects "DayBehindModel" ⟨"DayBehindModel", "learnsIn", "(II)I"⟩ ⟨"DayBehindModel", "learnsIn", "(II)I"⟩ ∈ ex_tb := tp (i := 49) (by decide +kernel) rfl
theorem se_Mod_orNone : Cond.selects "DayBehindModel" ⟨"DayBehindModel", "orNone", "(I)I"⟩ ⟨"DayBehindModel", "orNone", "(I)I"⟩ ∈ ex_tb := tp (i := 50) (by decide +kernel) rfl
theorem se_Mod_metOn : Cond.selects "DayBehindModel" ⟨"DayBehindModel", "metOn", "(I)I"⟩ ⟨"DayBehindModel", "metOn", "(I)I"⟩ ∈ ex_tb := tp (i := 51) (by decide +kernel) rfl
theorem se_Mod_findClocks : Cond.selects "DayBehindModel" ⟨"DayBehindModel", "findClocks", "(II)I"⟩ ⟨"DayBehindModel", "findClocks", "(II)I"⟩ ∈ ex_tb := tp (i := 52) (by decide +kernel) rfl
theorem se_Mod_purseOn : Cond.selects "DayBehindModel" ⟨"DayBehindModel", "purseOn", "(II)I"⟩ ⟨"DayBehindModel", "purseOn", "(II)I"⟩ ∈ ex_tb := tp (i := 53) (by decide +kernel) rfl
theorem se_Mod_allOn : Cond.selects "DayBehindModel" ⟨"DayBehindModel", "allOn", "(I)I"⟩ ⟨"DayBehindModel", "allOn", "(I)I"⟩ ∈ ex_tb := tp (i := 54) (by decide +kernel) rfl
theorem se_Mod_bestWith : Cond.selects "DayBehindModel" ⟨"DayBehindModel", "bestWith", "(IIII)I"⟩ ⟨"DayBehindModel", "bestWith", "(IIII)I"⟩ ∈ ex_tb := tp (i := 55) (by decide +kernel) rfl
theorem se_Mod_next : Cond.selects "DayBehindModel" ⟨"DayBehindModel", "next", "()V"⟩ ⟨"DayBehindModel", "next", "()V"⟩ ∈ ex_tb := tp (i := 56) (by decide +kernel) rfl
theorem se_Mod_byteAt : Cond.selects "DayBehindModel" ⟨"DayBehindModel", "byteAt", "(I)I"⟩ ⟨"DayBehindModel", "byteAt", "(I)I"⟩ ∈ ex_tb := tp (i := 57) (by decide +kernel) rfl
theorem se_Mod_readItem : Cond.selects "DayBehindModel" ⟨"DayBehindModel", "readItem", "()V"⟩ ⟨"DayBehindModel", "readItem", "()V"⟩ ∈ ex_tb := tp (i := 58) (by decide +kernel) rfl
theorem se_Mod_kindTold : Cond.selects "DayBehindModel" ⟨"DayBehindModel", "kindTold", "()I"⟩ ⟨"DayBehindModel", "kindTold", "()I"⟩ ∈ ex_tb := tp (i := 59) (by decide +kernel) rfl
theorem se_Mod_isWord : Cond.selects "DayBehindModel" ⟨"DayBehindModel", "isWord", "(Ljava/lang/String;)Z"⟩ ⟨"DayBehindModel", "isWord", "(Ljava/lang/String;)Z"⟩ ∈ ex_tb := tp (i := 60) (by decide +kernel) rfl
theorem se_Mod_must : Cond.selects "DayBehindModel" ⟨"DayBehindModel", "must", "(Z)V"⟩ ⟨"DayBehindModel", "must", "(Z)V"⟩ ∈ ex_tb := tp (i := 61) (by decide +kernel) rfl
theorem se_Mod_isNext : Cond.selects "DayBehindModel" ⟨"DayBehindModel", "isNext", "(Ljava/lang/String;)Z"⟩ ⟨"DayBehindModel", "isNext", "(Ljava/lang/String;)Z"⟩ ∈ ex_tb := tp (i := 62) (by decide +kernel) rfl
theorem se_Mod_number : Cond.selects "DayBehindModel" ⟨"DayBehindModel", "number", "(II)I"⟩ ⟨"DayBehindModel", "number", "(II)I"⟩ ∈ ex_tb := tp (i := 63) (by decide +kernel) rfl
theorem se_Mod_item : Cond.selects "DayBehindModel" ⟨"DayBehindModel", "item", "(IIIII)V"⟩ ⟨"DayBehindModel", "item", "(IIIII)V"⟩ ∈ ex_tb := tp (i := 64) (by decide +kernel) rfl
theorem se_Mod_isSo : Cond.selects "DayBehindModel" ⟨"DayBehindModel", "isSo", "(I)I"⟩ ⟨"DayBehindModel", "isSo", "(I)I"⟩ ∈ ex_tb := tp (i := 65) (by decide +kernel) rfl
theorem se_Mod_lacks : Cond.selects "DayBehindModel" ⟨"DayBehindModel", "lacks", "(I)I"⟩ ⟨"DayBehindModel", "lacks", "(I)I"⟩ ∈ ex_tb := tp (i := 66) (by decide +kernel) rfl
theorem se_Mod_wasSo : Cond.selects "DayBehindModel" ⟨"DayBehindModel", "wasSo", "(II)Z"⟩ ⟨"DayBehindModel", "wasSo", "(II)Z"⟩ ∈ ex_tb := tp (i := 67) (by decide +kernel) rfl
theorem ii_Law : Cond.initialized "DayBehindLaw" ∈ ex_tb := tm (i := 0) (by decide +kernel) rfl
theorem ii_Day : Cond.initialized "DayBehind" ∈ ex_tb := tm (i := 1) (by decide +kernel) rfl
theorem ii_River : Cond.initialized "DayBehind$River" ∈ ex_tb := tm (i := 2) (by decide +kernel) rfl
theorem ii_One : Cond.initialized "DayBehind$One" ∈ ex_tb := tm (i := 3) (by decide +kernel) rfl
theorem ii_Event : Cond.initialized "DayBehind$Event" ∈ ex_tb := tm (i := 4) (by decide +kernel) rfl
theorem ii_Best : Cond.initialized "DayBehind$Best" ∈ ex_tb := tm (i := 5) (by decide +kernel) rfl
theorem ii_Text : Cond.initialized "DayBehind$Text" ∈ ex_tb := tm (i := 6) (by decide +kernel) rfl
theorem ii_Sheet : Cond.initialized "DayBehind$Sheet" ∈ ex_tb := tm (i := 7) (by decide +kernel) rfl
theorem ii_Mod : Cond.initialized "DayBehindModel" ∈ ex_tb := tm (i := 8) (by decide +kernel) rfl
theorem ii_Math : Cond.initialized "java/lang/Math" ∈ ex_tb := tm (i := 9) (by decide +kernel) rfl
theorem ii_Kinds : Cond.initialized "DayBehind$Kinds" ∈ ex_tb := tm (i := 10) (by decide +kernel) rfl
theorem ii_Int : Cond.initialized "java/lang/Integer" ∈ ex_tb := tm (i := 11) (by decide +kernel) rfl
theorem ii_Str : Cond.initialized "java/lang/String" ∈ ex_tb := tm (i := 12) (by decide +kernel) rfl
theorem ii_Lat : Cond.initialized "java/lang/StringLatin1" ∈ ex_tb := tm (i := 13) (by decide +kernel) rfl
theorem ii_Pre : Cond.initialized "jdk/internal/util/Preconditions" ∈ ex_tb := tm (i := 14) (by decide +kernel) rfl
theorem ii_Utf : Cond.initialized "java/lang/StringUTF16" ∈ ex_tb := tm (i := 15) (by decide +kernel) rfl
theorem ii_System : Cond.initialized "java/lang/System" ∈ ex_tb := tm (i := 16) (by decide +kernel) rfl
theorem kc_Law_7 : Cond.classLink "DayBehindLaw" (7 : Nat) "DayBehind" ∈ ex_tb := tm (i := 17) (by decide +kernel) rfl
theorem is_Day : Cond.instantiable "DayBehind" (8 : Nat) ∈ ex_tb := tm (i := 18) (by decide +kernel) rfl
theorem ml_Law_9 : Cond.methodLink "DayBehindLaw" (9 : Nat) ({ cls := "DayBehind", name := "<init>", desc := "()V" } : MethodName) ∈ ex_tb := tm (i := 19) (by decide +kernel) rfl
theorem im_Day_init : Cond.instanceMethod ({ cls := "DayBehind", name := "<init>", desc := "()V" } : MethodName) ∈ ex_tb := tm (i := 20) (by decide +kernel) rfl
theorem co_Day_init : Cond.code Y_Day_init.1 Y_Day_init.2.1 Y_Day_init.2.2.1 Y_Day_init.2.2.2 ∈ ex_tb := tm (i := 21) (by decide +kernel) rfl
theorem ml_Day_3 : Cond.methodLink "DayBehind" (3 : Nat) ({ cls := "java/lang/Object", name := "<init>", desc := "()V" } : MethodName) ∈ ex_tb := tm (i := 22) (by decide +kernel) rfl
theorem im_Obj_init : Cond.instanceMethod ({ cls := "java/lang/Object", name := "<init>", desc := "()V" } : MethodName) ∈ ex_tb := tm (i := 23) (by decide +kernel) rfl
theorem co_Obj_init : Cond.code Lib.objectInit ⟨#[0xb1]⟩ 1 none ∈ ex_tb := tm (i := 24) (by decide +kernel) rfl
theorem kc_Day_9 : Cond.classLink "DayBehind" (9 : Nat) "DayBehind$River" ∈ ex_tb := tm (i := 25) (by decide +kernel) rfl
theorem is_River : Cond.instantiable "DayBehind$River" (6 : Nat) ∈ ex_tb := tm (i := 26) (by decide +kernel) rfl
theorem ml_Day_11 : Cond.methodLink "DayBehind" (11 : Nat) ({ cls := "DayBehind$River", name := "<init>", desc := "()V" } : MethodName) ∈ ex_tb := tm (i := 27) (by decide +kernel) rfl
theorem im_River_init : Cond.instanceMethod ({ cls := "DayBehind$River", name := "<init>", desc := "()V" } : MethodName) ∈ ex_tb := tm (i := 28) (by decide +kernel) rfl
theorem co_River_init : Cond.code Y_River_init.1 Y_River_init.2.1 Y_River_init.2.2.1 Y_River_init.2.2.2 ∈ ex_tb := tm (i := 29) (by decide +kernel) rfl
theorem ml_River_3 : Cond.methodLink "DayBehind$River" (3 : Nat) ({ cls := "java/lang/Object", name := "<init>", desc := "()V" } : MethodName) ∈ ex_tb := tm (i := 30) (by decide +kernel) rfl
theorem kc_River_24 : Cond.classLink "DayBehind$River" (24 : Nat) "DayBehind$One" ∈ ex_tb := tm (i := 31) (by decide +kernel) rfl
theorem ao_One : Cond.arrayOver (FieldType.object "DayBehind$One") ∈ lw_tbl := tn (i := 32) (by decide +kernel)
theorem is_One : Cond.instantiable "DayBehind$One" (7 : Nat) ∈ ex_tb := tm (i := 33) (by decide +kernel) rfl
theorem ml_River_30 : Cond.methodLinkNest "DayBehind$River" (30 : Nat) ({ cls := "DayBehind$One", name := "<init>", desc := "()V" } : MethodName) "DayBehind" ∈ lw_tbl := tn (i := 34) (by decide +kernel)
theorem im_One_init : Cond.instanceMethod ({ cls := "DayBehind$One", name := "<init>", desc := "()V" } : MethodName) ∈ ex_tb := tm (i := 35) (by decide +kernel) rfl
theorem co_One_init : Cond.code Y_One_init.1 Y_One_init.2.1 Y_One_init.2.2.1 Y_One_init.2.2.2 ∈ ex_tb := tm (i := 36) (by decide +kernel) rfl
theorem ml_One_3 : Cond.methodLink "DayBehind$One" (3 : Nat) ({ cls := "java/lang/Object", name := "<init>", desc := "()V" } : MethodName) ∈ ex_tb := tm (i := 37) (by decide +kernel) rfl
theorem fl_One_9 : Cond.fieldLink "DayBehind$One" (9 : Nat) "DayBehind$One" "kind" "I" ∈ ex_tb := tm (i := 38) (by decide +kernel) rfl
theorem fl_Day_115 : Cond.fieldLinkNest "DayBehind" (115 : Nat) "DayBehind$One" "kind" "I" "DayBehind" ∈ lw_tbl := tn (i := 39) (by decide +kernel)
theorem fl_River_94 : Cond.fieldLinkNest "DayBehind$River" (94 : Nat) "DayBehind$One" "kind" "I" "DayBehind" ∈ lw_tbl := tn (i := 40) (by decide +kernel)
theorem fl_One_15 : Cond.fieldLink "DayBehind$One" (15 : Nat) "DayBehind$One" "bank" "I" ∈ ex_tb := tm (i := 41) (by decide +kernel) rfl
theorem fl_Day_120 : Cond.fieldLinkNest "DayBehind" (120 : Nat) "DayBehind$One" "bank" "I" "DayBehind" ∈ lw_tbl := tn (i := 42) (by decide +kernel)
theorem fl_River_81 : Cond.fieldLinkNest "DayBehind$River" (81 : Nat) "DayBehind$One" "bank" "I" "DayBehind" ∈ lw_tbl := tn (i := 43) (by decide +kernel)
theorem fl_One_18 : Cond.fieldLink "DayBehind$One" (18 : Nat) "DayBehind$One" "purse" "I" ∈ ex_tb := tm (i := 44) (by decide +kernel) rfl
theorem fl_Text_97 : Cond.fieldLinkNest "DayBehind$Text" (97 : Nat) "DayBehind$One" "purse" "I" "DayBehind" ∈ lw_tbl := tn (i := 45) (by decide +kernel)
theorem fl_Day_123 : Cond.fieldLinkNest "DayBehind" (123 : Nat) "DayBehind$One" "purse" "I" "DayBehind" ∈ lw_tbl := tn (i := 46) (by decide +kernel)
theorem fl_River_112 : Cond.fieldLinkNest "DayBehind$River" (112 : Nat) "DayBehind$One" "purse" "I" "DayBehind" ∈ lw_tbl := tn (i := 47) (by decide +kernel)
theorem fl_One_21 : Cond.fieldLink "DayBehind$One" (21 : Nat) "DayBehind$One" "goes" "I" ∈ ex_tb := tm (i := 48) (by decide +kernel) rfl
theorem fl_Day_126 : Cond.fieldLinkNest "DayBehind" (126 : Nat) "DayBehind$One" "goes" "I" "DayBehind" ∈ lw_tbl := tn (i := 49) (by decide +kernel)
theorem fl_Text_103 : Cond.fieldLinkNest "DayBehind$Text" (103 : Nat) "DayBehind$One" "goes" "I" "DayBehind" ∈ lw_tbl := tn (i := 50) (by decide +kernel)
theorem fl_One_24 : Cond.fieldLink "DayBehind$One" (24 : Nat) "DayBehind$One" "comes" "I" ∈ ex_tb := tm (i := 51) (by decide +kernel) rfl
theorem fl_Day_129 : Cond.fieldLinkNest "DayBehind" (129 : Nat) "DayBehind$One" "comes" "I" "DayBehind" ∈ lw_tbl := tn (i := 52) (by decide +kernel)
theorem fl_Text_107 : Cond.fieldLinkNest "DayBehind$Text" (107 : Nat) "DayBehind$One" "comes" "I" "DayBehind" ∈ lw_tbl := tn (i := 53) (by decide +kernel)
theorem fl_One_27 : Cond.fieldLink "DayBehind$One" (27 : Nat) "DayBehind$One" "crossed" "I" ∈ ex_tb := tm (i := 54) (by decide +kernel) rfl
theorem fl_Day_132 : Cond.fieldLinkNest "DayBehind" (132 : Nat) "DayBehind$One" "crossed" "I" "DayBehind" ∈ lw_tbl := tn (i := 55) (by decide +kernel)
theorem fl_River_115 : Cond.fieldLinkNest "DayBehind$River" (115 : Nat) "DayBehind$One" "crossed" "I" "DayBehind" ∈ lw_tbl := tn (i := 56) (by decide +kernel)
theorem fl_One_30 : Cond.fieldLink "DayBehind$One" (30 : Nat) "DayBehind$One" "knows" "I" ∈ ex_tb := tm (i := 57) (by decide +kernel) rfl
theorem fl_Day_135 : Cond.fieldLinkNest "DayBehind" (135 : Nat) "DayBehind$One" "knows" "I" "DayBehind" ∈ lw_tbl := tn (i := 58) (by decide +kernel)
theorem fl_River_88 : Cond.fieldLinkNest "DayBehind$River" (88 : Nat) "DayBehind$One" "knows" "I" "DayBehind" ∈ lw_tbl := tn (i := 59) (by decide +kernel)
theorem kc_River_31 : Cond.classLink "DayBehind$River" (31 : Nat) "DayBehind$Event" ∈ ex_tb := tm (i := 75) (by decide +kernel) rfl
theorem ao_Event : Cond.arrayOver (FieldType.object "DayBehind$Event") ∈ lw_tbl := tn (i := 76) (by decide +kernel)
theorem is_Event : Cond.instantiable "DayBehind$Event" (3 : Nat) ∈ ex_tb := tm (i := 77) (by decide +kernel) rfl
theorem ml_River_37 : Cond.methodLinkNest "DayBehind$River" (37 : Nat) ({ cls := "DayBehind$Event", name := "<init>", desc := "()V" } : MethodName) "DayBehind" ∈ lw_tbl := tn (i := 78) (by decide +kernel)
theorem im_Event_init : Cond.instanceMethod ({ cls := "DayBehind$Event", name := "<init>", desc := "()V" } : MethodName) ∈ ex_tb := tm (i := 79) (by decide +kernel) rfl
theorem co_Event_init : Cond.code Y_Event_init.1 Y_Event_init.2.1 Y_Event_init.2.2.1 Y_Event_init.2.2.2 ∈ ex_tb := tm (i := 80) (by decide +kernel) rfl
theorem ml_Event_3 : Cond.methodLink "DayBehind$Event" (3 : Nat) ({ cls := "java/lang/Object", name := "<init>", desc := "()V" } : MethodName) ∈ ex_tb := tm (i := 81) (by decide +kernel) rfl
theorem fl_Event_9 : Cond.fieldLink "DayBehind$Event" (9 : Nat) "DayBehind$Event" "hour" "I" ∈ ex_tb := tm (i := 82) (by decide +kernel) rfl
theorem fl_Day_81 : Cond.fieldLinkNest "DayBehind" (81 : Nat) "DayBehind$Event" "hour" "I" "DayBehind" ∈ lw_tbl := tn (i := 83) (by decide +kernel)
theorem fl_River_63 : Cond.fieldLinkNest "DayBehind$River" (63 : Nat) "DayBehind$Event" "hour" "I" "DayBehind" ∈ lw_tbl := tn (i := 84) (by decide +kernel)
theorem fl_Event_15 : Cond.fieldLink "DayBehind$Event" (15 : Nat) "DayBehind$Event" "worth" "I" ∈ ex_tb := tm (i := 85) (by decide +kernel) rfl
theorem fl_Day_86 : Cond.fieldLinkNest "DayBehind" (86 : Nat) "DayBehind$Event" "worth" "I" "DayBehind" ∈ lw_tbl := tn (i := 86) (by decide +kernel)
theorem fl_River_106 : Cond.fieldLinkNest "DayBehind$River" (106 : Nat) "DayBehind$Event" "worth" "I" "DayBehind" ∈ lw_tbl := tn (i := 87) (by decide +kernel)
theorem fl_Event_18 : Cond.fieldLink "DayBehind$Event" (18 : Nat) "DayBehind$Event" "met" "Z" ∈ ex_tb := tm (i := 88) (by decide +kernel) rfl
theorem fl_Day_89 : Cond.fieldLinkNest "DayBehind" (89 : Nat) "DayBehind$Event" "met" "Z" "DayBehind" ∈ lw_tbl := tn (i := 89) (by decide +kernel)
theorem fl_River_67 : Cond.fieldLinkNest "DayBehind$River" (67 : Nat) "DayBehind$Event" "met" "Z" "DayBehind" ∈ lw_tbl := tn (i := 90) (by decide +kernel)
theorem fl_River_9 : Cond.fieldLink "DayBehind$River" (9 : Nat) "DayBehind$River" "hour" "I" ∈ ex_tb := tm (i := 98) (by decide +kernel) rfl
theorem fl_Day_95 : Cond.fieldLinkNest "DayBehind" (95 : Nat) "DayBehind$River" "hour" "I" "DayBehind" ∈ lw_tbl := tn (i := 99) (by decide +kernel)
theorem fl_River_15 : Cond.fieldLink "DayBehind$River" (15 : Nat) "DayBehind$River" "toll" "I" ∈ ex_tb := tm (i := 100) (by decide +kernel) rfl
theorem fl_Day_60 : Cond.fieldLinkNest "DayBehind" (60 : Nat) "DayBehind$River" "toll" "I" "DayBehind" ∈ lw_tbl := tn (i := 101) (by decide +kernel)
theorem fl_Text_67 : Cond.fieldLinkNest "DayBehind$Text" (67 : Nat) "DayBehind$River" "toll" "I" "DayBehind" ∈ lw_tbl := tn (i := 102) (by decide +kernel)
theorem fl_River_18 : Cond.fieldLink "DayBehind$River" (18 : Nat) "DayBehind$River" "peopleCount" "I" ∈ ex_tb := tm (i := 103) (by decide +kernel) rfl
theorem fl_Day_223 : Cond.fieldLinkNest "DayBehind" (223 : Nat) "DayBehind$River" "peopleCount" "I" "DayBehind" ∈ lw_tbl := tn (i := 104) (by decide +kernel)
theorem fl_River_21 : Cond.fieldLink "DayBehind$River" (21 : Nat) "DayBehind$River" "eventCount" "I" ∈ ex_tb := tm (i := 105) (by decide +kernel) rfl
theorem fl_Day_214 : Cond.fieldLinkNest "DayBehind" (214 : Nat) "DayBehind$River" "eventCount" "I" "DayBehind" ∈ lw_tbl := tn (i := 106) (by decide +kernel)
theorem fl_River_26 : Cond.fieldLink "DayBehind$River" (26 : Nat) "DayBehind$River" "people" "[LDayBehind$One;" ∈ ex_tb := tm (i := 107) (by decide +kernel) rfl
theorem fl_Day_111 : Cond.fieldLinkNest "DayBehind" (111 : Nat) "DayBehind$River" "people" "[LDayBehind$One;" "DayBehind" ∈ lw_tbl := tn (i := 108) (by decide +kernel)
theorem fl_Text_91 : Cond.fieldLinkNest "DayBehind$Text" (91 : Nat) "DayBehind$River" "people" "[LDayBehind$One;" "DayBehind" ∈ lw_tbl := tn (i := 109) (by decide +kernel)
theorem fl_River_33 : Cond.fieldLink "DayBehind$River" (33 : Nat) "DayBehind$River" "events" "[LDayBehind$Event;" ∈ ex_tb := tm (i := 110) (by decide +kernel) rfl
theorem fl_Day_77 : Cond.fieldLinkNest "DayBehind" (77 : Nat) "DayBehind$River" "events" "[LDayBehind$Event;" "DayBehind" ∈ lw_tbl := tn (i := 111) (by decide +kernel)
theorem kc_Day_26 : Cond.classLink "DayBehind" (26 : Nat) "DayBehind$Best" ∈ ex_tb := tm (i := 125) (by decide +kernel) rfl
theorem is_Best : Cond.instantiable "DayBehind$Best" (2 : Nat) ∈ ex_tb := tm (i := 126) (by decide +kernel) rfl
theorem ml_Day_28 : Cond.methodLinkNest "DayBehind" (28 : Nat) ({ cls := "DayBehind$Best", name := "<init>", desc := "()V" } : MethodName) "DayBehind" ∈ lw_tbl := tn (i := 127) (by decide +kernel)
theorem im_Best_init : Cond.instanceMethod ({ cls := "DayBehind$Best", name := "<init>", desc := "()V" } : MethodName) ∈ ex_tb := tm (i := 128) (by decide +kernel) rfl
theorem co_Best_init : Cond.code Y_Best_init.1 Y_Best_init.2.1 Y_Best_init.2.2.1 Y_Best_init.2.2.2 ∈ ex_tb := tm (i := 129) (by decide +kernel) rfl
theorem ml_Best_3 : Cond.methodLink "DayBehind$Best" (3 : Nat) ({ cls := "java/lang/Object", name := "<init>", desc := "()V" } : MethodName) ∈ ex_tb := tm (i := 130) (by decide +kernel) rfl
theorem fl_Best_10 : Cond.fieldLink "DayBehind$Best" (10 : Nat) "DayBehind$Best" "choice" "I" ∈ ex_tb := tm (i := 131) (by decide +kernel) rfl
theorem fl_Day_198 : Cond.fieldLinkNest "DayBehind" (198 : Nat) "DayBehind$Best" "choice" "I" "DayBehind" ∈ lw_tbl := tn (i := 132) (by decide +kernel)
theorem fl_Best_16 : Cond.fieldLink "DayBehind$Best" (16 : Nat) "DayBehind$Best" "amount" "I" ∈ ex_tb := tm (i := 133) (by decide +kernel) rfl
theorem fl_Day_201 : Cond.fieldLinkNest "DayBehind" (201 : Nat) "DayBehind$Best" "amount" "I" "DayBehind" ∈ lw_tbl := tn (i := 134) (by decide +kernel)
theorem kc_Day_33 : Cond.classLink "DayBehind" (33 : Nat) "DayBehind$Text" ∈ ex_tb := tm (i := 140) (by decide +kernel) rfl
theorem is_Text : Cond.instantiable "DayBehind$Text" (7 : Nat) ∈ ex_tb := tm (i := 141) (by decide +kernel) rfl
theorem ml_Day_35 : Cond.methodLink "DayBehind" (35 : Nat) ({ cls := "DayBehind$Text", name := "<init>", desc := "()V" } : MethodName) ∈ ex_tb := tm (i := 142) (by decide +kernel) rfl
theorem im_Text_init : Cond.instanceMethod ({ cls := "DayBehind$Text", name := "<init>", desc := "()V" } : MethodName) ∈ ex_tb := tm (i := 143) (by decide +kernel) rfl
theorem co_Text_init : Cond.code Y_Text_init.1 Y_Text_init.2.1 Y_Text_init.2.2.1 Y_Text_init.2.2.2 ∈ ex_tb := tm (i := 144) (by decide +kernel) rfl
theorem ml_Text_3 : Cond.methodLink "DayBehind$Text" (3 : Nat) ({ cls := "java/lang/Object", name := "<init>", desc := "()V" } : MethodName) ∈ ex_tb := tm (i := 145) (by decide +kernel) rfl
theorem fl_Text_9 : Cond.fieldLink "DayBehind$Text" (9 : Nat) "DayBehind$Text" "bytes" "[I" ∈ ex_tb := tm (i := 146) (by decide +kernel) rfl
theorem fl_Text_15 : Cond.fieldLink "DayBehind$Text" (15 : Nat) "DayBehind$Text" "length" "I" ∈ ex_tb := tm (i := 147) (by decide +kernel) rfl
theorem fl_Day_229 : Cond.fieldLinkNest "DayBehind" (229 : Nat) "DayBehind$Text" "length" "I" "DayBehind" ∈ lw_tbl := tn (i := 148) (by decide +kernel)
theorem fl_Text_29 : Cond.fieldLink "DayBehind$Text" (29 : Nat) "DayBehind$Text" "token" "I" ∈ ex_tb := tm (i := 149) (by decide +kernel) rfl
theorem fl_Text_32 : Cond.fieldLink "DayBehind$Text" (32 : Nat) "DayBehind$Text" "place" "I" ∈ ex_tb := tm (i := 150) (by decide +kernel) rfl
theorem fl_Text_19 : Cond.fieldLink "DayBehind$Text" (19 : Nat) "DayBehind$Text" "behind" "I" ∈ ex_tb := tm (i := 151) (by decide +kernel) rfl
theorem fl_Text_130 : Cond.fieldLink "DayBehind$Text" (130 : Nat) "DayBehind$Text" "value" "I" ∈ ex_tb := tm (i := 152) (by decide +kernel) rfl
theorem fl_Text_64 : Cond.fieldLink "DayBehind$Text" (64 : Nat) "DayBehind$Text" "taken" "I" ∈ ex_tb := tm (i := 153) (by decide +kernel) rfl
theorem ac_int : Cond.arrayClass FieldType.int ∈ ex_tb := tm (i := 169) (by decide +kernel) rfl
theorem kc_Day_40 : Cond.classLink "DayBehind" (40 : Nat) "DayBehind$Sheet" ∈ ex_tb := tm (i := 170) (by decide +kernel) rfl
theorem ao_Sheet : Cond.arrayOver (FieldType.object "DayBehind$Sheet") ∈ lw_tbl := tn (i := 171) (by decide +kernel)
theorem is_Sheet : Cond.instantiable "DayBehind$Sheet" (3 : Nat) ∈ ex_tb := tm (i := 172) (by decide +kernel) rfl
theorem ml_Day_46 : Cond.methodLink "DayBehind" (46 : Nat) ({ cls := "DayBehind$Sheet", name := "<init>", desc := "()V" } : MethodName) ∈ ex_tb := tm (i := 173) (by decide +kernel) rfl
theorem im_Sheet_init : Cond.instanceMethod ({ cls := "DayBehind$Sheet", name := "<init>", desc := "()V" } : MethodName) ∈ ex_tb := tm (i := 174) (by decide +kernel) rfl
theorem co_Sheet_init : Cond.code Y_Sheet_init.1 Y_Sheet_init.2.1 Y_Sheet_init.2.2.1 Y_Sheet_init.2.2.2 ∈ ex_tb := tm (i := 175) (by decide +kernel) rfl
theorem ml_Sheet_3 : Cond.methodLink "DayBehind$Sheet" (3 : Nat) ({ cls := "java/lang/Object", name := "<init>", desc := "()V" } : MethodName) ∈ ex_tb := tm (i := 176) (by decide +kernel) rfl
theorem fl_Sheet_9 : Cond.fieldLink "DayBehind$Sheet" (9 : Nat) "DayBehind$Sheet" "bits" "I" ∈ ex_tb := tm (i := 177) (by decide +kernel) rfl
theorem fl_Day_265 : Cond.fieldLinkNest "DayBehind" (265 : Nat) "DayBehind$Sheet" "bits" "I" "DayBehind" ∈ lw_tbl := tn (i := 178) (by decide +kernel)
theorem fl_Sheet_15 : Cond.fieldLink "DayBehind$Sheet" (15 : Nat) "DayBehind$Sheet" "length" "I" ∈ ex_tb := tm (i := 179) (by decide +kernel) rfl
theorem fl_Day_249 : Cond.fieldLinkNest "DayBehind" (249 : Nat) "DayBehind$Sheet" "length" "I" "DayBehind" ∈ lw_tbl := tn (i := 180) (by decide +kernel)
theorem fl_Sheet_18 : Cond.fieldLink "DayBehind$Sheet" (18 : Nat) "DayBehind$Sheet" "numbers" "[J" ∈ ex_tb := tm (i := 181) (by decide +kernel) rfl
theorem fl_Day_253 : Cond.fieldLinkNest "DayBehind" (253 : Nat) "DayBehind$Sheet" "numbers" "[J" "DayBehind" ∈ lw_tbl := tn (i := 182) (by decide +kernel)
theorem ac_long : Cond.arrayClass FieldType.long ∈ ex_tb := tm (i := 190) (by decide +kernel) rfl
theorem fl_Day_12 : Cond.fieldLink "DayBehind" (12 : Nat) "DayBehind" "present" "LDayBehind$River;" ∈ ex_tb := tm (i := 191) (by decide +kernel) rfl
theorem fl_Day_16 : Cond.fieldLink "DayBehind" (16 : Nat) "DayBehind" "trial" "LDayBehind$River;" ∈ ex_tb := tm (i := 192) (by decide +kernel) rfl
theorem fl_Day_19 : Cond.fieldLink "DayBehind" (19 : Nat) "DayBehind" "kept" "LDayBehind$River;" ∈ ex_tb := tm (i := 193) (by decide +kernel) rfl
theorem fl_Day_22 : Cond.fieldLink "DayBehind" (22 : Nat) "DayBehind" "keeps" "Z" ∈ ex_tb := tm (i := 194) (by decide +kernel) rfl
theorem fl_Day_29 : Cond.fieldLink "DayBehind" (29 : Nat) "DayBehind" "best" "LDayBehind$Best;" ∈ ex_tb := tm (i := 195) (by decide +kernel) rfl
theorem fl_Day_36 : Cond.fieldLink "DayBehind" (36 : Nat) "DayBehind" "text" "LDayBehind$Text;" ∈ ex_tb := tm (i := 196) (by decide +kernel) rfl
theorem fl_Day_42 : Cond.fieldLink "DayBehind" (42 : Nat) "DayBehind" "sheets" "[LDayBehind$Sheet;" ∈ ex_tb := tm (i := 197) (by decide +kernel) rfl
theorem fl_Day_47 : Cond.fieldLink "DayBehind" (47 : Nat) "DayBehind" "told" "[I" ∈ ex_tb := tm (i := 198) (by decide +kernel) rfl
theorem ml_Law_13 : Cond.methodLink "DayBehindLaw" (13 : Nat) ({ cls := "DayBehind", name := "toll", desc := "(I)I" } : MethodName) ∈ ex_tb := tm (i := 216) (by decide +kernel) rfl
theorem im_Day_toll : Cond.instanceMethod ({ cls := "DayBehind", name := "toll", desc := "(I)I" } : MethodName) ∈ ex_tb := tm (i := 217) (by decide +kernel) rfl
theorem se_Day_toll : Cond.selects "DayBehind" ({ cls := "DayBehind", name := "toll", desc := "(I)I" } : MethodName) ({ cls := "DayBehind", name := "toll", desc := "(I)I" } : MethodName) ∈ ex_tb := tm (i := 218) (by decide +kernel) rfl
theorem co_Day_toll : Cond.code Y_Day_toll.1 Y_Day_toll.2.1 Y_Day_toll.2.2.1 Y_Day_toll.2.2.2 ∈ ex_tb := tm (i := 219) (by decide +kernel) rfl
theorem ml_Day_51 : Cond.methodLink "DayBehind" (51 : Nat) ({ cls := "DayBehind", name := "outside", desc := "(III)Z" } : MethodName) ∈ ex_tb := tm (i := 220) (by decide +kernel) rfl
theorem sm_Day_outside : Cond.static ({ cls := "DayBehind", name := "outside", desc := "(III)Z" } : MethodName) ∈ ex_tb := tm (i := 221) (by decide +kernel) rfl
theorem co_Day_outside : Cond.code Y_Day_outside.1 Y_Day_outside.2.1 Y_Day_outside.2.2.1 Y_Day_outside.2.2.2 ∈ ex_tb := tm (i := 222) (by decide +kernel) rfl
theorem kc_Day_55 : Cond.constant "DayBehind" (55 : Nat) (-1000000001 : Int32) ∈ ex_tb := tm (i := 223) (by decide +kernel) rfl
theorem ml_Day_56 : Cond.methodLink "DayBehind" (56 : Nat) ({ cls := "DayBehind", name := "refuse", desc := "(I)I" } : MethodName) ∈ ex_tb := tm (i := 224) (by decide +kernel) rfl
theorem im_Day_refuse : Cond.instanceMethod ({ cls := "DayBehind", name := "refuse", desc := "(I)I" } : MethodName) ∈ ex_tb := tm (i := 226) (by decide +kernel) rfl
theorem co_Day_refuse : Cond.code Y_Day_refuse.1 Y_Day_refuse.2.1 Y_Day_refuse.2.2.1 Y_Day_refuse.2.2.2 ∈ ex_tb := tm (i := 227) (by decide +kernel) rfl
theorem ml_Law_18 : Cond.methodLink "DayBehindLaw" (18 : Nat) ({ cls := "DayBehind", name := "event", desc := "(II)I" } : MethodName) ∈ ex_tb := tm (i := 228) (by decide +kernel) rfl
theorem im_Day_event : Cond.instanceMethod ({ cls := "DayBehind", name := "event", desc := "(II)I" } : MethodName) ∈ ex_tb := tm (i := 229) (by decide +kernel) rfl
theorem se_Day_event : Cond.selects "DayBehind" ({ cls := "DayBehind", name := "event", desc := "(II)I" } : MethodName) ({ cls := "DayBehind", name := "event", desc := "(II)I" } : MethodName) ∈ ex_tb := tm (i := 230) (by decide +kernel) rfl
theorem co_Day_event : Cond.code Y_Day_event.1 Y_Day_event.2.1 Y_Day_event.2.2.1 Y_Day_event.2.2.2 ∈ ex_tb := tm (i := 231) (by decide +kernel) rfl
theorem ml_Day_64 : Cond.methodLink "DayBehind" (64 : Nat) ({ cls := "DayBehind$River", name := "hasAllEvents", desc := "()Z" } : MethodName) ∈ ex_tb := tm (i := 232) (by decide +kernel) rfl
theorem im_River_hasAllEvents : Cond.instanceMethod ({ cls := "DayBehind$River", name := "hasAllEvents", desc := "()Z" } : MethodName) ∈ ex_tb := tm (i := 233) (by decide +kernel) rfl
theorem se_River_hasAllEvents : Cond.selects "DayBehind$River" ({ cls := "DayBehind$River", name := "hasAllEvents", desc := "()Z" } : MethodName) ({ cls := "DayBehind$River", name := "hasAllEvents", desc := "()Z" } : MethodName) ∈ ex_tb := tm (i := 234) (by decide +kernel) rfl
theorem co_River_hasAllEvents : Cond.code Y_River_hasAllEvents.1 Y_River_hasAllEvents.2.1 Y_River_hasAllEvents.2.2.1 Y_River_hasAllEvents.2.2.2 ∈ ex_tb := tm (i := 235) (by decide +kernel) rfl
theorem kc_Day_68 : Cond.constant "DayBehind" (68 : Nat) (-1000000002 : Int32) ∈ ex_tb := tm (i := 236) (by decide +kernel) rfl
theorem ml_Day_69 : Cond.methodLink "DayBehind" (69 : Nat) ({ cls := "DayBehind$River", name := "addEvent", desc := "(II)I" } : MethodName) ∈ ex_tb := tm (i := 237) (by decide +kernel) rfl
theorem im_River_addEvent : Cond.instanceMethod ({ cls := "DayBehind$River", name := "addEvent", desc := "(II)I" } : MethodName) ∈ ex_tb := tm (i := 238) (by decide +kernel) rfl
theorem se_River_addEvent : Cond.selects "DayBehind$River" ({ cls := "DayBehind$River", name := "addEvent", desc := "(II)I" } : MethodName) ({ cls := "DayBehind$River", name := "addEvent", desc := "(II)I" } : MethodName) ∈ ex_tb := tm (i := 239) (by decide +kernel) rfl
theorem co_River_addEvent : Cond.code Y_River_addEvent.1 Y_River_addEvent.2.1 Y_River_addEvent.2.2.1 Y_River_addEvent.2.2.2 ∈ ex_tb := tm (i := 240) (by decide +kernel) rfl
theorem ml_River_49 : Cond.methodLink "DayBehind$River" (49 : Nat) ({ cls := "DayBehind$Event", name := "begin", desc := "(II)V" } : MethodName) ∈ ex_tb := tm (i := 241) (by decide +kernel) rfl
theorem im_Event_begin : Cond.instanceMethod ({ cls := "DayBehind$Event", name := "begin", desc := "(II)V" } : MethodName) ∈ ex_tb := tm (i := 242) (by decide +kernel) rfl
theorem se_Event_begin : Cond.selects "DayBehind$Event" ({ cls := "DayBehind$Event", name := "begin", desc := "(II)V" } : MethodName) ({ cls := "DayBehind$Event", name := "begin", desc := "(II)V" } : MethodName) ∈ ex_tb := tm (i := 243) (by decide +kernel) rfl
theorem co_Event_begin : Cond.code Y_Event_begin.1 Y_Event_begin.2.1 Y_Event_begin.2.2.1 Y_Event_begin.2.2.2 ∈ ex_tb := tm (i := 244) (by decide +kernel) rfl
theorem ml_Law_23 : Cond.methodLink "DayBehindLaw" (23 : Nat) ({ cls := "DayBehind", name := "eventOf", desc := "(II)I" } : MethodName) ∈ ex_tb := tm (i := 245) (by decide +kernel) rfl
theorem im_Day_eventOf : Cond.instanceMethod ({ cls := "DayBehind", name := "eventOf", desc := "(II)I" } : MethodName) ∈ ex_tb := tm (i := 246) (by decide +kernel) rfl
theorem se_Day_eventOf : Cond.selects "DayBehind" ({ cls := "DayBehind", name := "eventOf", desc := "(II)I" } : MethodName) ({ cls := "DayBehind", name := "eventOf", desc := "(II)I" } : MethodName) ∈ ex_tb := tm (i := 247) (by decide +kernel) rfl
theorem co_Day_eventOf : Cond.code Y_Day_eventOf.1 Y_Day_eventOf.2.1 Y_Day_eventOf.2.2.1 Y_Day_eventOf.2.2.2 ∈ ex_tb := tm (i := 248) (by decide +kernel) rfl
theorem ml_Day_73 : Cond.methodLink "DayBehind" (73 : Nat) ({ cls := "DayBehind", name := "noEvent", desc := "(I)Z" } : MethodName) ∈ ex_tb := tm (i := 249) (by decide +kernel) rfl
theorem im_Day_noEvent : Cond.instanceMethod ({ cls := "DayBehind", name := "noEvent", desc := "(I)Z" } : MethodName) ∈ ex_tb := tm (i := 251) (by decide +kernel) rfl
theorem co_Day_noEvent : Cond.code Y_Day_noEvent.1 Y_Day_noEvent.2.1 Y_Day_noEvent.2.2.1 Y_Day_noEvent.2.2.2 ∈ ex_tb := tm (i := 252) (by decide +kernel) rfl
theorem ml_Day_92 : Cond.methodLink "DayBehind" (92 : Nat) ({ cls := "DayBehind$River", name := "thoseWhoKnow", desc := "(I)I" } : MethodName) ∈ ex_tb := tm (i := 253) (by decide +kernel) rfl
theorem im_River_thoseWhoKnow : Cond.instanceMethod ({ cls := "DayBehind$River", name := "thoseWhoKnow", desc := "(I)I" } : MethodName) ∈ ex_tb := tm (i := 254) (by decide +kernel) rfl
theorem se_River_thoseWhoKnow : Cond.selects "DayBehind$River" ({ cls := "DayBehind$River", name := "thoseWhoKnow", desc := "(I)I" } : MethodName) ({ cls := "DayBehind$River", name := "thoseWhoKnow", desc := "(I)I" } : MethodName) ∈ ex_tb := tm (i := 255) (by decide +kernel) rfl
theorem co_River_thoseWhoKnow : Cond.code Y_River_thoseWhoKnow.1 Y_River_thoseWhoKnow.2.1 Y_River_thoseWhoKnow.2.2.1 Y_River_thoseWhoKnow.2.2.2 ∈ ex_tb := tm (i := 256) (by decide +kernel) rfl
theorem ml_River_100 : Cond.methodLink "DayBehind$River" (100 : Nat) ({ cls := "DayBehind$One", name := "hasHeard", desc := "(I)Z" } : MethodName) ∈ ex_tb := tm (i := 257) (by decide +kernel) rfl
theorem im_One_hasHeard : Cond.instanceMethod ({ cls := "DayBehind$One", name := "hasHeard", desc := "(I)Z" } : MethodName) ∈ ex_tb := tm (i := 258) (by decide +kernel) rfl
theorem se_One_hasHeard : Cond.selects "DayBehind$One" ({ cls := "DayBehind$One", name := "hasHeard", desc := "(I)Z" } : MethodName) ({ cls := "DayBehind$One", name := "hasHeard", desc := "(I)Z" } : MethodName) ∈ ex_tb := tm (i := 259) (by decide +kernel) rfl
theorem co_One_hasHeard : Cond.code Y_One_hasHeard.1 Y_One_hasHeard.2.1 Y_One_hasHeard.2.2.1 Y_One_hasHeard.2.2.2 ∈ ex_tb := tm (i := 260) (by decide +kernel) rfl
theorem ml_Day_96 : Cond.methodLink "DayBehind" (96 : Nat) ({ cls := "DayBehind$Event", name := "hoursToRight", desc := "(I)I" } : MethodName) ∈ ex_tb := tm (i := 261) (by decide +kernel) rfl
theorem im_Event_hoursToRight : Cond.instanceMethod ({ cls := "DayBehind$Event", name := "hoursToRight", desc := "(I)I" } : MethodName) ∈ ex_tb := tm (i := 262) (by decide +kernel) rfl
theorem se_Event_hoursToRight : Cond.selects "DayBehind$Event" ({ cls := "DayBehind$Event", name := "hoursToRight", desc := "(I)I" } : MethodName) ({ cls := "DayBehind$Event", name := "hoursToRight", desc := "(I)I" } : MethodName) ∈ ex_tb := tm (i := 263) (by decide +kernel) rfl
theorem co_Event_hoursToRight : Cond.code Y_Event_hoursToRight.1 Y_Event_hoursToRight.2.1 Y_Event_hoursToRight.2.2.1 Y_Event_hoursToRight.2.2.2 ∈ ex_tb := tm (i := 264) (by decide +kernel) rfl
theorem ml_Event_22 : Cond.methodLink "DayBehind$Event" (22 : Nat) ({ cls := "java/lang/Math", name := "max", desc := "(II)I" } : MethodName) ∈ ex_tb := tm (i := 265) (by decide +kernel) rfl
theorem sm_Math_max : Cond.static ({ cls := "java/lang/Math", name := "max", desc := "(II)I" } : MethodName) ∈ ex_tb := tm (i := 266) (by decide +kernel) rfl
theorem co_Math_max : Cond.code Y_Math_max.1 Y_Math_max.2.1 Y_Math_max.2.2.1 Y_Math_max.2.2.2 ∈ ex_tb := tm (i := 267) (by decide +kernel) rfl
theorem ml_Day_99 : Cond.methodLink "DayBehind" (99 : Nat) ({ cls := "DayBehind$Event", name := "hoursToLeft", desc := "(I)I" } : MethodName) ∈ ex_tb := tm (i := 268) (by decide +kernel) rfl
theorem im_Event_hoursToLeft : Cond.instanceMethod ({ cls := "DayBehind$Event", name := "hoursToLeft", desc := "(I)I" } : MethodName) ∈ ex_tb := tm (i := 269) (by decide +kernel) rfl
theorem se_Event_hoursToLeft : Cond.selects "DayBehind$Event" ({ cls := "DayBehind$Event", name := "hoursToLeft", desc := "(I)I" } : MethodName) ({ cls := "DayBehind$Event", name := "hoursToLeft", desc := "(I)I" } : MethodName) ∈ ex_tb := tm (i := 270) (by decide +kernel) rfl
theorem co_Event_hoursToLeft : Cond.code Y_Event_hoursToLeft.1 Y_Event_hoursToLeft.2.1 Y_Event_hoursToLeft.2.2.1 Y_Event_hoursToLeft.2.2.2 ∈ ex_tb := tm (i := 271) (by decide +kernel) rfl
theorem ml_Law_27 : Cond.methodLink "DayBehindLaw" (27 : Nat) ({ cls := "DayBehind", name := "worth", desc := "(II)I" } : MethodName) ∈ ex_tb := tm (i := 272) (by decide +kernel) rfl
theorem im_Day_worth : Cond.instanceMethod ({ cls := "DayBehind", name := "worth", desc := "(II)I" } : MethodName) ∈ ex_tb := tm (i := 273) (by decide +kernel) rfl
theorem se_Day_worth : Cond.selects "DayBehind" ({ cls := "DayBehind", name := "worth", desc := "(II)I" } : MethodName) ({ cls := "DayBehind", name := "worth", desc := "(II)I" } : MethodName) ∈ ex_tb := tm (i := 274) (by decide +kernel) rfl
theorem co_Day_worth : Cond.code Y_Day_worth.1 Y_Day_worth.2.1 Y_Day_worth.2.2.1 Y_Day_worth.2.2.2 ∈ ex_tb := tm (i := 275) (by decide +kernel) rfl
theorem ml_Law_31 : Cond.methodLink "DayBehindLaw" (31 : Nat) ({ cls := "DayBehind", name := "one", desc := "(II)I" } : MethodName) ∈ ex_tb := tm (i := 276) (by decide +kernel) rfl
theorem im_Day_one : Cond.instanceMethod ({ cls := "DayBehind", name := "one", desc := "(II)I" } : MethodName) ∈ ex_tb := tm (i := 277) (by decide +kernel) rfl
theorem se_Day_one : Cond.selects "DayBehind" ({ cls := "DayBehind", name := "one", desc := "(II)I" } : MethodName) ({ cls := "DayBehind", name := "one", desc := "(II)I" } : MethodName) ∈ ex_tb := tm (i := 278) (by decide +kernel) rfl
theorem co_Day_one : Cond.code Y_Day_one.1 Y_Day_one.2.1 Y_Day_one.2.2.1 Y_Day_one.2.2.2 ∈ ex_tb := tm (i := 279) (by decide +kernel) rfl
theorem ml_Day_102 : Cond.methodLink "DayBehind" (102 : Nat) ({ cls := "DayBehind$River", name := "hasAllPeople", desc := "()Z" } : MethodName) ∈ ex_tb := tm (i := 280) (by decide +kernel) rfl
theorem im_River_hasAllPeople : Cond.instanceMethod ({ cls := "DayBehind$River", name := "hasAllPeople", desc := "()Z" } : MethodName) ∈ ex_tb := tm (i := 281) (by decide +kernel) rfl
theorem se_River_hasAllPeople : Cond.selects "DayBehind$River" ({ cls := "DayBehind$River", name := "hasAllPeople", desc := "()Z" } : MethodName) ({ cls := "DayBehind$River", name := "hasAllPeople", desc := "()Z" } : MethodName) ∈ ex_tb := tm (i := 282) (by decide +kernel) rfl
theorem co_River_hasAllPeople : Cond.code Y_River_hasAllPeople.1 Y_River_hasAllPeople.2.1 Y_River_hasAllPeople.2.2.1 Y_River_hasAllPeople.2.2.2 ∈ ex_tb := tm (i := 283) (by decide +kernel) rfl
theorem ml_Day_105 : Cond.methodLink "DayBehind" (105 : Nat) ({ cls := "DayBehind$River", name := "addOne", desc := "(II)I" } : MethodName) ∈ ex_tb := tm (i := 284) (by decide +kernel) rfl
theorem im_River_addOne : Cond.instanceMethod ({ cls := "DayBehind$River", name := "addOne", desc := "(II)I" } : MethodName) ∈ ex_tb := tm (i := 285) (by decide +kernel) rfl
theorem se_River_addOne : Cond.selects "DayBehind$River" ({ cls := "DayBehind$River", name := "addOne", desc := "(II)I" } : MethodName) ({ cls := "DayBehind$River", name := "addOne", desc := "(II)I" } : MethodName) ∈ ex_tb := tm (i := 286) (by decide +kernel) rfl
theorem co_River_addOne : Cond.code Y_River_addOne.1 Y_River_addOne.2.1 Y_River_addOne.2.2.1 Y_River_addOne.2.2.2 ∈ ex_tb := tm (i := 287) (by decide +kernel) rfl
theorem ml_River_45 : Cond.methodLink "DayBehind$River" (45 : Nat) ({ cls := "DayBehind$One", name := "begin", desc := "(II)V" } : MethodName) ∈ ex_tb := tm (i := 288) (by decide +kernel) rfl
theorem im_One_begin : Cond.instanceMethod ({ cls := "DayBehind$One", name := "begin", desc := "(II)V" } : MethodName) ∈ ex_tb := tm (i := 289) (by decide +kernel) rfl
theorem se_One_begin : Cond.selects "DayBehind$One" ({ cls := "DayBehind$One", name := "begin", desc := "(II)V" } : MethodName) ({ cls := "DayBehind$One", name := "begin", desc := "(II)V" } : MethodName) ∈ ex_tb := tm (i := 290) (by decide +kernel) rfl
theorem co_One_begin : Cond.code Y_One_begin.1 Y_One_begin.2.1 Y_One_begin.2.2.1 Y_One_begin.2.2.2 ∈ ex_tb := tm (i := 291) (by decide +kernel) rfl
theorem ml_Law_35 : Cond.methodLink "DayBehindLaw" (35 : Nat) ({ cls := "DayBehind", name := "of", desc := "(II)I" } : MethodName) ∈ ex_tb := tm (i := 292) (by decide +kernel) rfl
theorem im_Day_of : Cond.instanceMethod ({ cls := "DayBehind", name := "of", desc := "(II)I" } : MethodName) ∈ ex_tb := tm (i := 293) (by decide +kernel) rfl
theorem se_Day_of : Cond.selects "DayBehind" ({ cls := "DayBehind", name := "of", desc := "(II)I" } : MethodName) ({ cls := "DayBehind", name := "of", desc := "(II)I" } : MethodName) ∈ ex_tb := tm (i := 294) (by decide +kernel) rfl
theorem co_Day_of : Cond.code Y_Day_of.1 Y_Day_of.2.1 Y_Day_of.2.2.1 Y_Day_of.2.2.2 ∈ ex_tb := tm (i := 295) (by decide +kernel) rfl
theorem ml_Day_108 : Cond.methodLink "DayBehind" (108 : Nat) ({ cls := "DayBehind", name := "noOne", desc := "(I)Z" } : MethodName) ∈ ex_tb := tm (i := 296) (by decide +kernel) rfl
theorem im_Day_noOne : Cond.instanceMethod ({ cls := "DayBehind", name := "noOne", desc := "(I)Z" } : MethodName) ∈ ex_tb := tm (i := 298) (by decide +kernel) rfl
theorem co_Day_noOne : Cond.code Y_Day_noOne.1 Y_Day_noOne.2.1 Y_Day_noOne.2.2.1 Y_Day_noOne.2.2.2 ∈ ex_tb := tm (i := 299) (by decide +kernel) rfl
theorem ml_Law_39 : Cond.methodLink "DayBehindLaw" (39 : Nat) ({ cls := "DayBehind", name := "set", desc := "(III)I" } : MethodName) ∈ ex_tb := tm (i := 300) (by decide +kernel) rfl
theorem im_Day_set : Cond.instanceMethod ({ cls := "DayBehind", name := "set", desc := "(III)I" } : MethodName) ∈ ex_tb := tm (i := 301) (by decide +kernel) rfl
theorem se_Day_set : Cond.selects "DayBehind" ({ cls := "DayBehind", name := "set", desc := "(III)I" } : MethodName) ({ cls := "DayBehind", name := "set", desc := "(III)I" } : MethodName) ∈ ex_tb := tm (i := 302) (by decide +kernel) rfl
theorem co_Day_set : Cond.code Y_Day_set.1 Y_Day_set.2.1 Y_Day_set.2.2.1 Y_Day_set.2.2.2 ∈ ex_tb := tm (i := 303) (by decide +kernel) rfl
theorem ml_Day_138 : Cond.methodLink "DayBehind" (138 : Nat) ({ cls := "DayBehind", name := "maySet", desc := "(II)Z" } : MethodName) ∈ ex_tb := tm (i := 304) (by decide +kernel) rfl
theorem im_Day_maySet : Cond.instanceMethod ({ cls := "DayBehind", name := "maySet", desc := "(II)Z" } : MethodName) ∈ ex_tb := tm (i := 306) (by decide +kernel) rfl
theorem co_Day_maySet : Cond.code Y_Day_maySet.1 Y_Day_maySet.2.1 Y_Day_maySet.2.2.1 Y_Day_maySet.2.2.2 ∈ ex_tb := tm (i := 307) (by decide +kernel) rfl
theorem ml_Law_44 : Cond.methodLink "DayBehindLaw" (44 : Nat) ({ cls := "DayBehind", name := "turn", desc := "(II)I" } : MethodName) ∈ ex_tb := tm (i := 308) (by decide +kernel) rfl
theorem im_Day_turn : Cond.instanceMethod ({ cls := "DayBehind", name := "turn", desc := "(II)I" } : MethodName) ∈ ex_tb := tm (i := 309) (by decide +kernel) rfl
theorem se_Day_turn : Cond.selects "DayBehind" ({ cls := "DayBehind", name := "turn", desc := "(II)I" } : MethodName) ({ cls := "DayBehind", name := "turn", desc := "(II)I" } : MethodName) ∈ ex_tb := tm (i := 310) (by decide +kernel) rfl
theorem co_Day_turn : Cond.code Y_Day_turn.1 Y_Day_turn.2.1 Y_Day_turn.2.2.1 Y_Day_turn.2.2.2 ∈ ex_tb := tm (i := 311) (by decide +kernel) rfl
theorem ml_Law_48 : Cond.methodLink "DayBehindLaw" (48 : Nat) ({ cls := "DayBehind", name := "as", desc := "(II)I" } : MethodName) ∈ ex_tb := tm (i := 312) (by decide +kernel) rfl
theorem im_Day_as : Cond.instanceMethod ({ cls := "DayBehind", name := "as", desc := "(II)I" } : MethodName) ∈ ex_tb := tm (i := 313) (by decide +kernel) rfl
theorem se_Day_as : Cond.selects "DayBehind" ({ cls := "DayBehind", name := "as", desc := "(II)I" } : MethodName) ({ cls := "DayBehind", name := "as", desc := "(II)I" } : MethodName) ∈ ex_tb := tm (i := 314) (by decide +kernel) rfl
theorem co_Day_as : Cond.code Y_Day_as.1 Y_Day_as.2.1 Y_Day_as.2.2.1 Y_Day_as.2.2.2 ∈ ex_tb := tm (i := 315) (by decide +kernel) rfl
theorem ml_Day_142 : Cond.methodLink "DayBehind" (142 : Nat) ({ cls := "DayBehind$Kinds", name := "isUnder", desc := "(II)Z" } : MethodName) ∈ ex_tb := tm (i := 316) (by decide +kernel) rfl
theorem sm_Kinds_isUnder : Cond.static ({ cls := "DayBehind$Kinds", name := "isUnder", desc := "(II)Z" } : MethodName) ∈ ex_tb := tm (i := 317) (by decide +kernel) rfl
theorem co_Kinds_isUnder : Cond.code Y_Kinds_isUnder.1 Y_Kinds_isUnder.2.1 Y_Kinds_isUnder.2.2.1 Y_Kinds_isUnder.2.2.2 ∈ ex_tb := tm (i := 318) (by decide +kernel) rfl
theorem fl_Kinds_9 : Cond.fieldLink "DayBehind$Kinds" (9 : Nat) "DayBehind$Kinds" "ABOVE" "[I" ∈ ex_tb := tm (i := 319) (by decide +kernel) rfl
theorem kc_Day_147 : Cond.constant "DayBehind" (147 : Nat) (-1000000003 : Int32) ∈ ex_tb := tm (i := 321) (by decide +kernel) rfl
theorem ml_Law_52 : Cond.methodLink "DayBehindLaw" (52 : Nat) ({ cls := "DayBehind", name := "gains", desc := "(III)I" } : MethodName) ∈ ex_tb := tm (i := 322) (by decide +kernel) rfl
theorem im_Day_gains : Cond.instanceMethod ({ cls := "DayBehind", name := "gains", desc := "(III)I" } : MethodName) ∈ ex_tb := tm (i := 323) (by decide +kernel) rfl
theorem se_Day_gains : Cond.selects "DayBehind" ({ cls := "DayBehind", name := "gains", desc := "(III)I" } : MethodName) ({ cls := "DayBehind", name := "gains", desc := "(III)I" } : MethodName) ∈ ex_tb := tm (i := 324) (by decide +kernel) rfl
theorem co_Day_gains : Cond.code Y_Day_gains.1 Y_Day_gains.2.1 Y_Day_gains.2.2.1 Y_Day_gains.2.2.2 ∈ ex_tb := tm (i := 325) (by decide +kernel) rfl
theorem ml_Day_148 : Cond.methodLink "DayBehind" (148 : Nat) ({ cls := "DayBehind$Kinds", name := "gain", desc := "(IIZ)I" } : MethodName) ∈ ex_tb := tm (i := 326) (by decide +kernel) rfl
theorem sm_Kinds_gain : Cond.static ({ cls := "DayBehind$Kinds", name := "gain", desc := "(IIZ)I" } : MethodName) ∈ ex_tb := tm (i := 327) (by decide +kernel) rfl
theorem co_Kinds_gain : Cond.code Y_Kinds_gain.1 Y_Kinds_gain.2.1 Y_Kinds_gain.2.2.1 Y_Kinds_gain.2.2.2 ∈ ex_tb := tm (i := 328) (by decide +kernel) rfl
theorem ml_Law_56 : Cond.methodLink "DayBehindLaw" (56 : Nat) ({ cls := "DayBehind", name := "cross", desc := "(I)I" } : MethodName) ∈ ex_tb := tm (i := 329) (by decide +kernel) rfl
theorem im_Day_cross : Cond.instanceMethod ({ cls := "DayBehind", name := "cross", desc := "(I)I" } : MethodName) ∈ ex_tb := tm (i := 330) (by decide +kernel) rfl
theorem se_Day_cross : Cond.selects "DayBehind" ({ cls := "DayBehind", name := "cross", desc := "(I)I" } : MethodName) ({ cls := "DayBehind", name := "cross", desc := "(I)I" } : MethodName) ∈ ex_tb := tm (i := 331) (by decide +kernel) rfl
theorem co_Day_cross : Cond.code Y_Day_cross.1 Y_Day_cross.2.1 Y_Day_cross.2.2.1 Y_Day_cross.2.2.2 ∈ ex_tb := tm (i := 332) (by decide +kernel) rfl
theorem ml_Day_152 : Cond.methodLink "DayBehind" (152 : Nat) ({ cls := "DayBehind$One", name := "canPay", desc := "(I)Z" } : MethodName) ∈ ex_tb := tm (i := 333) (by decide +kernel) rfl
theorem im_One_canPay : Cond.instanceMethod ({ cls := "DayBehind$One", name := "canPay", desc := "(I)Z" } : MethodName) ∈ ex_tb := tm (i := 334) (by decide +kernel) rfl
theorem se_One_canPay : Cond.selects "DayBehind$One" ({ cls := "DayBehind$One", name := "canPay", desc := "(I)Z" } : MethodName) ({ cls := "DayBehind$One", name := "canPay", desc := "(I)Z" } : MethodName) ∈ ex_tb := tm (i := 335) (by decide +kernel) rfl
theorem co_One_canPay : Cond.code Y_One_canPay.1 Y_One_canPay.2.1 Y_One_canPay.2.2.1 Y_One_canPay.2.2.2 ∈ ex_tb := tm (i := 336) (by decide +kernel) rfl
theorem kc_Day_155 : Cond.constant "DayBehind" (155 : Nat) (-1000000005 : Int32) ∈ ex_tb := tm (i := 337) (by decide +kernel) rfl
theorem ml_Day_156 : Cond.methodLink "DayBehind" (156 : Nat) ({ cls := "DayBehind$One", name := "goOver", desc := "(I)V" } : MethodName) ∈ ex_tb := tm (i := 338) (by decide +kernel) rfl
theorem im_One_goOver : Cond.instanceMethod ({ cls := "DayBehind$One", name := "goOver", desc := "(I)V" } : MethodName) ∈ ex_tb := tm (i := 339) (by decide +kernel) rfl
theorem se_One_goOver : Cond.selects "DayBehind$One" ({ cls := "DayBehind$One", name := "goOver", desc := "(I)V" } : MethodName) ({ cls := "DayBehind$One", name := "goOver", desc := "(I)V" } : MethodName) ∈ ex_tb := tm (i := 340) (by decide +kernel) rfl
theorem co_One_goOver : Cond.code Y_One_goOver.1 Y_One_goOver.2.1 Y_One_goOver.2.2.1 Y_One_goOver.2.2.2 ∈ ex_tb := tm (i := 341) (by decide +kernel) rfl
theorem ml_Law_60 : Cond.methodLink "DayBehindLaw" (60 : Nat) ({ cls := "DayBehind", name := "tells", desc := "(II)I" } : MethodName) ∈ ex_tb := tm (i := 342) (by decide +kernel) rfl
theorem im_Day_tells : Cond.instanceMethod ({ cls := "DayBehind", name := "tells", desc := "(II)I" } : MethodName) ∈ ex_tb := tm (i := 343) (by decide +kernel) rfl
theorem se_Day_tells : Cond.selects "DayBehind" ({ cls := "DayBehind", name := "tells", desc := "(II)I" } : MethodName) ({ cls := "DayBehind", name := "tells", desc := "(II)I" } : MethodName) ∈ ex_tb := tm (i := 344) (by decide +kernel) rfl
theorem co_Day_tells : Cond.code Y_Day_tells.1 Y_Day_tells.2.1 Y_Day_tells.2.2.1 Y_Day_tells.2.2.2 ∈ ex_tb := tm (i := 345) (by decide +kernel) rfl
theorem ml_Day_160 : Cond.methodLink "DayBehind" (160 : Nat) ({ cls := "java/lang/Integer", name := "bitCount", desc := "(I)I" } : MethodName) ∈ ex_tb := tm (i := 346) (by decide +kernel) rfl
theorem sm_Int_bitCount : Cond.static ({ cls := "java/lang/Integer", name := "bitCount", desc := "(I)I" } : MethodName) ∈ ex_tb := tm (i := 347) (by decide +kernel) rfl
theorem co_Int_bitCount : Cond.code Y_Int_bitCount.1 Y_Int_bitCount.2.1 Y_Int_bitCount.2.2.1 Y_Int_bitCount.2.2.2 ∈ ex_tb := tm (i := 348) (by decide +kernel) rfl
theorem kc_Int_265 : Cond.constant "java/lang/Integer" (265 : Nat) (1431655765 : Int32) ∈ ex_tb := tm (i := 349) (by decide +kernel) rfl
theorem kc_Int_266 : Cond.constant "java/lang/Integer" (266 : Nat) (858993459 : Int32) ∈ ex_tb := tm (i := 350) (by decide +kernel) rfl
theorem kc_Int_267 : Cond.constant "java/lang/Integer" (267 : Nat) (252645135 : Int32) ∈ ex_tb := tm (i := 351) (by decide +kernel) rfl
theorem ml_Law_64 : Cond.methodLink "DayBehindLaw" (64 : Nat) ({ cls := "DayBehind", name := "hours", desc := "(I)I" } : MethodName) ∈ ex_tb := tm (i := 352) (by decide +kernel) rfl
theorem im_Day_hours : Cond.instanceMethod ({ cls := "DayBehind", name := "hours", desc := "(I)I" } : MethodName) ∈ ex_tb := tm (i := 353) (by decide +kernel) rfl
theorem se_Day_hours : Cond.selects "DayBehind" ({ cls := "DayBehind", name := "hours", desc := "(I)I" } : MethodName) ({ cls := "DayBehind", name := "hours", desc := "(I)I" } : MethodName) ∈ ex_tb := tm (i := 354) (by decide +kernel) rfl
theorem co_Day_hours : Cond.code Y_Day_hours.1 Y_Day_hours.2.1 Y_Day_hours.2.2.1 Y_Day_hours.2.2.2 ∈ ex_tb := tm (i := 355) (by decide +kernel) rfl
theorem ml_Day_165 : Cond.methodLink "DayBehind" (165 : Nat) ({ cls := "DayBehind$River", name := "passHours", desc := "(I)V" } : MethodName) ∈ ex_tb := tm (i := 356) (by decide +kernel) rfl
theorem im_River_passHours : Cond.instanceMethod ({ cls := "DayBehind$River", name := "passHours", desc := "(I)V" } : MethodName) ∈ ex_tb := tm (i := 357) (by decide +kernel) rfl
theorem se_River_passHours : Cond.selects "DayBehind$River" ({ cls := "DayBehind$River", name := "passHours", desc := "(I)V" } : MethodName) ({ cls := "DayBehind$River", name := "passHours", desc := "(I)V" } : MethodName) ∈ ex_tb := tm (i := 358) (by decide +kernel) rfl
theorem co_River_passHours : Cond.code Y_River_passHours.1 Y_River_passHours.2.1 Y_River_passHours.2.2.1 Y_River_passHours.2.2.2 ∈ ex_tb := tm (i := 359) (by decide +kernel) rfl
theorem ml_River_50 : Cond.methodLink "DayBehind$River" (50 : Nat) ({ cls := "DayBehind$River", name := "passHour", desc := "()V" } : MethodName) ∈ ex_tb := tm (i := 360) (by decide +kernel) rfl
theorem im_River_passHour : Cond.instanceMethod ({ cls := "DayBehind$River", name := "passHour", desc := "()V" } : MethodName) ∈ ex_tb := tm (i := 361) (by decide +kernel) rfl
theorem se_River_passHour : Cond.selects "DayBehind$River" ({ cls := "DayBehind$River", name := "passHour", desc := "()V" } : MethodName) ({ cls := "DayBehind$River", name := "passHour", desc := "()V" } : MethodName) ∈ ex_tb := tm (i := 362) (by decide +kernel) rfl
theorem co_River_passHour : Cond.code Y_River_passHour.1 Y_River_passHour.2.1 Y_River_passHour.2.2.1 Y_River_passHour.2.2.2 ∈ ex_tb := tm (i := 363) (by decide +kernel) rfl
theorem ml_River_53 : Cond.methodLink "DayBehind$River" (53 : Nat) ({ cls := "DayBehind$River", name := "letCross", desc := "(I)V" } : MethodName) ∈ ex_tb := tm (i := 364) (by decide +kernel) rfl
theorem im_River_letCross : Cond.instanceMethod ({ cls := "DayBehind$River", name := "letCross", desc := "(I)V" } : MethodName) ∈ ex_tb := tm (i := 366) (by decide +kernel) rfl
theorem co_River_letCross : Cond.code Y_River_letCross.1 Y_River_letCross.2.1 Y_River_letCross.2.2.1 Y_River_letCross.2.2.2 ∈ ex_tb := tm (i := 367) (by decide +kernel) rfl
theorem ml_River_71 : Cond.methodLink "DayBehind$River" (71 : Nat) ({ cls := "DayBehind$One", name := "wantsOver", desc := "(I)Z" } : MethodName) ∈ ex_tb := tm (i := 368) (by decide +kernel) rfl
theorem im_One_wantsOver : Cond.instanceMethod ({ cls := "DayBehind$One", name := "wantsOver", desc := "(I)Z" } : MethodName) ∈ ex_tb := tm (i := 369) (by decide +kernel) rfl
theorem se_One_wantsOver : Cond.selects "DayBehind$One" ({ cls := "DayBehind$One", name := "wantsOver", desc := "(I)Z" } : MethodName) ({ cls := "DayBehind$One", name := "wantsOver", desc := "(I)Z" } : MethodName) ∈ ex_tb := tm (i := 370) (by decide +kernel) rfl
theorem co_One_wantsOver : Cond.code Y_One_wantsOver.1 Y_One_wantsOver.2.1 Y_One_wantsOver.2.2.1 Y_One_wantsOver.2.2.2 ∈ ex_tb := tm (i := 371) (by decide +kernel) rfl
theorem ml_River_75 : Cond.methodLink "DayBehind$River" (75 : Nat) ({ cls := "DayBehind$One", name := "canPay", desc := "(I)Z" } : MethodName) ∈ ex_tb := tm (i := 372) (by decide +kernel) rfl
theorem ml_River_78 : Cond.methodLink "DayBehind$River" (78 : Nat) ({ cls := "DayBehind$One", name := "goOver", desc := "(I)V" } : MethodName) ∈ ex_tb := tm (i := 373) (by decide +kernel) rfl
theorem ml_River_57 : Cond.methodLink "DayBehind$River" (57 : Nat) ({ cls := "DayBehind$River", name := "spread", desc := "(I)V" } : MethodName) ∈ ex_tb := tm (i := 374) (by decide +kernel) rfl
theorem im_River_spread : Cond.instanceMethod ({ cls := "DayBehind$River", name := "spread", desc := "(I)V" } : MethodName) ∈ ex_tb := tm (i := 376) (by decide +kernel) rfl
theorem co_River_spread : Cond.code Y_River_spread.1 Y_River_spread.2.1 Y_River_spread.2.2.1 Y_River_spread.2.2.2 ∈ ex_tb := tm (i := 377) (by decide +kernel) rfl
theorem ml_River_84 : Cond.methodLink "DayBehind$River" (84 : Nat) ({ cls := "DayBehind$One", name := "isTeller", desc := "()Z" } : MethodName) ∈ ex_tb := tm (i := 378) (by decide +kernel) rfl
theorem im_One_isTeller : Cond.instanceMethod ({ cls := "DayBehind$One", name := "isTeller", desc := "()Z" } : MethodName) ∈ ex_tb := tm (i := 379) (by decide +kernel) rfl
theorem se_One_isTeller : Cond.selects "DayBehind$One" ({ cls := "DayBehind$One", name := "isTeller", desc := "()Z" } : MethodName) ({ cls := "DayBehind$One", name := "isTeller", desc := "()Z" } : MethodName) ∈ ex_tb := tm (i := 380) (by decide +kernel) rfl
theorem co_One_isTeller : Cond.code Y_One_isTeller.1 Y_One_isTeller.2.1 Y_One_isTeller.2.2.1 Y_One_isTeller.2.2.2 ∈ ex_tb := tm (i := 381) (by decide +kernel) rfl
theorem ml_River_91 : Cond.methodLink "DayBehind$River" (91 : Nat) ({ cls := "DayBehind$One", name := "hear", desc := "(I)V" } : MethodName) ∈ ex_tb := tm (i := 382) (by decide +kernel) rfl
theorem im_One_hear : Cond.instanceMethod ({ cls := "DayBehind$One", name := "hear", desc := "(I)V" } : MethodName) ∈ ex_tb := tm (i := 383) (by decide +kernel) rfl
theorem se_One_hear : Cond.selects "DayBehind$One" ({ cls := "DayBehind$One", name := "hear", desc := "(I)V" } : MethodName) ({ cls := "DayBehind$One", name := "hear", desc := "(I)V" } : MethodName) ∈ ex_tb := tm (i := 384) (by decide +kernel) rfl
theorem co_One_hear : Cond.code Y_One_hear.1 Y_One_hear.2.1 Y_One_hear.2.2.1 Y_One_hear.2.2.2 ∈ ex_tb := tm (i := 385) (by decide +kernel) rfl
theorem ml_River_60 : Cond.methodLink "DayBehind$River" (60 : Nat) ({ cls := "DayBehind$River", name := "meet", desc := "()V" } : MethodName) ∈ ex_tb := tm (i := 386) (by decide +kernel) rfl
theorem im_River_meet : Cond.instanceMethod ({ cls := "DayBehind$River", name := "meet", desc := "()V" } : MethodName) ∈ ex_tb := tm (i := 388) (by decide +kernel) rfl
theorem co_River_meet : Cond.code Y_River_meet.1 Y_River_meet.2.1 Y_River_meet.2.2.1 Y_River_meet.2.2.2 ∈ ex_tb := tm (i := 389) (by decide +kernel) rfl
theorem ml_River_97 : Cond.methodLink "DayBehind$River" (97 : Nat) ({ cls := "DayBehind$River", name := "meetWhatIsKnownTo", desc := "(LDayBehind$One;)V" } : MethodName) ∈ ex_tb := tm (i := 390) (by decide +kernel) rfl
theorem im_River_meetWhatIsKnownTo : Cond.instanceMethod ({ cls := "DayBehind$River", name := "meetWhatIsKnownTo", desc := "(LDayBehind$One;)V" } : MethodName) ∈ ex_tb := tm (i := 392) (by decide +kernel) rfl
theorem co_River_meetWhatIsKnownTo : Cond.code Y_River_meetWhatIsKnownTo.1 Y_River_meetWhatIsKnownTo.2.1 Y_River_meetWhatIsKnownTo.2.2.1 Y_River_meetWhatIsKnownTo.2.2.2 ∈ ex_tb := tm (i := 393) (by decide +kernel) rfl
theorem ml_River_103 : Cond.methodLink "DayBehind$River" (103 : Nat) ({ cls := "DayBehind$Event", name := "canBeMet", desc := "(I)Z" } : MethodName) ∈ ex_tb := tm (i := 394) (by decide +kernel) rfl
theorem im_Event_canBeMet : Cond.instanceMethod ({ cls := "DayBehind$Event", name := "canBeMet", desc := "(I)Z" } : MethodName) ∈ ex_tb := tm (i := 395) (by decide +kernel) rfl
theorem se_Event_canBeMet : Cond.selects "DayBehind$Event" ({ cls := "DayBehind$Event", name := "canBeMet", desc := "(I)Z" } : MethodName) ({ cls := "DayBehind$Event", name := "canBeMet", desc := "(I)Z" } : MethodName) ∈ ex_tb := tm (i := 396) (by decide +kernel) rfl
theorem co_Event_canBeMet : Cond.code Y_Event_canBeMet.1 Y_Event_canBeMet.2.1 Y_Event_canBeMet.2.2.1 Y_Event_canBeMet.2.2.2 ∈ ex_tb := tm (i := 397) (by decide +kernel) rfl
theorem ml_River_64 : Cond.methodLink "DayBehind$River" (64 : Nat) ({ cls := "DayBehind$River", name := "befall", desc := "(II)V" } : MethodName) ∈ ex_tb := tm (i := 398) (by decide +kernel) rfl
theorem im_River_befall : Cond.instanceMethod ({ cls := "DayBehind$River", name := "befall", desc := "(II)V" } : MethodName) ∈ ex_tb := tm (i := 400) (by decide +kernel) rfl
theorem co_River_befall : Cond.code Y_River_befall.1 Y_River_befall.2.1 Y_River_befall.2.2.1 Y_River_befall.2.2.2 ∈ ex_tb := tm (i := 401) (by decide +kernel) rfl
theorem ml_River_109 : Cond.methodLink "DayBehind$River" (109 : Nat) ({ cls := "DayBehind$One", name := "live", desc := "(II)V" } : MethodName) ∈ ex_tb := tm (i := 402) (by decide +kernel) rfl
theorem im_One_live : Cond.instanceMethod ({ cls := "DayBehind$One", name := "live", desc := "(II)V" } : MethodName) ∈ ex_tb := tm (i := 403) (by decide +kernel) rfl
theorem se_One_live : Cond.selects "DayBehind$One" ({ cls := "DayBehind$One", name := "live", desc := "(II)V" } : MethodName) ({ cls := "DayBehind$One", name := "live", desc := "(II)V" } : MethodName) ∈ ex_tb := tm (i := 404) (by decide +kernel) rfl
theorem co_One_live : Cond.code Y_One_live.1 Y_One_live.2.1 Y_One_live.2.2.1 Y_One_live.2.2.2 ∈ ex_tb := tm (i := 405) (by decide +kernel) rfl
theorem ml_One_33 : Cond.methodLink "DayBehind$One" (33 : Nat) ({ cls := "DayBehind$One", name := "hasHeard", desc := "(I)Z" } : MethodName) ∈ ex_tb := tm (i := 406) (by decide +kernel) rfl
theorem ml_One_37 : Cond.methodLink "DayBehind$One" (37 : Nat) ({ cls := "DayBehind$Kinds", name := "gain", desc := "(IIZ)I" } : MethodName) ∈ ex_tb := tm (i := 407) (by decide +kernel) rfl
theorem ml_One_43 : Cond.methodLink "DayBehind$One" (43 : Nat) ({ cls := "java/lang/Math", name := "min", desc := "(II)I" } : MethodName) ∈ ex_tb := tm (i := 408) (by decide +kernel) rfl
theorem sm_Math_min : Cond.static ({ cls := "java/lang/Math", name := "min", desc := "(II)I" } : MethodName) ∈ ex_tb := tm (i := 409) (by decide +kernel) rfl
theorem co_Math_min : Cond.code Y_Math_min.1 Y_Math_min.2.1 Y_Math_min.2.2.1 Y_Math_min.2.2.2 ∈ ex_tb := tm (i := 410) (by decide +kernel) rfl
theorem ml_One_49 : Cond.methodLink "DayBehind$One" (49 : Nat) ({ cls := "java/lang/Math", name := "max", desc := "(II)I" } : MethodName) ∈ ex_tb := tm (i := 411) (by decide +kernel) rfl
theorem ml_One_52 : Cond.methodLink "DayBehind$One" (52 : Nat) ({ cls := "DayBehind$One", name := "hear", desc := "(I)V" } : MethodName) ∈ ex_tb := tm (i := 412) (by decide +kernel) rfl
theorem ml_Day_168 : Cond.methodLink "DayBehind" (168 : Nat) ({ cls := "DayBehind$River", name := "allPurses", desc := "()I" } : MethodName) ∈ ex_tb := tm (i := 413) (by decide +kernel) rfl
theorem im_River_allPurses : Cond.instanceMethod ({ cls := "DayBehind$River", name := "allPurses", desc := "()I" } : MethodName) ∈ ex_tb := tm (i := 414) (by decide +kernel) rfl
theorem se_River_allPurses : Cond.selects "DayBehind$River" ({ cls := "DayBehind$River", name := "allPurses", desc := "()I" } : MethodName) ({ cls := "DayBehind$River", name := "allPurses", desc := "()I" } : MethodName) ∈ ex_tb := tm (i := 415) (by decide +kernel) rfl
theorem co_River_allPurses : Cond.code Y_River_allPurses.1 Y_River_allPurses.2.1 Y_River_allPurses.2.2.1 Y_River_allPurses.2.2.2 ∈ ex_tb := tm (i := 416) (by decide +kernel) rfl
theorem ml_Law_68 : Cond.methodLink "DayBehindLaw" (68 : Nat) ({ cls := "DayBehind", name := "now", desc := "(I)I" } : MethodName) ∈ ex_tb := tm (i := 417) (by decide +kernel) rfl
theorem im_Day_now : Cond.instanceMethod ({ cls := "DayBehind", name := "now", desc := "(I)I" } : MethodName) ∈ ex_tb := tm (i := 418) (by decide +kernel) rfl
theorem se_Day_now : Cond.selects "DayBehind" ({ cls := "DayBehind", name := "now", desc := "(I)I" } : MethodName) ({ cls := "DayBehind", name := "now", desc := "(I)I" } : MethodName) ∈ ex_tb := tm (i := 419) (by decide +kernel) rfl
theorem co_Day_now : Cond.code Y_Day_now.1 Y_Day_now.2.1 Y_Day_now.2.2.1 Y_Day_now.2.2.2 ∈ ex_tb := tm (i := 420) (by decide +kernel) rfl
theorem ml_Day_172 : Cond.methodLink "DayBehind" (172 : Nat) ({ cls := "DayBehind$River", name := "allCrossed", desc := "()I" } : MethodName) ∈ ex_tb := tm (i := 421) (by decide +kernel) rfl
theorem im_River_allCrossed : Cond.instanceMethod ({ cls := "DayBehind$River", name := "allCrossed", desc := "()I" } : MethodName) ∈ ex_tb := tm (i := 422) (by decide +kernel) rfl
theorem se_River_allCrossed : Cond.selects "DayBehind$River" ({ cls := "DayBehind$River", name := "allCrossed", desc := "()I" } : MethodName) ({ cls := "DayBehind$River", name := "allCrossed", desc := "()I" } : MethodName) ∈ ex_tb := tm (i := 423) (by decide +kernel) rfl
theorem co_River_allCrossed : Cond.code Y_River_allCrossed.1 Y_River_allCrossed.2.1 Y_River_allCrossed.2.2.1 Y_River_allCrossed.2.2.2 ∈ ex_tb := tm (i := 424) (by decide +kernel) rfl
theorem ml_Day_175 : Cond.methodLink "DayBehind" (175 : Nat) ({ cls := "DayBehind$River", name := "thoseOnLeft", desc := "()I" } : MethodName) ∈ ex_tb := tm (i := 425) (by decide +kernel) rfl
theorem im_River_thoseOnLeft : Cond.instanceMethod ({ cls := "DayBehind$River", name := "thoseOnLeft", desc := "()I" } : MethodName) ∈ ex_tb := tm (i := 426) (by decide +kernel) rfl
theorem se_River_thoseOnLeft : Cond.selects "DayBehind$River" ({ cls := "DayBehind$River", name := "thoseOnLeft", desc := "()I" } : MethodName) ({ cls := "DayBehind$River", name := "thoseOnLeft", desc := "()I" } : MethodName) ∈ ex_tb := tm (i := 427) (by decide +kernel) rfl
theorem co_River_thoseOnLeft : Cond.code Y_River_thoseOnLeft.1 Y_River_thoseOnLeft.2.1 Y_River_thoseOnLeft.2.2.1 Y_River_thoseOnLeft.2.2.2 ∈ ex_tb := tm (i := 428) (by decide +kernel) rfl
theorem ml_Day_178 : Cond.methodLink "DayBehind" (178 : Nat) ({ cls := "DayBehind$River", name := "metEvents", desc := "()I" } : MethodName) ∈ ex_tb := tm (i := 429) (by decide +kernel) rfl
theorem im_River_metEvents : Cond.instanceMethod ({ cls := "DayBehind$River", name := "metEvents", desc := "()I" } : MethodName) ∈ ex_tb := tm (i := 430) (by decide +kernel) rfl
theorem se_River_metEvents : Cond.selects "DayBehind$River" ({ cls := "DayBehind$River", name := "metEvents", desc := "()I" } : MethodName) ({ cls := "DayBehind$River", name := "metEvents", desc := "()I" } : MethodName) ∈ ex_tb := tm (i := 431) (by decide +kernel) rfl
theorem co_River_metEvents : Cond.code Y_River_metEvents.1 Y_River_metEvents.2.1 Y_River_metEvents.2.2.1 Y_River_metEvents.2.2.2 ∈ ex_tb := tm (i := 432) (by decide +kernel) rfl
theorem ml_Law_72 : Cond.methodLink "DayBehindLaw" (72 : Nat) ({ cls := "DayBehind", name := "on", desc := "(III)I" } : MethodName) ∈ ex_tb := tm (i := 433) (by decide +kernel) rfl
theorem im_Day_on : Cond.instanceMethod ({ cls := "DayBehind", name := "on", desc := "(III)I" } : MethodName) ∈ ex_tb := tm (i := 434) (by decide +kernel) rfl
theorem se_Day_on : Cond.selects "DayBehind" ({ cls := "DayBehind", name := "on", desc := "(III)I" } : MethodName) ({ cls := "DayBehind", name := "on", desc := "(III)I" } : MethodName) ∈ ex_tb := tm (i := 435) (by decide +kernel) rfl
theorem co_Day_on : Cond.code Y_Day_on.1 Y_Day_on.2.1 Y_Day_on.2.2.1 Y_Day_on.2.2.2 ∈ ex_tb := tm (i := 436) (by decide +kernel) rfl
theorem ml_Day_181 : Cond.methodLink "DayBehind" (181 : Nat) ({ cls := "DayBehind", name := "startTrial", desc := "()V" } : MethodName) ∈ ex_tb := tm (i := 437) (by decide +kernel) rfl
theorem im_Day_startTrial : Cond.instanceMethod ({ cls := "DayBehind", name := "startTrial", desc := "()V" } : MethodName) ∈ ex_tb := tm (i := 439) (by decide +kernel) rfl
theorem co_Day_startTrial : Cond.code Y_Day_startTrial.1 Y_Day_startTrial.2.1 Y_Day_startTrial.2.2.1 Y_Day_startTrial.2.2.2 ∈ ex_tb := tm (i := 440) (by decide +kernel) rfl
theorem ml_Day_239 : Cond.methodLink "DayBehind" (239 : Nat) ({ cls := "DayBehind$River", name := "become", desc := "(LDayBehind$River;)V" } : MethodName) ∈ ex_tb := tm (i := 441) (by decide +kernel) rfl
theorem im_River_become : Cond.instanceMethod ({ cls := "DayBehind$River", name := "become", desc := "(LDayBehind$River;)V" } : MethodName) ∈ ex_tb := tm (i := 442) (by decide +kernel) rfl
theorem se_River_become : Cond.selects "DayBehind$River" ({ cls := "DayBehind$River", name := "become", desc := "(LDayBehind$River;)V" } : MethodName) ({ cls := "DayBehind$River", name := "become", desc := "(LDayBehind$River;)V" } : MethodName) ∈ ex_tb := tm (i := 443) (by decide +kernel) rfl
theorem co_River_become : Cond.code Y_River_become.1 Y_River_become.2.1 Y_River_become.2.2.1 Y_River_become.2.2.2 ∈ ex_tb := tm (i := 444) (by decide +kernel) rfl
theorem ml_River_38 : Cond.methodLink "DayBehind$River" (38 : Nat) ({ cls := "DayBehind$One", name := "become", desc := "(LDayBehind$One;)V" } : MethodName) ∈ ex_tb := tm (i := 445) (by decide +kernel) rfl
theorem im_One_become : Cond.instanceMethod ({ cls := "DayBehind$One", name := "become", desc := "(LDayBehind$One;)V" } : MethodName) ∈ ex_tb := tm (i := 446) (by decide +kernel) rfl
theorem se_One_become : Cond.selects "DayBehind$One" ({ cls := "DayBehind$One", name := "become", desc := "(LDayBehind$One;)V" } : MethodName) ({ cls := "DayBehind$One", name := "become", desc := "(LDayBehind$One;)V" } : MethodName) ∈ ex_tb := tm (i := 447) (by decide +kernel) rfl
theorem co_One_become : Cond.code Y_One_become.1 Y_One_become.2.1 Y_One_become.2.2.1 Y_One_become.2.2.2 ∈ ex_tb := tm (i := 448) (by decide +kernel) rfl
theorem ml_River_42 : Cond.methodLink "DayBehind$River" (42 : Nat) ({ cls := "DayBehind$Event", name := "become", desc := "(LDayBehind$Event;)V" } : MethodName) ∈ ex_tb := tm (i := 449) (by decide +kernel) rfl
theorem im_Event_become : Cond.instanceMethod ({ cls := "DayBehind$Event", name := "become", desc := "(LDayBehind$Event;)V" } : MethodName) ∈ ex_tb := tm (i := 450) (by decide +kernel) rfl
theorem se_Event_become : Cond.selects "DayBehind$Event" ({ cls := "DayBehind$Event", name := "become", desc := "(LDayBehind$Event;)V" } : MethodName) ({ cls := "DayBehind$Event", name := "become", desc := "(LDayBehind$Event;)V" } : MethodName) ∈ ex_tb := tm (i := 451) (by decide +kernel) rfl
theorem co_Event_become : Cond.code Y_Event_become.1 Y_Event_become.2.1 Y_Event_become.2.2.1 Y_Event_become.2.2.2 ∈ ex_tb := tm (i := 452) (by decide +kernel) rfl
theorem ml_Law_76 : Cond.methodLink "DayBehindLaw" (76 : Nat) ({ cls := "DayBehind", name := "learns", desc := "(II)I" } : MethodName) ∈ ex_tb := tm (i := 453) (by decide +kernel) rfl
theorem im_Day_learns : Cond.instanceMethod ({ cls := "DayBehind", name := "learns", desc := "(II)I" } : MethodName) ∈ ex_tb := tm (i := 454) (by decide +kernel) rfl
theorem se_Day_learns : Cond.selects "DayBehind" ({ cls := "DayBehind", name := "learns", desc := "(II)I" } : MethodName) ({ cls := "DayBehind", name := "learns", desc := "(II)I" } : MethodName) ∈ ex_tb := tm (i := 455) (by decide +kernel) rfl
theorem co_Day_learns : Cond.code Y_Day_learns.1 Y_Day_learns.2.1 Y_Day_learns.2.2.1 Y_Day_learns.2.2.2 ∈ ex_tb := tm (i := 456) (by decide +kernel) rfl
theorem ml_Day_184 : Cond.methodLink "DayBehind" (184 : Nat) ({ cls := "DayBehind$One", name := "hasHeard", desc := "(I)Z" } : MethodName) ∈ ex_tb := tm (i := 457) (by decide +kernel) rfl
theorem ml_Day_187 : Cond.methodLink "DayBehind" (187 : Nat) ({ cls := "DayBehind$River", name := "passHour", desc := "()V" } : MethodName) ∈ ex_tb := tm (i := 458) (by decide +kernel) rfl
theorem kc_Day_190 : Cond.constant "DayBehind" (190 : Nat) (-1000000004 : Int32) ∈ ex_tb := tm (i := 459) (by decide +kernel) rfl
theorem ml_Law_80 : Cond.methodLink "DayBehindLaw" (80 : Nat) ({ cls := "DayBehind", name := "first", desc := "(I)I" } : MethodName) ∈ ex_tb := tm (i := 460) (by decide +kernel) rfl
theorem im_Day_first : Cond.instanceMethod ({ cls := "DayBehind", name := "first", desc := "(I)I" } : MethodName) ∈ ex_tb := tm (i := 461) (by decide +kernel) rfl
theorem se_Day_first : Cond.selects "DayBehind" ({ cls := "DayBehind", name := "first", desc := "(I)I" } : MethodName) ({ cls := "DayBehind", name := "first", desc := "(I)I" } : MethodName) ∈ ex_tb := tm (i := 462) (by decide +kernel) rfl
theorem co_Day_first : Cond.code Y_Day_first.1 Y_Day_first.2.1 Y_Day_first.2.2.1 Y_Day_first.2.2.2 ∈ ex_tb := tm (i := 463) (by decide +kernel) rfl
theorem ml_Day_191 : Cond.methodLink "DayBehind" (191 : Nat) ({ cls := "java/lang/Integer", name := "numberOfTrailingZeros", desc := "(I)I" } : MethodName) ∈ ex_tb := tm (i := 464) (by decide +kernel) rfl
theorem sm_Int_numberOfTrailingZeros : Cond.static ({ cls := "java/lang/Integer", name := "numberOfTrailingZeros", desc := "(I)I" } : MethodName) ∈ ex_tb := tm (i := 465) (by decide +kernel) rfl
theorem co_Int_numberOfTrailingZeros : Cond.code Y_Int_numberOfTrailingZeros.1 Y_Int_numberOfTrailingZeros.2.1 Y_Int_numberOfTrailingZeros.2.2.1 Y_Int_numberOfTrailingZeros.2.2.2 ∈ ex_tb := tm (i := 466) (by decide +kernel) rfl
theorem kc_Int_264 : Cond.constant "java/lang/Integer" (264 : Nat) (65536 : Int32) ∈ ex_tb := tm (i := 467) (by decide +kernel) rfl
theorem ml_Law_84 : Cond.methodLink "DayBehindLaw" (84 : Nat) ({ cls := "DayBehind", name := "met", desc := "(I)I" } : MethodName) ∈ ex_tb := tm (i := 468) (by decide +kernel) rfl
theorem im_Day_met : Cond.instanceMethod ({ cls := "DayBehind", name := "met", desc := "(I)I" } : MethodName) ∈ ex_tb := tm (i := 469) (by decide +kernel) rfl
theorem se_Day_met : Cond.selects "DayBehind" ({ cls := "DayBehind", name := "met", desc := "(I)I" } : MethodName) ({ cls := "DayBehind", name := "met", desc := "(I)I" } : MethodName) ∈ ex_tb := tm (i := 470) (by decide +kernel) rfl
theorem co_Day_met : Cond.code Y_Day_met.1 Y_Day_met.2.1 Y_Day_met.2.2.1 Y_Day_met.2.2.2 ∈ ex_tb := tm (i := 471) (by decide +kernel) rfl
theorem ml_Law_88 : Cond.methodLink "DayBehindLaw" (88 : Nat) ({ cls := "DayBehind", name := "broke", desc := "(I)I" } : MethodName) ∈ ex_tb := tm (i := 472) (by decide +kernel) rfl
theorem im_Day_broke : Cond.instanceMethod ({ cls := "DayBehind", name := "broke", desc := "(I)I" } : MethodName) ∈ ex_tb := tm (i := 473) (by decide +kernel) rfl
theorem se_Day_broke : Cond.selects "DayBehind" ({ cls := "DayBehind", name := "broke", desc := "(I)I" } : MethodName) ({ cls := "DayBehind", name := "broke", desc := "(I)I" } : MethodName) ∈ ex_tb := tm (i := 474) (by decide +kernel) rfl
theorem co_Day_broke : Cond.code Y_Day_broke.1 Y_Day_broke.2.1 Y_Day_broke.2.2.1 Y_Day_broke.2.2.2 ∈ ex_tb := tm (i := 475) (by decide +kernel) rfl
theorem ml_Law_92 : Cond.methodLink "DayBehindLaw" (92 : Nat) ({ cls := "DayBehind", name := "clocks", desc := "(II)I" } : MethodName) ∈ ex_tb := tm (i := 476) (by decide +kernel) rfl
theorem im_Day_clocks : Cond.instanceMethod ({ cls := "DayBehind", name := "clocks", desc := "(II)I" } : MethodName) ∈ ex_tb := tm (i := 477) (by decide +kernel) rfl
theorem se_Day_clocks : Cond.selects "DayBehind" ({ cls := "DayBehind", name := "clocks", desc := "(II)I" } : MethodName) ({ cls := "DayBehind", name := "clocks", desc := "(II)I" } : MethodName) ∈ ex_tb := tm (i := 478) (by decide +kernel) rfl
theorem co_Day_clocks : Cond.code Y_Day_clocks.1 Y_Day_clocks.2.1 Y_Day_clocks.2.2.1 Y_Day_clocks.2.2.2 ∈ ex_tb := tm (i := 479) (by decide +kernel) rfl
theorem ml_Day_194 : Cond.methodLink "DayBehind" (194 : Nat) ({ cls := "DayBehind", name := "seekClocks", desc := "(II)V" } : MethodName) ∈ ex_tb := tm (i := 480) (by decide +kernel) rfl
theorem im_Day_seekClocks : Cond.instanceMethod ({ cls := "DayBehind", name := "seekClocks", desc := "(II)V" } : MethodName) ∈ ex_tb := tm (i := 482) (by decide +kernel) rfl
theorem co_Day_seekClocks : Cond.code Y_Day_seekClocks.1 Y_Day_seekClocks.2.1 Y_Day_seekClocks.2.2.1 Y_Day_seekClocks.2.2.2 ∈ ex_tb := tm (i := 483) (by decide +kernel) rfl
theorem ml_Day_205 : Cond.methodLink "DayBehind" (205 : Nat) ({ cls := "DayBehind$Best", name := "begin", desc := "(I)V" } : MethodName) ∈ ex_tb := tm (i := 484) (by decide +kernel) rfl
theorem im_Best_begin : Cond.instanceMethod ({ cls := "DayBehind$Best", name := "begin", desc := "(I)V" } : MethodName) ∈ ex_tb := tm (i := 485) (by decide +kernel) rfl
theorem se_Best_begin : Cond.selects "DayBehind$Best" ({ cls := "DayBehind$Best", name := "begin", desc := "(I)V" } : MethodName) ({ cls := "DayBehind$Best", name := "begin", desc := "(I)V" } : MethodName) ∈ ex_tb := tm (i := 486) (by decide +kernel) rfl
theorem co_Best_begin : Cond.code Y_Best_begin.1 Y_Best_begin.2.1 Y_Best_begin.2.2.1 Y_Best_begin.2.2.2 ∈ ex_tb := tm (i := 487) (by decide +kernel) rfl
theorem kc_Best_9 : Cond.constant "DayBehind$Best" (9 : Nat) (-1000000004 : Int32) ∈ ex_tb := tm (i := 488) (by decide +kernel) rfl
theorem ml_Day_284 : Cond.methodLink "DayBehind" (284 : Nat) ({ cls := "DayBehind", name := "startTrialByClocks", desc := "(III)V" } : MethodName) ∈ ex_tb := tm (i := 489) (by decide +kernel) rfl
theorem im_Day_startTrialByClocks : Cond.instanceMethod ({ cls := "DayBehind", name := "startTrialByClocks", desc := "(III)V" } : MethodName) ∈ ex_tb := tm (i := 491) (by decide +kernel) rfl
theorem co_Day_startTrialByClocks : Cond.code Y_Day_startTrialByClocks.1 Y_Day_startTrialByClocks.2.1 Y_Day_startTrialByClocks.2.2.1 Y_Day_startTrialByClocks.2.2.2 ∈ ex_tb := tm (i := 492) (by decide +kernel) rfl
theorem ml_Day_211 : Cond.methodLink "DayBehind" (211 : Nat) ({ cls := "DayBehind$Best", name := "offer", desc := "(II)V" } : MethodName) ∈ ex_tb := tm (i := 493) (by decide +kernel) rfl
theorem im_Best_offer : Cond.instanceMethod ({ cls := "DayBehind$Best", name := "offer", desc := "(II)V" } : MethodName) ∈ ex_tb := tm (i := 494) (by decide +kernel) rfl
theorem se_Best_offer : Cond.selects "DayBehind$Best" ({ cls := "DayBehind$Best", name := "offer", desc := "(II)V" } : MethodName) ({ cls := "DayBehind$Best", name := "offer", desc := "(II)V" } : MethodName) ∈ ex_tb := tm (i := 495) (by decide +kernel) rfl
theorem co_Best_offer : Cond.code Y_Best_offer.1 Y_Best_offer.2.1 Y_Best_offer.2.2.1 Y_Best_offer.2.2.2 ∈ ex_tb := tm (i := 496) (by decide +kernel) rfl
theorem ml_Law_96 : Cond.methodLink "DayBehindLaw" (96 : Nat) ({ cls := "DayBehind", name := "rich", desc := "(II)I" } : MethodName) ∈ ex_tb := tm (i := 497) (by decide +kernel) rfl
theorem im_Day_rich : Cond.instanceMethod ({ cls := "DayBehind", name := "rich", desc := "(II)I" } : MethodName) ∈ ex_tb := tm (i := 498) (by decide +kernel) rfl
theorem se_Day_rich : Cond.selects "DayBehind" ({ cls := "DayBehind", name := "rich", desc := "(II)I" } : MethodName) ({ cls := "DayBehind", name := "rich", desc := "(II)I" } : MethodName) ∈ ex_tb := tm (i := 499) (by decide +kernel) rfl
theorem co_Day_rich : Cond.code Y_Day_rich.1 Y_Day_rich.2.1 Y_Day_rich.2.2.1 Y_Day_rich.2.2.2 ∈ ex_tb := tm (i := 500) (by decide +kernel) rfl
theorem ml_Law_100 : Cond.methodLink "DayBehindLaw" (100 : Nat) ({ cls := "DayBehind", name := "bears", desc := "(II)I" } : MethodName) ∈ ex_tb := tm (i := 501) (by decide +kernel) rfl
theorem im_Day_bears : Cond.instanceMethod ({ cls := "DayBehind", name := "bears", desc := "(II)I" } : MethodName) ∈ ex_tb := tm (i := 502) (by decide +kernel) rfl
theorem se_Day_bears : Cond.selects "DayBehind" ({ cls := "DayBehind", name := "bears", desc := "(II)I" } : MethodName) ({ cls := "DayBehind", name := "bears", desc := "(II)I" } : MethodName) ∈ ex_tb := tm (i := 503) (by decide +kernel) rfl
theorem co_Day_bears : Cond.code Y_Day_bears.1 Y_Day_bears.2.1 Y_Day_bears.2.2.1 Y_Day_bears.2.2.2 ∈ ex_tb := tm (i := 504) (by decide +kernel) rfl
theorem kc_Day_204 : Cond.constant "DayBehind" (204 : Nat) (99999 : Int32) ∈ ex_tb := tm (i := 505) (by decide +kernel) rfl
theorem ml_Law_104 : Cond.methodLink "DayBehindLaw" (104 : Nat) ({ cls := "DayBehind", name := "bank", desc := "(II)I" } : MethodName) ∈ ex_tb := tm (i := 506) (by decide +kernel) rfl
theorem im_Day_bank : Cond.instanceMethod ({ cls := "DayBehind", name := "bank", desc := "(II)I" } : MethodName) ∈ ex_tb := tm (i := 507) (by decide +kernel) rfl
theorem se_Day_bank : Cond.selects "DayBehind" ({ cls := "DayBehind", name := "bank", desc := "(II)I" } : MethodName) ({ cls := "DayBehind", name := "bank", desc := "(II)I" } : MethodName) ∈ ex_tb := tm (i := 508) (by decide +kernel) rfl
theorem co_Day_bank : Cond.code Y_Day_bank.1 Y_Day_bank.2.1 Y_Day_bank.2.2.1 Y_Day_bank.2.2.2 ∈ ex_tb := tm (i := 509) (by decide +kernel) rfl
theorem ml_Day_208 : Cond.methodLink "DayBehind" (208 : Nat) ({ cls := "DayBehind", name := "purseInTrial", desc := "(II)I" } : MethodName) ∈ ex_tb := tm (i := 510) (by decide +kernel) rfl
theorem im_Day_purseInTrial : Cond.instanceMethod ({ cls := "DayBehind", name := "purseInTrial", desc := "(II)I" } : MethodName) ∈ ex_tb := tm (i := 512) (by decide +kernel) rfl
theorem co_Day_purseInTrial : Cond.code Y_Day_purseInTrial.1 Y_Day_purseInTrial.2.1 Y_Day_purseInTrial.2.2.1 Y_Day_purseInTrial.2.2.2 ∈ ex_tb := tm (i := 513) (by decide +kernel) rfl
theorem ml_Law_108 : Cond.methodLink "DayBehindLaw" (108 : Nat) ({ cls := "DayBehind", name := "kind", desc := "(II)I" } : MethodName) ∈ ex_tb := tm (i := 514) (by decide +kernel) rfl
theorem im_Day_kind : Cond.instanceMethod ({ cls := "DayBehind", name := "kind", desc := "(II)I" } : MethodName) ∈ ex_tb := tm (i := 515) (by decide +kernel) rfl
theorem se_Day_kind : Cond.selects "DayBehind" ({ cls := "DayBehind", name := "kind", desc := "(II)I" } : MethodName) ({ cls := "DayBehind", name := "kind", desc := "(II)I" } : MethodName) ∈ ex_tb := tm (i := 516) (by decide +kernel) rfl
theorem co_Day_kind : Cond.code Y_Day_kind.1 Y_Day_kind.2.1 Y_Day_kind.2.2.1 Y_Day_kind.2.2.2 ∈ ex_tb := tm (i := 517) (by decide +kernel) rfl
theorem ml_Law_112 : Cond.methodLink "DayBehindLaw" (112 : Nat) ({ cls := "DayBehind", name := "news", desc := "(II)I" } : MethodName) ∈ ex_tb := tm (i := 518) (by decide +kernel) rfl
theorem im_Day_news : Cond.instanceMethod ({ cls := "DayBehind", name := "news", desc := "(II)I" } : MethodName) ∈ ex_tb := tm (i := 519) (by decide +kernel) rfl
theorem se_Day_news : Cond.selects "DayBehind" ({ cls := "DayBehind", name := "news", desc := "(II)I" } : MethodName) ({ cls := "DayBehind", name := "news", desc := "(II)I" } : MethodName) ∈ ex_tb := tm (i := 520) (by decide +kernel) rfl
theorem co_Day_news : Cond.code Y_Day_news.1 Y_Day_news.2.1 Y_Day_news.2.2.1 Y_Day_news.2.2.2 ∈ ex_tb := tm (i := 521) (by decide +kernel) rfl
theorem ml_Day_217 : Cond.methodLink "DayBehind" (217 : Nat) ({ cls := "DayBehind$One", name := "hear", desc := "(I)V" } : MethodName) ∈ ex_tb := tm (i := 522) (by decide +kernel) rfl
theorem ml_Law_116 : Cond.methodLink "DayBehindLaw" (116 : Nat) ({ cls := "DayBehind", name := "needed", desc := "(I)I" } : MethodName) ∈ ex_tb := tm (i := 523) (by decide +kernel) rfl
theorem im_Day_needed : Cond.instanceMethod ({ cls := "DayBehind", name := "needed", desc := "(I)I" } : MethodName) ∈ ex_tb := tm (i := 524) (by decide +kernel) rfl
theorem se_Day_needed : Cond.selects "DayBehind" ({ cls := "DayBehind", name := "needed", desc := "(I)I" } : MethodName) ({ cls := "DayBehind", name := "needed", desc := "(I)I" } : MethodName) ∈ ex_tb := tm (i := 525) (by decide +kernel) rfl
theorem co_Day_needed : Cond.code Y_Day_needed.1 Y_Day_needed.2.1 Y_Day_needed.2.2.1 Y_Day_needed.2.2.2 ∈ ex_tb := tm (i := 526) (by decide +kernel) rfl
theorem ml_Day_220 : Cond.methodLink "DayBehind" (220 : Nat) ({ cls := "DayBehind", name := "metInTrial", desc := "(I)I" } : MethodName) ∈ ex_tb := tm (i := 527) (by decide +kernel) rfl
theorem im_Day_metInTrial : Cond.instanceMethod ({ cls := "DayBehind", name := "metInTrial", desc := "(I)I" } : MethodName) ∈ ex_tb := tm (i := 529) (by decide +kernel) rfl
theorem co_Day_metInTrial : Cond.code Y_Day_metInTrial.1 Y_Day_metInTrial.2.1 Y_Day_metInTrial.2.2.1 Y_Day_metInTrial.2.2.2 ∈ ex_tb := tm (i := 530) (by decide +kernel) rfl
theorem ml_Day_226 : Cond.methodLink "DayBehind" (226 : Nat) ({ cls := "DayBehind$River", name := "sendAway", desc := "(I)V" } : MethodName) ∈ ex_tb := tm (i := 531) (by decide +kernel) rfl
theorem im_River_sendAway : Cond.instanceMethod ({ cls := "DayBehind$River", name := "sendAway", desc := "(I)V" } : MethodName) ∈ ex_tb := tm (i := 532) (by decide +kernel) rfl
theorem se_River_sendAway : Cond.selects "DayBehind$River" ({ cls := "DayBehind$River", name := "sendAway", desc := "(I)V" } : MethodName) ({ cls := "DayBehind$River", name := "sendAway", desc := "(I)V" } : MethodName) ∈ ex_tb := tm (i := 533) (by decide +kernel) rfl
theorem co_River_sendAway : Cond.code Y_River_sendAway.1 Y_River_sendAway.2.1 Y_River_sendAway.2.2.1 Y_River_sendAway.2.2.2 ∈ ex_tb := tm (i := 534) (by decide +kernel) rfl
theorem ml_Law_120 : Cond.methodLink "DayBehindLaw" (120 : Nat) ({ cls := "DayBehind", name := "sum", desc := "(II)I" } : MethodName) ∈ ex_tb := tm (i := 535) (by decide +kernel) rfl
theorem im_Day_sum : Cond.instanceMethod ({ cls := "DayBehind", name := "sum", desc := "(II)I" } : MethodName) ∈ ex_tb := tm (i := 536) (by decide +kernel) rfl
theorem se_Day_sum : Cond.selects "DayBehind" ({ cls := "DayBehind", name := "sum", desc := "(II)I" } : MethodName) ({ cls := "DayBehind", name := "sum", desc := "(II)I" } : MethodName) ∈ ex_tb := tm (i := 537) (by decide +kernel) rfl
theorem co_Day_sum : Cond.code Y_Day_sum.1 Y_Day_sum.2.1 Y_Day_sum.2.2.1 Y_Day_sum.2.2.2 ∈ ex_tb := tm (i := 538) (by decide +kernel) rfl
theorem ml_Law_124 : Cond.methodLink "DayBehindLaw" (124 : Nat) ({ cls := "DayBehind", name := "feed", desc := "(II)I" } : MethodName) ∈ ex_tb := tm (i := 539) (by decide +kernel) rfl
theorem im_Day_feed : Cond.instanceMethod ({ cls := "DayBehind", name := "feed", desc := "(II)I" } : MethodName) ∈ ex_tb := tm (i := 540) (by decide +kernel) rfl
theorem se_Day_feed : Cond.selects "DayBehind" ({ cls := "DayBehind", name := "feed", desc := "(II)I" } : MethodName) ({ cls := "DayBehind", name := "feed", desc := "(II)I" } : MethodName) ∈ ex_tb := tm (i := 541) (by decide +kernel) rfl
theorem co_Day_feed : Cond.code Y_Day_feed.1 Y_Day_feed.2.1 Y_Day_feed.2.2.1 Y_Day_feed.2.2.2 ∈ ex_tb := tm (i := 542) (by decide +kernel) rfl
theorem ml_Day_232 : Cond.methodLink "DayBehind" (232 : Nat) ({ cls := "DayBehind$Text", name := "append", desc := "(I)V" } : MethodName) ∈ ex_tb := tm (i := 543) (by decide +kernel) rfl
theorem im_Text_append : Cond.instanceMethod ({ cls := "DayBehind$Text", name := "append", desc := "(I)V" } : MethodName) ∈ ex_tb := tm (i := 544) (by decide +kernel) rfl
theorem se_Text_append : Cond.selects "DayBehind$Text" ({ cls := "DayBehind$Text", name := "append", desc := "(I)V" } : MethodName) ({ cls := "DayBehind$Text", name := "append", desc := "(I)V" } : MethodName) ∈ ex_tb := tm (i := 545) (by decide +kernel) rfl
theorem co_Text_append : Cond.code Y_Text_append.1 Y_Text_append.2.1 Y_Text_append.2.2.1 Y_Text_append.2.2.2 ∈ ex_tb := tm (i := 546) (by decide +kernel) rfl
theorem ml_Law_128 : Cond.methodLink "DayBehindLaw" (128 : Nat) ({ cls := "DayBehind", name := "wipe", desc := "()I" } : MethodName) ∈ ex_tb := tm (i := 547) (by decide +kernel) rfl
theorem im_Day_wipe : Cond.instanceMethod ({ cls := "DayBehind", name := "wipe", desc := "()I" } : MethodName) ∈ ex_tb := tm (i := 548) (by decide +kernel) rfl
theorem se_Day_wipe : Cond.selects "DayBehind" ({ cls := "DayBehind", name := "wipe", desc := "()I" } : MethodName) ({ cls := "DayBehind", name := "wipe", desc := "()I" } : MethodName) ∈ ex_tb := tm (i := 549) (by decide +kernel) rfl
theorem co_Day_wipe : Cond.code Y_Day_wipe.1 Y_Day_wipe.2.1 Y_Day_wipe.2.2.1 Y_Day_wipe.2.2.2 ∈ ex_tb := tm (i := 550) (by decide +kernel) rfl
theorem ml_Law_133 : Cond.methodLink "DayBehindLaw" (133 : Nat) ({ cls := "DayBehind", name := "river", desc := "()I" } : MethodName) ∈ ex_tb := tm (i := 551) (by decide +kernel) rfl
theorem im_Day_river : Cond.instanceMethod ({ cls := "DayBehind", name := "river", desc := "()I" } : MethodName) ∈ ex_tb := tm (i := 552) (by decide +kernel) rfl
theorem se_Day_river : Cond.selects "DayBehind" ({ cls := "DayBehind", name := "river", desc := "()I" } : MethodName) ({ cls := "DayBehind", name := "river", desc := "()I" } : MethodName) ∈ ex_tb := tm (i := 553) (by decide +kernel) rfl
theorem co_Day_river : Cond.code Y_Day_river.1 Y_Day_river.2.1 Y_Day_river.2.2.1 Y_Day_river.2.2.2 ∈ ex_tb := tm (i := 554) (by decide +kernel) rfl
theorem ml_Day_235 : Cond.methodLink "DayBehind" (235 : Nat) ({ cls := "DayBehind$Text", name := "parse", desc := "(LDayBehind$River;)I" } : MethodName) ∈ ex_tb := tm (i := 555) (by decide +kernel) rfl
theorem im_Text_parse : Cond.instanceMethod ({ cls := "DayBehind$Text", name := "parse", desc := "(LDayBehind$River;)I" } : MethodName) ∈ ex_tb := tm (i := 556) (by decide +kernel) rfl
theorem se_Text_parse : Cond.selects "DayBehind$Text" ({ cls := "DayBehind$Text", name := "parse", desc := "(LDayBehind$River;)I" } : MethodName) ({ cls := "DayBehind$Text", name := "parse", desc := "(LDayBehind$River;)I" } : MethodName) ∈ ex_tb := tm (i := 557) (by decide +kernel) rfl
theorem co_Text_parse : Cond.code Y_Text_parse.1 Y_Text_parse.2.1 Y_Text_parse.2.2.1 Y_Text_parse.2.2.2 ∈ ex_tb := tm (i := 558) (by decide +kernel) rfl
theorem ml_Text_22 : Cond.methodLink "DayBehind$Text" (22 : Nat) ({ cls := "DayBehind$Text", name := "step", desc := "()V" } : MethodName) ∈ ex_tb := tm (i := 559) (by decide +kernel) rfl
theorem im_Text_step : Cond.instanceMethod ({ cls := "DayBehind$Text", name := "step", desc := "()V" } : MethodName) ∈ ex_tb := tm (i := 561) (by decide +kernel) rfl
theorem co_Text_step : Cond.code Y_Text_step.1 Y_Text_step.2.1 Y_Text_step.2.2.1 Y_Text_step.2.2.2 ∈ ex_tb := tm (i := 562) (by decide +kernel) rfl
theorem ml_Text_133 : Cond.methodLink "DayBehind$Text" (133 : Nat) ({ cls := "DayBehind$Text", name := "isLetter", desc := "(I)Z" } : MethodName) ∈ ex_tb := tm (i := 563) (by decide +kernel) rfl
theorem sm_Text_isLetter : Cond.static ({ cls := "DayBehind$Text", name := "isLetter", desc := "(I)Z" } : MethodName) ∈ ex_tb := tm (i := 564) (by decide +kernel) rfl
theorem co_Text_isLetter : Cond.code Y_Text_isLetter.1 Y_Text_isLetter.2.1 Y_Text_isLetter.2.2.1 Y_Text_isLetter.2.2.2 ∈ ex_tb := tm (i := 565) (by decide +kernel) rfl
theorem ml_Text_136 : Cond.methodLink "DayBehind$Text" (136 : Nat) ({ cls := "DayBehind$Text", name := "isDigit", desc := "(I)Z" } : MethodName) ∈ ex_tb := tm (i := 566) (by decide +kernel) rfl
theorem sm_Text_isDigit : Cond.static ({ cls := "DayBehind$Text", name := "isDigit", desc := "(I)Z" } : MethodName) ∈ ex_tb := tm (i := 567) (by decide +kernel) rfl
theorem co_Text_isDigit : Cond.code Y_Text_isDigit.1 Y_Text_isDigit.2.1 Y_Text_isDigit.2.2.1 Y_Text_isDigit.2.2.2 ∈ ex_tb := tm (i := 568) (by decide +kernel) rfl
theorem ml_Text_139 : Cond.methodLink "DayBehind$Text" (139 : Nat) ({ cls := "java/lang/Math", name := "min", desc := "(II)I" } : MethodName) ∈ ex_tb := tm (i := 569) (by decide +kernel) rfl
theorem ml_Text_25 : Cond.methodLink "DayBehind$Text" (25 : Nat) ({ cls := "DayBehind$Text", name := "parseItem", desc := "(LDayBehind$River;)Z" } : MethodName) ∈ ex_tb := tm (i := 570) (by decide +kernel) rfl
theorem im_Text_parseItem : Cond.instanceMethod ({ cls := "DayBehind$Text", name := "parseItem", desc := "(LDayBehind$River;)Z" } : MethodName) ∈ ex_tb := tm (i := 572) (by decide +kernel) rfl
theorem co_Text_parseItem : Cond.code Y_Text_parseItem.1 Y_Text_parseItem.2.1 Y_Text_parseItem.2.2.1 Y_Text_parseItem.2.2.2 ∈ ex_tb := tm (i := 573) (by decide +kernel) rfl
theorem ml_Text_37 : Cond.methodLink "DayBehind$Text" (37 : Nat) ({ cls := "DayBehind$Text", name := "takes", desc := "(Ljava/lang/String;)Z" } : MethodName) ∈ ex_tb := tm (i := 575) (by decide +kernel) rfl
theorem im_Text_takes : Cond.instanceMethod ({ cls := "DayBehind$Text", name := "takes", desc := "(Ljava/lang/String;)Z" } : MethodName) ∈ ex_tb := tm (i := 577) (by decide +kernel) rfl
theorem co_Text_takes : Cond.code Y_Text_takes.1 Y_Text_takes.2.1 Y_Text_takes.2.2.1 Y_Text_takes.2.2.2 ∈ ex_tb := tm (i := 578) (by decide +kernel) rfl
theorem ml_Text_46 : Cond.methodLink "DayBehind$Text" (46 : Nat) ({ cls := "DayBehind$Text", name := "isWord", desc := "(Ljava/lang/String;)Z" } : MethodName) ∈ ex_tb := tm (i := 579) (by decide +kernel) rfl
theorem im_Text_isWord : Cond.instanceMethod ({ cls := "DayBehind$Text", name := "isWord", desc := "(Ljava/lang/String;)Z" } : MethodName) ∈ ex_tb := tm (i := 581) (by decide +kernel) rfl
theorem co_Text_isWord : Cond.code Y_Text_isWord.1 Y_Text_isWord.2.1 Y_Text_isWord.2.2.1 Y_Text_isWord.2.2.2 ∈ ex_tb := tm (i := 582) (by decide +kernel) rfl
theorem ml_Text_121 : Cond.methodLink "DayBehind$Text" (121 : Nat) ({ cls := "java/lang/String", name := "length", desc := "()I" } : MethodName) ∈ ex_tb := tm (i := 583) (by decide +kernel) rfl
theorem im_Str_length : Cond.instanceMethod ({ cls := "java/lang/String", name := "length", desc := "()I" } : MethodName) ∈ ex_tb := tm (i := 584) (by decide +kernel) rfl
theorem se_Str_length : Cond.selects "java/lang/String" ({ cls := "java/lang/String", name := "length", desc := "()I" } : MethodName) ({ cls := "java/lang/String", name := "length", desc := "()I" } : MethodName) ∈ ex_tb := tm (i := 585) (by decide +kernel) rfl
theorem co_Str_length : Cond.code Y_Str_length.1 Y_Str_length.2.1 Y_Str_length.2.2.1 Y_Str_length.2.2.2 ∈ ex_tb := tm (i := 586) (by decide +kernel) rfl
theorem ml_Str_335 : Cond.methodLink "java/lang/String" (335 : Nat) ({ cls := "java/lang/String", name := "coder", desc := "()B" } : MethodName) ∈ ex_tb := tm (i := 587) (by decide +kernel) rfl
theorem im_Str_coder : Cond.instanceMethod ({ cls := "java/lang/String", name := "coder", desc := "()B" } : MethodName) ∈ ex_tb := tm (i := 588) (by decide +kernel) rfl
theorem se_Str_coder : Cond.selects "java/lang/String" ({ cls := "java/lang/String", name := "coder", desc := "()B" } : MethodName) ({ cls := "java/lang/String", name := "coder", desc := "()B" } : MethodName) ∈ ex_tb := tm (i := 589) (by decide +kernel) rfl
theorem co_Str_coder : Cond.code Y_Str_coder.1 Y_Str_coder.2.1 Y_Str_coder.2.2.1 Y_Str_coder.2.2.2 ∈ ex_tb := tm (i := 590) (by decide +kernel) rfl
theorem fl_Str_38 : Cond.fieldLink "java/lang/String" (38 : Nat) "java/lang/String" "COMPACT_STRINGS" "Z" ∈ ex_tb := tm (i := 591) (by decide +kernel) rfl
theorem ml_Text_126 : Cond.methodLink "DayBehind$Text" (126 : Nat) ({ cls := "java/lang/String", name := "charAt", desc := "(I)C" } : MethodName) ∈ ex_tb := tm (i := 593) (by decide +kernel) rfl
theorem im_Str_charAt : Cond.instanceMethod ({ cls := "java/lang/String", name := "charAt", desc := "(I)C" } : MethodName) ∈ ex_tb := tm (i := 594) (by decide +kernel) rfl
theorem se_Str_charAt : Cond.selects "java/lang/String" ({ cls := "java/lang/String", name := "charAt", desc := "(I)C" } : MethodName) ({ cls := "java/lang/String", name := "charAt", desc := "(I)C" } : MethodName) ∈ ex_tb := tm (i := 595) (by decide +kernel) rfl
theorem co_Str_charAt : Cond.code Y_Str_charAt.1 Y_Str_charAt.2.1 Y_Str_charAt.2.2.1 Y_Str_charAt.2.2.2 ∈ ex_tb := tm (i := 596) (by decide +kernel) rfl
theorem ml_Str_492 : Cond.methodLink "java/lang/String" (492 : Nat) ({ cls := "java/lang/String", name := "isLatin1", desc := "()Z" } : MethodName) ∈ ex_tb := tm (i := 597) (by decide +kernel) rfl
theorem im_Str_isLatin1 : Cond.instanceMethod ({ cls := "java/lang/String", name := "isLatin1", desc := "()Z" } : MethodName) ∈ ex_tb := tm (i := 598) (by decide +kernel) rfl
theorem se_Str_isLatin1 : Cond.selects "java/lang/String" ({ cls := "java/lang/String", name := "isLatin1", desc := "()Z" } : MethodName) ({ cls := "java/lang/String", name := "isLatin1", desc := "()Z" } : MethodName) ∈ ex_tb := tm (i := 599) (by decide +kernel) rfl
theorem co_Str_isLatin1 : Cond.code Y_Str_isLatin1.1 Y_Str_isLatin1.2.1 Y_Str_isLatin1.2.2.1 Y_Str_isLatin1.2.2.2 ∈ ex_tb := tm (i := 600) (by decide +kernel) rfl
theorem ml_Str_495 : Cond.methodLink "java/lang/String" (495 : Nat) ({ cls := "java/lang/StringLatin1", name := "charAt", desc := "([BI)C" } : MethodName) ∈ ex_tb := tm (i := 601) (by decide +kernel) rfl
theorem sm_Lat_charAt : Cond.static ({ cls := "java/lang/StringLatin1", name := "charAt", desc := "([BI)C" } : MethodName) ∈ ex_tb := tm (i := 602) (by decide +kernel) rfl
theorem co_Lat_charAt : Cond.code Y_Lat_charAt.1 Y_Lat_charAt.2.1 Y_Lat_charAt.2.2.1 Y_Lat_charAt.2.2.2 ∈ ex_tb := tm (i := 603) (by decide +kernel) rfl
theorem ml_Lat_9 : Cond.methodLink "java/lang/StringLatin1" (9 : Nat) ({ cls := "java/lang/String", name := "checkIndex", desc := "(II)V" } : MethodName) ∈ ex_tb := tm (i := 604) (by decide +kernel) rfl
theorem sm_Str_checkIndex : Cond.static ({ cls := "java/lang/String", name := "checkIndex", desc := "(II)V" } : MethodName) ∈ ex_tb := tm (i := 605) (by decide +kernel) rfl
theorem co_Str_checkIndex : Cond.code Y_Str_checkIndex.1 Y_Str_checkIndex.2.1 Y_Str_checkIndex.2.2.1 Y_Str_checkIndex.2.2.2 ∈ ex_tb := tm (i := 606) (by decide +kernel) rfl
theorem fl_Str_1053 : Cond.fieldLink "java/lang/String" (1053 : Nat) "jdk/internal/util/Preconditions" "SIOOBE_FORMATTER" "Ljava/util/function/BiFunction;" ∈ ex_tb := tm (i := 607) (by decide +kernel) rfl
theorem ml_Str_1059 : Cond.methodLink "java/lang/String" (1059 : Nat) ({ cls := "jdk/internal/util/Preconditions", name := "checkIndex", desc := "(IILjava/util/function/BiFunction;)I" } : MethodName) ∈ ex_tb := tm (i := 609) (by decide +kernel) rfl
theorem sm_Pre_checkIndex : Cond.static ({ cls := "jdk/internal/util/Preconditions", name := "checkIndex", desc := "(IILjava/util/function/BiFunction;)I" } : MethodName) ∈ ex_tb := tm (i := 610) (by decide +kernel) rfl
theorem co_Pre_checkIndex : Cond.code Y_Pre_checkIndex.1 Y_Pre_checkIndex.2.1 Y_Pre_checkIndex.2.2.1 Y_Pre_checkIndex.2.2.2 ∈ ex_tb := tm (i := 611) (by decide +kernel) rfl
theorem ml_Str_498 : Cond.methodLink "java/lang/String" (498 : Nat) ({ cls := "java/lang/StringUTF16", name := "charAt", desc := "([BI)C" } : MethodName) ∈ ex_tb := tm (i := 612) (by decide +kernel) rfl
theorem sm_Utf_charAt : Cond.static ({ cls := "java/lang/StringUTF16", name := "charAt", desc := "([BI)C" } : MethodName) ∈ ex_tb := tm (i := 613) (by decide +kernel) rfl
theorem ml_Utf_67 : Cond.methodLink "java/lang/StringUTF16" (67 : Nat) ({ cls := "java/lang/StringUTF16", name := "checkIndex", desc := "(I[B)V" } : MethodName) ∈ ex_tb := tm (i := 615) (by decide +kernel) rfl
theorem sm_Utf_checkIndex : Cond.static ({ cls := "java/lang/StringUTF16", name := "checkIndex", desc := "(I[B)V" } : MethodName) ∈ ex_tb := tm (i := 616) (by decide +kernel) rfl
theorem ml_Utf_48 : Cond.methodLink "java/lang/StringUTF16" (48 : Nat) ({ cls := "java/lang/StringUTF16", name := "length", desc := "([B)I" } : MethodName) ∈ ex_tb := tm (i := 618) (by decide +kernel) rfl
theorem sm_Utf_length : Cond.static ({ cls := "java/lang/StringUTF16", name := "length", desc := "([B)I" } : MethodName) ∈ ex_tb := tm (i := 619) (by decide +kernel) rfl
theorem ml_Utf_414 : Cond.methodLink "java/lang/StringUTF16" (414 : Nat) ({ cls := "java/lang/String", name := "checkIndex", desc := "(II)V" } : MethodName) ∈ ex_tb := tm (i := 621) (by decide +kernel) rfl
theorem ml_Utf_71 : Cond.methodLink "java/lang/StringUTF16" (71 : Nat) ({ cls := "java/lang/StringUTF16", name := "getChar", desc := "([BI)C" } : MethodName) ∈ ex_tb := tm (i := 622) (by decide +kernel) rfl
theorem sm_Utf_getChar : Cond.static ({ cls := "java/lang/StringUTF16", name := "getChar", desc := "([BI)C" } : MethodName) ∈ ex_tb := tm (i := 623) (by decide +kernel) rfl
theorem fl_Utf_44 : Cond.fieldLink "java/lang/StringUTF16" (44 : Nat) "java/lang/StringUTF16" "$assertionsDisabled" "Z" ∈ ex_tb := tm (i := 625) (by decide +kernel) rfl
theorem fl_Utf_59 : Cond.fieldLink "java/lang/StringUTF16" (59 : Nat) "java/lang/StringUTF16" "HI_BYTE_SHIFT" "I" ∈ ex_tb := tm (i := 627) (by decide +kernel) rfl
theorem fl_Utf_63 : Cond.fieldLink "java/lang/StringUTF16" (63 : Nat) "java/lang/StringUTF16" "LO_BYTE_SHIFT" "I" ∈ ex_tb := tm (i := 629) (by decide +kernel) rfl
theorem ml_Text_41 : Cond.methodLink "DayBehind$Text" (41 : Nat) ({ cls := "DayBehind$Text", name := "parseToll", desc := "(LDayBehind$River;)Z" } : MethodName) ∈ ex_tb := tm (i := 631) (by decide +kernel) rfl
theorem im_Text_parseToll : Cond.instanceMethod ({ cls := "DayBehind$Text", name := "parseToll", desc := "(LDayBehind$River;)Z" } : MethodName) ∈ ex_tb := tm (i := 633) (by decide +kernel) rfl
theorem co_Text_parseToll : Cond.code Y_Text_parseToll.1 Y_Text_parseToll.2.1 Y_Text_parseToll.2.2.1 Y_Text_parseToll.2.2.2 ∈ ex_tb := tm (i := 634) (by decide +kernel) rfl
theorem ml_Text_60 : Cond.methodLink "DayBehind$Text" (60 : Nat) ({ cls := "DayBehind$Text", name := "takesNumber", desc := "(I)Z" } : MethodName) ∈ ex_tb := tm (i := 635) (by decide +kernel) rfl
theorem im_Text_takesNumber : Cond.instanceMethod ({ cls := "DayBehind$Text", name := "takesNumber", desc := "(I)Z" } : MethodName) ∈ ex_tb := tm (i := 637) (by decide +kernel) rfl
theorem co_Text_takesNumber : Cond.code Y_Text_takesNumber.1 Y_Text_takesNumber.2.1 Y_Text_takesNumber.2.2.1 Y_Text_takesNumber.2.2.2 ∈ ex_tb := tm (i := 638) (by decide +kernel) rfl
theorem ml_Text_49 : Cond.methodLink "DayBehind$Text" (49 : Nat) ({ cls := "DayBehind$Text", name := "parseEvent", desc := "(LDayBehind$River;)Z" } : MethodName) ∈ ex_tb := tm (i := 640) (by decide +kernel) rfl
theorem im_Text_parseEvent : Cond.instanceMethod ({ cls := "DayBehind$Text", name := "parseEvent", desc := "(LDayBehind$River;)Z" } : MethodName) ∈ ex_tb := tm (i := 642) (by decide +kernel) rfl
theorem co_Text_parseEvent : Cond.code Y_Text_parseEvent.1 Y_Text_parseEvent.2.1 Y_Text_parseEvent.2.2.1 Y_Text_parseEvent.2.2.2 ∈ ex_tb := tm (i := 643) (by decide +kernel) rfl
theorem ml_Text_71 : Cond.methodLink "DayBehind$Text" (71 : Nat) ({ cls := "DayBehind$River", name := "hasAllEvents", desc := "()Z" } : MethodName) ∈ ex_tb := tm (i := 644) (by decide +kernel) rfl
theorem ml_Text_79 : Cond.methodLink "DayBehind$Text" (79 : Nat) ({ cls := "DayBehind$River", name := "addEvent", desc := "(II)I" } : MethodName) ∈ ex_tb := tm (i := 647) (by decide +kernel) rfl
theorem ml_Text_52 : Cond.methodLink "DayBehind$Text" (52 : Nat) ({ cls := "DayBehind$Text", name := "nameOf", desc := "(I)Ljava/lang/String;" } : MethodName) ∈ ex_tb := tm (i := 648) (by decide +kernel) rfl
theorem sm_Text_nameOf : Cond.static ({ cls := "DayBehind$Text", name := "nameOf", desc := "(I)Ljava/lang/String;" } : MethodName) ∈ ex_tb := tm (i := 649) (by decide +kernel) rfl
theorem co_Text_nameOf : Cond.code Y_Text_nameOf.1 Y_Text_nameOf.2.1 Y_Text_nameOf.2.2.1 Y_Text_nameOf.2.2.2 ∈ ex_tb := tm (i := 650) (by decide +kernel) rfl
theorem ml_Text_56 : Cond.methodLink "DayBehind$Text" (56 : Nat) ({ cls := "DayBehind$Text", name := "parseOne", desc := "(LDayBehind$River;I)Z" } : MethodName) ∈ ex_tb := tm (i := 657) (by decide +kernel) rfl
theorem im_Text_parseOne : Cond.instanceMethod ({ cls := "DayBehind$Text", name := "parseOne", desc := "(LDayBehind$River;I)Z" } : MethodName) ∈ ex_tb := tm (i := 659) (by decide +kernel) rfl
theorem co_Text_parseOne : Cond.code Y_Text_parseOne.1 Y_Text_parseOne.2.1 Y_Text_parseOne.2.2.1 Y_Text_parseOne.2.2.2 ∈ ex_tb := tm (i := 660) (by decide +kernel) rfl
theorem ml_Text_83 : Cond.methodLink "DayBehind$Text" (83 : Nat) ({ cls := "DayBehind$River", name := "hasAllPeople", desc := "()Z" } : MethodName) ∈ ex_tb := tm (i := 661) (by decide +kernel) rfl
theorem ml_Text_88 : Cond.methodLink "DayBehind$Text" (88 : Nat) ({ cls := "DayBehind$River", name := "addOne", desc := "(II)I" } : MethodName) ∈ ex_tb := tm (i := 663) (by decide +kernel) rfl
theorem ac_byte : Cond.arrayClass FieldType.byte ∈ ex_tb := tm (i := 667) (by decide +kernel) rfl
theorem ml_Law_137 : Cond.methodLink "DayBehindLaw" (137 : Nat) ({ cls := "DayBehind", name := "sheet", desc := "(III)I" } : MethodName) ∈ ex_tb := tm (i := 668) (by decide +kernel) rfl
theorem im_Day_sheet : Cond.instanceMethod ({ cls := "DayBehind", name := "sheet", desc := "(III)I" } : MethodName) ∈ ex_tb := tm (i := 669) (by decide +kernel) rfl
theorem se_Day_sheet : Cond.selects "DayBehind" ({ cls := "DayBehind", name := "sheet", desc := "(III)I" } : MethodName) ({ cls := "DayBehind", name := "sheet", desc := "(III)I" } : MethodName) ∈ ex_tb := tm (i := 670) (by decide +kernel) rfl
theorem co_Day_sheet : Cond.code Y_Day_sheet.1 Y_Day_sheet.2.1 Y_Day_sheet.2.2.1 Y_Day_sheet.2.2.2 ∈ ex_tb := tm (i := 671) (by decide +kernel) rfl
theorem ml_Day_243 : Cond.methodLink "DayBehind" (243 : Nat) ({ cls := "DayBehind", name := "noSheet", desc := "(I)Z" } : MethodName) ∈ ex_tb := tm (i := 672) (by decide +kernel) rfl
theorem sm_Day_noSheet : Cond.static ({ cls := "DayBehind", name := "noSheet", desc := "(I)Z" } : MethodName) ∈ ex_tb := tm (i := 673) (by decide +kernel) rfl
theorem co_Day_noSheet : Cond.code Y_Day_noSheet.1 Y_Day_noSheet.2.1 Y_Day_noSheet.2.2.1 Y_Day_noSheet.2.2.2 ∈ ex_tb := tm (i := 674) (by decide +kernel) rfl
theorem kc_Day_246 : Cond.constant "DayBehind" (246 : Nat) (-1000000007 : Int32) ∈ ex_tb := tm (i := 675) (by decide +kernel) rfl
theorem ml_Day_247 : Cond.methodLink "DayBehind" (247 : Nat) ({ cls := "DayBehind$Sheet", name := "begin", desc := "(II)V" } : MethodName) ∈ ex_tb := tm (i := 676) (by decide +kernel) rfl
theorem im_Sheet_begin : Cond.instanceMethod ({ cls := "DayBehind$Sheet", name := "begin", desc := "(II)V" } : MethodName) ∈ ex_tb := tm (i := 677) (by decide +kernel) rfl
theorem se_Sheet_begin : Cond.selects "DayBehind$Sheet" ({ cls := "DayBehind$Sheet", name := "begin", desc := "(II)V" } : MethodName) ({ cls := "DayBehind$Sheet", name := "begin", desc := "(II)V" } : MethodName) ∈ ex_tb := tm (i := 678) (by decide +kernel) rfl
theorem co_Sheet_begin : Cond.code Y_Sheet_begin.1 Y_Sheet_begin.2.1 Y_Sheet_begin.2.2.1 Y_Sheet_begin.2.2.2 ∈ ex_tb := tm (i := 679) (by decide +kernel) rfl
theorem ml_Law_143 : Cond.methodLink "DayBehindLaw" (143 : Nat) ({ cls := "DayBehind", name := "write", desc := "(IIJ)J" } : MethodName) ∈ ex_tb := tm (i := 680) (by decide +kernel) rfl
theorem im_Day_write : Cond.instanceMethod ({ cls := "DayBehind", name := "write", desc := "(IIJ)J" } : MethodName) ∈ ex_tb := tm (i := 681) (by decide +kernel) rfl
theorem se_Day_write : Cond.selects "DayBehind" ({ cls := "DayBehind", name := "write", desc := "(IIJ)J" } : MethodName) ({ cls := "DayBehind", name := "write", desc := "(IIJ)J" } : MethodName) ∈ ex_tb := tm (i := 682) (by decide +kernel) rfl
theorem co_Day_write : Cond.code Y_Day_write.1 Y_Day_write.2.1 Y_Day_write.2.2.1 Y_Day_write.2.2.2 ∈ ex_tb := tm (i := 683) (by decide +kernel) rfl
theorem ml_Day_250 : Cond.methodLink "DayBehind" (250 : Nat) ({ cls := "DayBehind", name := "findingOf", desc := "(I)I" } : MethodName) ∈ ex_tb := tm (i := 684) (by decide +kernel) rfl
theorem im_Day_findingOf : Cond.instanceMethod ({ cls := "DayBehind", name := "findingOf", desc := "(I)I" } : MethodName) ∈ ex_tb := tm (i := 686) (by decide +kernel) rfl
theorem co_Day_findingOf : Cond.code Y_Day_findingOf.1 Y_Day_findingOf.2.1 Y_Day_findingOf.2.2.1 Y_Day_findingOf.2.2.2 ∈ ex_tb := tm (i := 687) (by decide +kernel) rfl
theorem ml_Day_261 : Cond.methodLink "DayBehind" (261 : Nat) ({ cls := "DayBehind$Sheet", name := "isMissing", desc := "()Z" } : MethodName) ∈ ex_tb := tm (i := 688) (by decide +kernel) rfl
theorem im_Sheet_isMissing : Cond.instanceMethod ({ cls := "DayBehind$Sheet", name := "isMissing", desc := "()Z" } : MethodName) ∈ ex_tb := tm (i := 689) (by decide +kernel) rfl
theorem se_Sheet_isMissing : Cond.selects "DayBehind$Sheet" ({ cls := "DayBehind$Sheet", name := "isMissing", desc := "()Z" } : MethodName) ({ cls := "DayBehind$Sheet", name := "isMissing", desc := "()Z" } : MethodName) ∈ ex_tb := tm (i := 690) (by decide +kernel) rfl
theorem co_Sheet_isMissing : Cond.code Y_Sheet_isMissing.1 Y_Sheet_isMissing.2.1 Y_Sheet_isMissing.2.2.1 Y_Sheet_isMissing.2.2.2 ∈ ex_tb := tm (i := 691) (by decide +kernel) rfl
theorem kc_Day_264 : Cond.constant "DayBehind" (264 : Nat) (-1000000006 : Int32) ∈ ex_tb := tm (i := 692) (by decide +kernel) rfl
theorem ml_Day_257 : Cond.methodLink "DayBehind" (257 : Nat) ({ cls := "DayBehind$Sheet", name := "put", desc := "(IJ)V" } : MethodName) ∈ ex_tb := tm (i := 693) (by decide +kernel) rfl
theorem im_Sheet_put : Cond.instanceMethod ({ cls := "DayBehind$Sheet", name := "put", desc := "(IJ)V" } : MethodName) ∈ ex_tb := tm (i := 694) (by decide +kernel) rfl
theorem se_Sheet_put : Cond.selects "DayBehind$Sheet" ({ cls := "DayBehind$Sheet", name := "put", desc := "(IJ)V" } : MethodName) ({ cls := "DayBehind$Sheet", name := "put", desc := "(IJ)V" } : MethodName) ∈ ex_tb := tm (i := 695) (by decide +kernel) rfl
theorem co_Sheet_put : Cond.code Y_Sheet_put.1 Y_Sheet_put.2.1 Y_Sheet_put.2.2.1 Y_Sheet_put.2.2.2 ∈ ex_tb := tm (i := 696) (by decide +kernel) rfl
theorem ml_Law_148 : Cond.methodLink "DayBehindLaw" (148 : Nat) ({ cls := "DayBehind", name := "copy", desc := "(IIIII)I" } : MethodName) ∈ ex_tb := tm (i := 697) (by decide +kernel) rfl
theorem im_Day_copy : Cond.instanceMethod ({ cls := "DayBehind", name := "copy", desc := "(IIIII)I" } : MethodName) ∈ ex_tb := tm (i := 698) (by decide +kernel) rfl
theorem se_Day_copy : Cond.selects "DayBehind" ({ cls := "DayBehind", name := "copy", desc := "(IIIII)I" } : MethodName) ({ cls := "DayBehind", name := "copy", desc := "(IIIII)I" } : MethodName) ∈ ex_tb := tm (i := 699) (by decide +kernel) rfl
theorem co_Day_copy : Cond.code Y_Day_copy.1 Y_Day_copy.2.1 Y_Day_copy.2.2.1 Y_Day_copy.2.2.2 ∈ ex_tb := tm (i := 700) (by decide +kernel) rfl
theorem ml_Day_268 : Cond.methodLink "DayBehind" (268 : Nat) ({ cls := "DayBehind$Sheet", name := "holds", desc := "(II)Z" } : MethodName) ∈ ex_tb := tm (i := 701) (by decide +kernel) rfl
theorem im_Sheet_holds : Cond.instanceMethod ({ cls := "DayBehind$Sheet", name := "holds", desc := "(II)Z" } : MethodName) ∈ ex_tb := tm (i := 702) (by decide +kernel) rfl
theorem se_Sheet_holds : Cond.selects "DayBehind$Sheet" ({ cls := "DayBehind$Sheet", name := "holds", desc := "(II)Z" } : MethodName) ({ cls := "DayBehind$Sheet", name := "holds", desc := "(II)Z" } : MethodName) ∈ ex_tb := tm (i := 703) (by decide +kernel) rfl
theorem co_Sheet_holds : Cond.code Y_Sheet_holds.1 Y_Sheet_holds.2.1 Y_Sheet_holds.2.2.1 Y_Sheet_holds.2.2.2 ∈ ex_tb := tm (i := 704) (by decide +kernel) rfl
theorem ml_Day_271 : Cond.methodLink "DayBehind" (271 : Nat) ({ cls := "java/lang/System", name := "arraycopy", desc := "(Ljava/lang/Object;ILjava/lang/Object;II)V" } : MethodName) ∈ ex_tb := tm (i := 705) (by decide +kernel) rfl
theorem sm_copy : Cond.static ({ cls := "java/lang/System", name := "arraycopy", desc := "(Ljava/lang/Object;ILjava/lang/Object;II)V" } : MethodName) ∈ ex_tb := tm (i := 706) (by decide +kernel) rfl
theorem na_copy : Cond.native ({ cls := "java/lang/System", name := "arraycopy", desc := "(Ljava/lang/Object;ILjava/lang/Object;II)V" } : MethodName) ∈ ex_tb := tm (i := 707) (by decide +kernel) rfl
theorem ml_Law_153 : Cond.methodLink "DayBehindLaw" (153 : Nat) ({ cls := "DayBehind", name := "lays", desc := "(I)I" } : MethodName) ∈ ex_tb := tm (i := 708) (by decide +kernel) rfl
theorem im_Day_lays : Cond.instanceMethod ({ cls := "DayBehind", name := "lays", desc := "(I)I" } : MethodName) ∈ ex_tb := tm (i := 709) (by decide +kernel) rfl
theorem se_Day_lays : Cond.selects "DayBehind" ({ cls := "DayBehind", name := "lays", desc := "(I)I" } : MethodName) ({ cls := "DayBehind", name := "lays", desc := "(I)I" } : MethodName) ∈ ex_tb := tm (i := 710) (by decide +kernel) rfl
theorem co_Day_lays : Cond.code Y_Day_lays.1 Y_Day_lays.2.1 Y_Day_lays.2.2.1 Y_Day_lays.2.2.2 ∈ ex_tb := tm (i := 711) (by decide +kernel) rfl
theorem ml_Day_277 : Cond.methodLink "DayBehind" (277 : Nat) ({ cls := "java/lang/Math", name := "min", desc := "(II)I" } : MethodName) ∈ ex_tb := tm (i := 712) (by decide +kernel) rfl
theorem kc_Day_282 : Cond.constantLong "DayBehind" (282 : Nat) (9999 : Int64) ∈ ex_tb := tm (i := 713) (by decide +kernel) rfl
theorem ml_Law_157 : Cond.methodLink "DayBehindLaw" (157 : Nat) ({ cls := "DayBehind", name := "book", desc := "(II)I" } : MethodName) ∈ ex_tb := tm (i := 714) (by decide +kernel) rfl
theorem im_Day_book : Cond.instanceMethod ({ cls := "DayBehind", name := "book", desc := "(II)I" } : MethodName) ∈ ex_tb := tm (i := 715) (by decide +kernel) rfl
theorem se_Day_book : Cond.selects "DayBehind" ({ cls := "DayBehind", name := "book", desc := "(II)I" } : MethodName) ({ cls := "DayBehind", name := "book", desc := "(II)I" } : MethodName) ∈ ex_tb := tm (i := 716) (by decide +kernel) rfl
theorem co_Day_book : Cond.code Y_Day_book.1 Y_Day_book.2.1 Y_Day_book.2.2.1 Y_Day_book.2.2.2 ∈ ex_tb := tm (i := 717) (by decide +kernel) rfl
theorem ml_Law_161 : Cond.methodLink "DayBehindLaw" (161 : Nat) ({ cls := "DayBehind", name := "read", desc := "(II)I" } : MethodName) ∈ ex_tb := tm (i := 718) (by decide +kernel) rfl
theorem im_Day_read : Cond.instanceMethod ({ cls := "DayBehind", name := "read", desc := "(II)I" } : MethodName) ∈ ex_tb := tm (i := 719) (by decide +kernel) rfl
theorem se_Day_read : Cond.selects "DayBehind" ({ cls := "DayBehind", name := "read", desc := "(II)I" } : MethodName) ({ cls := "DayBehind", name := "read", desc := "(II)I" } : MethodName) ∈ ex_tb := tm (i := 720) (by decide +kernel) rfl
theorem co_Day_read : Cond.code Y_Day_read.1 Y_Day_read.2.1 Y_Day_read.2.2.1 Y_Day_read.2.2.2 ∈ ex_tb := tm (i := 721) (by decide +kernel) rfl
theorem ml_Day_288 : Cond.methodLink "DayBehind" (288 : Nat) ({ cls := "DayBehind", name := "trialFits", desc := "(LDayBehind$Sheet;I)Z" } : MethodName) ∈ ex_tb := tm (i := 722) (by decide +kernel) rfl
theorem im_Day_trialFits : Cond.instanceMethod ({ cls := "DayBehind", name := "trialFits", desc := "(LDayBehind$Sheet;I)Z" } : MethodName) ∈ ex_tb := tm (i := 724) (by decide +kernel) rfl
theorem co_Day_trialFits : Cond.code Y_Day_trialFits.1 Y_Day_trialFits.2.1 Y_Day_trialFits.2.2.1 Y_Day_trialFits.2.2.2 ∈ ex_tb := tm (i := 725) (by decide +kernel) rfl
theorem ml_Law_165 : Cond.methodLink "DayBehindLaw" (165 : Nat) ({ cls := "DayBehind", name := "image", desc := "()I" } : MethodName) ∈ ex_tb := tm (i := 726) (by decide +kernel) rfl
theorem im_Day_image : Cond.instanceMethod ({ cls := "DayBehind", name := "image", desc := "()I" } : MethodName) ∈ ex_tb := tm (i := 727) (by decide +kernel) rfl
theorem se_Day_image : Cond.selects "DayBehind" ({ cls := "DayBehind", name := "image", desc := "()I" } : MethodName) ({ cls := "DayBehind", name := "image", desc := "()I" } : MethodName) ∈ ex_tb := tm (i := 728) (by decide +kernel) rfl
theorem co_Day_image : Cond.code Y_Day_image.1 Y_Day_image.2.1 Y_Day_image.2.2.1 Y_Day_image.2.2.2 ∈ ex_tb := tm (i := 729) (by decide +kernel) rfl
theorem ml_Law_169 : Cond.methodLink "DayBehindLaw" (169 : Nat) ({ cls := "DayBehind", name := "undo", desc := "()I" } : MethodName) ∈ ex_tb := tm (i := 730) (by decide +kernel) rfl
theorem im_Day_undo : Cond.instanceMethod ({ cls := "DayBehind", name := "undo", desc := "()I" } : MethodName) ∈ ex_tb := tm (i := 731) (by decide +kernel) rfl
theorem se_Day_undo : Cond.selects "DayBehind" ({ cls := "DayBehind", name := "undo", desc := "()I" } : MethodName) ({ cls := "DayBehind", name := "undo", desc := "()I" } : MethodName) ∈ ex_tb := tm (i := 732) (by decide +kernel) rfl
theorem co_Day_undo : Cond.code Y_Day_undo.1 Y_Day_undo.2.1 Y_Day_undo.2.2.1 Y_Day_undo.2.2.2 ∈ ex_tb := tm (i := 733) (by decide +kernel) rfl
theorem ml_Law_173 : Cond.methodLink "DayBehindLaw" (173 : Nat) ({ cls := "DayBehind", name := "tear", desc := "()I" } : MethodName) ∈ ex_tb := tm (i := 734) (by decide +kernel) rfl
theorem im_Day_tear : Cond.instanceMethod ({ cls := "DayBehind", name := "tear", desc := "()I" } : MethodName) ∈ ex_tb := tm (i := 735) (by decide +kernel) rfl
theorem se_Day_tear : Cond.selects "DayBehind" ({ cls := "DayBehind", name := "tear", desc := "()I" } : MethodName) ({ cls := "DayBehind", name := "tear", desc := "()I" } : MethodName) ∈ ex_tb := tm (i := 736) (by decide +kernel) rfl
theorem co_Day_tear : Cond.code Y_Day_tear.1 Y_Day_tear.2.1 Y_Day_tear.2.2.1 Y_Day_tear.2.2.2 ∈ ex_tb := tm (i := 737) (by decide +kernel) rfl
theorem ml_Law_177 : Cond.methodLink "DayBehindLaw" (177 : Nat) ({ cls := "DayBehind", name := "count", desc := "(I)I" } : MethodName) ∈ ex_tb := tm (i := 738) (by decide +kernel) rfl
theorem im_Day_count : Cond.instanceMethod ({ cls := "DayBehind", name := "count", desc := "(I)I" } : MethodName) ∈ ex_tb := tm (i := 739) (by decide +kernel) rfl
theorem se_Day_count : Cond.selects "DayBehind" ({ cls := "DayBehind", name := "count", desc := "(I)I" } : MethodName) ({ cls := "DayBehind", name := "count", desc := "(I)I" } : MethodName) ∈ ex_tb := tm (i := 740) (by decide +kernel) rfl
theorem co_Day_count : Cond.code Y_Day_count.1 Y_Day_count.2.1 Y_Day_count.2.2.1 Y_Day_count.2.2.2 ∈ ex_tb := tm (i := 741) (by decide +kernel) rfl
theorem ml_Day_292 : Cond.methodLink "DayBehind" (292 : Nat) ({ cls := "DayBehind$River", name := "allKnown", desc := "()I" } : MethodName) ∈ ex_tb := tm (i := 742) (by decide +kernel) rfl
theorem im_River_allKnown : Cond.instanceMethod ({ cls := "DayBehind$River", name := "allKnown", desc := "()I" } : MethodName) ∈ ex_tb := tm (i := 743) (by decide +kernel) rfl
theorem se_River_allKnown : Cond.selects "DayBehind$River" ({ cls := "DayBehind$River", name := "allKnown", desc := "()I" } : MethodName) ({ cls := "DayBehind$River", name := "allKnown", desc := "()I" } : MethodName) ∈ ex_tb := tm (i := 744) (by decide +kernel) rfl
theorem co_River_allKnown : Cond.code Y_River_allKnown.1 Y_River_allKnown.2.1 Y_River_allKnown.2.2.1 Y_River_allKnown.2.2.2 ∈ ex_tb := tm (i := 745) (by decide +kernel) rfl
theorem ml_River_118 : Cond.methodLink "DayBehind$River" (118 : Nat) ({ cls := "java/lang/Integer", name := "bitCount", desc := "(I)I" } : MethodName) ∈ ex_tb := tm (i := 746) (by decide +kernel) rfl
theorem ml_Law_181 : Cond.methodLink "DayBehindLaw" (181 : Nat) ({ cls := "DayBehind", name := "status", desc := "(I)I" } : MethodName) ∈ ex_tb := tm (i := 747) (by decide +kernel) rfl
theorem im_Day_status : Cond.instanceMethod ({ cls := "DayBehind", name := "status", desc := "(I)I" } : MethodName) ∈ ex_tb := tm (i := 748) (by decide +kernel) rfl
theorem se_Day_status : Cond.selects "DayBehind" ({ cls := "DayBehind", name := "status", desc := "(I)I" } : MethodName) ({ cls := "DayBehind", name := "status", desc := "(I)I" } : MethodName) ∈ ex_tb := tm (i := 749) (by decide +kernel) rfl
theorem co_Day_status : Cond.code Y_Day_status.1 Y_Day_status.2.1 Y_Day_status.2.2.1 Y_Day_status.2.2.2 ∈ ex_tb := tm (i := 750) (by decide +kernel) rfl
theorem kc_Law_10 : Cond.classLink "DayBehindLaw" (10 : Nat) "DayBehindModel" ∈ ex_tb := tm (i := 751) (by decide +kernel) rfl
theorem is_Mod : Cond.instantiable "DayBehindModel" (23 : Nat) ∈ ex_tb := tm (i := 752) (by decide +kernel) rfl
theorem ml_Law_12 : Cond.methodLink "DayBehindLaw" (12 : Nat) ({ cls := "DayBehindModel", name := "<init>", desc := "()V" } : MethodName) ∈ ex_tb := tm (i := 753) (by decide +kernel) rfl
theorem im_Mod_init : Cond.instanceMethod ({ cls := "DayBehindModel", name := "<init>", desc := "()V" } : MethodName) ∈ ex_tb := tm (i := 754) (by decide +kernel) rfl
theorem co_Mod_init : Cond.code Y_Mod_init.1 Y_Mod_init.2.1 Y_Mod_init.2.2.1 Y_Mod_init.2.2.2 ∈ ex_tb := tm (i := 755) (by decide +kernel) rfl
theorem ml_Mod_1 : Cond.methodLink "DayBehindModel" (1 : Nat) ({ cls := "java/lang/Object", name := "<init>", desc := "()V" } : MethodName) ∈ ex_tb := tm (i := 756) (by decide +kernel) rfl
theorem kc_Mod_29 : Cond.classLink "DayBehindModel" (29 : Nat) "java/lang/String" ∈ ex_tb := tm (i := 757) (by decide +kernel) rfl
theorem ao_Str : Cond.arrayOver (FieldType.object "java/lang/String") ∈ lw_tbl := tn (i := 758) (by decide +kernel)
theorem fl_Mod_9 : Cond.fieldLink "DayBehindModel" (9 : Nat) "DayBehindModel" "now" "[I" ∈ ex_tb := tm (i := 765) (by decide +kernel) rfl
theorem fl_Mod_13 : Cond.fieldLink "DayBehindModel" (13 : Nat) "DayBehindModel" "kept" "[I" ∈ ex_tb := tm (i := 766) (by decide +kernel) rfl
theorem fl_Mod_16 : Cond.fieldLink "DayBehindModel" (16 : Nat) "DayBehindModel" "aside" "[I" ∈ ex_tb := tm (i := 767) (by decide +kernel) rfl
theorem fl_Mod_322 : Cond.fieldLink "DayBehindModel" (322 : Nat) "DayBehindModel" "isKept" "Z" ∈ ex_tb := tm (i := 768) (by decide +kernel) rfl
theorem fl_Mod_19 : Cond.fieldLink "DayBehindModel" (19 : Nat) "DayBehindModel" "found" "[I" ∈ ex_tb := tm (i := 769) (by decide +kernel) rfl
theorem fl_Mod_22 : Cond.fieldLink "DayBehindModel" (22 : Nat) "DayBehindModel" "away" "I" ∈ ex_tb := tm (i := 770) (by decide +kernel) rfl
theorem fl_Mod_205 : Cond.fieldLink "DayBehindModel" (205 : Nat) "DayBehindModel" "richFound" "I" ∈ ex_tb := tm (i := 771) (by decide +kernel) rfl
theorem fl_Mod_26 : Cond.fieldLink "DayBehindModel" (26 : Nat) "DayBehindModel" "tape" "[I" ∈ ex_tb := tm (i := 772) (by decide +kernel) rfl
theorem fl_Mod_222 : Cond.fieldLink "DayBehindModel" (222 : Nat) "DayBehindModel" "taped" "I" ∈ ex_tb := tm (i := 773) (by decide +kernel) rfl
theorem fl_Mod_228 : Cond.fieldLink "DayBehindModel" (228 : Nat) "DayBehindModel" "begins" "I" ∈ ex_tb := tm (i := 774) (by decide +kernel) rfl
theorem fl_Mod_225 : Cond.fieldLink "DayBehindModel" (225 : Nat) "DayBehindModel" "ends" "I" ∈ ex_tb := tm (i := 775) (by decide +kernel) rfl
theorem fl_Mod_237 : Cond.fieldLink "DayBehindModel" (237 : Nat) "DayBehindModel" "sort" "I" ∈ ex_tb := tm (i := 776) (by decide +kernel) rfl
theorem fl_Mod_234 : Cond.fieldLink "DayBehindModel" (234 : Nat) "DayBehindModel" "value" "I" ∈ ex_tb := tm (i := 777) (by decide +kernel) rfl
theorem fl_Mod_247 : Cond.fieldLink "DayBehindModel" (247 : Nat) "DayBehindModel" "isWrong" "Z" ∈ ex_tb := tm (i := 778) (by decide +kernel) rfl
theorem fl_Mod_43 : Cond.fieldLink "DayBehindModel" (43 : Nat) "DayBehindModel" "kinds" "[Ljava/lang/String;" ∈ ex_tb := tm (i := 779) (by decide +kernel) rfl
theorem fl_Mod_47 : Cond.fieldLink "DayBehindModel" (47 : Nat) "DayBehindModel" "items" "[I" ∈ ex_tb := tm (i := 780) (by decide +kernel) rfl
theorem fl_Mod_258 : Cond.fieldLink "DayBehindModel" (258 : Nat) "DayBehindModel" "itemMany" "I" ∈ ex_tb := tm (i := 781) (by decide +kernel) rfl
theorem fl_Mod_268 : Cond.fieldLink "DayBehindModel" (268 : Nat) "DayBehindModel" "oneThen" "I" ∈ ex_tb := tm (i := 782) (by decide +kernel) rfl
theorem fl_Mod_290 : Cond.fieldLink "DayBehindModel" (290 : Nat) "DayBehindModel" "eventThen" "I" ∈ ex_tb := tm (i := 783) (by decide +kernel) rfl
theorem fl_Mod_50 : Cond.fieldLink "DayBehindModel" (50 : Nat) "DayBehindModel" "widths" "[I" ∈ ex_tb := tm (i := 784) (by decide +kernel) rfl
theorem fl_Mod_53 : Cond.fieldLink "DayBehindModel" (53 : Nat) "DayBehindModel" "sizes" "[I" ∈ ex_tb := tm (i := 785) (by decide +kernel) rfl
theorem fl_Mod_56 : Cond.fieldLink "DayBehindModel" (56 : Nat) "DayBehindModel" "numbers" "[J" ∈ ex_tb := tm (i := 786) (by decide +kernel) rfl
theorem fl_Mod_60 : Cond.fieldLink "DayBehindModel" (60 : Nat) "DayBehindModel" "moved" "[J" ∈ ex_tb := tm (i := 787) (by decide +kernel) rfl
theorem ml_Law_17 : Cond.methodLink "DayBehindLaw" (17 : Nat) ({ cls := "DayBehindModel", name := "toll", desc := "(I)I" } : MethodName) ∈ ex_tb := tm (i := 835) (by decide +kernel) rfl
theorem im_Mod_toll : Cond.instanceMethod ({ cls := "DayBehindModel", name := "toll", desc := "(I)I" } : MethodName) ∈ ex_tb := tm (i := 836) (by decide +kernel) rfl
theorem se_Mod_toll : Cond.selects "DayBehindModel" ({ cls := "DayBehindModel", name := "toll", desc := "(I)I" } : MethodName) ({ cls := "DayBehindModel", name := "toll", desc := "(I)I" } : MethodName) ∈ ex_tb := tm (i := 837) (by decide +kernel) rfl
theorem co_Mod_toll : Cond.code Y_Mod_toll.1 Y_Mod_toll.2.1 Y_Mod_toll.2.2.1 Y_Mod_toll.2.2.2 ∈ ex_tb := tm (i := 838) (by decide +kernel) rfl
theorem ml_Mod_68 : Cond.methodLink "DayBehindModel" (68 : Nat) ({ cls := "DayBehindModel", name := "within", desc := "(III)Z" } : MethodName) ∈ ex_tb := tm (i := 839) (by decide +kernel) rfl
theorem sm_Mod_within : Cond.static ({ cls := "DayBehindModel", name := "within", desc := "(III)Z" } : MethodName) ∈ ex_tb := tm (i := 840) (by decide +kernel) rfl
theorem co_Mod_within : Cond.code Y_Mod_within.1 Y_Mod_within.2.1 Y_Mod_within.2.2.1 Y_Mod_within.2.2.2 ∈ ex_tb := tm (i := 841) (by decide +kernel) rfl
theorem ml_Mod_79 : Cond.methodLink "DayBehindModel" (79 : Nat) ({ cls := "DayBehindModel", name := "become", desc := "(II)I" } : MethodName) ∈ ex_tb := tm (i := 842) (by decide +kernel) rfl
theorem im_Mod_become : Cond.instanceMethod ({ cls := "DayBehindModel", name := "become", desc := "(II)I" } : MethodName) ∈ ex_tb := tm (i := 844) (by decide +kernel) rfl
theorem co_Mod_become : Cond.code Y_Mod_become.1 Y_Mod_become.2.1 Y_Mod_become.2.2.1 Y_Mod_become.2.2.2 ∈ ex_tb := tm (i := 845) (by decide +kernel) rfl
theorem kc_Mod_63 : Cond.constant "DayBehindModel" (63 : Nat) (-1000000001 : Int32) ∈ ex_tb := tm (i := 846) (by decide +kernel) rfl
theorem ml_Mod_82 : Cond.methodLink "DayBehindModel" (82 : Nat) ({ cls := "DayBehindModel", name := "finding", desc := "(I)I" } : MethodName) ∈ ex_tb := tm (i := 847) (by decide +kernel) rfl
theorem im_Mod_finding : Cond.instanceMethod ({ cls := "DayBehindModel", name := "finding", desc := "(I)I" } : MethodName) ∈ ex_tb := tm (i := 849) (by decide +kernel) rfl
theorem co_Mod_finding : Cond.code Y_Mod_finding.1 Y_Mod_finding.2.1 Y_Mod_finding.2.2.1 Y_Mod_finding.2.2.2 ∈ ex_tb := tm (i := 850) (by decide +kernel) rfl
theorem ml_Law_22 : Cond.methodLink "DayBehindLaw" (22 : Nat) ({ cls := "DayBehindModel", name := "event", desc := "(II)I" } : MethodName) ∈ ex_tb := tm (i := 851) (by decide +kernel) rfl
theorem im_Mod_event : Cond.instanceMethod ({ cls := "DayBehindModel", name := "event", desc := "(II)I" } : MethodName) ∈ ex_tb := tm (i := 852) (by decide +kernel) rfl
theorem se_Mod_event : Cond.selects "DayBehindModel" ({ cls := "DayBehindModel", name := "event", desc := "(II)I" } : MethodName) ({ cls := "DayBehindModel", name := "event", desc := "(II)I" } : MethodName) ∈ ex_tb := tm (i := 853) (by decide +kernel) rfl
theorem co_Mod_event : Cond.code Y_Mod_event.1 Y_Mod_event.2.1 Y_Mod_event.2.2.1 Y_Mod_event.2.2.2 ∈ ex_tb := tm (i := 854) (by decide +kernel) rfl
theorem ml_Mod_86 : Cond.methodLink "DayBehindModel" (86 : Nat) ({ cls := "DayBehindModel", name := "isWorth", desc := "(I)Z" } : MethodName) ∈ ex_tb := tm (i := 855) (by decide +kernel) rfl
theorem sm_Mod_isWorth : Cond.static ({ cls := "DayBehindModel", name := "isWorth", desc := "(I)Z" } : MethodName) ∈ ex_tb := tm (i := 856) (by decide +kernel) rfl
theorem co_Mod_isWorth : Cond.code Y_Mod_isWorth.1 Y_Mod_isWorth.2.1 Y_Mod_isWorth.2.2.1 Y_Mod_isWorth.2.2.2 ∈ ex_tb := tm (i := 857) (by decide +kernel) rfl
theorem kc_Mod_90 : Cond.constant "DayBehindModel" (90 : Nat) (-1000000002 : Int32) ∈ ex_tb := tm (i := 858) (by decide +kernel) rfl
theorem ml_Mod_91 : Cond.methodLink "DayBehindModel" (91 : Nat) ({ cls := "DayBehindModel", name := "happens", desc := "(II)I" } : MethodName) ∈ ex_tb := tm (i := 859) (by decide +kernel) rfl
theorem im_Mod_happens : Cond.instanceMethod ({ cls := "DayBehindModel", name := "happens", desc := "(II)I" } : MethodName) ∈ ex_tb := tm (i := 861) (by decide +kernel) rfl
theorem co_Mod_happens : Cond.code Y_Mod_happens.1 Y_Mod_happens.2.1 Y_Mod_happens.2.2.1 Y_Mod_happens.2.2.2 ∈ ex_tb := tm (i := 862) (by decide +kernel) rfl
theorem ml_Mod_72 : Cond.methodLink "DayBehindModel" (72 : Nat) ({ cls := "DayBehindModel", name := "atEvent", desc := "(II)I" } : MethodName) ∈ ex_tb := tm (i := 863) (by decide +kernel) rfl
theorem sm_Mod_atEvent : Cond.static ({ cls := "DayBehindModel", name := "atEvent", desc := "(II)I" } : MethodName) ∈ ex_tb := tm (i := 864) (by decide +kernel) rfl
theorem co_Mod_atEvent : Cond.code Y_Mod_atEvent.1 Y_Mod_atEvent.2.1 Y_Mod_atEvent.2.2.1 Y_Mod_atEvent.2.2.2 ∈ ex_tb := tm (i := 865) (by decide +kernel) rfl
theorem ml_Law_26 : Cond.methodLink "DayBehindLaw" (26 : Nat) ({ cls := "DayBehindModel", name := "eventOf", desc := "(II)I" } : MethodName) ∈ ex_tb := tm (i := 866) (by decide +kernel) rfl
theorem im_Mod_eventOf : Cond.instanceMethod ({ cls := "DayBehindModel", name := "eventOf", desc := "(II)I" } : MethodName) ∈ ex_tb := tm (i := 867) (by decide +kernel) rfl
theorem se_Mod_eventOf : Cond.selects "DayBehindModel" ({ cls := "DayBehindModel", name := "eventOf", desc := "(II)I" } : MethodName) ({ cls := "DayBehindModel", name := "eventOf", desc := "(II)I" } : MethodName) ∈ ex_tb := tm (i := 868) (by decide +kernel) rfl
theorem co_Mod_eventOf : Cond.code Y_Mod_eventOf.1 Y_Mod_eventOf.2.1 Y_Mod_eventOf.2.2.1 Y_Mod_eventOf.2.2.2 ∈ ex_tb := tm (i := 869) (by decide +kernel) rfl
theorem ml_Mod_101 : Cond.methodLink "DayBehindModel" (101 : Nat) ({ cls := "DayBehindModel", name := "isEvent", desc := "(I)Z" } : MethodName) ∈ ex_tb := tm (i := 870) (by decide +kernel) rfl
theorem im_Mod_isEvent : Cond.instanceMethod ({ cls := "DayBehindModel", name := "isEvent", desc := "(I)Z" } : MethodName) ∈ ex_tb := tm (i := 872) (by decide +kernel) rfl
theorem co_Mod_isEvent : Cond.code Y_Mod_isEvent.1 Y_Mod_isEvent.2.1 Y_Mod_isEvent.2.2.1 Y_Mod_isEvent.2.2.2 ∈ ex_tb := tm (i := 873) (by decide +kernel) rfl
theorem ml_Mod_104 : Cond.methodLink "DayBehindModel" (104 : Nat) ({ cls := "DayBehindModel", name := "eventIs", desc := "(II)I" } : MethodName) ∈ ex_tb := tm (i := 874) (by decide +kernel) rfl
theorem im_Mod_eventIs : Cond.instanceMethod ({ cls := "DayBehindModel", name := "eventIs", desc := "(II)I" } : MethodName) ∈ ex_tb := tm (i := 876) (by decide +kernel) rfl
theorem co_Mod_eventIs : Cond.code Y_Mod_eventIs.1 Y_Mod_eventIs.2.1 Y_Mod_eventIs.2.2.1 Y_Mod_eventIs.2.2.2 ∈ ex_tb := tm (i := 877) (by decide +kernel) rfl
theorem ml_Mod_107 : Cond.methodLink "DayBehindModel" (107 : Nat) ({ cls := "DayBehindModel", name := "whoKnow", desc := "(I)I" } : MethodName) ∈ ex_tb := tm (i := 878) (by decide +kernel) rfl
theorem im_Mod_whoKnow : Cond.instanceMethod ({ cls := "DayBehindModel", name := "whoKnow", desc := "(I)I" } : MethodName) ∈ ex_tb := tm (i := 880) (by decide +kernel) rfl
theorem co_Mod_whoKnow : Cond.code Y_Mod_whoKnow.1 Y_Mod_whoKnow.2.1 Y_Mod_whoKnow.2.2.1 Y_Mod_whoKnow.2.2.2 ∈ ex_tb := tm (i := 881) (by decide +kernel) rfl
theorem ml_Mod_94 : Cond.methodLink "DayBehindModel" (94 : Nat) ({ cls := "DayBehindModel", name := "oneIs", desc := "(II)I" } : MethodName) ∈ ex_tb := tm (i := 882) (by decide +kernel) rfl
theorem im_Mod_oneIs : Cond.instanceMethod ({ cls := "DayBehindModel", name := "oneIs", desc := "(II)I" } : MethodName) ∈ ex_tb := tm (i := 884) (by decide +kernel) rfl
theorem co_Mod_oneIs : Cond.code Y_Mod_oneIs.1 Y_Mod_oneIs.2.1 Y_Mod_oneIs.2.2.1 Y_Mod_oneIs.2.2.2 ∈ ex_tb := tm (i := 885) (by decide +kernel) rfl
theorem ml_Mod_76 : Cond.methodLink "DayBehindModel" (76 : Nat) ({ cls := "DayBehindModel", name := "at", desc := "(II)I" } : MethodName) ∈ ex_tb := tm (i := 886) (by decide +kernel) rfl
theorem sm_Mod_at : Cond.static ({ cls := "DayBehindModel", name := "at", desc := "(II)I" } : MethodName) ∈ ex_tb := tm (i := 887) (by decide +kernel) rfl
theorem co_Mod_at : Cond.code Y_Mod_at.1 Y_Mod_at.2.1 Y_Mod_at.2.2.1 Y_Mod_at.2.2.2 ∈ ex_tb := tm (i := 888) (by decide +kernel) rfl
theorem ml_Mod_97 : Cond.methodLink "DayBehindModel" (97 : Nat) ({ cls := "DayBehindModel", name := "has", desc := "(II)Z" } : MethodName) ∈ ex_tb := tm (i := 889) (by decide +kernel) rfl
theorem sm_Mod_has : Cond.static ({ cls := "DayBehindModel", name := "has", desc := "(II)Z" } : MethodName) ∈ ex_tb := tm (i := 890) (by decide +kernel) rfl
theorem co_Mod_has : Cond.code Y_Mod_has.1 Y_Mod_has.2.1 Y_Mod_has.2.2.1 Y_Mod_has.2.2.2 ∈ ex_tb := tm (i := 891) (by decide +kernel) rfl
theorem ml_Mod_110 : Cond.methodLink "DayBehindModel" (110 : Nat) ({ cls := "java/lang/Math", name := "max", desc := "(II)I" } : MethodName) ∈ ex_tb := tm (i := 892) (by decide +kernel) rfl
theorem ml_Law_30 : Cond.methodLink "DayBehindLaw" (30 : Nat) ({ cls := "DayBehindModel", name := "worth", desc := "(II)I" } : MethodName) ∈ ex_tb := tm (i := 893) (by decide +kernel) rfl
theorem im_Mod_worth : Cond.instanceMethod ({ cls := "DayBehindModel", name := "worth", desc := "(II)I" } : MethodName) ∈ ex_tb := tm (i := 894) (by decide +kernel) rfl
theorem se_Mod_worth : Cond.selects "DayBehindModel" ({ cls := "DayBehindModel", name := "worth", desc := "(II)I" } : MethodName) ({ cls := "DayBehindModel", name := "worth", desc := "(II)I" } : MethodName) ∈ ex_tb := tm (i := 895) (by decide +kernel) rfl
theorem co_Mod_worth : Cond.code Y_Mod_worth.1 Y_Mod_worth.2.1 Y_Mod_worth.2.2.1 Y_Mod_worth.2.2.2 ∈ ex_tb := tm (i := 896) (by decide +kernel) rfl
theorem ml_Law_34 : Cond.methodLink "DayBehindLaw" (34 : Nat) ({ cls := "DayBehindModel", name := "one", desc := "(II)I" } : MethodName) ∈ ex_tb := tm (i := 897) (by decide +kernel) rfl
theorem im_Mod_one : Cond.instanceMethod ({ cls := "DayBehindModel", name := "one", desc := "(II)I" } : MethodName) ∈ ex_tb := tm (i := 898) (by decide +kernel) rfl
theorem se_Mod_one : Cond.selects "DayBehindModel" ({ cls := "DayBehindModel", name := "one", desc := "(II)I" } : MethodName) ({ cls := "DayBehindModel", name := "one", desc := "(II)I" } : MethodName) ∈ ex_tb := tm (i := 899) (by decide +kernel) rfl
theorem co_Mod_one : Cond.code Y_Mod_one.1 Y_Mod_one.2.1 Y_Mod_one.2.2.1 Y_Mod_one.2.2.2 ∈ ex_tb := tm (i := 900) (by decide +kernel) rfl
theorem ml_Mod_115 : Cond.methodLink "DayBehindModel" (115 : Nat) ({ cls := "DayBehindModel", name := "isKind", desc := "(I)Z" } : MethodName) ∈ ex_tb := tm (i := 901) (by decide +kernel) rfl
theorem sm_Mod_isKind : Cond.static ({ cls := "DayBehindModel", name := "isKind", desc := "(I)Z" } : MethodName) ∈ ex_tb := tm (i := 902) (by decide +kernel) rfl
theorem co_Mod_isKind : Cond.code Y_Mod_isKind.1 Y_Mod_isKind.2.1 Y_Mod_isKind.2.2.1 Y_Mod_isKind.2.2.2 ∈ ex_tb := tm (i := 903) (by decide +kernel) rfl
theorem ml_Mod_118 : Cond.methodLink "DayBehindModel" (118 : Nat) ({ cls := "DayBehindModel", name := "comes", desc := "(IIIII)I" } : MethodName) ∈ ex_tb := tm (i := 904) (by decide +kernel) rfl
theorem im_Mod_comes : Cond.instanceMethod ({ cls := "DayBehindModel", name := "comes", desc := "(IIIII)I" } : MethodName) ∈ ex_tb := tm (i := 906) (by decide +kernel) rfl
theorem co_Mod_comes : Cond.code Y_Mod_comes.1 Y_Mod_comes.2.1 Y_Mod_comes.2.2.1 Y_Mod_comes.2.2.2 ∈ ex_tb := tm (i := 907) (by decide +kernel) rfl
theorem ml_Law_38 : Cond.methodLink "DayBehindLaw" (38 : Nat) ({ cls := "DayBehindModel", name := "of", desc := "(II)I" } : MethodName) ∈ ex_tb := tm (i := 908) (by decide +kernel) rfl
theorem im_Mod_of : Cond.instanceMethod ({ cls := "DayBehindModel", name := "of", desc := "(II)I" } : MethodName) ∈ ex_tb := tm (i := 909) (by decide +kernel) rfl
theorem se_Mod_of : Cond.selects "DayBehindModel" ({ cls := "DayBehindModel", name := "of", desc := "(II)I" } : MethodName) ({ cls := "DayBehindModel", name := "of", desc := "(II)I" } : MethodName) ∈ ex_tb := tm (i := 910) (by decide +kernel) rfl
theorem co_Mod_of : Cond.code Y_Mod_of.1 Y_Mod_of.2.1 Y_Mod_of.2.2.1 Y_Mod_of.2.2.2 ∈ ex_tb := tm (i := 911) (by decide +kernel) rfl
theorem ml_Mod_122 : Cond.methodLink "DayBehindModel" (122 : Nat) ({ cls := "DayBehindModel", name := "isOne", desc := "(I)Z" } : MethodName) ∈ ex_tb := tm (i := 912) (by decide +kernel) rfl
theorem im_Mod_isOne : Cond.instanceMethod ({ cls := "DayBehindModel", name := "isOne", desc := "(I)Z" } : MethodName) ∈ ex_tb := tm (i := 914) (by decide +kernel) rfl
theorem co_Mod_isOne : Cond.code Y_Mod_isOne.1 Y_Mod_isOne.2.1 Y_Mod_isOne.2.2.1 Y_Mod_isOne.2.2.2 ∈ ex_tb := tm (i := 915) (by decide +kernel) rfl
theorem ml_Law_43 : Cond.methodLink "DayBehindLaw" (43 : Nat) ({ cls := "DayBehindModel", name := "set", desc := "(III)I" } : MethodName) ∈ ex_tb := tm (i := 916) (by decide +kernel) rfl
theorem im_Mod_set : Cond.instanceMethod ({ cls := "DayBehindModel", name := "set", desc := "(III)I" } : MethodName) ∈ ex_tb := tm (i := 917) (by decide +kernel) rfl
theorem se_Mod_set : Cond.selects "DayBehindModel" ({ cls := "DayBehindModel", name := "set", desc := "(III)I" } : MethodName) ({ cls := "DayBehindModel", name := "set", desc := "(III)I" } : MethodName) ∈ ex_tb := tm (i := 918) (by decide +kernel) rfl
theorem co_Mod_set : Cond.code Y_Mod_set.1 Y_Mod_set.2.1 Y_Mod_set.2.2.1 Y_Mod_set.2.2.2 ∈ ex_tb := tm (i := 919) (by decide +kernel) rfl
theorem ml_Mod_125 : Cond.methodLink "DayBehindModel" (125 : Nat) ({ cls := "DayBehindModel", name := "maySet", desc := "(II)Z" } : MethodName) ∈ ex_tb := tm (i := 920) (by decide +kernel) rfl
theorem im_Mod_maySet : Cond.instanceMethod ({ cls := "DayBehindModel", name := "maySet", desc := "(II)Z" } : MethodName) ∈ ex_tb := tm (i := 922) (by decide +kernel) rfl
theorem co_Mod_maySet : Cond.code Y_Mod_maySet.1 Y_Mod_maySet.2.1 Y_Mod_maySet.2.2.1 Y_Mod_maySet.2.2.2 ∈ ex_tb := tm (i := 923) (by decide +kernel) rfl
theorem ml_Law_47 : Cond.methodLink "DayBehindLaw" (47 : Nat) ({ cls := "DayBehindModel", name := "turn", desc := "(II)I" } : MethodName) ∈ ex_tb := tm (i := 924) (by decide +kernel) rfl
theorem im_Mod_turn : Cond.instanceMethod ({ cls := "DayBehindModel", name := "turn", desc := "(II)I" } : MethodName) ∈ ex_tb := tm (i := 925) (by decide +kernel) rfl
theorem se_Mod_turn : Cond.selects "DayBehindModel" ({ cls := "DayBehindModel", name := "turn", desc := "(II)I" } : MethodName) ({ cls := "DayBehindModel", name := "turn", desc := "(II)I" } : MethodName) ∈ ex_tb := tm (i := 926) (by decide +kernel) rfl
theorem co_Mod_turn : Cond.code Y_Mod_turn.1 Y_Mod_turn.2.1 Y_Mod_turn.2.2.1 Y_Mod_turn.2.2.2 ∈ ex_tb := tm (i := 927) (by decide +kernel) rfl
theorem ml_Law_51 : Cond.methodLink "DayBehindLaw" (51 : Nat) ({ cls := "DayBehindModel", name := "as", desc := "(II)I" } : MethodName) ∈ ex_tb := tm (i := 928) (by decide +kernel) rfl
theorem im_Mod_as : Cond.instanceMethod ({ cls := "DayBehindModel", name := "as", desc := "(II)I" } : MethodName) ∈ ex_tb := tm (i := 929) (by decide +kernel) rfl
theorem se_Mod_as : Cond.selects "DayBehindModel" ({ cls := "DayBehindModel", name := "as", desc := "(II)I" } : MethodName) ({ cls := "DayBehindModel", name := "as", desc := "(II)I" } : MethodName) ∈ ex_tb := tm (i := 930) (by decide +kernel) rfl
theorem co_Mod_as : Cond.code Y_Mod_as.1 Y_Mod_as.2.1 Y_Mod_as.2.2.1 Y_Mod_as.2.2.2 ∈ ex_tb := tm (i := 931) (by decide +kernel) rfl
theorem ml_Mod_131 : Cond.methodLink "DayBehindModel" (131 : Nat) ({ cls := "DayBehindModel", name := "isUnder", desc := "(II)Z" } : MethodName) ∈ ex_tb := tm (i := 932) (by decide +kernel) rfl
theorem sm_Mod_isUnder : Cond.static ({ cls := "DayBehindModel", name := "isUnder", desc := "(II)Z" } : MethodName) ∈ ex_tb := tm (i := 933) (by decide +kernel) rfl
theorem co_Mod_isUnder : Cond.code Y_Mod_isUnder.1 Y_Mod_isUnder.2.1 Y_Mod_isUnder.2.2.1 Y_Mod_isUnder.2.2.2 ∈ ex_tb := tm (i := 934) (by decide +kernel) rfl
theorem ml_Mod_128 : Cond.methodLink "DayBehindModel" (128 : Nat) ({ cls := "DayBehindModel", name := "above", desc := "(I)I" } : MethodName) ∈ ex_tb := tm (i := 935) (by decide +kernel) rfl
theorem sm_Mod_above : Cond.static ({ cls := "DayBehindModel", name := "above", desc := "(I)I" } : MethodName) ∈ ex_tb := tm (i := 936) (by decide +kernel) rfl
theorem co_Mod_above : Cond.code Y_Mod_above.1 Y_Mod_above.2.1 Y_Mod_above.2.2.1 Y_Mod_above.2.2.2 ∈ ex_tb := tm (i := 937) (by decide +kernel) rfl
theorem kc_Mod_134 : Cond.constant "DayBehindModel" (134 : Nat) (-1000000003 : Int32) ∈ ex_tb := tm (i := 938) (by decide +kernel) rfl
theorem ml_Law_55 : Cond.methodLink "DayBehindLaw" (55 : Nat) ({ cls := "DayBehindModel", name := "gains", desc := "(III)I" } : MethodName) ∈ ex_tb := tm (i := 939) (by decide +kernel) rfl
theorem im_Mod_gains : Cond.instanceMethod ({ cls := "DayBehindModel", name := "gains", desc := "(III)I" } : MethodName) ∈ ex_tb := tm (i := 940) (by decide +kernel) rfl
theorem se_Mod_gains : Cond.selects "DayBehindModel" ({ cls := "DayBehindModel", name := "gains", desc := "(III)I" } : MethodName) ({ cls := "DayBehindModel", name := "gains", desc := "(III)I" } : MethodName) ∈ ex_tb := tm (i := 941) (by decide +kernel) rfl
theorem co_Mod_gains : Cond.code Y_Mod_gains.1 Y_Mod_gains.2.1 Y_Mod_gains.2.2.1 Y_Mod_gains.2.2.2 ∈ ex_tb := tm (i := 942) (by decide +kernel) rfl
theorem ml_Mod_135 : Cond.methodLink "DayBehindModel" (135 : Nat) ({ cls := "DayBehindModel", name := "gainsOf", desc := "(IIZ)I" } : MethodName) ∈ ex_tb := tm (i := 943) (by decide +kernel) rfl
theorem sm_Mod_gainsOf : Cond.static ({ cls := "DayBehindModel", name := "gainsOf", desc := "(IIZ)I" } : MethodName) ∈ ex_tb := tm (i := 944) (by decide +kernel) rfl
theorem co_Mod_gainsOf : Cond.code Y_Mod_gainsOf.1 Y_Mod_gainsOf.2.1 Y_Mod_gainsOf.2.2.1 Y_Mod_gainsOf.2.2.2 ∈ ex_tb := tm (i := 945) (by decide +kernel) rfl
theorem ml_Law_59 : Cond.methodLink "DayBehindLaw" (59 : Nat) ({ cls := "DayBehindModel", name := "cross", desc := "(I)I" } : MethodName) ∈ ex_tb := tm (i := 946) (by decide +kernel) rfl
theorem im_Mod_cross : Cond.instanceMethod ({ cls := "DayBehindModel", name := "cross", desc := "(I)I" } : MethodName) ∈ ex_tb := tm (i := 947) (by decide +kernel) rfl
theorem se_Mod_cross : Cond.selects "DayBehindModel" ({ cls := "DayBehindModel", name := "cross", desc := "(I)I" } : MethodName) ({ cls := "DayBehindModel", name := "cross", desc := "(I)I" } : MethodName) ∈ ex_tb := tm (i := 948) (by decide +kernel) rfl
theorem co_Mod_cross : Cond.code Y_Mod_cross.1 Y_Mod_cross.2.1 Y_Mod_cross.2.2.1 Y_Mod_cross.2.2.2 ∈ ex_tb := tm (i := 949) (by decide +kernel) rfl
theorem ml_Mod_146 : Cond.methodLink "DayBehindModel" (146 : Nat) ({ cls := "DayBehindModel", name := "canPay", desc := "(I)Z" } : MethodName) ∈ ex_tb := tm (i := 950) (by decide +kernel) rfl
theorem im_Mod_canPay : Cond.instanceMethod ({ cls := "DayBehindModel", name := "canPay", desc := "(I)Z" } : MethodName) ∈ ex_tb := tm (i := 952) (by decide +kernel) rfl
theorem co_Mod_canPay : Cond.code Y_Mod_canPay.1 Y_Mod_canPay.2.1 Y_Mod_canPay.2.2.1 Y_Mod_canPay.2.2.2 ∈ ex_tb := tm (i := 953) (by decide +kernel) rfl
theorem kc_Mod_149 : Cond.constant "DayBehindModel" (149 : Nat) (-1000000005 : Int32) ∈ ex_tb := tm (i := 954) (by decide +kernel) rfl
theorem ml_Mod_150 : Cond.methodLink "DayBehindModel" (150 : Nat) ({ cls := "DayBehindModel", name := "crosses", desc := "(I)V" } : MethodName) ∈ ex_tb := tm (i := 955) (by decide +kernel) rfl
theorem im_Mod_crosses : Cond.instanceMethod ({ cls := "DayBehindModel", name := "crosses", desc := "(I)V" } : MethodName) ∈ ex_tb := tm (i := 957) (by decide +kernel) rfl
theorem co_Mod_crosses : Cond.code Y_Mod_crosses.1 Y_Mod_crosses.2.1 Y_Mod_crosses.2.2.1 Y_Mod_crosses.2.2.2 ∈ ex_tb := tm (i := 958) (by decide +kernel) rfl
theorem ml_Mod_142 : Cond.methodLink "DayBehindModel" (142 : Nat) ({ cls := "DayBehindModel", name := "pays", desc := "(II)V" } : MethodName) ∈ ex_tb := tm (i := 959) (by decide +kernel) rfl
theorem im_Mod_pays : Cond.instanceMethod ({ cls := "DayBehindModel", name := "pays", desc := "(II)V" } : MethodName) ∈ ex_tb := tm (i := 961) (by decide +kernel) rfl
theorem co_Mod_pays : Cond.code Y_Mod_pays.1 Y_Mod_pays.2.1 Y_Mod_pays.2.2.1 Y_Mod_pays.2.2.2 ∈ ex_tb := tm (i := 962) (by decide +kernel) rfl
theorem ml_Mod_139 : Cond.methodLink "DayBehindModel" (139 : Nat) ({ cls := "java/lang/Math", name := "min", desc := "(II)I" } : MethodName) ∈ ex_tb := tm (i := 963) (by decide +kernel) rfl
theorem ml_Law_63 : Cond.methodLink "DayBehindLaw" (63 : Nat) ({ cls := "DayBehindModel", name := "tells", desc := "(II)I" } : MethodName) ∈ ex_tb := tm (i := 964) (by decide +kernel) rfl
theorem im_Mod_tells : Cond.instanceMethod ({ cls := "DayBehindModel", name := "tells", desc := "(II)I" } : MethodName) ∈ ex_tb := tm (i := 965) (by decide +kernel) rfl
theorem se_Mod_tells : Cond.selects "DayBehindModel" ({ cls := "DayBehindModel", name := "tells", desc := "(II)I" } : MethodName) ({ cls := "DayBehindModel", name := "tells", desc := "(II)I" } : MethodName) ∈ ex_tb := tm (i := 966) (by decide +kernel) rfl
theorem co_Mod_tells : Cond.code Y_Mod_tells.1 Y_Mod_tells.2.1 Y_Mod_tells.2.2.1 Y_Mod_tells.2.2.2 ∈ ex_tb := tm (i := 967) (by decide +kernel) rfl
theorem ml_Mod_157 : Cond.methodLink "DayBehindModel" (157 : Nat) ({ cls := "DayBehindModel", name := "told", desc := "(II)I" } : MethodName) ∈ ex_tb := tm (i := 968) (by decide +kernel) rfl
theorem im_Mod_told : Cond.instanceMethod ({ cls := "DayBehindModel", name := "told", desc := "(II)I" } : MethodName) ∈ ex_tb := tm (i := 970) (by decide +kernel) rfl
theorem co_Mod_told : Cond.code Y_Mod_told.1 Y_Mod_told.2.1 Y_Mod_told.2.2.1 Y_Mod_told.2.2.2 ∈ ex_tb := tm (i := 971) (by decide +kernel) rfl
theorem ml_Mod_154 : Cond.methodLink "DayBehindModel" (154 : Nat) ({ cls := "DayBehindModel", name := "bits", desc := "(I)I" } : MethodName) ∈ ex_tb := tm (i := 972) (by decide +kernel) rfl
theorem sm_Mod_bits : Cond.static ({ cls := "DayBehindModel", name := "bits", desc := "(I)I" } : MethodName) ∈ ex_tb := tm (i := 973) (by decide +kernel) rfl
theorem co_Mod_bits : Cond.code Y_Mod_bits.1 Y_Mod_bits.2.1 Y_Mod_bits.2.2.1 Y_Mod_bits.2.2.2 ∈ ex_tb := tm (i := 974) (by decide +kernel) rfl
theorem ml_Law_67 : Cond.methodLink "DayBehindLaw" (67 : Nat) ({ cls := "DayBehindModel", name := "hours", desc := "(I)I" } : MethodName) ∈ ex_tb := tm (i := 975) (by decide +kernel) rfl
theorem im_Mod_hours : Cond.instanceMethod ({ cls := "DayBehindModel", name := "hours", desc := "(I)I" } : MethodName) ∈ ex_tb := tm (i := 976) (by decide +kernel) rfl
theorem se_Mod_hours : Cond.selects "DayBehindModel" ({ cls := "DayBehindModel", name := "hours", desc := "(I)I" } : MethodName) ({ cls := "DayBehindModel", name := "hours", desc := "(I)I" } : MethodName) ∈ ex_tb := tm (i := 977) (by decide +kernel) rfl
theorem co_Mod_hours : Cond.code Y_Mod_hours.1 Y_Mod_hours.2.1 Y_Mod_hours.2.2.1 Y_Mod_hours.2.2.2 ∈ ex_tb := tm (i := 978) (by decide +kernel) rfl
theorem ml_Mod_175 : Cond.methodLink "DayBehindModel" (175 : Nat) ({ cls := "DayBehindModel", name := "hoursGo", desc := "(I)V" } : MethodName) ∈ ex_tb := tm (i := 979) (by decide +kernel) rfl
theorem im_Mod_hoursGo : Cond.instanceMethod ({ cls := "DayBehindModel", name := "hoursGo", desc := "(I)V" } : MethodName) ∈ ex_tb := tm (i := 981) (by decide +kernel) rfl
theorem co_Mod_hoursGo : Cond.code Y_Mod_hoursGo.1 Y_Mod_hoursGo.2.1 Y_Mod_hoursGo.2.2.1 Y_Mod_hoursGo.2.2.2 ∈ ex_tb := tm (i := 982) (by decide +kernel) rfl
theorem ml_Mod_172 : Cond.methodLink "DayBehindModel" (172 : Nat) ({ cls := "DayBehindModel", name := "hour", desc := "()V" } : MethodName) ∈ ex_tb := tm (i := 983) (by decide +kernel) rfl
theorem im_Mod_hour : Cond.instanceMethod ({ cls := "DayBehindModel", name := "hour", desc := "()V" } : MethodName) ∈ ex_tb := tm (i := 985) (by decide +kernel) rfl
theorem co_Mod_hour : Cond.code Y_Mod_hour.1 Y_Mod_hour.2.1 Y_Mod_hour.2.2.1 Y_Mod_hour.2.2.2 ∈ ex_tb := tm (i := 986) (by decide +kernel) rfl
theorem ml_Mod_160 : Cond.methodLink "DayBehindModel" (160 : Nat) ({ cls := "DayBehindModel", name := "isThere", desc := "(I)Z" } : MethodName) ∈ ex_tb := tm (i := 987) (by decide +kernel) rfl
theorem im_Mod_isThere : Cond.instanceMethod ({ cls := "DayBehindModel", name := "isThere", desc := "(I)Z" } : MethodName) ∈ ex_tb := tm (i := 989) (by decide +kernel) rfl
theorem co_Mod_isThere : Cond.code Y_Mod_isThere.1 Y_Mod_isThere.2.1 Y_Mod_isThere.2.2.1 Y_Mod_isThere.2.2.2 ∈ ex_tb := tm (i := 990) (by decide +kernel) rfl
theorem ml_Mod_163 : Cond.methodLink "DayBehindModel" (163 : Nat) ({ cls := "DayBehindModel", name := "tellersTell", desc := "()V" } : MethodName) ∈ ex_tb := tm (i := 991) (by decide +kernel) rfl
theorem im_Mod_tellersTell : Cond.instanceMethod ({ cls := "DayBehindModel", name := "tellersTell", desc := "()V" } : MethodName) ∈ ex_tb := tm (i := 993) (by decide +kernel) rfl
theorem co_Mod_tellersTell : Cond.code Y_Mod_tellersTell.1 Y_Mod_tellersTell.2.1 Y_Mod_tellersTell.2.2.1 Y_Mod_tellersTell.2.2.2 ∈ ex_tb := tm (i := 994) (by decide +kernel) rfl
theorem ml_Mod_166 : Cond.methodLink "DayBehindModel" (166 : Nat) ({ cls := "DayBehindModel", name := "firemenMeet", desc := "()V" } : MethodName) ∈ ex_tb := tm (i := 995) (by decide +kernel) rfl
theorem im_Mod_firemenMeet : Cond.instanceMethod ({ cls := "DayBehindModel", name := "firemenMeet", desc := "()V" } : MethodName) ∈ ex_tb := tm (i := 997) (by decide +kernel) rfl
theorem co_Mod_firemenMeet : Cond.code Y_Mod_firemenMeet.1 Y_Mod_firemenMeet.2.1 Y_Mod_firemenMeet.2.2.1 Y_Mod_firemenMeet.2.2.2 ∈ ex_tb := tm (i := 998) (by decide +kernel) rfl
theorem ml_Mod_169 : Cond.methodLink "DayBehindModel" (169 : Nat) ({ cls := "DayBehindModel", name := "comesOn", desc := "(II)V" } : MethodName) ∈ ex_tb := tm (i := 999) (by decide +kernel) rfl
theorem im_Mod_comesOn : Cond.instanceMethod ({ cls := "DayBehindModel", name := "comesOn", desc := "(II)V" } : MethodName) ∈ ex_tb := tm (i := 1001) (by decide +kernel) rfl
theorem co_Mod_comesOn : Cond.code Y_Mod_comesOn.1 Y_Mod_comesOn.2.1 Y_Mod_comesOn.2.2.1 Y_Mod_comesOn.2.2.2 ∈ ex_tb := tm (i := 1002) (by decide +kernel) rfl
theorem ml_Mod_178 : Cond.methodLink "DayBehindModel" (178 : Nat) ({ cls := "DayBehindModel", name := "sumOf", desc := "(I)I" } : MethodName) ∈ ex_tb := tm (i := 1003) (by decide +kernel) rfl
theorem im_Mod_sumOf : Cond.instanceMethod ({ cls := "DayBehindModel", name := "sumOf", desc := "(I)I" } : MethodName) ∈ ex_tb := tm (i := 1005) (by decide +kernel) rfl
theorem co_Mod_sumOf : Cond.code Y_Mod_sumOf.1 Y_Mod_sumOf.2.1 Y_Mod_sumOf.2.2.1 Y_Mod_sumOf.2.2.2 ∈ ex_tb := tm (i := 1006) (by decide +kernel) rfl
theorem ml_Law_71 : Cond.methodLink "DayBehindLaw" (71 : Nat) ({ cls := "DayBehindModel", name := "now", desc := "(I)I" } : MethodName) ∈ ex_tb := tm (i := 1007) (by decide +kernel) rfl
theorem im_Mod_now : Cond.instanceMethod ({ cls := "DayBehindModel", name := "now", desc := "(I)I" } : MethodName) ∈ ex_tb := tm (i := 1008) (by decide +kernel) rfl
theorem se_Mod_now : Cond.selects "DayBehindModel" ({ cls := "DayBehindModel", name := "now", desc := "(I)I" } : MethodName) ({ cls := "DayBehindModel", name := "now", desc := "(I)I" } : MethodName) ∈ ex_tb := tm (i := 1009) (by decide +kernel) rfl
theorem co_Mod_now : Cond.code Y_Mod_now.1 Y_Mod_now.2.1 Y_Mod_now.2.2.1 Y_Mod_now.2.2.2 ∈ ex_tb := tm (i := 1010) (by decide +kernel) rfl
theorem ml_Mod_181 : Cond.methodLink "DayBehindModel" (181 : Nat) ({ cls := "DayBehindModel", name := "onLeft", desc := "()I" } : MethodName) ∈ ex_tb := tm (i := 1011) (by decide +kernel) rfl
theorem im_Mod_onLeft : Cond.instanceMethod ({ cls := "DayBehindModel", name := "onLeft", desc := "()I" } : MethodName) ∈ ex_tb := tm (i := 1013) (by decide +kernel) rfl
theorem co_Mod_onLeft : Cond.code Y_Mod_onLeft.1 Y_Mod_onLeft.2.1 Y_Mod_onLeft.2.2.1 Y_Mod_onLeft.2.2.2 ∈ ex_tb := tm (i := 1014) (by decide +kernel) rfl
theorem ml_Mod_185 : Cond.methodLink "DayBehindModel" (185 : Nat) ({ cls := "DayBehindModel", name := "metNow", desc := "()I" } : MethodName) ∈ ex_tb := tm (i := 1015) (by decide +kernel) rfl
theorem im_Mod_metNow : Cond.instanceMethod ({ cls := "DayBehindModel", name := "metNow", desc := "()I" } : MethodName) ∈ ex_tb := tm (i := 1017) (by decide +kernel) rfl
theorem co_Mod_metNow : Cond.code Y_Mod_metNow.1 Y_Mod_metNow.2.1 Y_Mod_metNow.2.2.1 Y_Mod_metNow.2.2.2 ∈ ex_tb := tm (i := 1018) (by decide +kernel) rfl
theorem ml_Law_75 : Cond.methodLink "DayBehindLaw" (75 : Nat) ({ cls := "DayBehindModel", name := "on", desc := "(III)I" } : MethodName) ∈ ex_tb := tm (i := 1019) (by decide +kernel) rfl
theorem im_Mod_on : Cond.instanceMethod ({ cls := "DayBehindModel", name := "on", desc := "(III)I" } : MethodName) ∈ ex_tb := tm (i := 1020) (by decide +kernel) rfl
theorem se_Mod_on : Cond.selects "DayBehindModel" ({ cls := "DayBehindModel", name := "on", desc := "(III)I" } : MethodName) ({ cls := "DayBehindModel", name := "on", desc := "(III)I" } : MethodName) ∈ ex_tb := tm (i := 1021) (by decide +kernel) rfl
theorem co_Mod_on : Cond.code Y_Mod_on.1 Y_Mod_on.2.1 Y_Mod_on.2.2.1 Y_Mod_on.2.2.2 ∈ ex_tb := tm (i := 1022) (by decide +kernel) rfl
theorem ml_Mod_191 : Cond.methodLink "DayBehindModel" (191 : Nat) ({ cls := "DayBehindModel", name := "fieldOn", desc := "(III)I" } : MethodName) ∈ ex_tb := tm (i := 1023) (by decide +kernel) rfl
theorem im_Mod_fieldOn : Cond.instanceMethod ({ cls := "DayBehindModel", name := "fieldOn", desc := "(III)I" } : MethodName) ∈ ex_tb := tm (i := 1025) (by decide +kernel) rfl
theorem co_Mod_fieldOn : Cond.code Y_Mod_fieldOn.1 Y_Mod_fieldOn.2.1 Y_Mod_fieldOn.2.2.1 Y_Mod_fieldOn.2.2.2 ∈ ex_tb := tm (i := 1026) (by decide +kernel) rfl
theorem ml_Mod_64 : Cond.methodLink "DayBehindModel" (64 : Nat) ({ cls := "DayBehindModel", name := "copyRow", desc := "([I[I)V" } : MethodName) ∈ ex_tb := tm (i := 1027) (by decide +kernel) rfl
theorem sm_Mod_copyRow : Cond.static ({ cls := "DayBehindModel", name := "copyRow", desc := "([I[I)V" } : MethodName) ∈ ex_tb := tm (i := 1028) (by decide +kernel) rfl
theorem co_Mod_copyRow : Cond.code Y_Mod_copyRow.1 Y_Mod_copyRow.2.1 Y_Mod_copyRow.2.2.1 Y_Mod_copyRow.2.2.2 ∈ ex_tb := tm (i := 1029) (by decide +kernel) rfl
theorem ml_Mod_188 : Cond.methodLink "DayBehindModel" (188 : Nat) ({ cls := "DayBehindModel", name := "putBack", desc := "(I)I" } : MethodName) ∈ ex_tb := tm (i := 1030) (by decide +kernel) rfl
theorem im_Mod_putBack : Cond.instanceMethod ({ cls := "DayBehindModel", name := "putBack", desc := "(I)I" } : MethodName) ∈ ex_tb := tm (i := 1032) (by decide +kernel) rfl
theorem co_Mod_putBack : Cond.code Y_Mod_putBack.1 Y_Mod_putBack.2.1 Y_Mod_putBack.2.2.1 Y_Mod_putBack.2.2.2 ∈ ex_tb := tm (i := 1033) (by decide +kernel) rfl
theorem ml_Law_79 : Cond.methodLink "DayBehindLaw" (79 : Nat) ({ cls := "DayBehindModel", name := "learns", desc := "(II)I" } : MethodName) ∈ ex_tb := tm (i := 1034) (by decide +kernel) rfl
theorem im_Mod_learns : Cond.instanceMethod ({ cls := "DayBehindModel", name := "learns", desc := "(II)I" } : MethodName) ∈ ex_tb := tm (i := 1035) (by decide +kernel) rfl
theorem se_Mod_learns : Cond.selects "DayBehindModel" ({ cls := "DayBehindModel", name := "learns", desc := "(II)I" } : MethodName) ({ cls := "DayBehindModel", name := "learns", desc := "(II)I" } : MethodName) ∈ ex_tb := tm (i := 1036) (by decide +kernel) rfl
theorem co_Mod_learns : Cond.code Y_Mod_learns.1 Y_Mod_learns.2.1 Y_Mod_learns.2.2.1 Y_Mod_learns.2.2.2 ∈ ex_tb := tm (i := 1037) (by decide +kernel) rfl
theorem ml_Mod_196 : Cond.methodLink "DayBehindModel" (196 : Nat) ({ cls := "DayBehindModel", name := "learnsIn", desc := "(II)I" } : MethodName) ∈ ex_tb := tm (i := 1038) (by decide +kernel) rfl
theorem im_Mod_learnsIn : Cond.instanceMethod ({ cls := "DayBehindModel", name := "learnsIn", desc := "(II)I" } : MethodName) ∈ ex_tb := tm (i := 1040) (by decide +kernel) rfl
theorem co_Mod_learnsIn : Cond.code Y_Mod_learnsIn.1 Y_Mod_learnsIn.2.1 Y_Mod_learnsIn.2.2.1 Y_Mod_learnsIn.2.2.2 ∈ ex_tb := tm (i := 1041) (by decide +kernel) rfl
theorem ml_Mod_199 : Cond.methodLink "DayBehindModel" (199 : Nat) ({ cls := "DayBehindModel", name := "orNone", desc := "(I)I" } : MethodName) ∈ ex_tb := tm (i := 1042) (by decide +kernel) rfl
theorem im_Mod_orNone : Cond.instanceMethod ({ cls := "DayBehindModel", name := "orNone", desc := "(I)I" } : MethodName) ∈ ex_tb := tm (i := 1044) (by decide +kernel) rfl
theorem co_Mod_orNone : Cond.code Y_Mod_orNone.1 Y_Mod_orNone.2.1 Y_Mod_orNone.2.2.1 Y_Mod_orNone.2.2.2 ∈ ex_tb := tm (i := 1045) (by decide +kernel) rfl
theorem kc_Mod_195 : Cond.constant "DayBehindModel" (195 : Nat) (-1000000004 : Int32) ∈ ex_tb := tm (i := 1046) (by decide +kernel) rfl
theorem ml_Law_83 : Cond.methodLink "DayBehindLaw" (83 : Nat) ({ cls := "DayBehindModel", name := "first", desc := "(I)I" } : MethodName) ∈ ex_tb := tm (i := 1047) (by decide +kernel) rfl
theorem im_Mod_first : Cond.instanceMethod ({ cls := "DayBehindModel", name := "first", desc := "(I)I" } : MethodName) ∈ ex_tb := tm (i := 1048) (by decide +kernel) rfl
theorem se_Mod_first : Cond.selects "DayBehindModel" ({ cls := "DayBehindModel", name := "first", desc := "(I)I" } : MethodName) ({ cls := "DayBehindModel", name := "first", desc := "(I)I" } : MethodName) ∈ ex_tb := tm (i := 1049) (by decide +kernel) rfl
theorem co_Mod_first : Cond.code Y_Mod_first.1 Y_Mod_first.2.1 Y_Mod_first.2.2.1 Y_Mod_first.2.2.2 ∈ ex_tb := tm (i := 1050) (by decide +kernel) rfl
theorem ml_Law_87 : Cond.methodLink "DayBehindLaw" (87 : Nat) ({ cls := "DayBehindModel", name := "met", desc := "(I)I" } : MethodName) ∈ ex_tb := tm (i := 1051) (by decide +kernel) rfl
theorem im_Mod_met : Cond.instanceMethod ({ cls := "DayBehindModel", name := "met", desc := "(I)I" } : MethodName) ∈ ex_tb := tm (i := 1052) (by decide +kernel) rfl
theorem se_Mod_met : Cond.selects "DayBehindModel" ({ cls := "DayBehindModel", name := "met", desc := "(I)I" } : MethodName) ({ cls := "DayBehindModel", name := "met", desc := "(I)I" } : MethodName) ∈ ex_tb := tm (i := 1053) (by decide +kernel) rfl
theorem co_Mod_met : Cond.code Y_Mod_met.1 Y_Mod_met.2.1 Y_Mod_met.2.2.1 Y_Mod_met.2.2.2 ∈ ex_tb := tm (i := 1054) (by decide +kernel) rfl
theorem ml_Mod_202 : Cond.methodLink "DayBehindModel" (202 : Nat) ({ cls := "DayBehindModel", name := "metOn", desc := "(I)I" } : MethodName) ∈ ex_tb := tm (i := 1055) (by decide +kernel) rfl
theorem im_Mod_metOn : Cond.instanceMethod ({ cls := "DayBehindModel", name := "metOn", desc := "(I)I" } : MethodName) ∈ ex_tb := tm (i := 1057) (by decide +kernel) rfl
theorem co_Mod_metOn : Cond.code Y_Mod_metOn.1 Y_Mod_metOn.2.1 Y_Mod_metOn.2.2.1 Y_Mod_metOn.2.2.2 ∈ ex_tb := tm (i := 1058) (by decide +kernel) rfl
theorem ml_Law_91 : Cond.methodLink "DayBehindLaw" (91 : Nat) ({ cls := "DayBehindModel", name := "broke", desc := "(I)I" } : MethodName) ∈ ex_tb := tm (i := 1059) (by decide +kernel) rfl
theorem im_Mod_broke : Cond.instanceMethod ({ cls := "DayBehindModel", name := "broke", desc := "(I)I" } : MethodName) ∈ ex_tb := tm (i := 1060) (by decide +kernel) rfl
theorem se_Mod_broke : Cond.selects "DayBehindModel" ({ cls := "DayBehindModel", name := "broke", desc := "(I)I" } : MethodName) ({ cls := "DayBehindModel", name := "broke", desc := "(I)I" } : MethodName) ∈ ex_tb := tm (i := 1061) (by decide +kernel) rfl
theorem co_Mod_broke : Cond.code Y_Mod_broke.1 Y_Mod_broke.2.1 Y_Mod_broke.2.2.1 Y_Mod_broke.2.2.2 ∈ ex_tb := tm (i := 1062) (by decide +kernel) rfl
theorem ml_Law_95 : Cond.methodLink "DayBehindLaw" (95 : Nat) ({ cls := "DayBehindModel", name := "clocks", desc := "(II)I" } : MethodName) ∈ ex_tb := tm (i := 1063) (by decide +kernel) rfl
theorem im_Mod_clocks : Cond.instanceMethod ({ cls := "DayBehindModel", name := "clocks", desc := "(II)I" } : MethodName) ∈ ex_tb := tm (i := 1064) (by decide +kernel) rfl
theorem se_Mod_clocks : Cond.selects "DayBehindModel" ({ cls := "DayBehindModel", name := "clocks", desc := "(II)I" } : MethodName) ({ cls := "DayBehindModel", name := "clocks", desc := "(II)I" } : MethodName) ∈ ex_tb := tm (i := 1065) (by decide +kernel) rfl
theorem co_Mod_clocks : Cond.code Y_Mod_clocks.1 Y_Mod_clocks.2.1 Y_Mod_clocks.2.2.1 Y_Mod_clocks.2.2.2 ∈ ex_tb := tm (i := 1066) (by decide +kernel) rfl
theorem ml_Mod_211 : Cond.methodLink "DayBehindModel" (211 : Nat) ({ cls := "DayBehindModel", name := "findClocks", desc := "(II)I" } : MethodName) ∈ ex_tb := tm (i := 1067) (by decide +kernel) rfl
theorem im_Mod_findClocks : Cond.instanceMethod ({ cls := "DayBehindModel", name := "findClocks", desc := "(II)I" } : MethodName) ∈ ex_tb := tm (i := 1069) (by decide +kernel) rfl
theorem co_Mod_findClocks : Cond.code Y_Mod_findClocks.1 Y_Mod_findClocks.2.1 Y_Mod_findClocks.2.2.1 Y_Mod_findClocks.2.2.2 ∈ ex_tb := tm (i := 1070) (by decide +kernel) rfl
theorem ml_Mod_208 : Cond.methodLink "DayBehindModel" (208 : Nat) ({ cls := "DayBehindModel", name := "purseOn", desc := "(II)I" } : MethodName) ∈ ex_tb := tm (i := 1071) (by decide +kernel) rfl
theorem im_Mod_purseOn : Cond.instanceMethod ({ cls := "DayBehindModel", name := "purseOn", desc := "(II)I" } : MethodName) ∈ ex_tb := tm (i := 1073) (by decide +kernel) rfl
theorem co_Mod_purseOn : Cond.code Y_Mod_purseOn.1 Y_Mod_purseOn.2.1 Y_Mod_purseOn.2.2.1 Y_Mod_purseOn.2.2.2 ∈ ex_tb := tm (i := 1074) (by decide +kernel) rfl
theorem ml_Law_99 : Cond.methodLink "DayBehindLaw" (99 : Nat) ({ cls := "DayBehindModel", name := "rich", desc := "(II)I" } : MethodName) ∈ ex_tb := tm (i := 1075) (by decide +kernel) rfl
theorem im_Mod_rich : Cond.instanceMethod ({ cls := "DayBehindModel", name := "rich", desc := "(II)I" } : MethodName) ∈ ex_tb := tm (i := 1076) (by decide +kernel) rfl
theorem se_Mod_rich : Cond.selects "DayBehindModel" ({ cls := "DayBehindModel", name := "rich", desc := "(II)I" } : MethodName) ({ cls := "DayBehindModel", name := "rich", desc := "(II)I" } : MethodName) ∈ ex_tb := tm (i := 1077) (by decide +kernel) rfl
theorem co_Mod_rich : Cond.code Y_Mod_rich.1 Y_Mod_rich.2.1 Y_Mod_rich.2.2.1 Y_Mod_rich.2.2.2 ∈ ex_tb := tm (i := 1078) (by decide +kernel) rfl
theorem ml_Law_103 : Cond.methodLink "DayBehindLaw" (103 : Nat) ({ cls := "DayBehindModel", name := "bears", desc := "(II)I" } : MethodName) ∈ ex_tb := tm (i := 1079) (by decide +kernel) rfl
theorem im_Mod_bears : Cond.instanceMethod ({ cls := "DayBehindModel", name := "bears", desc := "(II)I" } : MethodName) ∈ ex_tb := tm (i := 1080) (by decide +kernel) rfl
theorem se_Mod_bears : Cond.selects "DayBehindModel" ({ cls := "DayBehindModel", name := "bears", desc := "(II)I" } : MethodName) ({ cls := "DayBehindModel", name := "bears", desc := "(II)I" } : MethodName) ∈ ex_tb := tm (i := 1081) (by decide +kernel) rfl
theorem co_Mod_bears : Cond.code Y_Mod_bears.1 Y_Mod_bears.2.1 Y_Mod_bears.2.2.1 Y_Mod_bears.2.2.2 ∈ ex_tb := tm (i := 1082) (by decide +kernel) rfl
theorem kc_Mod_214 : Cond.constant "DayBehindModel" (214 : Nat) (99999 : Int32) ∈ ex_tb := tm (i := 1083) (by decide +kernel) rfl
theorem ml_Mod_215 : Cond.methodLink "DayBehindModel" (215 : Nat) ({ cls := "DayBehindModel", name := "allOn", desc := "(I)I" } : MethodName) ∈ ex_tb := tm (i := 1084) (by decide +kernel) rfl
theorem im_Mod_allOn : Cond.instanceMethod ({ cls := "DayBehindModel", name := "allOn", desc := "(I)I" } : MethodName) ∈ ex_tb := tm (i := 1086) (by decide +kernel) rfl
theorem co_Mod_allOn : Cond.code Y_Mod_allOn.1 Y_Mod_allOn.2.1 Y_Mod_allOn.2.2.1 Y_Mod_allOn.2.2.2 ∈ ex_tb := tm (i := 1087) (by decide +kernel) rfl
theorem ml_Law_107 : Cond.methodLink "DayBehindLaw" (107 : Nat) ({ cls := "DayBehindModel", name := "bank", desc := "(II)I" } : MethodName) ∈ ex_tb := tm (i := 1088) (by decide +kernel) rfl
theorem im_Mod_bank : Cond.instanceMethod ({ cls := "DayBehindModel", name := "bank", desc := "(II)I" } : MethodName) ∈ ex_tb := tm (i := 1089) (by decide +kernel) rfl
theorem se_Mod_bank : Cond.selects "DayBehindModel" ({ cls := "DayBehindModel", name := "bank", desc := "(II)I" } : MethodName) ({ cls := "DayBehindModel", name := "bank", desc := "(II)I" } : MethodName) ∈ ex_tb := tm (i := 1090) (by decide +kernel) rfl
theorem co_Mod_bank : Cond.code Y_Mod_bank.1 Y_Mod_bank.2.1 Y_Mod_bank.2.2.1 Y_Mod_bank.2.2.2 ∈ ex_tb := tm (i := 1091) (by decide +kernel) rfl
theorem ml_Mod_218 : Cond.methodLink "DayBehindModel" (218 : Nat) ({ cls := "DayBehindModel", name := "bestWith", desc := "(IIII)I" } : MethodName) ∈ ex_tb := tm (i := 1092) (by decide +kernel) rfl
theorem im_Mod_bestWith : Cond.instanceMethod ({ cls := "DayBehindModel", name := "bestWith", desc := "(IIII)I" } : MethodName) ∈ ex_tb := tm (i := 1094) (by decide +kernel) rfl
theorem co_Mod_bestWith : Cond.code Y_Mod_bestWith.1 Y_Mod_bestWith.2.1 Y_Mod_bestWith.2.2.1 Y_Mod_bestWith.2.2.2 ∈ ex_tb := tm (i := 1095) (by decide +kernel) rfl
theorem ml_Law_111 : Cond.methodLink "DayBehindLaw" (111 : Nat) ({ cls := "DayBehindModel", name := "kind", desc := "(II)I" } : MethodName) ∈ ex_tb := tm (i := 1096) (by decide +kernel) rfl
theorem im_Mod_kind : Cond.instanceMethod ({ cls := "DayBehindModel", name := "kind", desc := "(II)I" } : MethodName) ∈ ex_tb := tm (i := 1097) (by decide +kernel) rfl
theorem se_Mod_kind : Cond.selects "DayBehindModel" ({ cls := "DayBehindModel", name := "kind", desc := "(II)I" } : MethodName) ({ cls := "DayBehindModel", name := "kind", desc := "(II)I" } : MethodName) ∈ ex_tb := tm (i := 1098) (by decide +kernel) rfl
theorem co_Mod_kind : Cond.code Y_Mod_kind.1 Y_Mod_kind.2.1 Y_Mod_kind.2.2.1 Y_Mod_kind.2.2.2 ∈ ex_tb := tm (i := 1099) (by decide +kernel) rfl
theorem ml_Law_115 : Cond.methodLink "DayBehindLaw" (115 : Nat) ({ cls := "DayBehindModel", name := "news", desc := "(II)I" } : MethodName) ∈ ex_tb := tm (i := 1100) (by decide +kernel) rfl
theorem im_Mod_news : Cond.instanceMethod ({ cls := "DayBehindModel", name := "news", desc := "(II)I" } : MethodName) ∈ ex_tb := tm (i := 1101) (by decide +kernel) rfl
theorem se_Mod_news : Cond.selects "DayBehindModel" ({ cls := "DayBehindModel", name := "news", desc := "(II)I" } : MethodName) ({ cls := "DayBehindModel", name := "news", desc := "(II)I" } : MethodName) ∈ ex_tb := tm (i := 1102) (by decide +kernel) rfl
theorem co_Mod_news : Cond.code Y_Mod_news.1 Y_Mod_news.2.1 Y_Mod_news.2.2.1 Y_Mod_news.2.2.2 ∈ ex_tb := tm (i := 1103) (by decide +kernel) rfl
theorem ml_Law_119 : Cond.methodLink "DayBehindLaw" (119 : Nat) ({ cls := "DayBehindModel", name := "needed", desc := "(I)I" } : MethodName) ∈ ex_tb := tm (i := 1104) (by decide +kernel) rfl
theorem im_Mod_needed : Cond.instanceMethod ({ cls := "DayBehindModel", name := "needed", desc := "(I)I" } : MethodName) ∈ ex_tb := tm (i := 1105) (by decide +kernel) rfl
theorem se_Mod_needed : Cond.selects "DayBehindModel" ({ cls := "DayBehindModel", name := "needed", desc := "(I)I" } : MethodName) ({ cls := "DayBehindModel", name := "needed", desc := "(I)I" } : MethodName) ∈ ex_tb := tm (i := 1106) (by decide +kernel) rfl
theorem co_Mod_needed : Cond.code Y_Mod_needed.1 Y_Mod_needed.2.1 Y_Mod_needed.2.2.1 Y_Mod_needed.2.2.2 ∈ ex_tb := tm (i := 1107) (by decide +kernel) rfl
theorem ml_Law_123 : Cond.methodLink "DayBehindLaw" (123 : Nat) ({ cls := "DayBehindModel", name := "sum", desc := "(II)I" } : MethodName) ∈ ex_tb := tm (i := 1108) (by decide +kernel) rfl
theorem im_Mod_sum : Cond.instanceMethod ({ cls := "DayBehindModel", name := "sum", desc := "(II)I" } : MethodName) ∈ ex_tb := tm (i := 1109) (by decide +kernel) rfl
theorem se_Mod_sum : Cond.selects "DayBehindModel" ({ cls := "DayBehindModel", name := "sum", desc := "(II)I" } : MethodName) ({ cls := "DayBehindModel", name := "sum", desc := "(II)I" } : MethodName) ∈ ex_tb := tm (i := 1110) (by decide +kernel) rfl
theorem co_Mod_sum : Cond.code Y_Mod_sum.1 Y_Mod_sum.2.1 Y_Mod_sum.2.2.1 Y_Mod_sum.2.2.2 ∈ ex_tb := tm (i := 1111) (by decide +kernel) rfl
theorem ml_Law_127 : Cond.methodLink "DayBehindLaw" (127 : Nat) ({ cls := "DayBehindModel", name := "feed", desc := "(II)I" } : MethodName) ∈ ex_tb := tm (i := 1112) (by decide +kernel) rfl
theorem im_Mod_feed : Cond.instanceMethod ({ cls := "DayBehindModel", name := "feed", desc := "(II)I" } : MethodName) ∈ ex_tb := tm (i := 1113) (by decide +kernel) rfl
theorem se_Mod_feed : Cond.selects "DayBehindModel" ({ cls := "DayBehindModel", name := "feed", desc := "(II)I" } : MethodName) ({ cls := "DayBehindModel", name := "feed", desc := "(II)I" } : MethodName) ∈ ex_tb := tm (i := 1114) (by decide +kernel) rfl
theorem co_Mod_feed : Cond.code Y_Mod_feed.1 Y_Mod_feed.2.1 Y_Mod_feed.2.2.1 Y_Mod_feed.2.2.2 ∈ ex_tb := tm (i := 1115) (by decide +kernel) rfl
theorem ml_Law_132 : Cond.methodLink "DayBehindLaw" (132 : Nat) ({ cls := "DayBehindModel", name := "wipe", desc := "()I" } : MethodName) ∈ ex_tb := tm (i := 1116) (by decide +kernel) rfl
theorem im_Mod_wipe : Cond.instanceMethod ({ cls := "DayBehindModel", name := "wipe", desc := "()I" } : MethodName) ∈ ex_tb := tm (i := 1117) (by decide +kernel) rfl
theorem se_Mod_wipe : Cond.selects "DayBehindModel" ({ cls := "DayBehindModel", name := "wipe", desc := "()I" } : MethodName) ({ cls := "DayBehindModel", name := "wipe", desc := "()I" } : MethodName) ∈ ex_tb := tm (i := 1118) (by decide +kernel) rfl
theorem co_Mod_wipe : Cond.code Y_Mod_wipe.1 Y_Mod_wipe.2.1 Y_Mod_wipe.2.2.1 Y_Mod_wipe.2.2.2 ∈ ex_tb := tm (i := 1119) (by decide +kernel) rfl
theorem ml_Law_136 : Cond.methodLink "DayBehindLaw" (136 : Nat) ({ cls := "DayBehindModel", name := "river", desc := "()I" } : MethodName) ∈ ex_tb := tm (i := 1120) (by decide +kernel) rfl
theorem im_Mod_river : Cond.instanceMethod ({ cls := "DayBehindModel", name := "river", desc := "()I" } : MethodName) ∈ ex_tb := tm (i := 1121) (by decide +kernel) rfl
theorem se_Mod_river : Cond.selects "DayBehindModel" ({ cls := "DayBehindModel", name := "river", desc := "()I" } : MethodName) ({ cls := "DayBehindModel", name := "river", desc := "()I" } : MethodName) ∈ ex_tb := tm (i := 1122) (by decide +kernel) rfl
theorem co_Mod_river : Cond.code Y_Mod_river.1 Y_Mod_river.2.1 Y_Mod_river.2.2.1 Y_Mod_river.2.2.2 ∈ ex_tb := tm (i := 1123) (by decide +kernel) rfl
theorem ml_Mod_251 : Cond.methodLink "DayBehindModel" (251 : Nat) ({ cls := "DayBehindModel", name := "next", desc := "()V" } : MethodName) ∈ ex_tb := tm (i := 1124) (by decide +kernel) rfl
theorem im_Mod_next : Cond.instanceMethod ({ cls := "DayBehindModel", name := "next", desc := "()V" } : MethodName) ∈ ex_tb := tm (i := 1126) (by decide +kernel) rfl
theorem co_Mod_next : Cond.code Y_Mod_next.1 Y_Mod_next.2.1 Y_Mod_next.2.2.1 Y_Mod_next.2.2.2 ∈ ex_tb := tm (i := 1127) (by decide +kernel) rfl
theorem ml_Mod_231 : Cond.methodLink "DayBehindModel" (231 : Nat) ({ cls := "DayBehindModel", name := "byteAt", desc := "(I)I" } : MethodName) ∈ ex_tb := tm (i := 1128) (by decide +kernel) rfl
theorem im_Mod_byteAt : Cond.instanceMethod ({ cls := "DayBehindModel", name := "byteAt", desc := "(I)I" } : MethodName) ∈ ex_tb := tm (i := 1130) (by decide +kernel) rfl
theorem co_Mod_byteAt : Cond.code Y_Mod_byteAt.1 Y_Mod_byteAt.2.1 Y_Mod_byteAt.2.2.1 Y_Mod_byteAt.2.2.2 ∈ ex_tb := tm (i := 1131) (by decide +kernel) rfl
theorem ml_Mod_299 : Cond.methodLink "DayBehindModel" (299 : Nat) ({ cls := "DayBehindModel", name := "readItem", desc := "()V" } : MethodName) ∈ ex_tb := tm (i := 1132) (by decide +kernel) rfl
theorem im_Mod_readItem : Cond.instanceMethod ({ cls := "DayBehindModel", name := "readItem", desc := "()V" } : MethodName) ∈ ex_tb := tm (i := 1134) (by decide +kernel) rfl
theorem co_Mod_readItem : Cond.code Y_Mod_readItem.1 Y_Mod_readItem.2.1 Y_Mod_readItem.2.2.1 Y_Mod_readItem.2.2.2 ∈ ex_tb := tm (i := 1135) (by decide +kernel) rfl
theorem ml_Mod_265 : Cond.methodLink "DayBehindModel" (265 : Nat) ({ cls := "DayBehindModel", name := "kindTold", desc := "()I" } : MethodName) ∈ ex_tb := tm (i := 1136) (by decide +kernel) rfl
theorem im_Mod_kindTold : Cond.instanceMethod ({ cls := "DayBehindModel", name := "kindTold", desc := "()I" } : MethodName) ∈ ex_tb := tm (i := 1138) (by decide +kernel) rfl
theorem co_Mod_kindTold : Cond.code Y_Mod_kindTold.1 Y_Mod_kindTold.2.1 Y_Mod_kindTold.2.2.1 Y_Mod_kindTold.2.2.2 ∈ ex_tb := tm (i := 1139) (by decide +kernel) rfl
theorem ml_Mod_261 : Cond.methodLink "DayBehindModel" (261 : Nat) ({ cls := "DayBehindModel", name := "isWord", desc := "(Ljava/lang/String;)Z" } : MethodName) ∈ ex_tb := tm (i := 1140) (by decide +kernel) rfl
theorem im_Mod_isWord : Cond.instanceMethod ({ cls := "DayBehindModel", name := "isWord", desc := "(Ljava/lang/String;)Z" } : MethodName) ∈ ex_tb := tm (i := 1142) (by decide +kernel) rfl
theorem co_Mod_isWord : Cond.code Y_Mod_isWord.1 Y_Mod_isWord.2.1 Y_Mod_isWord.2.2.1 Y_Mod_isWord.2.2.2 ∈ ex_tb := tm (i := 1143) (by decide +kernel) rfl
theorem ml_Mod_240 : Cond.methodLink "DayBehindModel" (240 : Nat) ({ cls := "java/lang/String", name := "length", desc := "()I" } : MethodName) ∈ ex_tb := tm (i := 1144) (by decide +kernel) rfl
theorem ml_Mod_243 : Cond.methodLink "DayBehindModel" (243 : Nat) ({ cls := "java/lang/String", name := "charAt", desc := "(I)C" } : MethodName) ∈ ex_tb := tm (i := 1145) (by decide +kernel) rfl
theorem ml_Mod_254 : Cond.methodLink "DayBehindModel" (254 : Nat) ({ cls := "DayBehindModel", name := "must", desc := "(Z)V" } : MethodName) ∈ ex_tb := tm (i := 1146) (by decide +kernel) rfl
theorem im_Mod_must : Cond.instanceMethod ({ cls := "DayBehindModel", name := "must", desc := "(Z)V" } : MethodName) ∈ ex_tb := tm (i := 1148) (by decide +kernel) rfl
theorem co_Mod_must : Cond.code Y_Mod_must.1 Y_Mod_must.2.1 Y_Mod_must.2.2.1 Y_Mod_must.2.2.2 ∈ ex_tb := tm (i := 1149) (by decide +kernel) rfl
theorem ml_Mod_273 : Cond.methodLink "DayBehindModel" (273 : Nat) ({ cls := "DayBehindModel", name := "isNext", desc := "(Ljava/lang/String;)Z" } : MethodName) ∈ ex_tb := tm (i := 1151) (by decide +kernel) rfl
theorem im_Mod_isNext : Cond.instanceMethod ({ cls := "DayBehindModel", name := "isNext", desc := "(Ljava/lang/String;)Z" } : MethodName) ∈ ex_tb := tm (i := 1153) (by decide +kernel) rfl
theorem co_Mod_isNext : Cond.code Y_Mod_isNext.1 Y_Mod_isNext.2.1 Y_Mod_isNext.2.2.1 Y_Mod_isNext.2.2.2 ∈ ex_tb := tm (i := 1154) (by decide +kernel) rfl
theorem ml_Mod_278 : Cond.methodLink "DayBehindModel" (278 : Nat) ({ cls := "DayBehindModel", name := "number", desc := "(II)I" } : MethodName) ∈ ex_tb := tm (i := 1156) (by decide +kernel) rfl
theorem im_Mod_number : Cond.instanceMethod ({ cls := "DayBehindModel", name := "number", desc := "(II)I" } : MethodName) ∈ ex_tb := tm (i := 1158) (by decide +kernel) rfl
theorem co_Mod_number : Cond.code Y_Mod_number.1 Y_Mod_number.2.1 Y_Mod_number.2.2.1 Y_Mod_number.2.2.2 ∈ ex_tb := tm (i := 1159) (by decide +kernel) rfl
theorem ml_Mod_284 : Cond.methodLink "DayBehindModel" (284 : Nat) ({ cls := "DayBehindModel", name := "item", desc := "(IIIII)V" } : MethodName) ∈ ex_tb := tm (i := 1162) (by decide +kernel) rfl
theorem im_Mod_item : Cond.instanceMethod ({ cls := "DayBehindModel", name := "item", desc := "(IIIII)V" } : MethodName) ∈ ex_tb := tm (i := 1164) (by decide +kernel) rfl
theorem co_Mod_item : Cond.code Y_Mod_item.1 Y_Mod_item.2.1 Y_Mod_item.2.2.1 Y_Mod_item.2.2.2 ∈ ex_tb := tm (i := 1165) (by decide +kernel) rfl
theorem ml_Mod_302 : Cond.methodLink "DayBehindModel" (302 : Nat) ({ cls := "DayBehindModel", name := "isSo", desc := "(I)I" } : MethodName) ∈ ex_tb := tm (i := 1170) (by decide +kernel) rfl
theorem im_Mod_isSo : Cond.instanceMethod ({ cls := "DayBehindModel", name := "isSo", desc := "(I)I" } : MethodName) ∈ ex_tb := tm (i := 1172) (by decide +kernel) rfl
theorem co_Mod_isSo : Cond.code Y_Mod_isSo.1 Y_Mod_isSo.2.1 Y_Mod_isSo.2.2.1 Y_Mod_isSo.2.2.2 ∈ ex_tb := tm (i := 1173) (by decide +kernel) rfl
theorem ml_Law_140 : Cond.methodLink "DayBehindLaw" (140 : Nat) ({ cls := "DayBehindModel", name := "sheet", desc := "(III)I" } : MethodName) ∈ ex_tb := tm (i := 1174) (by decide +kernel) rfl
theorem im_Mod_sheet : Cond.instanceMethod ({ cls := "DayBehindModel", name := "sheet", desc := "(III)I" } : MethodName) ∈ ex_tb := tm (i := 1175) (by decide +kernel) rfl
theorem se_Mod_sheet : Cond.selects "DayBehindModel" ({ cls := "DayBehindModel", name := "sheet", desc := "(III)I" } : MethodName) ({ cls := "DayBehindModel", name := "sheet", desc := "(III)I" } : MethodName) ∈ ex_tb := tm (i := 1176) (by decide +kernel) rfl
theorem co_Mod_sheet : Cond.code Y_Mod_sheet.1 Y_Mod_sheet.2.1 Y_Mod_sheet.2.2.1 Y_Mod_sheet.2.2.2 ∈ ex_tb := tm (i := 1177) (by decide +kernel) rfl
theorem ml_Mod_305 : Cond.methodLink "DayBehindModel" (305 : Nat) ({ cls := "DayBehindModel", name := "isSheet", desc := "(I)Z" } : MethodName) ∈ ex_tb := tm (i := 1178) (by decide +kernel) rfl
theorem sm_Mod_isSheet : Cond.static ({ cls := "DayBehindModel", name := "isSheet", desc := "(I)Z" } : MethodName) ∈ ex_tb := tm (i := 1179) (by decide +kernel) rfl
theorem co_Mod_isSheet : Cond.code Y_Mod_isSheet.1 Y_Mod_isSheet.2.1 Y_Mod_isSheet.2.2.1 Y_Mod_isSheet.2.2.2 ∈ ex_tb := tm (i := 1180) (by decide +kernel) rfl
theorem kc_Mod_308 : Cond.constant "DayBehindModel" (308 : Nat) (-1000000007 : Int32) ∈ ex_tb := tm (i := 1181) (by decide +kernel) rfl
theorem ml_Law_147 : Cond.methodLink "DayBehindLaw" (147 : Nat) ({ cls := "DayBehindModel", name := "write", desc := "(IIJ)J" } : MethodName) ∈ ex_tb := tm (i := 1182) (by decide +kernel) rfl
theorem im_Mod_write : Cond.instanceMethod ({ cls := "DayBehindModel", name := "write", desc := "(IIJ)J" } : MethodName) ∈ ex_tb := tm (i := 1183) (by decide +kernel) rfl
theorem se_Mod_write : Cond.selects "DayBehindModel" ({ cls := "DayBehindModel", name := "write", desc := "(IIJ)J" } : MethodName) ({ cls := "DayBehindModel", name := "write", desc := "(IIJ)J" } : MethodName) ∈ ex_tb := tm (i := 1184) (by decide +kernel) rfl
theorem co_Mod_write : Cond.code Y_Mod_write.1 Y_Mod_write.2.1 Y_Mod_write.2.2.1 Y_Mod_write.2.2.2 ∈ ex_tb := tm (i := 1185) (by decide +kernel) rfl
theorem kc_Mod_309 : Cond.constant "DayBehindModel" (309 : Nat) (-1000000006 : Int32) ∈ ex_tb := tm (i := 1186) (by decide +kernel) rfl
theorem ml_Mod_310 : Cond.methodLink "DayBehindModel" (310 : Nat) ({ cls := "DayBehindModel", name := "cutTo", desc := "(JI)J" } : MethodName) ∈ ex_tb := tm (i := 1187) (by decide +kernel) rfl
theorem sm_Mod_cutTo : Cond.static ({ cls := "DayBehindModel", name := "cutTo", desc := "(JI)J" } : MethodName) ∈ ex_tb := tm (i := 1188) (by decide +kernel) rfl
theorem co_Mod_cutTo : Cond.code Y_Mod_cutTo.1 Y_Mod_cutTo.2.1 Y_Mod_cutTo.2.2.1 Y_Mod_cutTo.2.2.2 ∈ ex_tb := tm (i := 1189) (by decide +kernel) rfl
theorem ml_Law_152 : Cond.methodLink "DayBehindLaw" (152 : Nat) ({ cls := "DayBehindModel", name := "copy", desc := "(IIIII)I" } : MethodName) ∈ ex_tb := tm (i := 1190) (by decide +kernel) rfl
theorem im_Mod_copy : Cond.instanceMethod ({ cls := "DayBehindModel", name := "copy", desc := "(IIIII)I" } : MethodName) ∈ ex_tb := tm (i := 1191) (by decide +kernel) rfl
theorem se_Mod_copy : Cond.selects "DayBehindModel" ({ cls := "DayBehindModel", name := "copy", desc := "(IIIII)I" } : MethodName) ({ cls := "DayBehindModel", name := "copy", desc := "(IIIII)I" } : MethodName) ∈ ex_tb := tm (i := 1192) (by decide +kernel) rfl
theorem co_Mod_copy : Cond.code Y_Mod_copy.1 Y_Mod_copy.2.1 Y_Mod_copy.2.2.1 Y_Mod_copy.2.2.2 ∈ ex_tb := tm (i := 1193) (by decide +kernel) rfl
theorem ml_Law_156 : Cond.methodLink "DayBehindLaw" (156 : Nat) ({ cls := "DayBehindModel", name := "lays", desc := "(I)I" } : MethodName) ∈ ex_tb := tm (i := 1194) (by decide +kernel) rfl
theorem im_Mod_lays : Cond.instanceMethod ({ cls := "DayBehindModel", name := "lays", desc := "(I)I" } : MethodName) ∈ ex_tb := tm (i := 1195) (by decide +kernel) rfl
theorem se_Mod_lays : Cond.selects "DayBehindModel" ({ cls := "DayBehindModel", name := "lays", desc := "(I)I" } : MethodName) ({ cls := "DayBehindModel", name := "lays", desc := "(I)I" } : MethodName) ∈ ex_tb := tm (i := 1196) (by decide +kernel) rfl
theorem co_Mod_lays : Cond.code Y_Mod_lays.1 Y_Mod_lays.2.1 Y_Mod_lays.2.2.1 Y_Mod_lays.2.2.2 ∈ ex_tb := tm (i := 1197) (by decide +kernel) rfl
theorem ml_Mod_314 : Cond.methodLink "DayBehindModel" (314 : Nat) ({ cls := "DayBehindModel", name := "lacks", desc := "(I)I" } : MethodName) ∈ ex_tb := tm (i := 1198) (by decide +kernel) rfl
theorem im_Mod_lacks : Cond.instanceMethod ({ cls := "DayBehindModel", name := "lacks", desc := "(I)I" } : MethodName) ∈ ex_tb := tm (i := 1200) (by decide +kernel) rfl
theorem co_Mod_lacks : Cond.code Y_Mod_lacks.1 Y_Mod_lacks.2.1 Y_Mod_lacks.2.2.1 Y_Mod_lacks.2.2.2 ∈ ex_tb := tm (i := 1201) (by decide +kernel) rfl
theorem kc_Mod_317 : Cond.constantLong "DayBehindModel" (317 : Nat) (9999 : Int64) ∈ ex_tb := tm (i := 1202) (by decide +kernel) rfl
theorem ml_Law_160 : Cond.methodLink "DayBehindLaw" (160 : Nat) ({ cls := "DayBehindModel", name := "book", desc := "(II)I" } : MethodName) ∈ ex_tb := tm (i := 1203) (by decide +kernel) rfl
theorem im_Mod_book : Cond.instanceMethod ({ cls := "DayBehindModel", name := "book", desc := "(II)I" } : MethodName) ∈ ex_tb := tm (i := 1204) (by decide +kernel) rfl
theorem se_Mod_book : Cond.selects "DayBehindModel" ({ cls := "DayBehindModel", name := "book", desc := "(II)I" } : MethodName) ({ cls := "DayBehindModel", name := "book", desc := "(II)I" } : MethodName) ∈ ex_tb := tm (i := 1205) (by decide +kernel) rfl
theorem co_Mod_book : Cond.code Y_Mod_book.1 Y_Mod_book.2.1 Y_Mod_book.2.2.1 Y_Mod_book.2.2.2 ∈ ex_tb := tm (i := 1206) (by decide +kernel) rfl
theorem ml_Law_164 : Cond.methodLink "DayBehindLaw" (164 : Nat) ({ cls := "DayBehindModel", name := "read", desc := "(II)I" } : MethodName) ∈ ex_tb := tm (i := 1207) (by decide +kernel) rfl
theorem im_Mod_read : Cond.instanceMethod ({ cls := "DayBehindModel", name := "read", desc := "(II)I" } : MethodName) ∈ ex_tb := tm (i := 1208) (by decide +kernel) rfl
theorem se_Mod_read : Cond.selects "DayBehindModel" ({ cls := "DayBehindModel", name := "read", desc := "(II)I" } : MethodName) ({ cls := "DayBehindModel", name := "read", desc := "(II)I" } : MethodName) ∈ ex_tb := tm (i := 1209) (by decide +kernel) rfl
theorem co_Mod_read : Cond.code Y_Mod_read.1 Y_Mod_read.2.1 Y_Mod_read.2.2.1 Y_Mod_read.2.2.2 ∈ ex_tb := tm (i := 1210) (by decide +kernel) rfl
theorem ml_Mod_319 : Cond.methodLink "DayBehindModel" (319 : Nat) ({ cls := "DayBehindModel", name := "wasSo", desc := "(II)Z" } : MethodName) ∈ ex_tb := tm (i := 1211) (by decide +kernel) rfl
theorem im_Mod_wasSo : Cond.instanceMethod ({ cls := "DayBehindModel", name := "wasSo", desc := "(II)Z" } : MethodName) ∈ ex_tb := tm (i := 1213) (by decide +kernel) rfl
theorem co_Mod_wasSo : Cond.code Y_Mod_wasSo.1 Y_Mod_wasSo.2.1 Y_Mod_wasSo.2.2.1 Y_Mod_wasSo.2.2.2 ∈ ex_tb := tm (i := 1214) (by decide +kernel) rfl
theorem ml_Law_168 : Cond.methodLink "DayBehindLaw" (168 : Nat) ({ cls := "DayBehindModel", name := "image", desc := "()I" } : MethodName) ∈ ex_tb := tm (i := 1215) (by decide +kernel) rfl
theorem im_Mod_image : Cond.instanceMethod ({ cls := "DayBehindModel", name := "image", desc := "()I" } : MethodName) ∈ ex_tb := tm (i := 1216) (by decide +kernel) rfl
theorem se_Mod_image : Cond.selects "DayBehindModel" ({ cls := "DayBehindModel", name := "image", desc := "()I" } : MethodName) ({ cls := "DayBehindModel", name := "image", desc := "()I" } : MethodName) ∈ ex_tb := tm (i := 1217) (by decide +kernel) rfl
theorem co_Mod_image : Cond.code Y_Mod_image.1 Y_Mod_image.2.1 Y_Mod_image.2.2.1 Y_Mod_image.2.2.2 ∈ ex_tb := tm (i := 1218) (by decide +kernel) rfl
theorem ml_Law_172 : Cond.methodLink "DayBehindLaw" (172 : Nat) ({ cls := "DayBehindModel", name := "undo", desc := "()I" } : MethodName) ∈ ex_tb := tm (i := 1219) (by decide +kernel) rfl
theorem im_Mod_undo : Cond.instanceMethod ({ cls := "DayBehindModel", name := "undo", desc := "()I" } : MethodName) ∈ ex_tb := tm (i := 1220) (by decide +kernel) rfl
theorem se_Mod_undo : Cond.selects "DayBehindModel" ({ cls := "DayBehindModel", name := "undo", desc := "()I" } : MethodName) ({ cls := "DayBehindModel", name := "undo", desc := "()I" } : MethodName) ∈ ex_tb := tm (i := 1221) (by decide +kernel) rfl
theorem co_Mod_undo : Cond.code Y_Mod_undo.1 Y_Mod_undo.2.1 Y_Mod_undo.2.2.1 Y_Mod_undo.2.2.2 ∈ ex_tb := tm (i := 1222) (by decide +kernel) rfl
theorem ml_Law_176 : Cond.methodLink "DayBehindLaw" (176 : Nat) ({ cls := "DayBehindModel", name := "tear", desc := "()I" } : MethodName) ∈ ex_tb := tm (i := 1223) (by decide +kernel) rfl
theorem im_Mod_tear : Cond.instanceMethod ({ cls := "DayBehindModel", name := "tear", desc := "()I" } : MethodName) ∈ ex_tb := tm (i := 1224) (by decide +kernel) rfl
theorem se_Mod_tear : Cond.selects "DayBehindModel" ({ cls := "DayBehindModel", name := "tear", desc := "()I" } : MethodName) ({ cls := "DayBehindModel", name := "tear", desc := "()I" } : MethodName) ∈ ex_tb := tm (i := 1225) (by decide +kernel) rfl
theorem co_Mod_tear : Cond.code Y_Mod_tear.1 Y_Mod_tear.2.1 Y_Mod_tear.2.2.1 Y_Mod_tear.2.2.2 ∈ ex_tb := tm (i := 1226) (by decide +kernel) rfl
theorem ml_Law_180 : Cond.methodLink "DayBehindLaw" (180 : Nat) ({ cls := "DayBehindModel", name := "count", desc := "(I)I" } : MethodName) ∈ ex_tb := tm (i := 1227) (by decide +kernel) rfl
theorem im_Mod_count : Cond.instanceMethod ({ cls := "DayBehindModel", name := "count", desc := "(I)I" } : MethodName) ∈ ex_tb := tm (i := 1228) (by decide +kernel) rfl
theorem se_Mod_count : Cond.selects "DayBehindModel" ({ cls := "DayBehindModel", name := "count", desc := "(I)I" } : MethodName) ({ cls := "DayBehindModel", name := "count", desc := "(I)I" } : MethodName) ∈ ex_tb := tm (i := 1229) (by decide +kernel) rfl
theorem co_Mod_count : Cond.code Y_Mod_count.1 Y_Mod_count.2.1 Y_Mod_count.2.2.1 Y_Mod_count.2.2.2 ∈ ex_tb := tm (i := 1230) (by decide +kernel) rfl
theorem ml_Law_184 : Cond.methodLink "DayBehindLaw" (184 : Nat) ({ cls := "DayBehindModel", name := "status", desc := "(I)I" } : MethodName) ∈ ex_tb := tm (i := 1231) (by decide +kernel) rfl
theorem im_Mod_status : Cond.instanceMethod ({ cls := "DayBehindModel", name := "status", desc := "(I)I" } : MethodName) ∈ ex_tb := tm (i := 1232) (by decide +kernel) rfl
theorem se_Mod_status : Cond.selects "DayBehindModel" ({ cls := "DayBehindModel", name := "status", desc := "(I)I" } : MethodName) ({ cls := "DayBehindModel", name := "status", desc := "(I)I" } : MethodName) ∈ ex_tb := tm (i := 1233) (by decide +kernel) rfl
theorem co_Mod_status : Cond.code Y_Mod_status.1 Y_Mod_status.2.1 Y_Mod_status.2.2.1 Y_Mod_status.2.2.2 ∈ ex_tb := tm (i := 1234) (by decide +kernel) rfl
theorem kc_Law_141 : Cond.constantLong "DayBehindLaw" (141 : Nat) (4294967295 : Int64) ∈ ex_tb := tm (i := 1235) (by decide +kernel) rfl
theorem fl_Str_9 : Cond.fieldLink "java/lang/String" (9 : Nat) "java/lang/String" "value" "[B" ∈ ex_tb := tm (i := 1236) (by decide +kernel) rfl
theorem fl_Str_15 : Cond.fieldLink "java/lang/String" (15 : Nat) "java/lang/String" "coder" "B" ∈ ex_tb := tm (i := 1237) (by decide +kernel) rfl
theorem mi_Day_init : ex_mi Y_Day_init 0 := ⟨co_Day_init, ii_Day, by decide +kernel, by decide +kernel, by decide +kernel⟩
theorem mi_River_init : ex_mi Y_River_init 0 := ⟨co_River_init, ii_River, by decide +kernel, by decide +kernel, by decide +kernel⟩
theorem mi_One_init : ex_mi Y_One_init 0 := ⟨co_One_init, ii_One, by decide +kernel, by decide +kernel, by decide +kernel⟩
theorem mi_Event_init : ex_mi Y_Event_init 0 := ⟨co_Event_init, ii_Event, by decide +kernel, by decide +kernel, by decide +kernel⟩
theorem mi_Best_init : ex_mi Y_Best_init 0 := ⟨co_Best_init, ii_Best, by decide +kernel, by decide +kernel, by decide +kernel⟩
theorem mi_Text_init : ex_mi Y_Text_init 0 := ⟨co_Text_init, ii_Text, by decide +kernel, by decide +kernel, by decide +kernel⟩
theorem mi_Sheet_init : ex_mi Y_Sheet_init 0 := ⟨co_Sheet_init, ii_Sheet, by decide +kernel, by decide +kernel, by decide +kernel⟩
theorem mi_Day_toll : ex_mi Y_Day_toll 1 := ⟨co_Day_toll, ii_Day, by decide +kernel, by decide +kernel, by decide +kernel⟩
theorem mi_Day_outside : ex_mi Y_Day_outside 3 := ⟨co_Day_outside, ii_Day, by decide +kernel, by decide +kernel, by decide +kernel⟩
theorem mi_Day_refuse : ex_mi Y_Day_refuse 1 := ⟨co_Day_refuse, ii_Day, by decide +kernel, by decide +kernel, by decide +kernel⟩
theorem mi_Day_event : ex_mi Y_Day_event 2 := ⟨co_Day_event, ii_Day, by decide +kernel, by decide +kernel, by decide +kernel⟩
theorem mi_River_hasAllEvents : ex_mi Y_River_hasAllEvents 0 := ⟨co_River_hasAllEvents, ii_River, by decide +kernel, by decide +kernel, by decide +kernel⟩
theorem mi_River_addEvent : ex_mi Y_River_addEvent 2 := ⟨co_River_addEvent, ii_River, by decide +kernel, by decide +kernel, by decide +kernel⟩
theorem mi_Event_begin : ex_mi Y_Event_begin 2 := ⟨co_Event_begin, ii_Event, by decide +kernel, by decide +kernel, by decide +kernel⟩
theorem mi_Day_eventOf : ex_mi Y_Day_eventOf 2 := ⟨co_Day_eventOf, ii_Day, by decide +kernel, by decide +kernel, by decide +kernel⟩
theorem mi_Day_noEvent : ex_mi Y_Day_noEvent 1 := ⟨co_Day_noEvent, ii_Day, by decide +kernel, by decide +kernel, by decide +kernel⟩
theorem mi_River_thoseWhoKnow : ex_mi Y_River_thoseWhoKnow 1 := ⟨co_River_thoseWhoKnow, ii_River, by decide +kernel, by decide +kernel, by decide +kernel⟩
theorem mi_One_hasHeard : ex_mi Y_One_hasHeard 1 := ⟨co_One_hasHeard, ii_One, by decide +kernel, by decide +kernel, by decide +kernel⟩
theorem mi_Event_hoursToRight : ex_mi Y_Event_hoursToRight 1 := ⟨co_Event_hoursToRight, ii_Event, by decide +kernel, by decide +kernel, by decide +kernel⟩
theorem mi_Math_max : ex_mi Y_Math_max 2 := ⟨co_Math_max, ii_Math, by decide +kernel, by decide +kernel, by decide +kernel⟩
theorem mi_Event_hoursToLeft : ex_mi Y_Event_hoursToLeft 1 := ⟨co_Event_hoursToLeft, ii_Event, by decide +kernel, by decide +kernel, by decide +kernel⟩
theorem mi_Day_worth : ex_mi Y_Day_worth 2 := ⟨co_Day_worth, ii_Day, by decide +kernel, by decide +kernel, by decide +kernel⟩
theorem mi_Day_one : ex_mi Y_Day_one 2 := ⟨co_Day_one, ii_Day, by decide +kernel, by decide +kernel, by decide +kernel⟩
theorem mi_River_hasAllPeople : ex_mi Y_River_hasAllPeople 0 := ⟨co_River_hasAllPeople, ii_River, by decide +kernel, by decide +kernel, by decide +kernel⟩
theorem mi_River_addOne : ex_mi Y_River_addOne 2 := ⟨co_River_addOne, ii_River, by decide +kernel, by decide +kernel, by decide +kernel⟩
theorem mi_One_begin : ex_mi Y_One_begin 2 := ⟨co_One_begin, ii_One, by decide +kernel, by decide +kernel, by decide +kernel⟩
theorem mi_Day_of : ex_mi Y_Day_of 2 := ⟨co_Day_of, ii_Day, by decide +kernel, by decide +kernel, by decide +kernel⟩
theorem mi_Day_noOne : ex_mi Y_Day_noOne 1 := ⟨co_Day_noOne, ii_Day, by decide +kernel, by decide +kernel, by decide +kernel⟩
theorem mi_Day_set : ex_mi Y_Day_set 3 := ⟨co_Day_set, ii_Day, by decide +kernel, by decide +kernel, by decide +kernel⟩
theorem mi_Day_maySet : ex_mi Y_Day_maySet 2 := ⟨co_Day_maySet, ii_Day, by decide +kernel, by decide +kernel, by decide +kernel⟩
theorem mi_Day_turn : ex_mi Y_Day_turn 2 := ⟨co_Day_turn, ii_Day, by decide +kernel, by decide +kernel, by decide +kernel⟩
theorem mi_Day_as : ex_mi Y_Day_as 2 := ⟨co_Day_as, ii_Day, by decide +kernel, by decide +kernel, by decide +kernel⟩
theorem mi_Kinds_isUnder : ex_mi Y_Kinds_isUnder 2 := ⟨co_Kinds_isUnder, ii_Kinds, by decide +kernel, by decide +kernel, by decide +kernel⟩
theorem mi_Day_gains : ex_mi Y_Day_gains 3 := ⟨co_Day_gains, ii_Day, by decide +kernel, by decide +kernel, by decide +kernel⟩
theorem mi_Kinds_gain : ex_mi Y_Kinds_gain 3 := ⟨co_Kinds_gain, ii_Kinds, by decide +kernel, by decide +kernel, by decide +kernel⟩
theorem mi_Day_cross : ex_mi Y_Day_cross 1 := ⟨co_Day_cross, ii_Day, by decide +kernel, by decide +kernel, by decide +kernel⟩
theorem mi_One_canPay : ex_mi Y_One_canPay 1 := ⟨co_One_canPay, ii_One, by decide +kernel, by decide +kernel, by decide +kernel⟩
theorem mi_One_goOver : ex_mi Y_One_goOver 1 := ⟨co_One_goOver, ii_One, by decide +kernel, by decide +kernel, by decide +kernel⟩
theorem mi_Day_tells : ex_mi Y_Day_tells 2 := ⟨co_Day_tells, ii_Day, by decide +kernel, by decide +kernel, by decide +kernel⟩
theorem mi_Int_bitCount : ex_mi Y_Int_bitCount 1 := ⟨co_Int_bitCount, ii_Int, by decide +kernel, by decide +kernel, by decide +kernel⟩
theorem mi_Day_hours : ex_mi Y_Day_hours 1 := ⟨co_Day_hours, ii_Day, by decide +kernel, by decide +kernel, by decide +kernel⟩
theorem mi_River_passHours : ex_mi Y_River_passHours 1 := ⟨co_River_passHours, ii_River, by decide +kernel, by decide +kernel, by decide +kernel⟩
theorem mi_River_passHour : ex_mi Y_River_passHour 0 := ⟨co_River_passHour, ii_River, by decide +kernel, by decide +kernel, by decide +kernel⟩
theorem mi_River_letCross : ex_mi Y_River_letCross 1 := ⟨co_River_letCross, ii_River, by decide +kernel, by decide +kernel, by decide +kernel⟩
theorem mi_One_wantsOver : ex_mi Y_One_wantsOver 1 := ⟨co_One_wantsOver, ii_One, by decide +kernel, by decide +kernel, by decide +kernel⟩
theorem mi_River_spread : ex_mi Y_River_spread 1 := ⟨co_River_spread, ii_River, by decide +kernel, by decide +kernel, by decide +kernel⟩
theorem mi_One_isTeller : ex_mi Y_One_isTeller 0 := ⟨co_One_isTeller, ii_One, by decide +kernel, by decide +kernel, by decide +kernel⟩
theorem mi_One_hear : ex_mi Y_One_hear 1 := ⟨co_One_hear, ii_One, by decide +kernel, by decide +kernel, by decide +kernel⟩
theorem mi_River_meet : ex_mi Y_River_meet 0 := ⟨co_River_meet, ii_River, by decide +kernel, by decide +kernel, by decide +kernel⟩
theorem mi_River_meetWhatIsKnownTo : ex_mi Y_River_meetWhatIsKnownTo 1 := ⟨co_River_meetWhatIsKnownTo, ii_River, by decide +kernel, by decide +kernel, by decide +kernel⟩
theorem mi_Event_canBeMet : ex_mi Y_Event_canBeMet 1 := ⟨co_Event_canBeMet, ii_Event, by decide +kernel, by decide +kernel, by decide +kernel⟩
theorem mi_River_befall : ex_mi Y_River_befall 2 := ⟨co_River_befall, ii_River, by decide +kernel, by decide +kernel, by decide +kernel⟩
theorem mi_One_live : ex_mi Y_One_live 2 := ⟨co_One_live, ii_One, by decide +kernel, by decide +kernel, by decide +kernel⟩
theorem mi_Math_min : ex_mi Y_Math_min 2 := ⟨co_Math_min, ii_Math, by decide +kernel, by decide +kernel, by decide +kernel⟩
theorem mi_River_allPurses : ex_mi Y_River_allPurses 0 := ⟨co_River_allPurses, ii_River, by decide +kernel, by decide +kernel, by decide +kernel⟩
theorem mi_Day_now : ex_mi Y_Day_now 1 := ⟨co_Day_now, ii_Day, by decide +kernel, by decide +kernel, by decide +kernel⟩
theorem mi_River_allCrossed : ex_mi Y_River_allCrossed 0 := ⟨co_River_allCrossed, ii_River, by decide +kernel, by decide +kernel, by decide +kernel⟩
theorem mi_River_thoseOnLeft : ex_mi Y_River_thoseOnLeft 0 := ⟨co_River_thoseOnLeft, ii_River, by decide +kernel, by decide +kernel, by decide +kernel⟩
theorem mi_River_metEvents : ex_mi Y_River_metEvents 0 := ⟨co_River_metEvents, ii_River, by decide +kernel, by decide +kernel, by decide +kernel⟩
theorem mi_Day_on : ex_mi Y_Day_on 3 := ⟨co_Day_on, ii_Day, by decide +kernel, by decide +kernel, by decide +kernel⟩
theorem mi_Day_startTrial : ex_mi Y_Day_startTrial 0 := ⟨co_Day_startTrial, ii_Day, by decide +kernel, by decide +kernel, by decide +kernel⟩
theorem mi_River_become : ex_mi Y_River_become 1 := ⟨co_River_become, ii_River, by decide +kernel, by decide +kernel, by decide +kernel⟩
theorem mi_One_become : ex_mi Y_One_become 1 := ⟨co_One_become, ii_One, by decide +kernel, by decide +kernel, by decide +kernel⟩
theorem mi_Event_become : ex_mi Y_Event_become 1 := ⟨co_Event_become, ii_Event, by decide +kernel, by decide +kernel, by decide +kernel⟩
theorem mi_Day_learns : ex_mi Y_Day_learns 2 := ⟨co_Day_learns, ii_Day, by decide +kernel, by decide +kernel, by decide +kernel⟩
theorem mi_Day_first : ex_mi Y_Day_first 1 := ⟨co_Day_first, ii_Day, by decide +kernel, by decide +kernel, by decide +kernel⟩
theorem mi_Int_numberOfTrailingZeros : ex_mi Y_Int_numberOfTrailingZeros 1 := ⟨co_Int_numberOfTrailingZeros, ii_Int, by decide +kernel, by decide +kernel, by decide +kernel⟩
theorem mi_Day_met : ex_mi Y_Day_met 1 := ⟨co_Day_met, ii_Day, by decide +kernel, by decide +kernel, by decide +kernel⟩
theorem mi_Day_broke : ex_mi Y_Day_broke 1 := ⟨co_Day_broke, ii_Day, by decide +kernel, by decide +kernel, by decide +kernel⟩
theorem mi_Day_clocks : ex_mi Y_Day_clocks 2 := ⟨co_Day_clocks, ii_Day, by decide +kernel, by decide +kernel, by decide +kernel⟩
theorem mi_Day_seekClocks : ex_mi Y_Day_seekClocks 2 := ⟨co_Day_seekClocks, ii_Day, by decide +kernel, by decide +kernel, by decide +kernel⟩
theorem mi_Best_begin : ex_mi Y_Best_begin 1 := ⟨co_Best_begin, ii_Best, by decide +kernel, by decide +kernel, by decide +kernel⟩
theorem mi_Day_startTrialByClocks : ex_mi Y_Day_startTrialByClocks 3 := ⟨co_Day_startTrialByClocks, ii_Day, by decide +kernel, by decide +kernel, by decide +kernel⟩
theorem mi_Best_offer : ex_mi Y_Best_offer 2 := ⟨co_Best_offer, ii_Best, by decide +kernel, by decide +kernel, by decide +kernel⟩
theorem mi_Day_rich : ex_mi Y_Day_rich 2 := ⟨co_Day_rich, ii_Day, by decide +kernel, by decide +kernel, by decide +kernel⟩
theorem mi_Day_bears : ex_mi Y_Day_bears 2 := ⟨co_Day_bears, ii_Day, by decide +kernel, by decide +kernel, by decide +kernel⟩
theorem mi_Day_bank : ex_mi Y_Day_bank 2 := ⟨co_Day_bank, ii_Day, by decide +kernel, by decide +kernel, by decide +kernel⟩
theorem mi_Day_purseInTrial : ex_mi Y_Day_purseInTrial 2 := ⟨co_Day_purseInTrial, ii_Day, by decide +kernel, by decide +kernel, by decide +kernel⟩
theorem mi_Day_kind : ex_mi Y_Day_kind 2 := ⟨co_Day_kind, ii_Day, by decide +kernel, by decide +kernel, by decide +kernel⟩
theorem mi_Day_news : ex_mi Y_Day_news 2 := ⟨co_Day_news, ii_Day, by decide +kernel, by decide +kernel, by decide +kernel⟩
theorem mi_Day_needed : ex_mi Y_Day_needed 1 := ⟨co_Day_needed, ii_Day, by decide +kernel, by decide +kernel, by decide +kernel⟩
theorem mi_Day_metInTrial : ex_mi Y_Day_metInTrial 1 := ⟨co_Day_metInTrial, ii_Day, by decide +kernel, by decide +kernel, by decide +kernel⟩
theorem mi_River_sendAway : ex_mi Y_River_sendAway 1 := ⟨co_River_sendAway, ii_River, by decide +kernel, by decide +kernel, by decide +kernel⟩
theorem mi_Day_sum : ex_mi Y_Day_sum 2 := ⟨co_Day_sum, ii_Day, by decide +kernel, by decide +kernel, by decide +kernel⟩
theorem mi_Day_feed : ex_mi Y_Day_feed 2 := ⟨co_Day_feed, ii_Day, by decide +kernel, by decide +kernel, by decide +kernel⟩
theorem mi_Text_append : ex_mi Y_Text_append 1 := ⟨co_Text_append, ii_Text, by decide +kernel, by decide +kernel, by decide +kernel⟩
theorem mi_Day_wipe : ex_mi Y_Day_wipe 0 := ⟨co_Day_wipe, ii_Day, by decide +kernel, by decide +kernel, by decide +kernel⟩
theorem mi_Day_river : ex_mi Y_Day_river 0 := ⟨co_Day_river, ii_Day, by decide +kernel, by decide +kernel, by decide +kernel⟩
theorem mi_Text_parse : ex_mi Y_Text_parse 1 := ⟨co_Text_parse, ii_Text, by decide +kernel, by decide +kernel, by decide +kernel⟩
theorem mi_Text_step : ex_mi Y_Text_step 0 := ⟨co_Text_step, ii_Text, by decide +kernel, by decide +kernel, by decide +kernel⟩
theorem mi_Text_isLetter : ex_mi Y_Text_isLetter 1 := ⟨co_Text_isLetter, ii_Text, by decide +kernel, by decide +kernel, by decide +kernel⟩
theorem mi_Text_isDigit : ex_mi Y_Text_isDigit 1 := ⟨co_Text_isDigit, ii_Text, by decide +kernel, by decide +kernel, by decide +kernel⟩
theorem mi_Text_parseItem : ex_mi Y_Text_parseItem 1 := ⟨co_Text_parseItem, ii_Text, by decide +kernel, by decide +kernel, by decide +kernel⟩
theorem mi_Text_takes : ex_mi Y_Text_takes 1 := ⟨co_Text_takes, ii_Text, by decide +kernel, by decide +kernel, by decide +kernel⟩
theorem mi_Text_isWord : ex_mi Y_Text_isWord 1 := ⟨co_Text_isWord, ii_Text, by decide +kernel, by decide +kernel, by decide +kernel⟩
theorem mi_Str_length : ex_mi Y_Str_length 0 := ⟨co_Str_length, ii_Str, by decide +kernel, by decide +kernel, by decide +kernel⟩
theorem mi_Str_coder : ex_mi Y_Str_coder 0 := ⟨co_Str_coder, ii_Str, by decide +kernel, by decide +kernel, by decide +kernel⟩
theorem mi_Str_charAt : ex_mi Y_Str_charAt 1 := ⟨co_Str_charAt, ii_Str, by decide +kernel, by decide +kernel, by decide +kernel⟩
theorem mi_Str_isLatin1 : ex_mi Y_Str_isLatin1 0 := ⟨co_Str_isLatin1, ii_Str, by decide +kernel, by decide +kernel, by decide +kernel⟩
theorem mi_Lat_charAt : ex_mi Y_Lat_charAt 2 := ⟨co_Lat_charAt, ii_Lat, by decide +kernel, by decide +kernel, by decide +kernel⟩
theorem mi_Str_checkIndex : ex_mi Y_Str_checkIndex 2 := ⟨co_Str_checkIndex, ii_Str, by decide +kernel, by decide +kernel, by decide +kernel⟩
theorem mi_Pre_checkIndex : ex_mi Y_Pre_checkIndex 3 := ⟨co_Pre_checkIndex, ii_Pre, by decide +kernel, by decide +kernel, by decide +kernel⟩
theorem mi_Text_parseToll : ex_mi Y_Text_parseToll 1 := ⟨co_Text_parseToll, ii_Text, by decide +kernel, by decide +kernel, by decide +kernel⟩
theorem mi_Text_takesNumber : ex_mi Y_Text_takesNumber 1 := ⟨co_Text_takesNumber, ii_Text, by decide +kernel, by decide +kernel, by decide +kernel⟩
theorem mi_Text_parseEvent : ex_mi Y_Text_parseEvent 1 := ⟨co_Text_parseEvent, ii_Text, by decide +kernel, by decide +kernel, by decide +kernel⟩
theorem mi_Text_nameOf : ex_mi Y_Text_nameOf 1 := ⟨co_Text_nameOf, ii_Text, by decide +kernel, by decide +kernel, by decide +kernel⟩
theorem mi_Text_parseOne : ex_mi Y_Text_parseOne 2 := ⟨co_Text_parseOne, ii_Text, by decide +kernel, by decide +kernel, by decide +kernel⟩
theorem mi_Day_sheet : ex_mi Y_Day_sheet 3 := ⟨co_Day_sheet, ii_Day, by decide +kernel, by decide +kernel, by decide +kernel⟩
theorem mi_Day_noSheet : ex_mi Y_Day_noSheet 1 := ⟨co_Day_noSheet, ii_Day, by decide +kernel, by decide +kernel, by decide +kernel⟩
theorem mi_Sheet_begin : ex_mi Y_Sheet_begin 2 := ⟨co_Sheet_begin, ii_Sheet, by decide +kernel, by decide +kernel, by decide +kernel⟩
theorem mi_Day_write : ex_mi Y_Day_write 3 := ⟨co_Day_write, ii_Day, by decide +kernel, by decide +kernel, by decide +kernel⟩
theorem mi_Day_findingOf : ex_mi Y_Day_findingOf 1 := ⟨co_Day_findingOf, ii_Day, by decide +kernel, by decide +kernel, by decide +kernel⟩
theorem mi_Sheet_isMissing : ex_mi Y_Sheet_isMissing 0 := ⟨co_Sheet_isMissing, ii_Sheet, by decide +kernel, by decide +kernel, by decide +kernel⟩
theorem mi_Sheet_put : ex_mi Y_Sheet_put 2 := ⟨co_Sheet_put, ii_Sheet, by decide +kernel, by decide +kernel, by decide +kernel⟩
theorem mi_Day_copy : ex_mi Y_Day_copy 5 := ⟨co_Day_copy, ii_Day, by decide +kernel, by decide +kernel, by decide +kernel⟩
theorem mi_Sheet_holds : ex_mi Y_Sheet_holds 2 := ⟨co_Sheet_holds, ii_Sheet, by decide +kernel, by decide +kernel, by decide +kernel⟩
theorem mi_Day_lays : ex_mi Y_Day_lays 1 := ⟨co_Day_lays, ii_Day, by decide +kernel, by decide +kernel, by decide +kernel⟩
theorem mi_Day_book : ex_mi Y_Day_book 2 := ⟨co_Day_book, ii_Day, by decide +kernel, by decide +kernel, by decide +kernel⟩
theorem mi_Day_read : ex_mi Y_Day_read 2 := ⟨co_Day_read, ii_Day, by decide +kernel, by decide +kernel, by decide +kernel⟩
theorem mi_Day_trialFits : ex_mi Y_Day_trialFits 2 := ⟨co_Day_trialFits, ii_Day, by decide +kernel, by decide +kernel, by decide +kernel⟩
theorem mi_Day_image : ex_mi Y_Day_image 0 := ⟨co_Day_image, ii_Day, by decide +kernel, by decide +kernel, by decide +kernel⟩
theorem mi_Day_undo : ex_mi Y_Day_undo 0 := ⟨co_Day_undo, ii_Day, by decide +kernel, by decide +kernel, by decide +kernel⟩
theorem mi_Day_tear : ex_mi Y_Day_tear 0 := ⟨co_Day_tear, ii_Day, by decide +kernel, by decide +kernel, by decide +kernel⟩
theorem mi_Day_count : ex_mi Y_Day_count 1 := ⟨co_Day_count, ii_Day, by decide +kernel, by decide +kernel, by decide +kernel⟩
theorem mi_River_allKnown : ex_mi Y_River_allKnown 0 := ⟨co_River_allKnown, ii_River, by decide +kernel, by decide +kernel, by decide +kernel⟩
theorem mi_Day_status : ex_mi Y_Day_status 1 := ⟨co_Day_status, ii_Day, by decide +kernel, by decide +kernel, by decide +kernel⟩
theorem mi_Mod_init : ex_mi Y_Mod_init 0 := ⟨co_Mod_init, ii_Mod, by decide +kernel, by decide +kernel, by decide +kernel⟩
theorem mi_Mod_toll : ex_mi Y_Mod_toll 1 := ⟨co_Mod_toll, ii_Mod, by decide +kernel, by decide +kernel, by decide +kernel⟩
theorem mi_Mod_within : ex_mi Y_Mod_within 3 := ⟨co_Mod_within, ii_Mod, by decide +kernel, by decide +kernel, by decide +kernel⟩
theorem mi_Mod_become : ex_mi Y_Mod_become 2 := ⟨co_Mod_become, ii_Mod, by decide +kernel, by decide +kernel, by decide +kernel⟩
theorem mi_Mod_finding : ex_mi Y_Mod_finding 1 := ⟨co_Mod_finding, ii_Mod, by decide +kernel, by decide +kernel, by decide +kernel⟩
theorem mi_Mod_event : ex_mi Y_Mod_event 2 := ⟨co_Mod_event, ii_Mod, by decide +kernel, by decide +kernel, by decide +kernel⟩
theorem mi_Mod_isWorth : ex_mi Y_Mod_isWorth 1 := ⟨co_Mod_isWorth, ii_Mod, by decide +kernel, by decide +kernel, by decide +kernel⟩
theorem mi_Mod_happens : ex_mi Y_Mod_happens 2 := ⟨co_Mod_happens, ii_Mod, by decide +kernel, by decide +kernel, by decide +kernel⟩
theorem mi_Mod_atEvent : ex_mi Y_Mod_atEvent 2 := ⟨co_Mod_atEvent, ii_Mod, by decide +kernel, by decide +kernel, by decide +kernel⟩
theorem mi_Mod_eventOf : ex_mi Y_Mod_eventOf 2 := ⟨co_Mod_eventOf, ii_Mod, by decide +kernel, by decide +kernel, by decide +kernel⟩
theorem mi_Mod_isEvent : ex_mi Y_Mod_isEvent 1 := ⟨co_Mod_isEvent, ii_Mod, by decide +kernel, by decide +kernel, by decide +kernel⟩
theorem mi_Mod_eventIs : ex_mi Y_Mod_eventIs 2 := ⟨co_Mod_eventIs, ii_Mod, by decide +kernel, by decide +kernel, by decide +kernel⟩
theorem mi_Mod_whoKnow : ex_mi Y_Mod_whoKnow 1 := ⟨co_Mod_whoKnow, ii_Mod, by decide +kernel, by decide +kernel, by decide +kernel⟩
theorem mi_Mod_oneIs : ex_mi Y_Mod_oneIs 2 := ⟨co_Mod_oneIs, ii_Mod, by decide +kernel, by decide +kernel, by decide +kernel⟩
theorem mi_Mod_at : ex_mi Y_Mod_at 2 := ⟨co_Mod_at, ii_Mod, by decide +kernel, by decide +kernel, by decide +kernel⟩
theorem mi_Mod_has : ex_mi Y_Mod_has 2 := ⟨co_Mod_has, ii_Mod, by decide +kernel, by decide +kernel, by decide +kernel⟩
theorem mi_Mod_worth : ex_mi Y_Mod_worth 2 := ⟨co_Mod_worth, ii_Mod, by decide +kernel, by decide +kernel, by decide +kernel⟩
theorem mi_Mod_one : ex_mi Y_Mod_one 2 := ⟨co_Mod_one, ii_Mod, by decide +kernel, by decide +kernel, by decide +kernel⟩
theorem mi_Mod_isKind : ex_mi Y_Mod_isKind 1 := ⟨co_Mod_isKind, ii_Mod, by decide +kernel, by decide +kernel, by decide +kernel⟩
theorem mi_Mod_comes : ex_mi Y_Mod_comes 5 := ⟨co_Mod_comes, ii_Mod, by decide +kernel, by decide +kernel, by decide +kernel⟩
theorem mi_Mod_of : ex_mi Y_Mod_of 2 := ⟨co_Mod_of, ii_Mod, by decide +kernel, by decide +kernel, by decide +kernel⟩
theorem mi_Mod_isOne : ex_mi Y_Mod_isOne 1 := ⟨co_Mod_isOne, ii_Mod, by decide +kernel, by decide +kernel, by decide +kernel⟩
theorem mi_Mod_set : ex_mi Y_Mod_set 3 := ⟨co_Mod_set, ii_Mod, by decide +kernel, by decide +kernel, by decide +kernel⟩
theorem mi_Mod_maySet : ex_mi Y_Mod_maySet 2 := ⟨co_Mod_maySet, ii_Mod, by decide +kernel, by decide +kernel, by decide +kernel⟩
theorem mi_Mod_turn : ex_mi Y_Mod_turn 2 := ⟨co_Mod_turn, ii_Mod, by decide +kernel, by decide +kernel, by decide +kernel⟩
theorem mi_Mod_as : ex_mi Y_Mod_as 2 := ⟨co_Mod_as, ii_Mod, by decide +kernel, by decide +kernel, by decide +kernel⟩
theorem mi_Mod_isUnder : ex_mi Y_Mod_isUnder 2 := ⟨co_Mod_isUnder, ii_Mod, by decide +kernel, by decide +kernel, by decide +kernel⟩
theorem mi_Mod_above : ex_mi Y_Mod_above 1 := ⟨co_Mod_above, ii_Mod, by decide +kernel, by decide +kernel, by decide +kernel⟩
theorem mi_Mod_gains : ex_mi Y_Mod_gains 3 := ⟨co_Mod_gains, ii_Mod, by decide +kernel, by decide +kernel, by decide +kernel⟩
theorem mi_Mod_gainsOf : ex_mi Y_Mod_gainsOf 3 := ⟨co_Mod_gainsOf, ii_Mod, by decide +kernel, by decide +kernel, by decide +kernel⟩
theorem mi_Mod_cross : ex_mi Y_Mod_cross 1 := ⟨co_Mod_cross, ii_Mod, by decide +kernel, by decide +kernel, by decide +kernel⟩
theorem mi_Mod_canPay : ex_mi Y_Mod_canPay 1 := ⟨co_Mod_canPay, ii_Mod, by decide +kernel, by decide +kernel, by decide +kernel⟩
theorem mi_Mod_crosses : ex_mi Y_Mod_crosses 1 := ⟨co_Mod_crosses, ii_Mod, by decide +kernel, by decide +kernel, by decide +kernel⟩
theorem mi_Mod_pays : ex_mi Y_Mod_pays 2 := ⟨co_Mod_pays, ii_Mod, by decide +kernel, by decide +kernel, by decide +kernel⟩
theorem mi_Mod_tells : ex_mi Y_Mod_tells 2 := ⟨co_Mod_tells, ii_Mod, by decide +kernel, by decide +kernel, by decide +kernel⟩
theorem mi_Mod_told : ex_mi Y_Mod_told 2 := ⟨co_Mod_told, ii_Mod, by decide +kernel, by decide +kernel, by decide +kernel⟩
theorem mi_Mod_bits : ex_mi Y_Mod_bits 1 := ⟨co_Mod_bits, ii_Mod, by decide +kernel, by decide +kernel, by decide +kernel⟩
theorem mi_Mod_hours : ex_mi Y_Mod_hours 1 := ⟨co_Mod_hours, ii_Mod, by decide +kernel, by decide +kernel, by decide +kernel⟩
theorem mi_Mod_hoursGo : ex_mi Y_Mod_hoursGo 1 := ⟨co_Mod_hoursGo, ii_Mod, by decide +kernel, by decide +kernel, by decide +kernel⟩
theorem mi_Mod_hour : ex_mi Y_Mod_hour 0 := ⟨co_Mod_hour, ii_Mod, by decide +kernel, by decide +kernel, by decide +kernel⟩
theorem mi_Mod_isThere : ex_mi Y_Mod_isThere 1 := ⟨co_Mod_isThere, ii_Mod, by decide +kernel, by decide +kernel, by decide +kernel⟩
theorem mi_Mod_tellersTell : ex_mi Y_Mod_tellersTell 0 := ⟨co_Mod_tellersTell, ii_Mod, by decide +kernel, by decide +kernel, by decide +kernel⟩
theorem mi_Mod_firemenMeet : ex_mi Y_Mod_firemenMeet 0 := ⟨co_Mod_firemenMeet, ii_Mod, by decide +kernel, by decide +kernel, by decide +kernel⟩
theorem mi_Mod_comesOn : ex_mi Y_Mod_comesOn 2 := ⟨co_Mod_comesOn, ii_Mod, by decide +kernel, by decide +kernel, by decide +kernel⟩
theorem mi_Mod_sumOf : ex_mi Y_Mod_sumOf 1 := ⟨co_Mod_sumOf, ii_Mod, by decide +kernel, by decide +kernel, by decide +kernel⟩
theorem mi_Mod_now : ex_mi Y_Mod_now 1 := ⟨co_Mod_now, ii_Mod, by decide +kernel, by decide +kernel, by decide +kernel⟩
theorem mi_Mod_onLeft : ex_mi Y_Mod_onLeft 0 := ⟨co_Mod_onLeft, ii_Mod, by decide +kernel, by decide +kernel, by decide +kernel⟩
theorem mi_Mod_metNow : ex_mi Y_Mod_metNow 0 := ⟨co_Mod_metNow, ii_Mod, by decide +kernel, by decide +kernel, by decide +kernel⟩
theorem mi_Mod_on : ex_mi Y_Mod_on 3 := ⟨co_Mod_on, ii_Mod, by decide +kernel, by decide +kernel, by decide +kernel⟩
theorem mi_Mod_fieldOn : ex_mi Y_Mod_fieldOn 3 := ⟨co_Mod_fieldOn, ii_Mod, by decide +kernel, by decide +kernel, by decide +kernel⟩
theorem mi_Mod_copyRow : ex_mi Y_Mod_copyRow 2 := ⟨co_Mod_copyRow, ii_Mod, by decide +kernel, by decide +kernel, by decide +kernel⟩
theorem mi_Mod_putBack : ex_mi Y_Mod_putBack 1 := ⟨co_Mod_putBack, ii_Mod, by decide +kernel, by decide +kernel, by decide +kernel⟩
theorem mi_Mod_learns : ex_mi Y_Mod_learns 2 := ⟨co_Mod_learns, ii_Mod, by decide +kernel, by decide +kernel, by decide +kernel⟩
theorem mi_Mod_learnsIn : ex_mi Y_Mod_learnsIn 2 := ⟨co_Mod_learnsIn, ii_Mod, by decide +kernel, by decide +kernel, by decide +kernel⟩
theorem mi_Mod_orNone : ex_mi Y_Mod_orNone 1 := ⟨co_Mod_orNone, ii_Mod, by decide +kernel, by decide +kernel, by decide +kernel⟩
theorem mi_Mod_first : ex_mi Y_Mod_first 1 := ⟨co_Mod_first, ii_Mod, by decide +kernel, by decide +kernel, by decide +kernel⟩
theorem mi_Mod_met : ex_mi Y_Mod_met 1 := ⟨co_Mod_met, ii_Mod, by decide +kernel, by decide +kernel, by decide +kernel⟩
theorem mi_Mod_metOn : ex_mi Y_Mod_metOn 1 := ⟨co_Mod_metOn, ii_Mod, by decide +kernel, by decide +kernel, by decide +kernel⟩
theorem mi_Mod_broke : ex_mi Y_Mod_broke 1 := ⟨co_Mod_broke, ii_Mod, by decide +kernel, by decide +kernel, by decide +kernel⟩
theorem mi_Mod_clocks : ex_mi Y_Mod_clocks 2 := ⟨co_Mod_clocks, ii_Mod, by decide +kernel, by decide +kernel, by decide +kernel⟩
theorem mi_Mod_findClocks : ex_mi Y_Mod_findClocks 2 := ⟨co_Mod_findClocks, ii_Mod, by decide +kernel, by decide +kernel, by decide +kernel⟩
theorem mi_Mod_purseOn : ex_mi Y_Mod_purseOn 2 := ⟨co_Mod_purseOn, ii_Mod, by decide +kernel, by decide +kernel, by decide +kernel⟩
theorem mi_Mod_rich : ex_mi Y_Mod_rich 2 := ⟨co_Mod_rich, ii_Mod, by decide +kernel, by decide +kernel, by decide +kernel⟩
theorem mi_Mod_bears : ex_mi Y_Mod_bears 2 := ⟨co_Mod_bears, ii_Mod, by decide +kernel, by decide +kernel, by decide +kernel⟩
theorem mi_Mod_allOn : ex_mi Y_Mod_allOn 1 := ⟨co_Mod_allOn, ii_Mod, by decide +kernel, by decide +kernel, by decide +kernel⟩
theorem mi_Mod_bank : ex_mi Y_Mod_bank 2 := ⟨co_Mod_bank, ii_Mod, by decide +kernel, by decide +kernel, by decide +kernel⟩
theorem mi_Mod_bestWith : ex_mi Y_Mod_bestWith 4 := ⟨co_Mod_bestWith, ii_Mod, by decide +kernel, by decide +kernel, by decide +kernel⟩
theorem mi_Mod_kind : ex_mi Y_Mod_kind 2 := ⟨co_Mod_kind, ii_Mod, by decide +kernel, by decide +kernel, by decide +kernel⟩
theorem mi_Mod_news : ex_mi Y_Mod_news 2 := ⟨co_Mod_news, ii_Mod, by decide +kernel, by decide +kernel, by decide +kernel⟩
theorem mi_Mod_needed : ex_mi Y_Mod_needed 1 := ⟨co_Mod_needed, ii_Mod, by decide +kernel, by decide +kernel, by decide +kernel⟩
theorem mi_Mod_sum : ex_mi Y_Mod_sum 2 := ⟨co_Mod_sum, ii_Mod, by decide +kernel, by decide +kernel, by decide +kernel⟩
theorem mi_Mod_feed : ex_mi Y_Mod_feed 2 := ⟨co_Mod_feed, ii_Mod, by decide +kernel, by decide +kernel, by decide +kernel⟩
theorem mi_Mod_wipe : ex_mi Y_Mod_wipe 0 := ⟨co_Mod_wipe, ii_Mod, by decide +kernel, by decide +kernel, by decide +kernel⟩
theorem mi_Mod_river : ex_mi Y_Mod_river 0 := ⟨co_Mod_river, ii_Mod, by decide +kernel, by decide +kernel, by decide +kernel⟩
theorem mi_Mod_next : ex_mi Y_Mod_next 0 := ⟨co_Mod_next, ii_Mod, by decide +kernel, by decide +kernel, by decide +kernel⟩
theorem mi_Mod_byteAt : ex_mi Y_Mod_byteAt 1 := ⟨co_Mod_byteAt, ii_Mod, by decide +kernel, by decide +kernel, by decide +kernel⟩
theorem mi_Mod_readItem : ex_mi Y_Mod_readItem 0 := ⟨co_Mod_readItem, ii_Mod, by decide +kernel, by decide +kernel, by decide +kernel⟩
theorem mi_Mod_kindTold : ex_mi Y_Mod_kindTold 0 := ⟨co_Mod_kindTold, ii_Mod, by decide +kernel, by decide +kernel, by decide +kernel⟩
theorem mi_Mod_isWord : ex_mi Y_Mod_isWord 1 := ⟨co_Mod_isWord, ii_Mod, by decide +kernel, by decide +kernel, by decide +kernel⟩
theorem mi_Mod_must : ex_mi Y_Mod_must 1 := ⟨co_Mod_must, ii_Mod, by decide +kernel, by decide +kernel, by decide +kernel⟩
theorem mi_Mod_isNext : ex_mi Y_Mod_isNext 1 := ⟨co_Mod_isNext, ii_Mod, by decide +kernel, by decide +kernel, by decide +kernel⟩
theorem mi_Mod_number : ex_mi Y_Mod_number 2 := ⟨co_Mod_number, ii_Mod, by decide +kernel, by decide +kernel, by decide +kernel⟩
theorem mi_Mod_item : ex_mi Y_Mod_item 5 := ⟨co_Mod_item, ii_Mod, by decide +kernel, by decide +kernel, by decide +kernel⟩
theorem mi_Mod_isSo : ex_mi Y_Mod_isSo 1 := ⟨co_Mod_isSo, ii_Mod, by decide +kernel, by decide +kernel, by decide +kernel⟩
theorem mi_Mod_sheet : ex_mi Y_Mod_sheet 3 := ⟨co_Mod_sheet, ii_Mod, by decide +kernel, by decide +kernel, by decide +kernel⟩
theorem mi_Mod_isSheet : ex_mi Y_Mod_isSheet 1 := ⟨co_Mod_isSheet, ii_Mod, by decide +kernel, by decide +kernel, by decide +kernel⟩
theorem mi_Mod_write : ex_mi Y_Mod_write 3 := ⟨co_Mod_write, ii_Mod, by decide +kernel, by decide +kernel, by decide +kernel⟩
theorem mi_Mod_cutTo : ex_mi Y_Mod_cutTo 2 := ⟨co_Mod_cutTo, ii_Mod, by decide +kernel, by decide +kernel, by decide +kernel⟩
theorem mi_Mod_copy : ex_mi Y_Mod_copy 5 := ⟨co_Mod_copy, ii_Mod, by decide +kernel, by decide +kernel, by decide +kernel⟩
theorem mi_Mod_lays : ex_mi Y_Mod_lays 1 := ⟨co_Mod_lays, ii_Mod, by decide +kernel, by decide +kernel, by decide +kernel⟩
theorem mi_Mod_lacks : ex_mi Y_Mod_lacks 1 := ⟨co_Mod_lacks, ii_Mod, by decide +kernel, by decide +kernel, by decide +kernel⟩
theorem mi_Mod_book : ex_mi Y_Mod_book 2 := ⟨co_Mod_book, ii_Mod, by decide +kernel, by decide +kernel, by decide +kernel⟩
theorem mi_Mod_read : ex_mi Y_Mod_read 2 := ⟨co_Mod_read, ii_Mod, by decide +kernel, by decide +kernel, by decide +kernel⟩
theorem mi_Mod_wasSo : ex_mi Y_Mod_wasSo 2 := ⟨co_Mod_wasSo, ii_Mod, by decide +kernel, by decide +kernel, by decide +kernel⟩
theorem mi_Mod_image : ex_mi Y_Mod_image 0 := ⟨co_Mod_image, ii_Mod, by decide +kernel, by decide +kernel, by decide +kernel⟩
theorem mi_Mod_undo : ex_mi Y_Mod_undo 0 := ⟨co_Mod_undo, ii_Mod, by decide +kernel, by decide +kernel, by decide +kernel⟩
theorem mi_Mod_tear : ex_mi Y_Mod_tear 0 := ⟨co_Mod_tear, ii_Mod, by decide +kernel, by decide +kernel, by decide +kernel⟩
theorem mi_Mod_count : ex_mi Y_Mod_count 1 := ⟨co_Mod_count, ii_Mod, by decide +kernel, by decide +kernel, by decide +kernel⟩
theorem mi_Mod_status : ex_mi Y_Mod_status 1 := ⟨co_Mod_status, ii_Mod, by decide +kernel, by decide +kernel, by decide +kernel⟩
theorem iy_Best : ∀ w ∈ u_ws "DayBehind$Best" fx_Best 2, w ∈ ex_tb := by decide +kernel
theorem iy_Event : ∀ w ∈ u_ws "DayBehind$Event" fx_Event 3, w ∈ ex_tb := by decide +kernel
theorem iy_One : ∀ w ∈ u_ws "DayBehind$One" fx_One 7, w ∈ ex_tb := by decide +kernel
theorem iy_River : ∀ w ∈ u_ws "DayBehind$River" fx_River 6, w ∈ ex_tb := by decide +kernel
theorem iy_Sheet : ∀ w ∈ u_ws "DayBehind$Sheet" fx_Sheet 3, w ∈ ex_tb := by decide +kernel
theorem iy_Text : ∀ w ∈ u_ws "DayBehind$Text" fx_Text 7, w ∈ ex_tb := by decide +kernel
theorem iy_Day : ∀ w ∈ u_ws "DayBehind" fx_Day 8, w ∈ ex_tb := by decide +kernel
theorem iy_Mod : ∀ w ∈ u_ws "DayBehindModel" fx_Mod 23, w ∈ ex_tb := by decide +kernel
