section
-- ===== PART A: goes FIRST, ahead of the names: the tables' words, and 'selects' of the private methods out of them =====
/-- a private method of a class that the tables say can be made, by its rows of tables_1 -/
def lw_okq (q : MethodName × Nat) : Prop := (q.1.cls ≠ "java/lang/invoke/MethodHandle" ∧ q.1.cls ≠ "java/lang/invoke/VarHandle") ∧ Cond.instantiable q.1.cls q.2 ∈ tables_1 ∧ Cond.privateMethod q.1 ∈ tables_1 ∧ Cond.instanceMethod q.1 ∈ tables_1
theorem lw_p0 : lw_okq (⟨"DayBehind", "refuse", "(I)I"⟩, 8) := ⟨⟨by decide +kernel, by decide +kernel⟩, List.mem_of_getElem? (i := 18) (by decide +kernel), List.mem_of_getElem? (i := 225) (by decide +kernel), List.mem_of_getElem? (i := 226) (by decide +kernel)⟩
theorem lw_p1 : lw_okq (⟨"DayBehind", "noEvent", "(I)Z"⟩, 8) := ⟨⟨by decide +kernel, by decide +kernel⟩, List.mem_of_getElem? (i := 18) (by decide +kernel), List.mem_of_getElem? (i := 250) (by decide +kernel), List.mem_of_getElem? (i := 251) (by decide +kernel)⟩
theorem lw_p2 : lw_okq (⟨"DayBehind", "noOne", "(I)Z"⟩, 8) := ⟨⟨by decide +kernel, by decide +kernel⟩, List.mem_of_getElem? (i := 18) (by decide +kernel), List.mem_of_getElem? (i := 297) (by decide +kernel), List.mem_of_getElem? (i := 298) (by decide +kernel)⟩
theorem lw_p3 : lw_okq (⟨"DayBehind", "maySet", "(II)Z"⟩, 8) := ⟨⟨by decide +kernel, by decide +kernel⟩, List.mem_of_getElem? (i := 18) (by decide +kernel), List.mem_of_getElem? (i := 305) (by decide +kernel), List.mem_of_getElem? (i := 306) (by decide +kernel)⟩
theorem lw_p4 : lw_okq (⟨"DayBehind$River", "letCross", "(I)V"⟩, 6) := ⟨⟨by decide +kernel, by decide +kernel⟩, List.mem_of_getElem? (i := 26) (by decide +kernel), List.mem_of_getElem? (i := 365) (by decide +kernel), List.mem_of_getElem? (i := 366) (by decide +kernel)⟩
theorem lw_p5 : lw_okq (⟨"DayBehind$River", "spread", "(I)V"⟩, 6) := ⟨⟨by decide +kernel, by decide +kernel⟩, List.mem_of_getElem? (i := 26) (by decide +kernel), List.mem_of_getElem? (i := 375) (by decide +kernel), List.mem_of_getElem? (i := 376) (by decide +kernel)⟩
theorem lw_p6 : lw_okq (⟨"DayBehind$River", "meet", "()V"⟩, 6) := ⟨⟨by decide +kernel, by decide +kernel⟩, List.mem_of_getElem? (i := 26) (by decide +kernel), List.mem_of_getElem? (i := 387) (by decide +kernel), List.mem_of_getElem? (i := 388) (by decide +kernel)⟩
theorem lw_p7 : lw_okq (⟨"DayBehind$River", "meetWhatIsKnownTo", "(LDayBehind$One;)V"⟩, 6) := ⟨⟨by decide +kernel, by decide +kernel⟩, List.mem_of_getElem? (i := 26) (by decide +kernel), List.mem_of_getElem? (i := 391) (by decide +kernel), List.mem_of_getElem? (i := 392) (by decide +kernel)⟩
theorem lw_p8 : lw_okq (⟨"DayBehind$River", "befall", "(II)V"⟩, 6) := ⟨⟨by decide +kernel, by decide +kernel⟩, List.mem_of_getElem? (i := 26) (by decide +kernel), List.mem_of_getElem? (i := 399) (by decide +kernel), List.mem_of_getElem? (i := 400) (by decide +kernel)⟩
theorem lw_p9 : lw_okq (⟨"DayBehind", "startTrial", "()V"⟩, 8) := ⟨⟨by decide +kernel, by decide +kernel⟩, List.mem_of_getElem? (i := 18) (by decide +kernel), List.mem_of_getElem? (i := 438) (by decide +kernel), List.mem_of_getElem? (i := 439) (by decide +kernel)⟩
theorem lw_p10 : lw_okq (⟨"DayBehind", "seekClocks", "(II)V"⟩, 8) := ⟨⟨by decide +kernel, by decide +kernel⟩, List.mem_of_getElem? (i := 18) (by decide +kernel), List.mem_of_getElem? (i := 481) (by decide +kernel), List.mem_of_getElem? (i := 482) (by decide +kernel)⟩
theorem lw_p11 : lw_okq (⟨"DayBehind", "startTrialByClocks", "(III)V"⟩, 8) := ⟨⟨by decide +kernel, by decide +kernel⟩, List.mem_of_getElem? (i := 18) (by decide +kernel), List.mem_of_getElem? (i := 490) (by decide +kernel), List.mem_of_getElem? (i := 491) (by decide +kernel)⟩
theorem lw_p12 : lw_okq (⟨"DayBehind", "purseInTrial", "(II)I"⟩, 8) := ⟨⟨by decide +kernel, by decide +kernel⟩, List.mem_of_getElem? (i := 18) (by decide +kernel), List.mem_of_getElem? (i := 511) (by decide +kernel), List.mem_of_getElem? (i := 512) (by decide +kernel)⟩
theorem lw_p13 : lw_okq (⟨"DayBehind", "metInTrial", "(I)I"⟩, 8) := ⟨⟨by decide +kernel, by decide +kernel⟩, List.mem_of_getElem? (i := 18) (by decide +kernel), List.mem_of_getElem? (i := 528) (by decide +kernel), List.mem_of_getElem? (i := 529) (by decide +kernel)⟩
theorem lw_p14 : lw_okq (⟨"DayBehind$Text", "step", "()V"⟩, 7) := ⟨⟨by decide +kernel, by decide +kernel⟩, List.mem_of_getElem? (i := 141) (by decide +kernel), List.mem_of_getElem? (i := 560) (by decide +kernel), List.mem_of_getElem? (i := 561) (by decide +kernel)⟩
theorem lw_p15 : lw_okq (⟨"DayBehind$Text", "parseItem", "(LDayBehind$River;)Z"⟩, 7) := ⟨⟨by decide +kernel, by decide +kernel⟩, List.mem_of_getElem? (i := 141) (by decide +kernel), List.mem_of_getElem? (i := 571) (by decide +kernel), List.mem_of_getElem? (i := 572) (by decide +kernel)⟩
def lw_privs_1 : List (MethodName × Nat) := [(⟨"DayBehind", "refuse", "(I)I"⟩, 8), (⟨"DayBehind", "noEvent", "(I)Z"⟩, 8), (⟨"DayBehind", "noOne", "(I)Z"⟩, 8), (⟨"DayBehind", "maySet", "(II)Z"⟩, 8), (⟨"DayBehind$River", "letCross", "(I)V"⟩, 6), (⟨"DayBehind$River", "spread", "(I)V"⟩, 6), (⟨"DayBehind$River", "meet", "()V"⟩, 6), (⟨"DayBehind$River", "meetWhatIsKnownTo", "(LDayBehind$One;)V"⟩, 6), (⟨"DayBehind$River", "befall", "(II)V"⟩, 6), (⟨"DayBehind", "startTrial", "()V"⟩, 8), (⟨"DayBehind", "seekClocks", "(II)V"⟩, 8), (⟨"DayBehind", "startTrialByClocks", "(III)V"⟩, 8), (⟨"DayBehind", "purseInTrial", "(II)I"⟩, 8), (⟨"DayBehind", "metInTrial", "(I)I"⟩, 8), (⟨"DayBehind$Text", "step", "()V"⟩, 7), (⟨"DayBehind$Text", "parseItem", "(LDayBehind$River;)Z"⟩, 7)]
theorem lw_r1 : ∀ q ∈ lw_privs_1, lw_okq q := List.forall_mem_cons.mpr ⟨lw_p0, List.forall_mem_cons.mpr ⟨lw_p1, List.forall_mem_cons.mpr ⟨lw_p2, List.forall_mem_cons.mpr ⟨lw_p3, List.forall_mem_cons.mpr ⟨lw_p4, List.forall_mem_cons.mpr ⟨lw_p5, List.forall_mem_cons.mpr ⟨lw_p6, List.forall_mem_cons.mpr ⟨lw_p7, List.forall_mem_cons.mpr ⟨lw_p8, List.forall_mem_cons.mpr ⟨lw_p9, List.forall_mem_cons.mpr ⟨lw_p10, List.forall_mem_cons.mpr ⟨lw_p11, List.forall_mem_cons.mpr ⟨lw_p12, List.forall_mem_cons.mpr ⟨lw_p13, List.forall_mem_cons.mpr ⟨lw_p14, List.forall_mem_cons.mpr ⟨lw_p15, fun _ h => absurd h List.not_mem_nil⟩⟩⟩⟩⟩⟩⟩⟩⟩⟩⟩⟩⟩⟩⟩⟩
theorem lw_p16 : lw_okq (⟨"DayBehind$Text", "takes", "(Ljava/lang/String;)Z"⟩, 7) := ⟨⟨by decide +kernel, by decide +kernel⟩, List.mem_of_getElem? (i := 141) (by decide +kernel), List.mem_of_getElem? (i := 576) (by decide +kernel), List.mem_of_getElem? (i := 577) (by decide +kernel)⟩
theorem lw_p17 : lw_okq (⟨"DayBehind$Text", "isWord", "(Ljava/lang/String;)Z"⟩, 7) := ⟨⟨by decide +kernel, by decide +kernel⟩, List.mem_of_getElem? (i := 141) (by decide +kernel), List.mem_of_getElem? (i := 580) (by decide +kernel), List.mem_of_getElem? (i := 581) (by decide +kernel)⟩
theorem lw_p18 : lw_okq (⟨"DayBehind$Text", "parseToll", "(LDayBehind$River;)Z"⟩, 7) := ⟨⟨by decide +kernel, by decide +kernel⟩, List.mem_of_getElem? (i := 141) (by decide +kernel), List.mem_of_getElem? (i := 632) (by decide +kernel), List.mem_of_getElem? (i := 633) (by decide +kernel)⟩
theorem lw_p19 : lw_okq (⟨"DayBehind$Text", "takesNumber", "(I)Z"⟩, 7) := ⟨⟨by decide +kernel, by decide +kernel⟩, List.mem_of_getElem? (i := 141) (by decide +kernel), List.mem_of_getElem? (i := 636) (by decide +kernel), List.mem_of_getElem? (i := 637) (by decide +kernel)⟩
theorem lw_p20 : lw_okq (⟨"DayBehind$Text", "parseEvent", "(LDayBehind$River;)Z"⟩, 7) := ⟨⟨by decide +kernel, by decide +kernel⟩, List.mem_of_getElem? (i := 141) (by decide +kernel), List.mem_of_getElem? (i := 641) (by decide +kernel), List.mem_of_getElem? (i := 642) (by decide +kernel)⟩
theorem lw_p21 : lw_okq (⟨"DayBehind$Text", "parseOne", "(LDayBehind$River;I)Z"⟩, 7) := ⟨⟨by decide +kernel, by decide +kernel⟩, List.mem_of_getElem? (i := 141) (by decide +kernel), List.mem_of_getElem? (i := 658) (by decide +kernel), List.mem_of_getElem? (i := 659) (by decide +kernel)⟩
theorem lw_p22 : lw_okq (⟨"DayBehind", "findingOf", "(I)I"⟩, 8) := ⟨⟨by decide +kernel, by decide +kernel⟩, List.mem_of_getElem? (i := 18) (by decide +kernel), List.mem_of_getElem? (i := 685) (by decide +kernel), List.mem_of_getElem? (i := 686) (by decide +kernel)⟩
theorem lw_p23 : lw_okq (⟨"DayBehind", "trialFits", "(LDayBehind$Sheet;I)Z"⟩, 8) := ⟨⟨by decide +kernel, by decide +kernel⟩, List.mem_of_getElem? (i := 18) (by decide +kernel), List.mem_of_getElem? (i := 723) (by decide +kernel), List.mem_of_getElem? (i := 724) (by decide +kernel)⟩
theorem lw_p24 : lw_okq (⟨"DayBehindModel", "become", "(II)I"⟩, 23) := ⟨⟨by decide +kernel, by decide +kernel⟩, List.mem_of_getElem? (i := 752) (by decide +kernel), List.mem_of_getElem? (i := 843) (by decide +kernel), List.mem_of_getElem? (i := 844) (by decide +kernel)⟩
theorem lw_p25 : lw_okq (⟨"DayBehindModel", "finding", "(I)I"⟩, 23) := ⟨⟨by decide +kernel, by decide +kernel⟩, List.mem_of_getElem? (i := 752) (by decide +kernel), List.mem_of_getElem? (i := 848) (by decide +kernel), List.mem_of_getElem? (i := 849) (by decide +kernel)⟩
theorem lw_p26 : lw_okq (⟨"DayBehindModel", "happens", "(II)I"⟩, 23) := ⟨⟨by decide +kernel, by decide +kernel⟩, List.mem_of_getElem? (i := 752) (by decide +kernel), List.mem_of_getElem? (i := 860) (by decide +kernel), List.mem_of_getElem? (i := 861) (by decide +kernel)⟩
theorem lw_p27 : lw_okq (⟨"DayBehindModel", "isEvent", "(I)Z"⟩, 23) := ⟨⟨by decide +kernel, by decide +kernel⟩, List.mem_of_getElem? (i := 752) (by decide +kernel), List.mem_of_getElem? (i := 871) (by decide +kernel), List.mem_of_getElem? (i := 872) (by decide +kernel)⟩
theorem lw_p28 : lw_okq (⟨"DayBehindModel", "eventIs", "(II)I"⟩, 23) := ⟨⟨by decide +kernel, by decide +kernel⟩, List.mem_of_getElem? (i := 752) (by decide +kernel), List.mem_of_getElem? (i := 875) (by decide +kernel), List.mem_of_getElem? (i := 876) (by decide +kernel)⟩
theorem lw_p29 : lw_okq (⟨"DayBehindModel", "whoKnow", "(I)I"⟩, 23) := ⟨⟨by decide +kernel, by decide +kernel⟩, List.mem_of_getElem? (i := 752) (by decide +kernel), List.mem_of_getElem? (i := 879) (by decide +kernel), List.mem_of_getElem? (i := 880) (by decide +kernel)⟩
theorem lw_p30 : lw_okq (⟨"DayBehindModel", "oneIs", "(II)I"⟩, 23) := ⟨⟨by decide +kernel, by decide +kernel⟩, List.mem_of_getElem? (i := 752) (by decide +kernel), List.mem_of_getElem? (i := 883) (by decide +kernel), List.mem_of_getElem? (i := 884) (by decide +kernel)⟩
theorem lw_p31 : lw_okq (⟨"DayBehindModel", "comes", "(IIIII)I"⟩, 23) := ⟨⟨by decide +kernel, by decide +kernel⟩, List.mem_of_getElem? (i := 752) (by decide +kernel), List.mem_of_getElem? (i := 905) (by decide +kernel), List.mem_of_getElem? (i := 906) (by decide +kernel)⟩
def lw_privs_2 : List (MethodName × Nat) := [(⟨"DayBehind$Text", "takes", "(Ljava/lang/String;)Z"⟩, 7), (⟨"DayBehind$Text", "isWord", "(Ljava/lang/String;)Z"⟩, 7), (⟨"DayBehind$Text", "parseToll", "(LDayBehind$River;)Z"⟩, 7), (⟨"DayBehind$Text", "takesNumber", "(I)Z"⟩, 7), (⟨"DayBehind$Text", "parseEvent", "(LDayBehind$River;)Z"⟩, 7), (⟨"DayBehind$Text", "parseOne", "(LDayBehind$River;I)Z"⟩, 7), (⟨"DayBehind", "findingOf", "(I)I"⟩, 8), (⟨"DayBehind", "trialFits", "(LDayBehind$Sheet;I)Z"⟩, 8), (⟨"DayBehindModel", "become", "(II)I"⟩, 23), (⟨"DayBehindModel", "finding", "(I)I"⟩, 23), (⟨"DayBehindModel", "happens", "(II)I"⟩, 23), (⟨"DayBehindModel", "isEvent", "(I)Z"⟩, 23), (⟨"DayBehindModel", "eventIs", "(II)I"⟩, 23), (⟨"DayBehindModel", "whoKnow", "(I)I"⟩, 23), (⟨"DayBehindModel", "oneIs", "(II)I"⟩, 23), (⟨"DayBehindModel", "comes", "(IIIII)I"⟩, 23)]
theorem lw_r2 : ∀ q ∈ lw_privs_2, lw_okq q := List.forall_mem_cons.mpr ⟨lw_p16, List.forall_mem_cons.mpr ⟨lw_p17, List.forall_mem_cons.mpr ⟨lw_p18, List.forall_mem_cons.mpr ⟨lw_p19, List.forall_mem_cons.mpr ⟨lw_p20, List.forall_mem_cons.mpr ⟨lw_p21, List.forall_mem_cons.mpr ⟨lw_p22, List.forall_mem_cons.mpr ⟨lw_p23, List.forall_mem_cons.mpr ⟨lw_p24, List.forall_mem_cons.mpr ⟨lw_p25, List.forall_mem_cons.mpr ⟨lw_p26, List.forall_mem_cons.mpr ⟨lw_p27, List.forall_mem_cons.mpr ⟨lw_p28, List.forall_mem_cons.mpr ⟨lw_p29, List.forall_mem_cons.mpr ⟨lw_p30, List.forall_mem_cons.mpr ⟨lw_p31, fun _ h => absurd h List.not_mem_nil⟩⟩⟩⟩⟩⟩⟩⟩⟩⟩⟩⟩⟩⟩⟩⟩
theorem lw_p32 : lw_okq (⟨"DayBehindModel", "isOne", "(I)Z"⟩, 23) := ⟨⟨by decide +kernel, by decide +kernel⟩, List.mem_of_getElem? (i := 752) (by decide +kernel), List.mem_of_getElem? (i := 913) (by decide +kernel), List.mem_of_getElem? (i := 914) (by decide +kernel)⟩
theorem lw_p33 : lw_okq (⟨"DayBehindModel", "maySet", "(II)Z"⟩, 23) := ⟨⟨by decide +kernel, by decide +kernel⟩, List.mem_of_getElem? (i := 752) (by decide +kernel), List.mem_of_getElem? (i := 921) (by decide +kernel), List.mem_of_getElem? (i := 922) (by decide +kernel)⟩
theorem lw_p34 : lw_okq (⟨"DayBehindModel", "canPay", "(I)Z"⟩, 23) := ⟨⟨by decide +kernel, by decide +kernel⟩, List.mem_of_getElem? (i := 752) (by decide +kernel), List.mem_of_getElem? (i := 951) (by decide +kernel), List.mem_of_getElem? (i := 952) (by decide +kernel)⟩
theorem lw_p35 : lw_okq (⟨"DayBehindModel", "crosses", "(I)V"⟩, 23) := ⟨⟨by decide +kernel, by decide +kernel⟩, List.mem_of_getElem? (i := 752) (by decide +kernel), List.mem_of_getElem? (i := 956) (by decide +kernel), List.mem_of_getElem? (i := 957) (by decide +kernel)⟩
theorem lw_p36 : lw_okq (⟨"DayBehindModel", "pays", "(II)V"⟩, 23) := ⟨⟨by decide +kernel, by decide +kernel⟩, List.mem_of_getElem? (i := 752) (by decide +kernel), List.mem_of_getElem? (i := 960) (by decide +kernel), List.mem_of_getElem? (i := 961) (by decide +kernel)⟩
theorem lw_p37 : lw_okq (⟨"DayBehindModel", "told", "(II)I"⟩, 23) := ⟨⟨by decide +kernel, by decide +kernel⟩, List.mem_of_getElem? (i := 752) (by decide +kernel), List.mem_of_getElem? (i := 969) (by decide +kernel), List.mem_of_getElem? (i := 970) (by decide +kernel)⟩
theorem lw_p38 : lw_okq (⟨"DayBehindModel", "hoursGo", "(I)V"⟩, 23) := ⟨⟨by decide +kernel, by decide +kernel⟩, List.mem_of_getElem? (i := 752) (by decide +kernel), List.mem_of_getElem? (i := 980) (by decide +kernel), List.mem_of_getElem? (i := 981) (by decide +kernel)⟩
theorem lw_p39 : lw_okq (⟨"DayBehindModel", "hour", "()V"⟩, 23) := ⟨⟨by decide +kernel, by decide +kernel⟩, List.mem_of_getElem? (i := 752) (by decide +kernel), List.mem_of_getElem? (i := 984) (by decide +kernel), List.mem_of_getElem? (i := 985) (by decide +kernel)⟩
theorem lw_p40 : lw_okq (⟨"DayBehindModel", "isThere", "(I)Z"⟩, 23) := ⟨⟨by decide +kernel, by decide +kernel⟩, List.mem_of_getElem? (i := 752) (by decide +kernel), List.mem_of_getElem? (i := 988) (by decide +kernel), List.mem_of_getElem? (i := 989) (by decide +kernel)⟩
theorem lw_p41 : lw_okq (⟨"DayBehindModel", "tellersTell", "()V"⟩, 23) := ⟨⟨by decide +kernel, by decide +kernel⟩, List.mem_of_getElem? (i := 752) (by decide +kernel), List.mem_of_getElem? (i := 992) (by decide +kernel), List.mem_of_getElem? (i := 993) (by decide +kernel)⟩
theorem lw_p42 : lw_okq (⟨"DayBehindModel", "firemenMeet", "()V"⟩, 23) := ⟨⟨by decide +kernel, by decide +kernel⟩, List.mem_of_getElem? (i := 752) (by decide +kernel), List.mem_of_getElem? (i := 996) (by decide +kernel), List.mem_of_getElem? (i := 997) (by decide +kernel)⟩
theorem lw_p43 : lw_okq (⟨"DayBehindModel", "comesOn", "(II)V"⟩, 23) := ⟨⟨by decide +kernel, by decide +kernel⟩, List.mem_of_getElem? (i := 752) (by decide +kernel), List.mem_of_getElem? (i := 1000) (by decide +kernel), List.mem_of_getElem? (i := 1001) (by decide +kernel)⟩
theorem lw_p44 : lw_okq (⟨"DayBehindModel", "sumOf", "(I)I"⟩, 23) := ⟨⟨by decide +kernel, by decide +kernel⟩, List.mem_of_getElem? (i := 752) (by decide +kernel), List.mem_of_getElem? (i := 1004) (by decide +kernel), List.mem_of_getElem? (i := 1005) (by decide +kernel)⟩
theorem lw_p45 : lw_okq (⟨"DayBehindModel", "onLeft", "()I"⟩, 23) := ⟨⟨by decide +kernel, by decide +kernel⟩, List.mem_of_getElem? (i := 752) (by decide +kernel), List.mem_of_getElem? (i := 1012) (by decide +kernel), List.mem_of_getElem? (i := 1013) (by decide +kernel)⟩
theorem lw_p46 : lw_okq (⟨"DayBehindModel", "metNow", "()I"⟩, 23) := ⟨⟨by decide +kernel, by decide +kernel⟩, List.mem_of_getElem? (i := 752) (by decide +kernel), List.mem_of_getElem? (i := 1016) (by decide +kernel), List.mem_of_getElem? (i := 1017) (by decide +kernel)⟩
theorem lw_p47 : lw_okq (⟨"DayBehindModel", "fieldOn", "(III)I"⟩, 23) := ⟨⟨by decide +kernel, by decide +kernel⟩, List.mem_of_getElem? (i := 752) (by decide +kernel), List.mem_of_getElem? (i := 1024) (by decide +kernel), List.mem_of_getElem? (i := 1025) (by decide +kernel)⟩
def lw_privs_3 : List (MethodName × Nat) := [(⟨"DayBehindModel", "isOne", "(I)Z"⟩, 23), (⟨"DayBehindModel", "maySet", "(II)Z"⟩, 23), (⟨"DayBehindModel", "canPay", "(I)Z"⟩, 23), (⟨"DayBehindModel", "crosses", "(I)V"⟩, 23), (⟨"DayBehindModel", "pays", "(II)V"⟩, 23), (⟨"DayBehindModel", "told", "(II)I"⟩, 23), (⟨"DayBehindModel", "hoursGo", "(I)V"⟩, 23), (⟨"DayBehindModel", "hour", "()V"⟩, 23), (⟨"DayBehindModel", "isThere", "(I)Z"⟩, 23), (⟨"DayBehindModel", "tellersTell", "()V"⟩, 23), (⟨"DayBehindModel", "firemenMeet", "()V"⟩, 23), (⟨"DayBehindModel", "comesOn", "(II)V"⟩, 23), (⟨"DayBehindModel", "sumOf", "(I)I"⟩, 23), (⟨"DayBehindModel", "onLeft", "()I"⟩, 23), (⟨"DayBehindModel", "metNow", "()I"⟩, 23), (⟨"DayBehindModel", "fieldOn", "(III)I"⟩, 23)]
theorem lw_r3 : ∀ q ∈ lw_privs_3, lw_okq q := List.forall_mem_cons.mpr ⟨lw_p32, List.forall_mem_cons.mpr ⟨lw_p33, List.forall_mem_cons.mpr ⟨lw_p34, List.forall_mem_cons.mpr ⟨lw_p35, List.forall_mem_cons.mpr ⟨lw_p36, List.forall_mem_cons.mpr ⟨lw_p37, List.forall_mem_cons.mpr ⟨lw_p38, List.forall_mem_cons.mpr ⟨lw_p39, List.forall_mem_cons.mpr ⟨lw_p40, List.forall_mem_cons.mpr ⟨lw_p41, List.forall_mem_cons.mpr ⟨lw_p42, List.forall_mem_cons.mpr ⟨lw_p43, List.forall_mem_cons.mpr ⟨lw_p44, List.forall_mem_cons.mpr ⟨lw_p45, List.forall_mem_cons.mpr ⟨lw_p46, List.forall_mem_cons.mpr ⟨lw_p47, fun _ h => absurd h List.not_mem_nil⟩⟩⟩⟩⟩⟩⟩⟩⟩⟩⟩⟩⟩⟩⟩⟩
theorem lw_p48 : lw_okq (⟨"DayBehindModel", "putBack", "(I)I"⟩, 23) := ⟨⟨by decide +kernel, by decide +kernel⟩, List.mem_of_getElem? (i := 752) (by decide +kernel), List.mem_of_getElem? (i := 1031) (by decide +kernel), List.mem_of_getElem? (i := 1032) (by decide +kernel)⟩
theorem lw_p49 : lw_okq (⟨"DayBehindModel", "learnsIn", "(II)I"⟩, 23) := ⟨⟨by decide +kernel, by decide +kernel⟩, List.mem_of_getElem? (i := 752) (by decide +kernel), List.mem_of_getElem? (i := 1039) (by decide +kernel), List.mem_of_getElem? (i := 1040) (by decide +kernel)⟩
theorem lw_p50 : lw_okq (⟨"DayBehindModel", "orNone", "(I)I"⟩, 23) := ⟨⟨by decide +kernel, by decide +kernel⟩, List.mem_of_getElem? (i := 752) (by decide +kernel), List.mem_of_getElem? (i := 1043) (by decide +kernel), List.mem_of_getElem? (i := 1044) (by decide +kernel)⟩
theorem lw_p51 : lw_okq (⟨"DayBehindModel", "metOn", "(I)I"⟩, 23) := ⟨⟨by decide +kernel, by decide +kernel⟩, List.mem_of_getElem? (i := 752) (by decide +kernel), List.mem_of_getElem? (i := 1056) (by decide +kernel), List.mem_of_getElem? (i := 1057) (by decide +kernel)⟩
theorem lw_p52 : lw_okq (⟨"DayBehindModel", "findClocks", "(II)I"⟩, 23) := ⟨⟨by decide +kernel, by decide +kernel⟩, List.mem_of_getElem? (i := 752) (by decide +kernel), List.mem_of_getElem? (i := 1068) (by decide +kernel), List.mem_of_getElem? (i := 1069) (by decide +kernel)⟩
theorem lw_p53 : lw_okq (⟨"DayBehindModel", "purseOn", "(II)I"⟩, 23) := ⟨⟨by decide +kernel, by decide +kernel⟩, List.mem_of_getElem? (i := 752) (by decide +kernel), List.mem_of_getElem? (i := 1072) (by decide +kernel), List.mem_of_getElem? (i := 1073) (by decide +kernel)⟩
theorem lw_p54 : lw_okq (⟨"DayBehindModel", "allOn", "(I)I"⟩, 23) := ⟨⟨by decide +kernel, by decide +kernel⟩, List.mem_of_getElem? (i := 752) (by decide +kernel), List.mem_of_getElem? (i := 1085) (by decide +kernel), List.mem_of_getElem? (i := 1086) (by decide +kernel)⟩
theorem lw_p55 : lw_okq (⟨"DayBehindModel", "bestWith", "(IIII)I"⟩, 23) := ⟨⟨by decide +kernel, by decide +kernel⟩, List.mem_of_getElem? (i := 752) (by decide +kernel), List.mem_of_getElem? (i := 1093) (by decide +kernel), List.mem_of_getElem? (i := 1094) (by decide +kernel)⟩
theorem lw_p56 : lw_okq (⟨"DayBehindModel", "next", "()V"⟩, 23) := ⟨⟨by decide +kernel, by decide +kernel⟩, List.mem_of_getElem? (i := 752) (by decide +kernel), List.mem_of_getElem? (i := 1125) (by decide +kernel), List.mem_of_getElem? (i := 1126) (by decide +kernel)⟩
theorem lw_p57 : lw_okq (⟨"DayBehindModel", "byteAt", "(I)I"⟩, 23) := ⟨⟨by decide +kernel, by decide +kernel⟩, List.mem_of_getElem? (i := 752) (by decide +kernel), List.mem_of_getElem? (i := 1129) (by decide +kernel), List.mem_of_getElem? (i := 1130) (by decide +kernel)⟩
theorem lw_p58 : lw_okq (⟨"DayBehindModel", "readItem", "()V"⟩, 23) := ⟨⟨by decide +kernel, by decide +kernel⟩, List.mem_of_getElem? (i := 752) (by decide +kernel), List.mem_of_getElem? (i := 1133) (by decide +kernel), List.mem_of_getElem? (i := 1134) (by decide +kernel)⟩
theorem lw_p59 : lw_okq (⟨"DayBehindModel", "kindTold", "()I"⟩, 23) := ⟨⟨by decide +kernel, by decide +kernel⟩, List.mem_of_getElem? (i := 752) (by decide +kernel), List.mem_of_getElem? (i := 1137) (by decide +kernel), List.mem_of_getElem? (i := 1138) (by decide +kernel)⟩
theorem lw_p60 : lw_okq (⟨"DayBehindModel", "isWord", "(Ljava/lang/String;)Z"⟩, 23) := ⟨⟨by decide +kernel, by decide +kernel⟩, List.mem_of_getElem? (i := 752) (by decide +kernel), List.mem_of_getElem? (i := 1141) (by decide +kernel), List.mem_of_getElem? (i := 1142) (by decide +kernel)⟩
theorem lw_p61 : lw_okq (⟨"DayBehindModel", "must", "(Z)V"⟩, 23) := ⟨⟨by decide +kernel, by decide +kernel⟩, List.mem_of_getElem? (i := 752) (by decide +kernel), List.mem_of_getElem? (i := 1147) (by decide +kernel), List.mem_of_getElem? (i := 1148) (by decide +kernel)⟩
theorem lw_p62 : lw_okq (⟨"DayBehindModel", "isNext", "(Ljava/lang/String;)Z"⟩, 23) := ⟨⟨by decide +kernel, by decide +kernel⟩, List.mem_of_getElem? (i := 752) (by decide +kernel), List.mem_of_getElem? (i := 1152) (by decide +kernel), List.mem_of_getElem? (i := 1153) (by decide +kernel)⟩
theorem lw_p63 : lw_okq (⟨"DayBehindModel", "number", "(II)I"⟩, 23) := ⟨⟨by decide +kernel, by decide +kernel⟩, List.mem_of_getElem? (i := 752) (by decide +kernel), List.mem_of_getElem? (i := 1157) (by decide +kernel), List.mem_of_getElem? (i := 1158) (by decide +kernel)⟩
def lw_privs_4 : List (MethodName × Nat) := [(⟨"DayBehindModel", "putBack", "(I)I"⟩, 23), (⟨"DayBehindModel", "learnsIn", "(II)I"⟩, 23), (⟨"DayBehindModel", "orNone", "(I)I"⟩, 23), (⟨"DayBehindModel", "metOn", "(I)I"⟩, 23), (⟨"DayBehindModel", "findClocks", "(II)I"⟩, 23), (⟨"DayBehindModel", "purseOn", "(II)I"⟩, 23), (⟨"DayBehindModel", "allOn", "(I)I"⟩, 23), (⟨"DayBehindModel", "bestWith", "(IIII)I"⟩, 23), (⟨"DayBehindModel", "next", "()V"⟩, 23), (⟨"DayBehindModel", "byteAt", "(I)I"⟩, 23), (⟨"DayBehindModel", "readItem", "()V"⟩, 23), (⟨"DayBehindModel", "kindTold", "()I"⟩, 23), (⟨"DayBehindModel", "isWord", "(Ljava/lang/String;)Z"⟩, 23), (⟨"DayBehindModel", "must", "(Z)V"⟩, 23), (⟨"DayBehindModel", "isNext", "(Ljava/lang/String;)Z"⟩, 23), (⟨"DayBehindModel", "number", "(II)I"⟩, 23)]
theorem lw_r4 : ∀ q ∈ lw_privs_4, lw_okq q := List.forall_mem_cons.mpr ⟨lw_p48, List.forall_mem_cons.mpr ⟨lw_p49, List.forall_mem_cons.mpr ⟨lw_p50, List.forall_mem_cons.mpr ⟨lw_p51, List.forall_mem_cons.mpr ⟨lw_p52, List.forall_mem_cons.mpr ⟨lw_p53, List.forall_mem_cons.mpr ⟨lw_p54, List.forall_mem_cons.mpr ⟨lw_p55, List.forall_mem_cons.mpr ⟨lw_p56, List.forall_mem_cons.mpr ⟨lw_p57, List.forall_mem_cons.mpr ⟨lw_p58, List.forall_mem_cons.mpr ⟨lw_p59, List.forall_mem_cons.mpr ⟨lw_p60, List.forall_mem_cons.mpr ⟨lw_p61, List.forall_mem_cons.mpr ⟨lw_p62, List.forall_mem_cons.mpr ⟨lw_p63, fun _ h => absurd h List.not_mem_nil⟩⟩⟩⟩⟩⟩⟩⟩⟩⟩⟩⟩⟩⟩⟩⟩
theorem lw_p64 : lw_okq (⟨"DayBehindModel", "item", "(IIIII)V"⟩, 23) := ⟨⟨by decide +kernel, by decide +kernel⟩, List.mem_of_getElem? (i := 752) (by decide +kernel), List.mem_of_getElem? (i := 1163) (by decide +kernel), List.mem_of_getElem? (i := 1164) (by decide +kernel)⟩
theorem lw_p65 : lw_okq (⟨"DayBehindModel", "isSo", "(I)I"⟩, 23) := ⟨⟨by decide +kernel, by decide +kernel⟩, List.mem_of_getElem? (i := 752) (by decide +kernel), List.mem_of_getElem? (i := 1171) (by decide +kernel), List.mem_of_getElem? (i := 1172) (by decide +kernel)⟩
theorem lw_p66 : lw_okq (⟨"DayBehindModel", "lacks", "(I)I"⟩, 23) := ⟨⟨by decide +kernel, by decide +kernel⟩, List.mem_of_getElem? (i := 752) (by decide +kernel), List.mem_of_getElem? (i := 1199) (by decide +kernel), List.mem_of_getElem? (i := 1200) (by decide +kernel)⟩
theorem lw_p67 : lw_okq (⟨"DayBehindModel", "wasSo", "(II)Z"⟩, 23) := ⟨⟨by decide +kernel, by decide +kernel⟩, List.mem_of_getElem? (i := 752) (by decide +kernel), List.mem_of_getElem? (i := 1212) (by decide +kernel), List.mem_of_getElem? (i := 1213) (by decide +kernel)⟩
def lw_privs_5 : List (MethodName × Nat) := [(⟨"DayBehindModel", "item", "(IIIII)V"⟩, 23), (⟨"DayBehindModel", "isSo", "(I)I"⟩, 23), (⟨"DayBehindModel", "lacks", "(I)I"⟩, 23), (⟨"DayBehindModel", "wasSo", "(II)Z"⟩, 23)]
theorem lw_r5 : ∀ q ∈ lw_privs_5, lw_okq q := List.forall_mem_cons.mpr ⟨lw_p64, List.forall_mem_cons.mpr ⟨lw_p65, List.forall_mem_cons.mpr ⟨lw_p66, List.forall_mem_cons.mpr ⟨lw_p67, fun _ h => absurd h List.not_mem_nil⟩⟩⟩⟩
def lw_privs : List (MethodName × Nat) := lw_privs_1 ++ (lw_privs_2 ++ (lw_privs_3 ++ (lw_privs_4 ++ (lw_privs_5))))
def lw_tbl : List Cond := k2_sels lw_privs ++ tables_1
theorem lw_privs_ok : ∀ q ∈ lw_privs, lw_okq q := by
  show ∀ q ∈ lw_privs_1 ++ (lw_privs_2 ++ (lw_privs_3 ++ (lw_privs_4 ++ (lw_privs_5)))), lw_okq q
  exact List.forall_mem_append.mpr ⟨lw_r1, List.forall_mem_append.mpr ⟨lw_r2, List.forall_mem_append.mpr ⟨lw_r3, List.forall_mem_append.mpr ⟨lw_r4, lw_r5⟩⟩⟩⟩
end
section
def fx_Best : u_T := fun k => match k with
  | 0 => ("DayBehind$Best", "choice", "I", false)
  | _ => ("DayBehind$Best", "amount", "I", false)
def tx_Best : Nat → FieldType := fun k => match k with
  | 0 => .int
  | _ => .int
theorem nx_Best : ∀ a, a < 2 → ∀ b, b < 2 → a ≠ b → (fx_Best a).2.1 ≠ (fx_Best b).2.1 := by decide +kernel
theorem tk_Best : ∀ k, k < 2 → parseFieldDescriptor (fx_Best k).2.2.1 = some (tx_Best k) := by decide +kernel
theorem ix_Best : ∀ w ∈ u_ws "DayBehind$Best" fx_Best 2, w ∈ lw_tbl := by decide +kernel
def fx_Event : u_T := fun k => match k with
  | 0 => ("DayBehind$Event", "hour", "I", false)
  | 1 => ("DayBehind$Event", "worth", "I", false)
  | _ => ("DayBehind$Event", "met", "Z", false)
def tx_Event : Nat → FieldType := fun k => match k with
  | 0 => .int
  | 1 => .int
  | _ => .boolean
theorem nx_Event : ∀ a, a < 3 → ∀ b, b < 3 → a ≠ b → (fx_Event a).2.1 ≠ (fx_Event b).2.1 := by decide +kernel
theorem tk_Event : ∀ k, k < 3 → parseFieldDescriptor (fx_Event k).2.2.1 = some (tx_Event k) := by decide +kernel
theorem ix_Event : ∀ w ∈ u_ws "DayBehind$Event" fx_Event 3, w ∈ lw_tbl := by decide +kernel
def fx_One : u_T := fun k => match k with
  | 0 => ("DayBehind$One", "kind", "I", false)
  | 1 => ("DayBehind$One", "bank", "I", false)
  | 2 => ("DayBehind$One", "purse", "I", false)
  | 3 => ("DayBehind$One", "goes", "I", false)
  | 4 => ("DayBehind$One", "comes", "I", false)
  | 5 => ("DayBehind$One", "crossed", "I", false)
  | _ => ("DayBehind$One", "knows", "I", false)
def tx_One : Nat → FieldType := fun k => match k with
  | 0 => .int
  | 1 => .int
  | 2 => .int
  | 3 => .int
  | 4 => .int
  | 5 => .int
  | _ => .int
theorem nx_One : ∀ a, a < 7 → ∀ b, b < 7 → a ≠ b → (fx_One a).2.1 ≠ (fx_One b).2.1 := by decide +kernel
theorem tk_One : ∀ k, k < 7 → parseFieldDescriptor (fx_One k).2.2.1 = some (tx_One k) := by decide +kernel
theorem ix_One : ∀ w ∈ u_ws "DayBehind$One" fx_One 7, w ∈ lw_tbl := by decide +kernel
def fx_River : u_T := fun k => match k with
  | 0 => ("DayBehind$River", "hour", "I", false)
  | 1 => ("DayBehind$River", "toll", "I", false)
  | 2 => ("DayBehind$River", "peopleCount", "I", false)
  | 3 => ("DayBehind$River", "eventCount", "I", false)
  | 4 => ("DayBehind$River", "people", "[LDayBehind$One;", true)
  | _ => ("DayBehind$River", "events", "[LDayBehind$Event;", true)
def tx_River : Nat → FieldType := fun k => match k with
  | 0 => .int
  | 1 => .int
  | 2 => .int
  | 3 => .int
  | 4 => .array (.object "DayBehind$One")
  | _ => .array (.object "DayBehind$Event")
theorem nx_River : ∀ a, a < 6 → ∀ b, b < 6 → a ≠ b → (fx_River a).2.1 ≠ (fx_River b).2.1 := by decide +kernel
theorem tk_River : ∀ k, k < 6 → parseFieldDescriptor (fx_River k).2.2.1 = some (tx_River k) := by decide +kernel
theorem ix_River : ∀ w ∈ u_ws "DayBehind$River" fx_River 6, w ∈ lw_tbl := by decide +kernel
def fx_Sheet : u_T := fun k => match k with
  | 0 => ("DayBehind$Sheet", "bits", "I", false)
  | 1 => ("DayBehind$Sheet", "length", "I", false)
  | _ => ("DayBehind$Sheet", "numbers", "[J", true)
def tx_Sheet : Nat → FieldType := fun k => match k with
  | 0 => .int
  | 1 => .int
  | _ => .array .long
theorem nx_Sheet : ∀ a, a < 3 → ∀ b, b < 3 → a ≠ b → (fx_Sheet a).2.1 ≠ (fx_Sheet b).2.1 := by decide +kernel
theorem tk_Sheet : ∀ k, k < 3 → parseFieldDescriptor (fx_Sheet k).2.2.1 = some (tx_Sheet k) := by decide +kernel
theorem ix_Sheet : ∀ w ∈ u_ws "DayBehind$Sheet" fx_Sheet 3, w ∈ lw_tbl := by decide +kernel
def fx_Text : u_T := fun k => match k with
  | 0 => ("DayBehind$Text", "bytes", "[I", true)
  | 1 => ("DayBehind$Text", "length", "I", false)
  | 2 => ("DayBehind$Text", "token", "I", false)
  | 3 => ("DayBehind$Text", "place", "I", false)
  | 4 => ("DayBehind$Text", "behind", "I", false)
  | 5 => ("DayBehind$Text", "value", "I", false)
  | _ => ("DayBehind$Text", "taken", "I", false)
def tx_Text : Nat → FieldType := fun k => match k with
  | 0 => .array .int
  | 1 => .int
  | 2 => .int
  | 3 => .int
  | 4 => .int
  | 5 => .int
  | _ => .int
theorem nx_Text : ∀ a, a < 7 → ∀ b, b < 7 → a ≠ b → (fx_Text a).2.1 ≠ (fx_Text b).2.1 := by decide +kernel
theorem tk_Text : ∀ k, k < 7 → parseFieldDescriptor (fx_Text k).2.2.1 = some (tx_Text k) := by decide +kernel
theorem ix_Text : ∀ w ∈ u_ws "DayBehind$Text" fx_Text 7, w ∈ lw_tbl := by decide +kernel
def fx_Day : u_T := fun k => match k with
  | 0 => ("DayBehind", "present", "LDayBehind$River;", true)
  | 1 => ("DayBehind", "trial", "LDayBehind$River;", true)
  | 2 => ("DayBehind", "kept", "LDayBehind$River;", true)
  | 3 => ("DayBehind", "keeps", "Z", false)
  | 4 => ("DayBehind", "best", "LDayBehind$Best;", true)
  | 5 => ("DayBehind", "text", "LDayBehind$Text;", true)
  | 6 => ("DayBehind", "sheets", "[LDayBehind$Sheet;", true)
  | _ => ("DayBehind", "told", "[I", true)
def tx_Day : Nat → FieldType := fun k => match k with
  | 0 => .object "DayBehind$River"
  | 1 => .object "DayBehind$River"
  | 2 => .object "DayBehind$River"
  | 3 => .boolean
  | 4 => .object "DayBehind$Best"
  | 5 => .object "DayBehind$Text"
  | 6 => .array (.object "DayBehind$Sheet")
  | _ => .array .int
theorem nx_Day : ∀ a, a < 8 → ∀ b, b < 8 → a ≠ b → (fx_Day a).2.1 ≠ (fx_Day b).2.1 := by decide +kernel
theorem tk_Day : ∀ k, k < 8 → parseFieldDescriptor (fx_Day k).2.2.1 = some (tx_Day k) := by decide +kernel
theorem ix_Day : ∀ w ∈ u_ws "DayBehind" fx_Day 8, w ∈ lw_tbl := by decide +kernel
def fx_Mod : u_T := fun k => match k with
  | 0 => ("DayBehindModel", "now", "[I", true)
  | 1 => ("DayBehindModel", "kept", "[I", true)
  | 2 => ("DayBehindModel", "aside", "[I", true)
  | 3 => ("DayBehindModel", "isKept", "Z", false)
  | 4 => ("DayBehindModel", "found", "[I", true)
  | 5 => ("DayBehindModel", "away", "I", false)
  | 6 => ("DayBehindModel", "richFound", "I", false)
  | 7 => ("DayBehindModel", "tape", "[I", true)
  | 8 => ("DayBehindModel", "taped", "I", false)
  | 9 => ("DayBehindModel", "begins", "I", false)
  | 10 => ("DayBehindModel", "ends", "I", false)
  | 11 => ("DayBehindModel", "sort", "I", false)
  | 12 => ("DayBehindModel", "value", "I", false)
  | 13 => ("DayBehindModel", "isWrong", "Z", false)
  | 14 => ("DayBehindModel", "kinds", "[Ljava/lang/String;", true)
  | 15 => ("DayBehindModel", "items", "[I", true)
  | 16 => ("DayBehindModel", "itemMany", "I", false)
  | 17 => ("DayBehindModel", "oneThen", "I", false)
  | 18 => ("DayBehindModel", "eventThen", "I", false)
  | 19 => ("DayBehindModel", "widths", "[I", true)
  | 20 => ("DayBehindModel", "sizes", "[I", true)
  | 21 => ("DayBehindModel", "numbers", "[J", true)
  | _ => ("DayBehindModel", "moved", "[J", true)
def tx_Mod : Nat → FieldType := fun k => match k with
  | 0 => .array .int
  | 1 => .array .int
  | 2 => .array .int
  | 3 => .boolean
  | 4 => .array .int
  | 5 => .int
  | 6 => .int
  | 7 => .array .int
  | 8 => .int
  | 9 => .int
  | 10 => .int
  | 11 => .int
  | 12 => .int
  | 13 => .boolean
  | 14 => .array (.object "java/lang/String")
  | 15 => .array .int
  | 16 => .int
  | 17 => .int
  | 18 => .int
  | 19 => .array .int
  | 20 => .array .int
  | 21 => .array .long
  | _ => .array .long
theorem nx_Mod : ∀ a, a < 23 → ∀ b, b < 23 → a ≠ b → (fx_Mod a).2.1 ≠ (fx_Mod b).2.1 := by decide +kernel
theorem tk_Mod : ∀ k, k < 23 → parseFieldDescriptor (fx_Mod k).2.2.1 = some (tx_Mod k) := by decide +kernel
theorem ix_Mod : ∀ w ∈ u_ws "DayBehindModel" fx_Mod 23, w ∈ lw_tbl := by decide +kernel
def ex_cl : List vw_C := [("DayBehind$Best", fx_Best, 2), ("DayBehind$Event", fx_Event, 3), ("DayBehind$One", fx_One, 7), ("DayBehind$River", fx_River, 6), ("DayBehind$Sheet", fx_Sheet, 3), ("DayBehind$Text", fx_Text, 7), ("DayBehind", fx_Day, 8), ("DayBehindModel", fx_Mod, 23)]
abbrev ex_Y : Type := MethodName × ByteArray × Nat × Option FieldType
abbrev Y_Day_init : ex_Y := (⟨"DayBehind", "<init>", "()V"⟩, prog_1_method_1_code, 2, (Option.none : Option FieldType))
abbrev Y_Obj_init : ex_Y := (⟨"java/lang/Object", "<init>", "()V"⟩, object_method_1_code, 1, (Option.none : Option FieldType))
abbrev Y_River_init : ex_Y := (⟨"DayBehind$River", "<init>", "()V"⟩, prog_6_method_1_code, 2, (Option.none : Option FieldType))
abbrev Y_One_init : ex_Y := (⟨"DayBehind$One", "<init>", "()V"⟩, prog_5_method_1_code, 1, (Option.none : Option FieldType))
abbrev Y_Event_init : ex_Y := (⟨"DayBehind$Event", "<init>", "()V"⟩, prog_3_method_1_code, 1, (Option.none : Option FieldType))
abbrev Y_Best_init : ex_Y := (⟨"DayBehind$Best", "<init>", "()V"⟩, prog_2_method_1_code, 1, (Option.none : Option FieldType))
abbrev Y_Text_init : ex_Y := (⟨"DayBehind$Text", "<init>", "()V"⟩, prog_8_method_1_code, 1, (Option.none : Option FieldType))
abbrev Y_Sheet_init : ex_Y := (⟨"DayBehind$Sheet", "<init>", "()V"⟩, prog_7_method_1_code, 1, (Option.none : Option FieldType))
abbrev Y_Day_toll : ex_Y := (⟨"DayBehind", "toll", "(I)I"⟩, prog_1_method_2_code, 3, (Option.some FieldType.int))
abbrev Y_Day_outside : ex_Y := (⟨"DayBehind", "outside", "(III)Z"⟩, prog_1_method_44_code, 3, (Option.some FieldType.boolean))
abbrev Y_Day_refuse : ex_Y := (⟨"DayBehind", "refuse", "(I)I"⟩, prog_1_method_43_code, 3, (Option.some FieldType.int))
abbrev Y_Day_event : ex_Y := (⟨"DayBehind", "event", "(II)I"⟩, prog_1_method_3_code, 3, (Option.some FieldType.int))
abbrev Y_River_hasAllEvents : ex_Y := (⟨"DayBehind$River", "hasAllEvents", "()Z"⟩, prog_6_method_4_code, 1, (Option.some FieldType.boolean))
abbrev Y_River_addEvent : ex_Y := (⟨"DayBehind$River", "addEvent", "(II)I"⟩, prog_6_method_6_code, 3, (Option.some FieldType.int))
abbrev Y_Event_begin : ex_Y := (⟨"DayBehind$Event", "begin", "(II)V"⟩, prog_3_method_2_code, 3, (Option.none : Option FieldType))
abbrev Y_Day_eventOf : ex_Y := (⟨"DayBehind", "eventOf", "(II)I"⟩, prog_1_method_4_code, 4, (Option.some FieldType.int))
abbrev Y_Day_noEvent : ex_Y := (⟨"DayBehind", "noEvent", "(I)Z"⟩, prog_1_method_46_code, 2, (Option.some FieldType.boolean))
abbrev Y_River_thoseWhoKnow : ex_Y := (⟨"DayBehind$River", "thoseWhoKnow", "(I)I"⟩, prog_6_method_19_code, 4, (Option.some FieldType.int))
abbrev Y_One_hasHeard : ex_Y := (⟨"DayBehind$One", "hasHeard", "(I)Z"⟩, prog_5_method_7_code, 2, (Option.some FieldType.boolean))
abbrev Y_Event_hoursToRight : ex_Y := (⟨"DayBehind$Event", "hoursToRight", "(I)I"⟩, prog_3_method_4_code, 2, (Option.some FieldType.int))
abbrev Y_Math_max : ex_Y := (⟨"java/lang/Math", "max", "(II)I"⟩, prog_12_method_65_code, 2, (Option.some FieldType.int))
abbrev Y_Event_hoursToLeft : ex_Y := (⟨"DayBehind$Event", "hoursToLeft", "(I)I"⟩, prog_3_method_5_code, 2, (Option.some FieldType.int))
abbrev Y_Day_worth : ex_Y := (⟨"DayBehind", "worth", "(II)I"⟩, prog_1_method_5_code, 4, (Option.some FieldType.int))
abbrev Y_Day_one : ex_Y := (⟨"DayBehind", "one", "(II)I"⟩, prog_1_method_6_code, 3, (Option.some FieldType.int))
abbrev Y_River_hasAllPeople : ex_Y := (⟨"DayBehind$River", "hasAllPeople", "()Z"⟩, prog_6_method_3_code, 1, (Option.some FieldType.boolean))
abbrev Y_River_addOne : ex_Y := (⟨"DayBehind$River", "addOne", "(II)I"⟩, prog_6_method_5_code, 3, (Option.some FieldType.int))
abbrev Y_One_begin : ex_Y := (⟨"DayBehind$One", "begin", "(II)V"⟩, prog_5_method_2_code, 3, (Option.none : Option FieldType))
abbrev Y_Day_of : ex_Y := (⟨"DayBehind", "of", "(II)I"⟩, prog_1_method_7_code, 4, (Option.some FieldType.int))
abbrev Y_Day_noOne : ex_Y := (⟨"DayBehind", "noOne", "(I)Z"⟩, prog_1_method_45_code, 2, (Option.some FieldType.boolean))
abbrev Y_Day_set : ex_Y := (⟨"DayBehind", "set", "(III)I"⟩, prog_1_method_8_code, 6, (Option.some FieldType.int))
abbrev Y_Day_maySet : ex_Y := (⟨"DayBehind", "maySet", "(II)Z"⟩, prog_1_method_49_code, 3, (Option.some FieldType.boolean))
abbrev Y_Day_turn : ex_Y := (⟨"DayBehind", "turn", "(II)I"⟩, prog_1_method_9_code, 4, (Option.some FieldType.int))
abbrev Y_Day_as : ex_Y := (⟨"DayBehind", "as", "(II)I"⟩, prog_1_method_10_code, 3, (Option.some FieldType.int))
abbrev Y_Kinds_isUnder : ex_Y := (⟨"DayBehind$Kinds", "isUnder", "(II)Z"⟩, prog_4_method_2_code, 4, (Option.some FieldType.boolean))
abbrev Y_Day_gains : ex_Y := (⟨"DayBehind", "gains", "(III)I"⟩, prog_1_method_11_code, 4, (Option.some FieldType.int))
abbrev Y_Kinds_gain : ex_Y := (⟨"DayBehind$Kinds", "gain", "(IIZ)I"⟩, prog_4_method_3_code, 7, (Option.some FieldType.int))
abbrev Y_Day_cross : ex_Y := (⟨"DayBehind", "cross", "(I)I"⟩, prog_1_method_12_code, 3, (Option.some FieldType.int))
abbrev Y_One_canPay : ex_Y := (⟨"DayBehind$One", "canPay", "(I)Z"⟩, prog_5_method_5_code, 2, (Option.some FieldType.boolean))
abbrev Y_One_goOver : ex_Y := (⟨"DayBehind$One", "goOver", "(I)V"⟩, prog_5_method_6_code, 2, (Option.none : Option FieldType))
abbrev Y_Day_tells : ex_Y := (⟨"DayBehind", "tells", "(II)I"⟩, prog_1_method_13_code, 6, (Option.some FieldType.int))
abbrev Y_Int_bitCount : ex_Y := (⟨"java/lang/Integer", "bitCount", "(I)I"⟩, prog_11_method_49_code, 1, (Option.some FieldType.int))
abbrev Y_Day_hours : ex_Y := (⟨"DayBehind", "hours", "(I)I"⟩, prog_1_method_14_code, 2, (Option.some FieldType.int))
abbrev Y_River_passHours : ex_Y := (⟨"DayBehind$River", "passHours", "(I)V"⟩, prog_6_method_8_code, 3, (Option.none : Option FieldType))
abbrev Y_River_passHour : ex_Y := (⟨"DayBehind$River", "passHour", "()V"⟩, prog_6_method_9_code, 2, (Option.none : Option FieldType))
abbrev Y_River_letCross : ex_Y := (⟨"DayBehind$River", "letCross", "(I)V"⟩, prog_6_method_10_code, 3, (Option.none : Option FieldType))
abbrev Y_One_wantsOver : ex_Y := (⟨"DayBehind$One", "wantsOver", "(I)Z"⟩, prog_5_method_4_code, 2, (Option.some FieldType.boolean))
abbrev Y_River_spread : ex_Y := (⟨"DayBehind$River", "spread", "(I)V"⟩, prog_6_method_11_code, 4, (Option.none : Option FieldType))
abbrev Y_One_isTeller : ex_Y := (⟨"DayBehind$One", "isTeller", "()Z"⟩, prog_5_method_9_code, 1, (Option.some FieldType.boolean))
abbrev Y_One_hear : ex_Y := (⟨"DayBehind$One", "hear", "(I)V"⟩, prog_5_method_8_code, 2, (Option.none : Option FieldType))
abbrev Y_River_meet : ex_Y := (⟨"DayBehind$River", "meet", "()V"⟩, prog_6_method_12_code, 2, (Option.none : Option FieldType))
abbrev Y_River_meetWhatIsKnownTo : ex_Y := (⟨"DayBehind$River", "meetWhatIsKnownTo", "(LDayBehind$One;)V"⟩, prog_6_method_13_code, 3, (Option.none : Option FieldType))
abbrev Y_Event_canBeMet : ex_Y := (⟨"DayBehind$Event", "canBeMet", "(I)Z"⟩, prog_3_method_6_code, 2, (Option.some FieldType.boolean))
abbrev Y_River_befall : ex_Y := (⟨"DayBehind$River", "befall", "(II)V"⟩, prog_6_method_14_code, 4, (Option.none : Option FieldType))
abbrev Y_One_live : ex_Y := (⟨"DayBehind$One", "live", "(II)V"⟩, prog_5_method_10_code, 4, (Option.none : Option FieldType))
abbrev Y_Math_min : ex_Y := (⟨"java/lang/Math", "min", "(II)I"⟩, prog_12_method_69_code, 2, (Option.some FieldType.int))
abbrev Y_River_allPurses : ex_Y := (⟨"DayBehind$River", "allPurses", "()I"⟩, prog_6_method_15_code, 3, (Option.some FieldType.int))
abbrev Y_Day_now : ex_Y := (⟨"DayBehind", "now", "(I)I"⟩, prog_1_method_15_code, 2, (Option.some FieldType.int))
abbrev Y_River_allCrossed : ex_Y := (⟨"DayBehind$River", "allCrossed", "()I"⟩, prog_6_method_16_code, 3, (Option.some FieldType.int))
abbrev Y_River_thoseOnLeft : ex_Y := (⟨"DayBehind$River", "thoseOnLeft", "()I"⟩, prog_6_method_18_code, 3, (Option.some FieldType.int))
abbrev Y_River_metEvents : ex_Y := (⟨"DayBehind$River", "metEvents", "()I"⟩, prog_6_method_20_code, 3, (Option.some FieldType.int))
abbrev Y_Day_on : ex_Y := (⟨"DayBehind", "on", "(III)I"⟩, prog_1_method_16_code, 5, (Option.some FieldType.int))
abbrev Y_Day_startTrial : ex_Y := (⟨"DayBehind", "startTrial", "()V"⟩, prog_1_method_50_code, 1, (Option.none : Option FieldType))
abbrev Y_River_become : ex_Y := (⟨"DayBehind$River", "become", "(LDayBehind$River;)V"⟩, prog_6_method_2_code, 3, (Option.none : Option FieldType))
abbrev Y_One_become : ex_Y := (⟨"DayBehind$One", "become", "(LDayBehind$One;)V"⟩, prog_5_method_3_code, 2, (Option.none : Option FieldType))
abbrev Y_Event_become : ex_Y := (⟨"DayBehind$Event", "become", "(LDayBehind$Event;)V"⟩, prog_3_method_3_code, 2, (Option.none : Option FieldType))
abbrev Y_Day_learns : ex_Y := (⟨"DayBehind", "learns", "(II)I"⟩, prog_1_method_17_code, 4, (Option.some FieldType.int))
abbrev Y_Day_first : ex_Y := (⟨"DayBehind", "first", "(I)I"⟩, prog_1_method_18_code, 4, (Option.some FieldType.int))
abbrev Y_Int_numberOfTrailingZeros : ex_Y := (⟨"java/lang/Integer", "numberOfTrailingZeros", "(I)I"⟩, prog_11_method_48_code, 2, (Option.some FieldType.int))
abbrev Y_Day_met : ex_Y := (⟨"DayBehind", "met", "(I)I"⟩, prog_1_method_19_code, 2, (Option.some FieldType.int))
abbrev Y_Day_broke : ex_Y := (⟨"DayBehind", "broke", "(I)I"⟩, prog_1_method_20_code, 3, (Option.some FieldType.int))
abbrev Y_Day_clocks : ex_Y := (⟨"DayBehind", "clocks", "(II)I"⟩, prog_1_method_21_code, 3, (Option.some FieldType.int))
abbrev Y_Day_seekClocks : ex_Y := (⟨"DayBehind", "seekClocks", "(II)V"⟩, prog_1_method_54_code, 5, (Option.none : Option FieldType))
abbrev Y_Best_begin : ex_Y := (⟨"DayBehind$Best", "begin", "(I)V"⟩, prog_2_method_2_code, 2, (Option.none : Option FieldType))
abbrev Y_Day_startTrialByClocks : ex_Y := (⟨"DayBehind", "startTrialByClocks", "(III)V"⟩, prog_1_method_51_code, 4, (Option.none : Option FieldType))
abbrev Y_Best_offer : ex_Y := (⟨"DayBehind$Best", "offer", "(II)V"⟩, prog_2_method_3_code, 3, (Option.none : Option FieldType))
abbrev Y_Day_rich : ex_Y := (⟨"DayBehind", "rich", "(II)I"⟩, prog_1_method_22_code, 3, (Option.some FieldType.int))
abbrev Y_Day_bears : ex_Y := (⟨"DayBehind", "bears", "(II)I"⟩, prog_1_method_23_code, 4, (Option.some FieldType.int))
abbrev Y_Day_bank : ex_Y := (⟨"DayBehind", "bank", "(II)I"⟩, prog_1_method_24_code, 4, (Option.some FieldType.int))
abbrev Y_Day_purseInTrial : ex_Y := (⟨"DayBehind", "purseInTrial", "(II)I"⟩, prog_1_method_52_code, 3, (Option.some FieldType.int))
abbrev Y_Day_kind : ex_Y := (⟨"DayBehind", "kind", "(II)I"⟩, prog_1_method_25_code, 4, (Option.some FieldType.int))
abbrev Y_Day_news : ex_Y := (⟨"DayBehind", "news", "(II)I"⟩, prog_1_method_26_code, 4, (Option.some FieldType.int))
abbrev Y_Day_needed : ex_Y := (⟨"DayBehind", "needed", "(I)I"⟩, prog_1_method_27_code, 3, (Option.some FieldType.int))
abbrev Y_Day_metInTrial : ex_Y := (⟨"DayBehind", "metInTrial", "(I)I"⟩, prog_1_method_53_code, 2, (Option.some FieldType.int))
abbrev Y_River_sendAway : ex_Y := (⟨"DayBehind$River", "sendAway", "(I)V"⟩, prog_6_method_7_code, 3, (Option.none : Option FieldType))
abbrev Y_Day_sum : ex_Y := (⟨"DayBehind", "sum", "(II)I"⟩, prog_1_method_28_code, 4, (Option.some FieldType.int))
abbrev Y_Day_feed : ex_Y := (⟨"DayBehind", "feed", "(II)I"⟩, prog_1_method_29_code, 4, (Option.some FieldType.int))
abbrev Y_Text_append : ex_Y := (⟨"DayBehind$Text", "append", "(I)V"⟩, prog_8_method_2_code, 2, (Option.none : Option FieldType))
abbrev Y_Day_wipe : ex_Y := (⟨"DayBehind", "wipe", "()I"⟩, prog_1_method_30_code, 2, (Option.some FieldType.int))
abbrev Y_Day_river : ex_Y := (⟨"DayBehind", "river", "()I"⟩, prog_1_method_31_code, 2, (Option.some FieldType.int))
abbrev Y_Text_parse : ex_Y := (⟨"DayBehind$Text", "parse", "(LDayBehind$River;)I"⟩, prog_8_method_3_code, 3, (Option.some FieldType.int))
abbrev Y_Text_step : ex_Y := (⟨"DayBehind$Text", "step", "()V"⟩, prog_8_method_12_code, 1, (Option.none : Option FieldType))
abbrev Y_Text_isLetter : ex_Y := (⟨"DayBehind$Text", "isLetter", "(I)Z"⟩, prog_8_method_13_code, 1, (Option.some FieldType.boolean))
abbrev Y_Text_isDigit : ex_Y := (⟨"DayBehind$Text", "isDigit", "(I)Z"⟩, prog_8_method_14_code, 1, (Option.some FieldType.boolean))
abbrev Y_Text_parseItem : ex_Y := (⟨"DayBehind$Text", "parseItem", "(LDayBehind$River;)Z"⟩, prog_8_method_4_code, 3, (Option.some FieldType.boolean))
abbrev Y_Text_takes : ex_Y := (⟨"DayBehind$Text", "takes", "(Ljava/lang/String;)Z"⟩, prog_8_method_9_code, 2, (Option.some FieldType.boolean))
abbrev Y_Text_isWord : ex_Y := (⟨"DayBehind$Text", "isWord", "(Ljava/lang/String;)Z"⟩, prog_8_method_10_code, 3, (Option.some FieldType.boolean))
abbrev Y_Str_length : ex_Y := (⟨"java/lang/String", "length", "()I"⟩, prog_13_method_54_code, 1, (Option.some FieldType.int))
abbrev Y_Str_coder : ex_Y := (⟨"java/lang/String", "coder", "()B"⟩, prog_13_method_152_code, 1, (Option.some FieldType.byte))
abbrev Y_Str_charAt : ex_Y := (⟨"java/lang/String", "charAt", "(I)C"⟩, prog_13_method_56_code, 2, (Option.some FieldType.char))
abbrev Y_Str_isLatin1 : ex_Y := (⟨"java/lang/String", "isLatin1", "()Z"⟩, prog_13_method_154_code, 1, (Option.some FieldType.boolean))
abbrev Y_Lat_charAt : ex_Y := (⟨"java/lang/StringLatin1", "charAt", "([BI)C"⟩, prog_14_method_2_code, 2, (Option.some FieldType.char))
abbrev Y_Str_checkIndex : ex_Y := (⟨"java/lang/String", "checkIndex", "(II)V"⟩, prog_13_method_155_code, 2, (Option.none : Option FieldType))
abbrev Y_Pre_checkIndex : ex_Y := (⟨"jdk/internal/util/Preconditions", "checkIndex", "(IILjava/util/function/BiFunction;)I"⟩, prog_17_method_11_code, 3, (Option.some FieldType.int))
abbrev Y_Utf_charAt : ex_Y := (⟨"java/lang/StringUTF16", "charAt", "([BI)C"⟩, prog_15_method_83_code, 2, (Option.some FieldType.char))
abbrev Y_Utf_checkIndex : ex_Y := (⟨"java/lang/StringUTF16", "checkIndex", "(I[B)V"⟩, prog_15_method_91_code, 2, (Option.none : Option FieldType))
abbrev Y_Utf_length : ex_Y := (⟨"java/lang/StringUTF16", "length", "([B)I"⟩, prog_15_method_6_code, 1, (Option.some FieldType.int))
abbrev Y_Utf_getChar : ex_Y := (⟨"java/lang/StringUTF16", "getChar", "([BI)C"⟩, prog_15_method_5_code, 2, (Option.some FieldType.char))
abbrev Y_Text_parseToll : ex_Y := (⟨"DayBehind$Text", "parseToll", "(LDayBehind$River;)Z"⟩, prog_8_method_5_code, 2, (Option.some FieldType.boolean))
abbrev Y_Text_takesNumber : ex_Y := (⟨"DayBehind$Text", "takesNumber", "(I)Z"⟩, prog_8_method_11_code, 2, (Option.some FieldType.boolean))
abbrev Y_Text_parseEvent : ex_Y := (⟨"DayBehind$Text", "parseEvent", "(LDayBehind$River;)Z"⟩, prog_8_method_6_code, 4, (Option.some FieldType.boolean))
abbrev Y_Text_nameOf : ex_Y := (⟨"DayBehind$Text", "nameOf", "(I)Ljava/lang/String;"⟩, prog_8_method_8_code, 1, (Option.some (FieldType.object "java/lang/String")))
abbrev Y_Text_parseOne : ex_Y := (⟨"DayBehind$Text", "parseOne", "(LDayBehind$River;I)Z"⟩, prog_8_method_7_code, 5, (Option.some FieldType.boolean))
abbrev Y_Day_sheet : ex_Y := (⟨"DayBehind", "sheet", "(III)I"⟩, prog_1_method_32_code, 4, (Option.some FieldType.int))
abbrev Y_Day_noSheet : ex_Y := (⟨"DayBehind", "noSheet", "(I)Z"⟩, prog_1_method_47_code, 1, (Option.some FieldType.boolean))
abbrev Y_Sheet_begin : ex_Y := (⟨"DayBehind$Sheet", "begin", "(II)V"⟩, prog_7_method_2_code, 4, (Option.none : Option FieldType))
abbrev Y_Day_write : ex_Y := (⟨"DayBehind", "write", "(IIJ)J"⟩, prog_1_method_33_code, 8, (Option.some FieldType.long))
abbrev Y_Day_findingOf : ex_Y := (⟨"DayBehind", "findingOf", "(I)I"⟩, prog_1_method_48_code, 2, (Option.some FieldType.int))
abbrev Y_Sheet_isMissing : ex_Y := (⟨"DayBehind$Sheet", "isMissing", "()Z"⟩, prog_7_method_3_code, 1, (Option.some FieldType.boolean))
abbrev Y_Sheet_put : ex_Y := (⟨"DayBehind$Sheet", "put", "(IJ)V"⟩, prog_7_method_5_code, 4, (Option.none : Option FieldType))
abbrev Y_Day_copy : ex_Y := (⟨"DayBehind", "copy", "(IIIII)I"⟩, prog_1_method_34_code, 6, (Option.some FieldType.int))
abbrev Y_Sheet_holds : ex_Y := (⟨"DayBehind$Sheet", "holds", "(II)Z"⟩, prog_7_method_4_code, 3, (Option.some FieldType.boolean))
abbrev Y_Day_lays : ex_Y := (⟨"DayBehind", "lays", "(I)I"⟩, prog_1_method_35_code, 8, (Option.some FieldType.int))
abbrev Y_Day_book : ex_Y := (⟨"DayBehind", "book", "(II)I"⟩, prog_1_method_36_code, 5, (Option.some FieldType.int))
abbrev Y_Day_read : ex_Y := (⟨"DayBehind", "read", "(II)I"⟩, prog_1_method_37_code, 7, (Option.some FieldType.int))
abbrev Y_Day_trialFits : ex_Y := (⟨"DayBehind", "trialFits", "(LDayBehind$Sheet;I)Z"⟩, prog_1_method_55_code, 4, (Option.some FieldType.boolean))
abbrev Y_Day_image : ex_Y := (⟨"DayBehind", "image", "()I"⟩, prog_1_method_38_code, 1, (Option.some FieldType.int))
abbrev Y_Day_undo : ex_Y := (⟨"DayBehind", "undo", "()I"⟩, prog_1_method_39_code, 1, (Option.some FieldType.int))
abbrev Y_Day_tear : ex_Y := (⟨"DayBehind", "tear", "()I"⟩, prog_1_method_40_code, 2, (Option.some FieldType.int))
abbrev Y_Day_count : ex_Y := (⟨"DayBehind", "count", "(I)I"⟩, prog_1_method_41_code, 2, (Option.some FieldType.int))
abbrev Y_River_allKnown : ex_Y := (⟨"DayBehind$River", "allKnown", "()I"⟩, prog_6_method_17_code, 3, (Option.some FieldType.int))
abbrev Y_Day_status : ex_Y := (⟨"DayBehind", "status", "(I)I"⟩, prog_1_method_42_code, 4, (Option.some FieldType.int))
abbrev Y_Mod_init : ex_Y := (⟨"DayBehindModel", "<init>", "()V"⟩, prog_10_method_1_code, 1, (Option.none : Option FieldType))
abbrev Y_Mod_toll : ex_Y := (⟨"DayBehindModel", "toll", "(I)I"⟩, prog_10_method_16_code, 2, (Option.some FieldType.int))
abbrev Y_Mod_within : ex_Y := (⟨"DayBehindModel", "within", "(III)Z"⟩, prog_10_method_3_code, 3, (Option.some FieldType.boolean))
abbrev Y_Mod_become : ex_Y := (⟨"DayBehindModel", "become", "(II)I"⟩, prog_10_method_4_code, 4, (Option.some FieldType.int))
abbrev Y_Mod_finding : ex_Y := (⟨"DayBehindModel", "finding", "(I)I"⟩, prog_10_method_2_code, 2, (Option.some FieldType.int))
abbrev Y_Mod_event : ex_Y := (⟨"DayBehindModel", "event", "(II)I"⟩, prog_10_method_18_code, 3, (Option.some FieldType.int))
abbrev Y_Mod_isWorth : ex_Y := (⟨"DayBehindModel", "isWorth", "(I)Z"⟩, prog_10_method_11_code, 1, (Option.some FieldType.boolean))
abbrev Y_Mod_happens : ex_Y := (⟨"DayBehindModel", "happens", "(II)I"⟩, prog_10_method_17_code, 4, (Option.some FieldType.int))
abbrev Y_Mod_atEvent : ex_Y := (⟨"DayBehindModel", "atEvent", "(II)I"⟩, prog_10_method_12_code, 2, (Option.some FieldType.int))
abbrev Y_Mod_eventOf : ex_Y := (⟨"DayBehindModel", "eventOf", "(II)I"⟩, prog_10_method_20_code, 4, (Option.some FieldType.int))
abbrev Y_Mod_isEvent : ex_Y := (⟨"DayBehindModel", "isEvent", "(I)Z"⟩, prog_10_method_9_code, 2, (Option.some FieldType.boolean))
abbrev Y_Mod_eventIs : ex_Y := (⟨"DayBehindModel", "eventIs", "(II)I"⟩, prog_10_method_13_code, 3, (Option.some FieldType.int))
abbrev Y_Mod_whoKnow : ex_Y := (⟨"DayBehindModel", "whoKnow", "(I)I"⟩, prog_10_method_19_code, 4, (Option.some FieldType.int))
abbrev Y_Mod_oneIs : ex_Y := (⟨"DayBehindModel", "oneIs", "(II)I"⟩, prog_10_method_15_code, 3, (Option.some FieldType.int))
abbrev Y_Mod_at : ex_Y := (⟨"DayBehindModel", "at", "(II)I"⟩, prog_10_method_14_code, 2, (Option.some FieldType.int))
abbrev Y_Mod_has : ex_Y := (⟨"DayBehindModel", "has", "(II)Z"⟩, prog_10_method_7_code, 2, (Option.some FieldType.boolean))
abbrev Y_Mod_worth : ex_Y := (⟨"DayBehindModel", "worth", "(II)I"⟩, prog_10_method_21_code, 3, (Option.some FieldType.int))
abbrev Y_Mod_one : ex_Y := (⟨"DayBehindModel", "one", "(II)I"⟩, prog_10_method_24_code, 3, (Option.some FieldType.int))
abbrev Y_Mod_isKind : ex_Y := (⟨"DayBehindModel", "isKind", "(I)Z"⟩, prog_10_method_22_code, 1, (Option.some FieldType.boolean))
abbrev Y_Mod_comes : ex_Y := (⟨"DayBehindModel", "comes", "(IIIII)I"⟩, prog_10_method_23_code, 7, (Option.some FieldType.int))
abbrev Y_Mod_of : ex_Y := (⟨"DayBehindModel", "of", "(II)I"⟩, prog_10_method_25_code, 3, (Option.some FieldType.int))
abbrev Y_Mod_isOne : ex_Y := (⟨"DayBehindModel", "isOne", "(I)Z"⟩, prog_10_method_10_code, 2, (Option.some FieldType.boolean))
abbrev Y_Mod_set : ex_Y := (⟨"DayBehindModel", "set", "(III)I"⟩, prog_10_method_27_code, 4, (Option.some FieldType.int))
abbrev Y_Mod_maySet : ex_Y := (⟨"DayBehindModel", "maySet", "(II)Z"⟩, prog_10_method_26_code, 3, (Option.some FieldType.boolean))
abbrev Y_Mod_turn : ex_Y := (⟨"DayBehindModel", "turn", "(II)I"⟩, prog_10_method_28_code, 3, (Option.some FieldType.int))
abbrev Y_Mod_as : ex_Y := (⟨"DayBehindModel", "as", "(II)I"⟩, prog_10_method_31_code, 3, (Option.some FieldType.int))
abbrev Y_Mod_isUnder : ex_Y := (⟨"DayBehindModel", "isUnder", "(II)Z"⟩, prog_10_method_30_code, 3, (Option.some FieldType.boolean))
abbrev Y_Mod_above : ex_Y := (⟨"DayBehindModel", "above", "(I)I"⟩, prog_10_method_29_code, 1, (Option.some FieldType.int))
abbrev Y_Mod_gains : ex_Y := (⟨"DayBehindModel", "gains", "(III)I"⟩, prog_10_method_33_code, 4, (Option.some FieldType.int))
abbrev Y_Mod_gainsOf : ex_Y := (⟨"DayBehindModel", "gainsOf", "(IIZ)I"⟩, prog_10_method_32_code, 5, (Option.some FieldType.int))
abbrev Y_Mod_cross : ex_Y := (⟨"DayBehindModel", "cross", "(I)I"⟩, prog_10_method_37_code, 2, (Option.some FieldType.int))
abbrev Y_Mod_canPay : ex_Y := (⟨"DayBehindModel", "canPay", "(I)Z"⟩, prog_10_method_36_code, 2, (Option.some FieldType.boolean))
abbrev Y_Mod_crosses : ex_Y := (⟨"DayBehindModel", "crosses", "(I)V"⟩, prog_10_method_35_code, 2, (Option.none : Option FieldType))
abbrev Y_Mod_pays : ex_Y := (⟨"DayBehindModel", "pays", "(II)V"⟩, prog_10_method_34_code, 3, (Option.none : Option FieldType))
abbrev Y_Mod_tells : ex_Y := (⟨"DayBehindModel", "tells", "(II)I"⟩, prog_10_method_39_code, 3, (Option.some FieldType.int))
abbrev Y_Mod_told : ex_Y := (⟨"DayBehindModel", "told", "(II)I"⟩, prog_10_method_38_code, 4, (Option.some FieldType.int))
abbrev Y_Mod_bits : ex_Y := (⟨"DayBehindModel", "bits", "(I)I"⟩, prog_10_method_8_code, 3, (Option.some FieldType.int))
abbrev Y_Mod_hours : ex_Y := (⟨"DayBehindModel", "hours", "(I)I"⟩, prog_10_method_47_code, 2, (Option.some FieldType.int))
abbrev Y_Mod_hoursGo : ex_Y := (⟨"DayBehindModel", "hoursGo", "(I)V"⟩, prog_10_method_45_code, 3, (Option.none : Option FieldType))
abbrev Y_Mod_hour : ex_Y := (⟨"DayBehindModel", "hour", "()V"⟩, prog_10_method_44_code, 3, (Option.none : Option FieldType))
abbrev Y_Mod_isThere : ex_Y := (⟨"DayBehindModel", "isThere", "(I)Z"⟩, prog_10_method_40_code, 2, (Option.some FieldType.boolean))
abbrev Y_Mod_tellersTell : ex_Y := (⟨"DayBehindModel", "tellersTell", "()V"⟩, prog_10_method_41_code, 5, (Option.none : Option FieldType))
abbrev Y_Mod_firemenMeet : ex_Y := (⟨"DayBehindModel", "firemenMeet", "()V"⟩, prog_10_method_42_code, 4, (Option.none : Option FieldType))
abbrev Y_Mod_comesOn : ex_Y := (⟨"DayBehindModel", "comesOn", "(II)V"⟩, prog_10_method_43_code, 4, (Option.none : Option FieldType))
abbrev Y_Mod_sumOf : ex_Y := (⟨"DayBehindModel", "sumOf", "(I)I"⟩, prog_10_method_46_code, 4, (Option.some FieldType.int))
abbrev Y_Mod_now : ex_Y := (⟨"DayBehindModel", "now", "(I)I"⟩, prog_10_method_50_code, 2, (Option.some FieldType.int))
abbrev Y_Mod_onLeft : ex_Y := (⟨"DayBehindModel", "onLeft", "()I"⟩, prog_10_method_49_code, 3, (Option.some FieldType.int))
abbrev Y_Mod_metNow : ex_Y := (⟨"DayBehindModel", "metNow", "()I"⟩, prog_10_method_48_code, 3, (Option.some FieldType.int))
abbrev Y_Mod_on : ex_Y := (⟨"DayBehindModel", "on", "(III)I"⟩, prog_10_method_53_code, 4, (Option.some FieldType.int))
abbrev Y_Mod_fieldOn : ex_Y := (⟨"DayBehindModel", "fieldOn", "(III)I"⟩, prog_10_method_51_code, 4, (Option.some FieldType.int))
abbrev Y_Mod_copyRow : ex_Y := (⟨"DayBehindModel", "copyRow", "([I[I)V"⟩, prog_10_method_5_code, 3, (Option.none : Option FieldType))
abbrev Y_Mod_putBack : ex_Y := (⟨"DayBehindModel", "putBack", "(I)I"⟩, prog_10_method_6_code, 2, (Option.some FieldType.int))
abbrev Y_Mod_learns : ex_Y := (⟨"DayBehindModel", "learns", "(II)I"⟩, prog_10_method_56_code, 3, (Option.some FieldType.int))
abbrev Y_Mod_learnsIn : ex_Y := (⟨"DayBehindModel", "learnsIn", "(II)I"⟩, prog_10_method_55_code, 4, (Option.some FieldType.int))
abbrev Y_Mod_orNone : ex_Y := (⟨"DayBehindModel", "orNone", "(I)I"⟩, prog_10_method_54_code, 2, (Option.some FieldType.int))
abbrev Y_Mod_first : ex_Y := (⟨"DayBehindModel", "first", "(I)I"⟩, prog_10_method_57_code, 4, (Option.some FieldType.int))
abbrev Y_Mod_met : ex_Y := (⟨"DayBehindModel", "met", "(I)I"⟩, prog_10_method_59_code, 2, (Option.some FieldType.int))
abbrev Y_Mod_metOn : ex_Y := (⟨"DayBehindModel", "metOn", "(I)I"⟩, prog_10_method_58_code, 2, (Option.some FieldType.int))
abbrev Y_Mod_broke : ex_Y := (⟨"DayBehindModel", "broke", "(I)I"⟩, prog_10_method_60_code, 3, (Option.some FieldType.int))
abbrev Y_Mod_clocks : ex_Y := (⟨"DayBehindModel", "clocks", "(II)I"⟩, prog_10_method_62_code, 3, (Option.some FieldType.int))
abbrev Y_Mod_findClocks : ex_Y := (⟨"DayBehindModel", "findClocks", "(II)I"⟩, prog_10_method_61_code, 8, (Option.some FieldType.int))
abbrev Y_Mod_purseOn : ex_Y := (⟨"DayBehindModel", "purseOn", "(II)I"⟩, prog_10_method_52_code, 3, (Option.some FieldType.int))
abbrev Y_Mod_rich : ex_Y := (⟨"DayBehindModel", "rich", "(II)I"⟩, prog_10_method_63_code, 3, (Option.some FieldType.int))
abbrev Y_Mod_bears : ex_Y := (⟨"DayBehindModel", "bears", "(II)I"⟩, prog_10_method_65_code, 5, (Option.some FieldType.int))
abbrev Y_Mod_allOn : ex_Y := (⟨"DayBehindModel", "allOn", "(I)I"⟩, prog_10_method_64_code, 2, (Option.some FieldType.int))
abbrev Y_Mod_bank : ex_Y := (⟨"DayBehindModel", "bank", "(II)I"⟩, prog_10_method_67_code, 3, (Option.some FieldType.int))
abbrev Y_Mod_bestWith : ex_Y := (⟨"DayBehindModel", "bestWith", "(IIII)I"⟩, prog_10_method_66_code, 10, (Option.some FieldType.int))
abbrev Y_Mod_kind : ex_Y := (⟨"DayBehindModel", "kind", "(II)I"⟩, prog_10_method_68_code, 3, (Option.some FieldType.int))
abbrev Y_Mod_news : ex_Y := (⟨"DayBehindModel", "news", "(II)I"⟩, prog_10_method_69_code, 8, (Option.some FieldType.int))
abbrev Y_Mod_needed : ex_Y := (⟨"DayBehindModel", "needed", "(I)I"⟩, prog_10_method_70_code, 6, (Option.some FieldType.int))
abbrev Y_Mod_sum : ex_Y := (⟨"DayBehindModel", "sum", "(II)I"⟩, prog_10_method_71_code, 6, (Option.some FieldType.int))
abbrev Y_Mod_feed : ex_Y := (⟨"DayBehindModel", "feed", "(II)I"⟩, prog_10_method_72_code, 4, (Option.some FieldType.int))
abbrev Y_Mod_wipe : ex_Y := (⟨"DayBehindModel", "wipe", "()I"⟩, prog_10_method_73_code, 2, (Option.some FieldType.int))
abbrev Y_Mod_river : ex_Y := (⟨"DayBehindModel", "river", "()I"⟩, prog_10_method_84_code, 3, (Option.some FieldType.int))
abbrev Y_Mod_next : ex_Y := (⟨"DayBehindModel", "next", "()V"⟩, prog_10_method_75_code, 2, (Option.none : Option FieldType))
abbrev Y_Mod_byteAt : ex_Y := (⟨"DayBehindModel", "byteAt", "(I)I"⟩, prog_10_method_74_code, 2, (Option.some FieldType.int))
abbrev Y_Mod_readItem : ex_Y := (⟨"DayBehindModel", "readItem", "()V"⟩, prog_10_method_82_code, 5, (Option.none : Option FieldType))
abbrev Y_Mod_kindTold : ex_Y := (⟨"DayBehindModel", "kindTold", "()I"⟩, prog_10_method_80_code, 3, (Option.some FieldType.int))
abbrev Y_Mod_isWord : ex_Y := (⟨"DayBehindModel", "isWord", "(Ljava/lang/String;)Z"⟩, prog_10_method_76_code, 4, (Option.some FieldType.boolean))
abbrev Y_Mod_must : ex_Y := (⟨"DayBehindModel", "must", "(Z)V"⟩, prog_10_method_77_code, 2, (Option.none : Option FieldType))
abbrev Y_Mod_isNext : ex_Y := (⟨"DayBehindModel", "isNext", "(Ljava/lang/String;)Z"⟩, prog_10_method_81_code, 3, (Option.some FieldType.boolean))
abbrev Y_Mod_number : ex_Y := (⟨"DayBehindModel", "number", "(II)I"⟩, prog_10_method_78_code, 4, (Option.some FieldType.int))
abbrev Y_Mod_item : ex_Y := (⟨"DayBehindModel", "item", "(IIIII)V"⟩, prog_10_method_79_code, 7, (Option.none : Option FieldType))
abbrev Y_Mod_isSo : ex_Y := (⟨"DayBehindModel", "isSo", "(I)I"⟩, prog_10_method_83_code, 4, (Option.some FieldType.int))
abbrev Y_Mod_sheet : ex_Y := (⟨"DayBehindModel", "sheet", "(III)I"⟩, prog_10_method_87_code, 5, (Option.some FieldType.int))
abbrev Y_Mod_isSheet : ex_Y := (⟨"DayBehindModel", "isSheet", "(I)Z"⟩, prog_10_method_85_code, 1, (Option.some FieldType.boolean))
abbrev Y_Mod_write : ex_Y := (⟨"DayBehindModel", "write", "(IIJ)J"⟩, prog_10_method_88_code, 7, (Option.some FieldType.long))
abbrev Y_Mod_cutTo : ex_Y := (⟨"DayBehindModel", "cutTo", "(JI)J"⟩, prog_10_method_86_code, 3, (Option.some FieldType.long))
abbrev Y_Mod_copy : ex_Y := (⟨"DayBehindModel", "copy", "(IIIII)I"⟩, prog_10_method_89_code, 7, (Option.some FieldType.int))
abbrev Y_Mod_lays : ex_Y := (⟨"DayBehindModel", "lays", "(I)I"⟩, prog_10_method_91_code, 6, (Option.some FieldType.int))
abbrev Y_Mod_lacks : ex_Y := (⟨"DayBehindModel", "lacks", "(I)I"⟩, prog_10_method_90_code, 2, (Option.some FieldType.int))
abbrev Y_Mod_book : ex_Y := (⟨"DayBehindModel", "book", "(II)I"⟩, prog_10_method_92_code, 4, (Option.some FieldType.int))
abbrev Y_Mod_read : ex_Y := (⟨"DayBehindModel", "read", "(II)I"⟩, prog_10_method_94_code, 8, (Option.some FieldType.int))
abbrev Y_Mod_wasSo : ex_Y := (⟨"DayBehindModel", "wasSo", "(II)Z"⟩, prog_10_method_93_code, 5, (Option.some FieldType.boolean))
abbrev Y_Mod_image : ex_Y := (⟨"DayBehindModel", "image", "()I"⟩, prog_10_method_95_code, 1, (Option.some FieldType.int))
abbrev Y_Mod_undo : ex_Y := (⟨"DayBehindModel", "undo", "()I"⟩, prog_10_method_96_code, 1, (Option.some FieldType.int))
abbrev Y_Mod_tear : ex_Y := (⟨"DayBehindModel", "tear", "()I"⟩, prog_10_method_97_code, 2, (Option.some FieldType.int))
abbrev Y_Mod_count : ex_Y := (⟨"DayBehindModel", "count", "(I)I"⟩, prog_10_method_98_code, 4, (Option.some FieldType.int))
abbrev Y_Mod_status : ex_Y := (⟨"DayBehindModel", "status", "(I)I"⟩, prog_10_method_99_code, 2, (Option.some FieldType.int))
abbrev Y_Law_law : ex_Y := (⟨"DayBehindLaw", "law", "([I)Z"⟩, code, 4, (Option.some FieldType.boolean))
end
section
/-! THE MACHINE AS A CALCULUS: Ev, 'from here the method comes to its end'; Con, 'called so, it answers so'. Worlds are lists of cells; the cell of number k lies at base + k. -/
abbrev ex_G : Type := Launch × va_G × Nat × (Nat → ClassId) × Nat × (Nat → Nat) × (Nat → Nat)
abbrev ex_C : Type := Program × Env × Room × State × MethodId × Array Value × List Frame × Method × Code × (State → Prop)
def ex_lk : List (Option Value) → Nat → Option Value
  | [], _ => none
  | a :: _, 0 => a
  | _ :: t, n + 1 => ex_lk t n
def ex_ll : Nat → List (Option Value) → List (Nat × Value)
  | _, [] => []
  | k, none :: t => ex_ll (k + 1) t
  | k, some v :: t => (k, v) :: ex_ll (k + 1) t
def ex_isL : Option Value → Bool
  | some (.long _) => true
  | some (.double _) => true
  | _ => false
def ex_st : List (Option Value) → Nat → Value → List (Option Value)
  | [], 0, v => [some v]
  | [], n + 1, v => none :: ex_st [] n v
  | _ :: t, 0, v => some v :: t
  | a :: t, n + 1, v => (if n == 0 && ex_isL a then none else a) :: ex_st t n v
def ex_kill : List (Option Value) → Nat → List (Option Value)
  | [], _ => []
  | _ :: t, 0 => none :: t
  | a :: t, n + 1 => a :: ex_kill t n
def ex_stL (L : List (Option Value)) (i : Nat) (v : Value) : List (Option Value) := ex_kill (ex_st L i v) (i + 1)
def ex_en : List Value → List (Option Value)
  | [] => []
  | v :: vs => if v.category = 2 then some v :: none :: ex_en vs else some v :: ex_en vs
theorem ex_ll_lk : ∀ (L : List (Option Value)) (k i : Nat) (v : Value), ex_lk L i = some v → (k + i, v) ∈ ex_ll k L
  | [], _, _, _, h => by simp [ex_lk] at h
  | none :: t, k, 0, v, h => by simp [ex_lk] at h
  | some w :: t, k, 0, v, h => by
    simp only [ex_lk, Option.some.injEq] at h
    subst h
    simp [ex_ll]
  | none :: t, k, i + 1, v, h => by
    have := ex_ll_lk t (k + 1) i v h
    simp only [ex_ll]
    rwa [show k + (i + 1) = k + 1 + i by omega]
  | some w :: t, k, i + 1, v, h => by
    have := ex_ll_lk t (k + 1) i v h
    simp only [ex_ll, List.mem_cons]
    right
    rwa [show k + (i + 1) = k + 1 + i by omega]
theorem ex_ll_ge : ∀ (L : List (Option Value)) (k : Nat) (q : Nat × Value), q ∈ ex_ll k L → k ≤ q.1
  | [], _, _, h => by simp [ex_ll] at h
  | none :: t, k, q, h => by
    have := ex_ll_ge t (k + 1) q h
    omega
  | some w :: t, k, q, h => by
    simp only [ex_ll, List.mem_cons] at h
    rcases h with h | h
    · subst h; exact Nat.le_refl _
    · have := ex_ll_ge t (k + 1) q h
      omega
theorem ex_isL_cat {v : Value} (h : v.category = 2) : ex_isL (some v) = true := by
  cases v <;> simp_all [Value.category, ex_isL]
theorem ex_ll_st : ∀ (L : List (Option Value)) (k i : Nat) (v : Value) (q : Nat × Value), q ∈ ex_ll k (ex_st L i v) → q = (k + i, v) ∨ (q ∈ ex_ll k L ∧ q.1 ≠ k + i ∧ ¬ (q.1 + 1 = k + i ∧ q.2.category = 2))
  | [], k, 0, v, q, h => by
    simp [ex_st, ex_ll] at h
    exact Or.inl h
  | [], k, n + 1, v, q, h => by
    simp only [ex_st, ex_ll] at h
    rcases ex_ll_st [] (k + 1) n v q h with h | h
    · left; rw [h]; congr 1; omega
    · simp [ex_ll] at h
  | a :: t, k, 0, v, q, h => by
    simp only [ex_st, ex_ll, List.mem_cons] at h
    rcases h with h | h
    · left; exact h
    · right
      have h2 := ex_ll_ge t (k + 1) q h
      refine ⟨?_, by omega, by omega⟩
      cases a <;> simp [ex_ll, h]
  | a :: t, k, n + 1, v, q, h => by
    simp only [ex_st] at h
    have key : q ∈ ex_ll (k + 1) (ex_st t n v) ∨ (∃ w, a = some w ∧ q = (k, w) ∧ ¬ (n = 0 ∧ ex_isL a = true)) := by
      by_cases hc : (n == 0 && ex_isL a) = true
      · rw [if_pos hc] at h
        exact Or.inl h
      · rw [if_neg hc] at h
        cases a with
        | none => exact Or.inl h
        | some w =>
          simp only [ex_ll, List.mem_cons] at h
          rcases h with h | h
          · refine Or.inr ⟨w, rfl, h, ?_⟩
            intro hh
            apply hc
            simp [hh.1, hh.2]
          · exact Or.inl h
    rcases key with h | ⟨w, ha, hq, hn⟩
    · rcases ex_ll_st t (k + 1) n v q h with h | ⟨h1, h2, h3⟩
      · left; rw [h]; congr 1; omega
      · right
        refine ⟨?_, by omega, by omega⟩
        cases a <;> simp [ex_ll, h1]
    · right
      subst ha
      subst hq
      refine ⟨by simp [ex_ll], by simp, ?_⟩
      rintro ⟨h1, h2⟩
      simp only at h1 h2
      exact hn ⟨by omega, ex_isL_cat h2⟩
theorem ex_ll_kill : ∀ (L : List (Option Value)) (k i : Nat) (q : Nat × Value), q ∈ ex_ll k (ex_kill L i) → q ∈ ex_ll k L ∧ q.1 ≠ k + i
  | [], k, i, q, h => by simp [ex_kill, ex_ll] at h
  | a :: t, k, 0, q, h => by
    simp only [ex_kill, ex_ll] at h
    have := ex_ll_ge t (k + 1) q h
    refine ⟨?_, by omega⟩
    cases a <;> simp [ex_ll, h]
  | none :: t, k, n + 1, q, h => by
    simp only [ex_kill, ex_ll] at h ⊢
    have := ex_ll_kill t (k + 1) n q h
    exact ⟨this.1, by omega⟩
  | some w :: t, k, n + 1, q, h => by
    simp only [ex_kill, ex_ll, List.mem_cons] at h ⊢
    rcases h with h | h
    · subst h
      exact ⟨Or.inl rfl, by simp⟩
    · have := ex_ll_kill t (k + 1) n q h
      exact ⟨Or.inr this.1, by omega⟩
theorem ex_has_sub {ls : Array Slot} {nL : Nat} {l l' : List (Nat × Value)} (h : lv_has ls nL l) (hs : ∀ q ∈ l', q ∈ l) : lv_has ls nL l' := ⟨h.1, h.2.1, fun q hq => h.2.2 q (hs q hq)⟩
theorem ex_has_st {ls : Array Slot} {nL i : Nat} {L : List (Option Value)} {v : Value} (h : lv_has ls nL ((i, v) :: (ex_ll 0 L).filter (fun q => !(q.1 == i) && !(q.1 + 1 == i && q.2.category == 2)))) : lv_has ls nL (ex_ll 0 (ex_st L i v)) := by
  refine ex_has_sub h fun q hq => ?_
  rcases ex_ll_st L 0 i v q hq with h | ⟨h1, h2, h3⟩
  · rw [h]; simp
  · refine List.mem_cons_of_mem _ (List.mem_filter.mpr ⟨h1, ?_⟩)
    simp only [Nat.zero_add] at h2 h3
    simp only [Bool.and_eq_true, Bool.not_eq_true', beq_eq_false_iff_ne, Bool.and_eq_false_iff]
    refine ⟨h2, ?_⟩
    by_cases hc : q.1 + 1 = i
    · right; intro hh; exact h3 ⟨hc, hh⟩
    · left; exact hc
theorem ex_has_stL {ls : Array Slot} {nL i : Nat} {L : List (Option Value)} {v : Value} (h : lv_has ls nL ((i, v) :: (ex_ll 0 L).filter (fun q => !(q.1 == i) && (!(q.1 == i + 1) && !(q.1 + 1 == i && q.2.category == 2))))) : lv_has ls nL (ex_ll 0 (ex_stL L i v)) := by
  refine ex_has_sub h fun q hq => ?_
  obtain ⟨hq, h4⟩ := ex_ll_kill _ 0 (i + 1) q hq
  rcases ex_ll_st L 0 i v q hq with h | ⟨h1, h2, h3⟩
  · rw [h]; simp
  · refine List.mem_cons_of_mem _ (List.mem_filter.mpr ⟨h1, ?_⟩)
    simp only [Nat.zero_add] at h2 h3 h4
    simp only [Bool.and_eq_true, Bool.not_eq_true', beq_eq_false_iff_ne, Bool.and_eq_false_iff]
    refine ⟨h2, h4, ?_⟩
    by_cases hc : q.1 + 1 = i
    · right; intro hh; exact h3 ⟨hc, hh⟩
    · left; exact hc
theorem ex_has_at {ls : Array Slot} {nL i : Nat} {L : List (Option Value)} {v : Value} (h : lv_has ls nL (ex_ll 0 L)) (hi : ex_lk L i = some v) : ls[i]? = some (.val v) := by
  have := h.2.2 _ (ex_ll_lk L 0 i v hi)
  simpa using this
theorem ex_en_args : ∀ (vs : List Value) (k : Nat) (q : Nat × Value), q ∈ ex_ll k (ex_en vs) → q ∈ lv_args k vs
  | [], k, q, h => by simp [ex_en, ex_ll] at h
  | v :: vs, k, q, h => by
    simp only [ex_en] at h
    by_cases hc : v.category = 2
    · rw [if_pos hc] at h
      simp only [ex_ll, List.mem_cons] at h
      simp only [lv_args, if_pos hc, List.mem_cons]
      rcases h with h | h
      · exact Or.inl h
      · exact Or.inr (ex_en_args vs _ q h)
    · rw [if_neg hc] at h
      simp only [ex_ll, List.mem_cons] at h
      simp only [lv_args, if_neg hc, List.mem_cons]
      rcases h with h | h
      · exact Or.inl h
      · exact Or.inr (ex_en_args vs _ q h)
/-! the tables' words that a call carries along, and the others -/
def ex_tb : List Cond := lw_tbl.filter goodWord
theorem ex_tb_mem {w : Cond} (h : w ∈ lw_tbl) (hg : goodWord w = true) : w ∈ ex_tb := List.mem_filter.mpr ⟨h, hg⟩
theorem ex_tb_good {ws : List Cond} (h : ∀ w ∈ ws, w ∈ ex_tb) : GoodIn ex_tb ws := fun w hw => ⟨h w hw, good_of_word (List.mem_filter.mp (h w hw)).2⟩
def ex_nest : Cond → Bool
  | .fieldLinkNest .. => true
  | .methodLinkNest .. => true
  | .arrayOver (.object _) => true
  | _ => false
/-! the constants -/
def ck_above : Nat → Int32 := fun j => ([-1, 0, 0, 0, 3, 2] : List Int32).getD j 0
def ck_len : List Nat := [6, 5, 6, 6, 7, 5, 4, 5, 4, 5, 5, 5, 4, 4]
def ck_byt : List (List Int32) := [[112, 101, 114, 115, 111, 110], [98, 97, 107, 101, 114], [100, 101, 98, 116, 111, 114], [116, 101, 108, 108, 101, 114], [102, 105, 114, 101, 109, 97, 110], [108, 111, 118, 101, 114], [108, 101, 102, 116], [112, 117, 114, 115, 101], [103, 111, 101, 115], [99, 111, 109, 101, 115], [101, 118, 101, 110, 116], [119, 111, 114, 116, 104], [108, 101, 115, 115], [116, 111, 108, 108]]
def ck_refs : List (String × Nat × String × Nat) := [("DayBehind$Text", 35, "toll", 13), ("DayBehind$Text", 44, "event", 10), ("DayBehind$Text", 75, "worth", 11), ("DayBehind$Text", 77, "less", 12), ("DayBehind$Text", 109, "baker", 1), ("DayBehind$Text", 111, "debtor", 2), ("DayBehind$Text", 113, "teller", 3), ("DayBehind$Text", 115, "fireman", 4), ("DayBehind$Text", 117, "lover", 5), ("DayBehind$Text", 119, "person", 0), ("DayBehind$Text", 86, "left", 6), ("DayBehind$Text", 95, "purse", 7), ("DayBehind$Text", 101, "goes", 8), ("DayBehind$Text", 105, "comes", 9), ("DayBehindModel", 31, "person", 0), ("DayBehindModel", 33, "baker", 1), ("DayBehindModel", 35, "debtor", 2), ("DayBehindModel", 37, "teller", 3), ("DayBehindModel", 39, "fireman", 4), ("DayBehindModel", 41, "lover", 5), ("DayBehindModel", 271, "left", 6), ("DayBehindModel", 276, "purse", 7), ("DayBehindModel", 281, "goes", 8), ("DayBehindModel", 283, "comes", 9), ("DayBehindModel", 288, "event", 10), ("DayBehindModel", 293, "worth", 11), ("DayBehindModel", 295, "less", 12), ("DayBehindModel", 297, "toll", 13)]
abbrev ex_l (G : ex_G) : Launch := G.1
abbrev ex_D (G : ex_G) : va_G := G.2.1
abbrev ex_b (G : ex_G) : Nat := G.2.2.1
abbrev ex_c (G : ex_G) : Nat → ClassId := G.2.2.2.1
abbrev ex_ab (G : ex_G) : Nat := G.2.2.2.2.1
abbrev ex_sK (G : ex_G) : Nat → Nat := G.2.2.2.2.2.1
abbrev ex_sV (G : ex_G) : Nat → Nat := G.2.2.2.2.2.2
def ex_A (G : ex_G) : Nat → Prop := fun q => ex_b G ≤ q
def ex_ty (G : ex_G) : List (ClassId × FieldType) := [(ex_c G 0, .int), (ex_c G 1, .long), (ex_c G 2, .object "DayBehind$One"), (ex_c G 3, .object "DayBehind$Event"), (ex_c G 4, .object "DayBehind$Sheet"), (ex_c G 5, .object "java/lang/String")]
/-- a String constant: its object, its bytes -/
def ck_S (G : ex_G) (i : Nat) (U : State) (H : Heap) : Prop := va_O "java/lang/String" (ex_sK G i) (ex_A G) U H ∧ va_OF "java/lang/String" "coder" "B" (.int 0) (ex_sK G i) (ex_A G) U H ∧ va_OF "java/lang/String" "value" "[B" (.ref (ex_sV G i)) (ex_sK G i) (ex_A G) U H ∧ va_T .byte (ex_sV G i) (ck_len.getD i 0) (fun j => .int ((ck_byt.getD i []).getD j 0)) (ex_A G) U H
def ck_H (G : ex_G) (U : State) (H : Heap) : Prop :=
  va_Z "DayBehind$Kinds" "ABOVE" "[I" (.ref (ex_ab G)) (ex_A G) U H ∧ va_T .int (ex_ab G) 6 (fun j => .int (ck_above j)) (ex_A G) U H ∧ va_Z "java/lang/String" "COMPACT_STRINGS" "Z" (.int 1) (ex_A G) U H ∧
  va_Zq "jdk/internal/util/Preconditions" "SIOOBE_FORMATTER" "Ljava/util/function/BiFunction;" (ex_A G) U H ∧ ∀ i, i < 14 → ck_S G i U H
theorem ck_H.kept {G : ex_G} {U : State} {H H1 : Heap} (h : ck_H G U H) (hq : ∀ a : Nat, a < H.size → ¬ ex_A G a → H1[a]? = H[a]?) : ck_H G U H1 :=
  ⟨h.1.kept hq, h.2.1.kept hq, h.2.2.1.kept hq, h.2.2.2.1.kept hq, fun i hi => ⟨(h.2.2.2.2 i hi).1.kept hq, (h.2.2.2.2 i hi).2.1.kept hq, (h.2.2.2.2 i hi).2.2.1.kept hq, (h.2.2.2.2 i hi).2.2.2.kept hq⟩⟩
theorem ck_H.moved {G : ex_G} {u U : State} {H : Heap} (hvm : u.vm.Alike U.vm) (h : ck_H G u H) : ck_H G U H :=
  ⟨va_Z.moved hvm h.1, va_T.moved hvm h.2.1, va_Z.moved hvm h.2.2.1, va_Zq.moved hvm h.2.2.2.1, fun i hi => ⟨va_O.moved hvm (h.2.2.2.2 i hi).1, va_OF.moved hvm (h.2.2.2.2 i hi).2.1, va_OF.moved hvm (h.2.2.2.2 i hi).2.2.1, va_T.moved hvm (h.2.2.2.2 i hi).2.2.2⟩⟩
/-- what stays the same in every state of the run -/
def ex_K (G : ex_G) (U : State) : Prop := va_K (ex_D G) ex_cl (ex_ty G) U ∧ ck_H G U U.heap ∧ ex_b G ≤ U.heap.size ∧ (∀ w ∈ lw_tbl, ex_nest w = true → va_Nw w U) ∧ ∀ q ∈ ck_refs, vk_R q.1 q.2.1 q.2.2.1 (ex_sK G q.2.2.2) U
theorem ex_K.same {G : ex_G} {u U : State} (hv : U.vm = u.vm) (hh : U.heap = u.heap) (h : ex_K G u) : ex_K G U := by
  have hal : u.vm.Alike U.vm := by rw [hv]; exact Vm.Alike.refl _
  refine ⟨va_K.moved hal h.1, by rw [hh]; exact ck_H.moved hal h.2.1, by rw [hh]; exact h.2.2.1, fun w hw hn => ?_, fun q hq => vk_R.same hv (h.2.2.2.2 q hq)⟩
  have h1 := h.2.2.2.1 w hw hn
  cases w <;> first | (simp [ex_nest] at hn; done) | exact va_Nw.same rfl hv.symm h1 | skip
  rename_i ty
  cases ty <;> first | (simp [ex_nest] at hn; done) | exact va_AO.moved hal h1
theorem ex_K.warm {G : ex_G} {s U : State} (hW : s.WarmedH U.vm) (hk : ∀ q : Nat, q < s.heap.size → ¬ ex_A G q → U.heap[q]? = s.heap[q]?) (hz : s.heap.size ≤ U.heap.size) (h : ex_K G s) : ex_K G U := by
  have hal : s.vm.Alike U.vm := hW.alike
  refine ⟨va_K.moved hal h.1, (ck_H.moved hal h.2.1).kept hk, Nat.le_trans h.2.2.1 hz, fun w hw hn => ?_, fun q hq => vk_R.warm hW (h.2.2.2.2 q hq)⟩
  have h1 := h.2.2.2.1 w hw hn
  cases w <;> first | (simp [ex_nest] at hn; done) | exact va_Nw.warmF hW h1 | exact va_Nw.warmM hW h1 | skip
  rename_i ty
  cases ty <;> first | (simp [ex_nest] at hn; done) | exact va_AO.moved hal h1
/-- the cells of a world, with their addresses -/
def ex_wl (b : Nat) (es : List va_E) : va_W := es.mapIdx (fun k x => (b + k, x))
theorem ex_wl_get {b : Nat} {es : List va_E} {k : Nat} {x : va_E} (h : es[k]? = some x) : (ex_wl b es)[k]? = some (b + k, x) := by simp [ex_wl, h]
theorem ex_wl_set {b : Nat} {es : List va_E} {k : Nat} {x : va_E} : (ex_wl b es).set k (b + k, x) = ex_wl b (es.set k x) := by
  apply List.ext_getElem?
  intro j
  by_cases hj : k = j
  · subst hj
    by_cases hl : k < es.length <;> simp [ex_wl, List.getElem?_set, hl]
  · simp [ex_wl, List.getElem?_set, hj]
theorem ex_wl_D (G : ex_G) (es : List va_E) : va_D (ex_A G) (ex_wl (ex_b G) es) := by
  have key : ∀ (i : Nat) (q : Nat × va_E), (ex_wl (ex_b G) es)[i]? = some q → q.1 = ex_b G + i := by
    intro i q h
    simp only [ex_wl, List.getElem?_mapIdx] at h
    cases hx : es[i]? with
    | none => rw [hx] at h; cases h
    | some x => rw [hx] at h; cases h; rfl
  refine ⟨fun i j p q hp hq hpq => ?_, fun k q h => ?_⟩
  · have h1 := key i p hp
    have h2 := key j q hq
    omega
  · show ex_b G ≤ q.1
    rw [key k q h]
    omega
def ex_wd (G : ex_G) (es : List va_E) (H : Heap) : Prop := va_P (ex_D G) ex_cl (ex_wl (ex_b G) es) H ∧ (es.length < 83 → H.size = ex_b G + es.length)
/-- FROM HERE the machine comes to what C asks: in method Y, at pc, with locals L, operand stack S; cl cells of sl slots made so far; the world es -/
def Ev (G : ex_G) (C : ex_C) (Y : ex_Y) (pc : Nat) (L : List (Option Value)) (S : List Value) (cl sl : Nat) (es : List va_E) : Prop :=
  match C with
  | (p, e, R, s, m, args, below, meth, c, Q) => ∀ (H : Heap) (locs : List Loc) (ls : Array Slot), lv_has ls Y.2.2.1 (ex_ll 0 L) → ex_wd G es H → va_S (ex_A G) s.heap H locs → W p (ex_l G) e R s m args below meth c H locs cl sl Q (F0 m pc ls S)
/-- what is known in the method Y's frame -/
def Cx (G : ex_G) (C : ex_C) (Y : ex_Y) (R0 : Room) : Prop :=
  match C with
  | (p, _, R, s, m, args, _, _, c, _) => p.tables.exec = Jvm.exec ∧ c.code = Y.2.1 ∧ c.maxLocals = Y.2.2.1 ∧ s.vm.findClass Y.1.cls = some m.cls ∧ (∀ w ∈ ex_tb, w.before args s = true) ∧ R = R0 ∧ ex_K G s
def ex_Q (G : ex_G) (r : Option Value) (es : List va_E) : Array Value → State → Outcome → State → Prop := fun _ st oc t => oc = .returned r ∧ ex_wd G es t.heap ∧ va_F (ex_A G) st t
/-- its end: it answers r, in the world es -/
def Cr (G : ex_G) (C : ex_C) (Y : ex_Y) (mc ms : Nat) (r : Option Value) (es : List va_E) : Prop :=
  match C with
  | (_, _, _, s, _, args, below, meth, _, Q) => meth.sig.returnType = Y.2.2.2 ∧ meth.locks = false ∧ meth.name = Y.1.name ∧ Q = MQ below (ex_Q G r es) args s mc ms (ex_A G)
/-- CALLED with av in the world es, method Y answers r and leaves es2; it makes mc cells of ms slots -/
def Con (G : ex_G) (Y : ex_Y) (F X mc ms : Nat) (av : List Value) (es : List va_E) (r : Option Value) (es2 : List va_E) : Prop :=
  Met (ex_l G) Y.1 (.code Y.1 Y.2.1 Y.2.2.1 Y.2.2.2 :: ex_tb) { frames := F, cells := mc, slots := ms, locals := X } (va_Pc av (fun U => ex_K G U ∧ ex_wd G es U.heap)) (ex_Q G r es2) mc ms (ex_A G)
set_option maxHeartbeats 1000000 in
theorem Con.of {G : ex_G} {Y : ex_Y} {F X mc ms : Nat} {av : List Value} {es : List va_E} {r : Option Value} {es2 : List va_E} (hy : plainName Y.1.cls = true) (hn : (lg_sl av).length ≤ Y.2.2.1)
    (h : ∀ C : ex_C, Cx G C Y { frames := F, cells := mc, slots := ms, locals := X } → Cr G C Y mc ms r es2 → Ev G C Y 0 (ex_en av) [] 0 0 es) : Con G Y F X mc ms av es r es2 := by
  refine Met.ofW (cc := Y.2.1) (maxL := Y.2.2.1) (ret := Y.2.2.2) hy rfl ?_
  intro p e s m args below meth c s₁ B hml hv
  obtain ⟨rfl, hK, hw⟩ := hv
  have hts := atoms_spec B.pre
  have hCx : Cx G (p, e, { frames := F, cells := mc, slots := ms, locals := X }, s, m, av.toArray, below, meth, c, MQ below (ex_Q G r es2) av.toArray s mc ms (ex_A G)) Y { frames := F, cells := mc, slots := ms, locals := X } :=
    ⟨B.exec, B.bytes, hml, findClass_of_methodNamed B.named, fun w hw => hts w (List.mem_cons_of_mem _ hw), rfl, hK⟩
  have hCr : Cr G (p, e, { frames := F, cells := mc, slots := ms, locals := X }, s, m, av.toArray, below, meth, c, MQ below (ex_Q G r es2) av.toArray s mc ms (ex_A G)) Y mc ms r es2 :=
    ⟨B.returns, B.notSynchronized, (name_of_methodNamed B.named B.method).1, rfl⟩
  have hl := lv_entry av (n := Y.2.2.1) hn
  rw [lg_entry_eq]
  exact h _ hCx hCr s.heap [] _ (ex_has_sub hl (ex_en_args av 0)) hw va_S.rf
end
section
section EvRows
variable {G : ex_G} {C : ex_C} {Y : ex_Y} {R0 : Room} {pc cl sl : Nat} {L : List (Option Value)} {S : List Value} {es : List va_E}
theorem ev_iadd {x y : Int32} (hC : Cx G C Y R0) (hd : decode Y.2.1 pc = .ok (.iadd, 1)) (k : Ev G C Y (pc + 1) L (.int (x + y) :: S) cl sl es) : Ev G C Y pc L (.int y :: .int x :: S) cl sl es := by
  obtain ⟨p, e, R, s, m, args, below, meth, c, Q⟩ := C
  exact fun H locs ls hl hw hS => lv_iadd hC.1 hC.2.1 hd (k H locs ls hl hw hS)
theorem ev_isub {x y : Int32} (hC : Cx G C Y R0) (hd : decode Y.2.1 pc = .ok (.isub, 1)) (k : Ev G C Y (pc + 1) L (.int (x - y) :: S) cl sl es) : Ev G C Y pc L (.int y :: .int x :: S) cl sl es := by
  obtain ⟨p, e, R, s, m, args, below, meth, c, Q⟩ := C
  exact fun H locs ls hl hw hS => lv_isub hC.1 hC.2.1 hd (k H locs ls hl hw hS)
theorem ev_imul {x y : Int32} (hC : Cx G C Y R0) (hd : decode Y.2.1 pc = .ok (.imul, 1)) (k : Ev G C Y (pc + 1) L (.int (x * y) :: S) cl sl es) : Ev G C Y pc L (.int y :: .int x :: S) cl sl es := by
  obtain ⟨p, e, R, s, m, args, below, meth, c, Q⟩ := C
  exact fun H locs ls hl hw hS => lv_imul hC.1 hC.2.1 hd (k H locs ls hl hw hS)
theorem ev_iand {x y : Int32} (hC : Cx G C Y R0) (hd : decode Y.2.1 pc = .ok (.iand, 1)) (k : Ev G C Y (pc + 1) L (.int (x &&& y) :: S) cl sl es) : Ev G C Y pc L (.int y :: .int x :: S) cl sl es := by
  obtain ⟨p, e, R, s, m, args, below, meth, c, Q⟩ := C
  exact fun H locs ls hl hw hS => lv_iand hC.1 hC.2.1 hd (k H locs ls hl hw hS)
theorem ev_ior {x y : Int32} (hC : Cx G C Y R0) (hd : decode Y.2.1 pc = .ok (.ior, 1)) (k : Ev G C Y (pc + 1) L (.int (x ||| y) :: S) cl sl es) : Ev G C Y pc L (.int y :: .int x :: S) cl sl es := by
  obtain ⟨p, e, R, s, m, args, below, meth, c, Q⟩ := C
  exact fun H locs ls hl hw hS => lv_ior hC.1 hC.2.1 hd (k H locs ls hl hw hS)
theorem ev_ixor {x y : Int32} (hC : Cx G C Y R0) (hd : decode Y.2.1 pc = .ok (.ixor, 1)) (k : Ev G C Y (pc + 1) L (.int (x ^^^ y) :: S) cl sl es) : Ev G C Y pc L (.int y :: .int x :: S) cl sl es := by
  obtain ⟨p, e, R, s, m, args, below, meth, c, Q⟩ := C
  exact fun H locs ls hl hw hS => lv_ixor hC.1 hC.2.1 hd (k H locs ls hl hw hS)
theorem ev_ishl {x y : Int32} (hC : Cx G C Y R0) (hd : decode Y.2.1 pc = .ok (.ishl, 1)) (k : Ev G C Y (pc + 1) L (.int (x <<< (y &&& 31)) :: S) cl sl es) : Ev G C Y pc L (.int y :: .int x :: S) cl sl es := by
  obtain ⟨p, e, R, s, m, args, below, meth, c, Q⟩ := C
  exact fun H locs ls hl hw hS => lv_ishl hC.1 hC.2.1 hd (k H locs ls hl hw hS)
theorem ev_ishr {x y : Int32} (hC : Cx G C Y R0) (hd : decode Y.2.1 pc = .ok (.ishr, 1)) (k : Ev G C Y (pc + 1) L (.int (x >>> (y &&& 31)) :: S) cl sl es) : Ev G C Y pc L (.int y :: .int x :: S) cl sl es := by
  obtain ⟨p, e, R, s, m, args, below, meth, c, Q⟩ := C
  exact fun H locs ls hl hw hS => lv_ishr hC.1 hC.2.1 hd (k H locs ls hl hw hS)
theorem ev_iushr {x y : Int32} (hC : Cx G C Y R0) (hd : decode Y.2.1 pc = .ok (.iushr, 1)) (k : Ev G C Y (pc + 1) L (.int (x.toUInt32 >>> (y.toUInt32 &&& Int32.toUInt32 31)).toInt32 :: S) cl sl es) : Ev G C Y pc L (.int y :: .int x :: S) cl sl es := by
  obtain ⟨p, e, R, s, m, args, below, meth, c, Q⟩ := C
  exact fun H locs ls hl hw hS => lv_iushr hC.1 hC.2.1 hd rfl (k H locs ls hl hw hS)
theorem ev_idiv {x y : Int32} (hne : ¬ y = 0) (hC : Cx G C Y R0) (hd : decode Y.2.1 pc = .ok (.idiv, 1)) (k : Ev G C Y (pc + 1) L (.int (x / y) :: S) cl sl es) : Ev G C Y pc L (.int y :: .int x :: S) cl sl es := by
  obtain ⟨p, e, R, s, m, args, below, meth, c, Q⟩ := C
  exact fun H locs ls hl hw hS => lv_idiv hC.1 hC.2.1 hd hne (k H locs ls hl hw hS)
theorem ev_irem {x y : Int32} (hne : ¬ y = 0) (hC : Cx G C Y R0) (hd : decode Y.2.1 pc = .ok (.irem, 1)) (k : Ev G C Y (pc + 1) L (.int (x - x / y * y) :: S) cl sl es) : Ev G C Y pc L (.int y :: .int x :: S) cl sl es := by
  obtain ⟨p, e, R, s, m, args, below, meth, c, Q⟩ := C
  exact fun H locs ls hl hw hS => lv_irem hC.1 hC.2.1 hd hne (k H locs ls hl hw hS)
theorem ev_ineg {x : Int32} (hC : Cx G C Y R0) (hd : decode Y.2.1 pc = .ok (.ineg, 1)) (k : Ev G C Y (pc + 1) L (.int (-x) :: S) cl sl es) : Ev G C Y pc L (.int x :: S) cl sl es := by
  obtain ⟨p, e, R, s, m, args, below, meth, c, Q⟩ := C
  exact fun H locs ls hl hw hS => lv_ineg hC.1 hC.2.1 hd (k H locs ls hl hw hS)
theorem ev_i2l {x : Int32} (hC : Cx G C Y R0) (hd : decode Y.2.1 pc = .ok (.i2l, 1)) (k : Ev G C Y (pc + 1) L (.long x.toInt64 :: S) cl sl es) : Ev G C Y pc L (.int x :: S) cl sl es := by
  obtain ⟨p, e, R, s, m, args, below, meth, c, Q⟩ := C
  exact fun H locs ls hl hw hS => lv_i2l hC.1 hC.2.1 hd rfl (k H locs ls hl hw hS)
theorem ev_l2i {x : Int64} (hC : Cx G C Y R0) (hd : decode Y.2.1 pc = .ok (.l2i, 1)) (k : Ev G C Y (pc + 1) L (.int x.toInt32 :: S) cl sl es) : Ev G C Y pc L (.long x :: S) cl sl es := by
  obtain ⟨p, e, R, s, m, args, below, meth, c, Q⟩ := C
  exact fun H locs ls hl hw hS => lv_l2i hC.1 hC.2.1 hd rfl (k H locs ls hl hw hS)
theorem ev_i2b {x : Int32} (hC : Cx G C Y R0) (hd : decode Y.2.1 pc = .ok (.i2b, 1)) (k : Ev G C Y (pc + 1) L (.int x.toInt8.toInt32 :: S) cl sl es) : Ev G C Y pc L (.int x :: S) cl sl es := by
  obtain ⟨p, e, R, s, m, args, below, meth, c, Q⟩ := C
  exact fun H locs ls hl hw hS => lv_i2b hC.1 hC.2.1 hd rfl (k H locs ls hl hw hS)
theorem ev_i2s {x : Int32} (hC : Cx G C Y R0) (hd : decode Y.2.1 pc = .ok (.i2s, 1)) (k : Ev G C Y (pc + 1) L (.int x.toInt16.toInt32 :: S) cl sl es) : Ev G C Y pc L (.int x :: S) cl sl es := by
  obtain ⟨p, e, R, s, m, args, below, meth, c, Q⟩ := C
  exact fun H locs ls hl hw hS => lv_i2s hC.1 hC.2.1 hd rfl (k H locs ls hl hw hS)
theorem ev_i2c {x : Int32} (hC : Cx G C Y R0) (hd : decode Y.2.1 pc = .ok (.i2c, 1)) (k : Ev G C Y (pc + 1) L (.int (x.toUInt32 % 65536).toInt32 :: S) cl sl es) : Ev G C Y pc L (.int x :: S) cl sl es := by
  obtain ⟨p, e, R, s, m, args, below, meth, c, Q⟩ := C
  exact fun H locs ls hl hw hS => lv_i2c hC.1 hC.2.1 hd rfl (k H locs ls hl hw hS)
theorem ev_ladd {x y : Int64} (hC : Cx G C Y R0) (hd : decode Y.2.1 pc = .ok (.ladd, 1)) (k : Ev G C Y (pc + 1) L (.long (x + y) :: S) cl sl es) : Ev G C Y pc L (.long y :: .long x :: S) cl sl es := by
  obtain ⟨p, e, R, s, m, args, below, meth, c, Q⟩ := C
  exact fun H locs ls hl hw hS => lv_ladd hC.1 hC.2.1 hd (k H locs ls hl hw hS)
theorem ev_land {x y : Int64} (hC : Cx G C Y R0) (hd : decode Y.2.1 pc = .ok (.land, 1)) (k : Ev G C Y (pc + 1) L (.long (x &&& y) :: S) cl sl es) : Ev G C Y pc L (.long y :: .long x :: S) cl sl es := by
  obtain ⟨p, e, R, s, m, args, below, meth, c, Q⟩ := C
  exact fun H locs ls hl hw hS => lv_land hC.1 hC.2.1 hd (k H locs ls hl hw hS)
theorem ev_lor {x y : Int64} (hC : Cx G C Y R0) (hd : decode Y.2.1 pc = .ok (.lor, 1)) (k : Ev G C Y (pc + 1) L (.long (x ||| y) :: S) cl sl es) : Ev G C Y pc L (.long y :: .long x :: S) cl sl es := by
  obtain ⟨p, e, R, s, m, args, below, meth, c, Q⟩ := C
  exact fun H locs ls hl hw hS => lv_lor hC.1 hC.2.1 hd (k H locs ls hl hw hS)
theorem ev_lshl {x : Int64} {y : Int32} (hC : Cx G C Y R0) (hd : decode Y.2.1 pc = .ok (.lshl, 1)) (k : Ev G C Y (pc + 1) L (.long (x <<< (y.toInt64 &&& 63)) :: S) cl sl es) : Ev G C Y pc L (.int y :: .long x :: S) cl sl es := by
  obtain ⟨p, e, R, s, m, args, below, meth, c, Q⟩ := C
  exact fun H locs ls hl hw hS => lv_lshl hC.1 hC.2.1 hd rfl (k H locs ls hl hw hS)
theorem ev_lcmp {x y : Int64} (hC : Cx G C Y R0) (hd : decode Y.2.1 pc = .ok (.lcmp, 1)) (k : Ev G C Y (pc + 1) L (.int (lg_cmp x y) :: S) cl sl es) : Ev G C Y pc L (.long y :: .long x :: S) cl sl es := by
  obtain ⟨p, e, R, s, m, args, below, meth, c, Q⟩ := C
  exact fun H locs ls hl hw hS => W.lcmp hC.1 hC.2.1 hd (k H locs ls hl hw hS)
theorem ev_dup {v : Value} (hv : v.category = 1) (hC : Cx G C Y R0) (hd : decode Y.2.1 pc = .ok (.dup, 1)) (k : Ev G C Y (pc + 1) L (v :: v :: S) cl sl es) : Ev G C Y pc L (v :: S) cl sl es := by
  obtain ⟨p, e, R, s, m, args, below, meth, c, Q⟩ := C
  exact fun H locs ls hl hw hS => lv_dup hC.1 hC.2.1 hd hv (k H locs ls hl hw hS)
theorem ev_dup2 {v w : Value} (hv : v.category = 1) (hv2 : w.category = 1) (hC : Cx G C Y R0) (hd : decode Y.2.1 pc = .ok (.dup2, 1)) (k : Ev G C Y (pc + 1) L (v :: w :: v :: w :: S) cl sl es) : Ev G C Y pc L (v :: w :: S) cl sl es := by
  obtain ⟨p, e, R, s, m, args, below, meth, c, Q⟩ := C
  exact fun H locs ls hl hw hS => lv_dup2_11 hC.1 hC.2.1 hd hv hv2 (k H locs ls hl hw hS)
theorem ev_pop {v : Value} (hv : v.category = 1) (hC : Cx G C Y R0) (hd : decode Y.2.1 pc = .ok (.pop, 1)) (k : Ev G C Y (pc + 1) L (S) cl sl es) : Ev G C Y pc L (v :: S) cl sl es := by
  obtain ⟨p, e, R, s, m, args, below, meth, c, Q⟩ := C
  exact fun H locs ls hl hw hS => lv_pop hC.1 hC.2.1 hd hv (k H locs ls hl hw hS)
theorem ev_iconst {n : Int} {v : Int32} (hv : Int32.ofInt n = v) (hC : Cx G C Y R0) (hd : decode Y.2.1 pc = .ok (.iconst n, 1)) (k : Ev G C Y (pc + 1) L (.int v :: S) cl sl es) : Ev G C Y pc L (S) cl sl es := by
  obtain ⟨p, e, R, s, m, args, below, meth, c, Q⟩ := C
  exact fun H locs ls hl hw hS => lv_iconst hC.1 hC.2.1 hd hv (k H locs ls hl hw hS)
theorem ev_bipush {n : Int} {v : Int32} (hv : (Int8.ofInt n).toInt32 = v) (hC : Cx G C Y R0) (hd : decode Y.2.1 pc = .ok (.bipush n, 2)) (k : Ev G C Y (pc + 2) L (.int v :: S) cl sl es) : Ev G C Y pc L (S) cl sl es := by
  obtain ⟨p, e, R, s, m, args, below, meth, c, Q⟩ := C
  exact fun H locs ls hl hw hS => lv_bipush hC.1 hC.2.1 hd hv (k H locs ls hl hw hS)
theorem ev_sipush {n : Int} {v : Int32} (hv : (Int16.ofInt n).toInt32 = v) (hC : Cx G C Y R0) (hd : decode Y.2.1 pc = .ok (.sipush n, 3)) (k : Ev G C Y (pc + 3) L (.int v :: S) cl sl es) : Ev G C Y pc L (S) cl sl es := by
  obtain ⟨p, e, R, s, m, args, below, meth, c, Q⟩ := C
  exact fun H locs ls hl hw hS => lv_sipush hC.1 hC.2.1 hd hv (k H locs ls hl hw hS)
theorem ev_lconst {n : Fin 2} {v : Int64} (hv : Int64.ofNat (n : Nat) = v) (hC : Cx G C Y R0) (hd : decode Y.2.1 pc = .ok (.lconst n, 1)) (k : Ev G C Y (pc + 1) L (.long v :: S) cl sl es) : Ev G C Y pc L (S) cl sl es := by
  obtain ⟨p, e, R, s, m, args, below, meth, c, Q⟩ := C
  exact fun H locs ls hl hw hS => lv_lconst hC.1 hC.2.1 hd hv (k H locs ls hl hw hS)
theorem ev_ldc {idx : Nat} {v : Int32} (hk : Cond.constant Y.1.cls idx v ∈ ex_tb) (hC : Cx G C Y R0) (hd : decode Y.2.1 pc = .ok (.ldc idx, 2)) (k : Ev G C Y (pc + 2) L (.int v :: S) cl sl es) : Ev G C Y pc L (S) cl sl es := by
  obtain ⟨p, e, R, s, m, args, below, meth, c, Q⟩ := C
  exact fun H locs ls hl hw hS => lv_ldc hC.1 hC.2.1 hC.2.2.2.1 (hC.2.2.2.2.1 _ hk) hd (k H locs ls hl hw hS)
theorem ev_ldcw {idx : Nat} {v : Int32} (hk : Cond.constant Y.1.cls idx v ∈ ex_tb) (hC : Cx G C Y R0) (hd : decode Y.2.1 pc = .ok (.ldc_w idx, 3)) (k : Ev G C Y (pc + 3) L (.int v :: S) cl sl es) : Ev G C Y pc L (S) cl sl es := by
  obtain ⟨p, e, R, s, m, args, below, meth, c, Q⟩ := C
  exact fun H locs ls hl hw hS => lv_ldcw hC.1 hC.2.1 hC.2.2.2.1 (hC.2.2.2.2.1 _ hk) hd (k H locs ls hl hw hS)
theorem ev_ldc2 {idx : Nat} {v : Int64} (hk : Cond.constantLong Y.1.cls idx v ∈ ex_tb) (hC : Cx G C Y R0) (hd : decode Y.2.1 pc = .ok (.ldc2_w idx, 3)) (k : Ev G C Y (pc + 3) L (.long v :: S) cl sl es) : Ev G C Y pc L (S) cl sl es := by
  obtain ⟨p, e, R, s, m, args, below, meth, c, Q⟩ := C
  exact fun H locs ls hl hw hS => W.ldc2 hC.1 hC.2.1 hC.2.2.2.1 (hC.2.2.2.2.1 _ hk) rfl hd (k H locs ls hl hw hS)
theorem ev_ldcS {idx i : Nat} {tx : String} (hk : (Y.1.cls, idx, tx, i) ∈ ck_refs) (hC : Cx G C Y R0) (hd : decode Y.2.1 pc = .ok (.ldc idx, 2)) (k : Ev G C Y (pc + 2) L (.ref (ex_sK G i) :: S) cl sl es) : Ev G C Y pc L (S) cl sl es := by
  obtain ⟨p, e, R, s, m, args, below, meth, c, Q⟩ := C
  exact fun H locs ls hl hw hS => va_ldcS hC.1 hC.2.1 hC.2.2.2.1 (hC.2.2.2.2.2.2.2.2.2.2 _ hk) hd (k H locs ls hl hw hS)
theorem ev_iload_n {i : Fin 4} {x : Int32} (hi : ex_lk L i = some (.int x)) (hC : Cx G C Y R0) (hd : decode Y.2.1 pc = .ok (.iload_n i, 1)) (k : Ev G C Y (pc + 1) L (.int x :: S) cl sl es) : Ev G C Y pc L (S) cl sl es := by
  obtain ⟨p, e, R, s, m, args, below, meth, c, Q⟩ := C
  exact fun H locs ls hl hw hS => lv_iload_n hC.1 hC.2.1 hd rfl (ex_has_at hl hi) (k H locs ls hl hw hS)
theorem ev_iload {i : Nat} {x : Int32} (hi : ex_lk L i = some (.int x)) (hC : Cx G C Y R0) (hd : decode Y.2.1 pc = .ok (.iload i, 2)) (k : Ev G C Y (pc + 2) L (.int x :: S) cl sl es) : Ev G C Y pc L (S) cl sl es := by
  obtain ⟨p, e, R, s, m, args, below, meth, c, Q⟩ := C
  exact fun H locs ls hl hw hS => lv_iload hC.1 hC.2.1 hd (ex_has_at hl hi) (k H locs ls hl hw hS)
theorem ev_lload_n {i : Fin 4} {x : Int64} (hi : ex_lk L i = some (.long x)) (hC : Cx G C Y R0) (hd : decode Y.2.1 pc = .ok (.lload_n i, 1)) (k : Ev G C Y (pc + 1) L (.long x :: S) cl sl es) : Ev G C Y pc L (S) cl sl es := by
  obtain ⟨p, e, R, s, m, args, below, meth, c, Q⟩ := C
  exact fun H locs ls hl hw hS => lv_lload_n hC.1 hC.2.1 hd rfl (ex_has_at hl hi) (k H locs ls hl hw hS)
theorem ev_lload {i : Nat} {x : Int64} (hi : ex_lk L i = some (.long x)) (hC : Cx G C Y R0) (hd : decode Y.2.1 pc = .ok (.lload i, 2)) (k : Ev G C Y (pc + 2) L (.long x :: S) cl sl es) : Ev G C Y pc L (S) cl sl es := by
  obtain ⟨p, e, R, s, m, args, below, meth, c, Q⟩ := C
  exact fun H locs ls hl hw hS => lv_lload hC.1 hC.2.1 hd (ex_has_at hl hi) (k H locs ls hl hw hS)
theorem ev_aload_n {i : Fin 4} {x : Nat} (hi : ex_lk L i = some (.ref x)) (hC : Cx G C Y R0) (hd : decode Y.2.1 pc = .ok (.aload_n i, 1)) (k : Ev G C Y (pc + 1) L (.ref x :: S) cl sl es) : Ev G C Y pc L (S) cl sl es := by
  obtain ⟨p, e, R, s, m, args, below, meth, c, Q⟩ := C
  exact fun H locs ls hl hw hS => lv_aload_n hC.1 hC.2.1 hd rfl (ex_has_at hl hi) (k H locs ls hl hw hS)
theorem ev_aload {i : Nat} {x : Nat} (hi : ex_lk L i = some (.ref x)) (hC : Cx G C Y R0) (hd : decode Y.2.1 pc = .ok (.aload i, 2)) (k : Ev G C Y (pc + 2) L (.ref x :: S) cl sl es) : Ev G C Y pc L (S) cl sl es := by
  obtain ⟨p, e, R, s, m, args, below, meth, c, Q⟩ := C
  exact fun H locs ls hl hw hS => lv_aload hC.1 hC.2.1 hd (ex_has_at hl hi) (k H locs ls hl hw hS)
theorem ev_istore_n {i : Fin 4} {x : Int32} (hn : ((i : Nat) : Nat) < Y.2.2.1) (hC : Cx G C Y R0) (hd : decode Y.2.1 pc = .ok (.istore_n i, 1)) (k : Ev G C Y (pc + 1) (ex_st L i (.int x)) (S) cl sl es) : Ev G C Y pc L (.int x :: S) cl sl es := by
  obtain ⟨p, e, R, s, m, args, below, meth, c, Q⟩ := C
  exact fun H locs ls hl hw hS => lv_istore_n hC.1 hC.2.1 hd rfl hl hn rfl (fun ls2 hl2 => k H locs ls2 (ex_has_st hl2) hw hS)
theorem ev_istore {i : Nat} {x : Int32} (hn : i < Y.2.2.1) (hC : Cx G C Y R0) (hd : decode Y.2.1 pc = .ok (.istore i, 2)) (k : Ev G C Y (pc + 2) (ex_st L i (.int x)) (S) cl sl es) : Ev G C Y pc L (.int x :: S) cl sl es := by
  obtain ⟨p, e, R, s, m, args, below, meth, c, Q⟩ := C
  exact fun H locs ls hl hw hS => lv_istore hC.1 hC.2.1 hd hl hn rfl (fun ls2 hl2 => k H locs ls2 (ex_has_st hl2) hw hS)
theorem ev_astore_n {i : Fin 4} {x : Nat} (hn : ((i : Nat) : Nat) < Y.2.2.1) (hC : Cx G C Y R0) (hd : decode Y.2.1 pc = .ok (.astore_n i, 1)) (k : Ev G C Y (pc + 1) (ex_st L i (.ref x)) (S) cl sl es) : Ev G C Y pc L (.ref x :: S) cl sl es := by
  obtain ⟨p, e, R, s, m, args, below, meth, c, Q⟩ := C
  exact fun H locs ls hl hw hS => lv_astore_n hC.1 hC.2.1 hd rfl hl hn rfl (fun ls2 hl2 => k H locs ls2 (ex_has_st hl2) hw hS)
theorem ev_astore {i : Nat} {x : Nat} (hn : i < Y.2.2.1) (hC : Cx G C Y R0) (hd : decode Y.2.1 pc = .ok (.astore i, 2)) (k : Ev G C Y (pc + 2) (ex_st L i (.ref x)) (S) cl sl es) : Ev G C Y pc L (.ref x :: S) cl sl es := by
  obtain ⟨p, e, R, s, m, args, below, meth, c, Q⟩ := C
  exact fun H locs ls hl hw hS => lv_astore hC.1 hC.2.1 hd hl hn rfl (fun ls2 hl2 => k H locs ls2 (ex_has_st hl2) hw hS)
theorem ev_lstore_n {i : Fin 4} {x : Int64} (hn : ((i : Nat) + 1 : Nat) < Y.2.2.1) (hC : Cx G C Y R0) (hd : decode Y.2.1 pc = .ok (.lstore_n i, 1)) (k : Ev G C Y (pc + 1) (ex_stL L i (.long x)) (S) cl sl es) : Ev G C Y pc L (.long x :: S) cl sl es := by
  obtain ⟨p, e, R, s, m, args, below, meth, c, Q⟩ := C
  exact fun H locs ls hl hw hS => lv_lstore_n hC.1 hC.2.1 hd rfl hl hn rfl (fun ls2 hl2 => k H locs ls2 (ex_has_stL hl2) hw hS)
theorem ev_lstore {i : Nat} {x : Int64} (hn : i + 1 < Y.2.2.1) (hC : Cx G C Y R0) (hd : decode Y.2.1 pc = .ok (.lstore i, 2)) (k : Ev G C Y (pc + 2) (ex_stL L i (.long x)) (S) cl sl es) : Ev G C Y pc L (.long x :: S) cl sl es := by
  obtain ⟨p, e, R, s, m, args, below, meth, c, Q⟩ := C
  exact fun H locs ls hl hw hS => lv_lstore hC.1 hC.2.1 hd hl hn rfl (fun ls2 hl2 => k H locs ls2 (ex_has_stL hl2) hw hS)
theorem ev_iinc {i : Nat} {n : Int} {x : Int32} (hi : ex_lk L i = some (.int x)) (hn : i < Y.2.2.1) {v : Int32} (hv : x + Int32.ofInt n = v) (hC : Cx G C Y R0) (hd : decode Y.2.1 pc = .ok (.iinc i n, 3)) (k : Ev G C Y (pc + 3) (ex_st L i (.int v)) S cl sl es) : Ev G C Y pc L S cl sl es := by
  obtain ⟨p, e, R, s, m, args, below, meth, c, Q⟩ := C
  intro H locs ls hl hw hS
  obtain ⟨j, hj⟩ := List.mem_iff_getElem?.mp (ex_ll_lk L 0 i _ hi)
  rw [Nat.zero_add] at hj
  exact lv_iinc hC.1 hC.2.1 hd hl hj hv hn rfl (fun ls2 hl2 => k H locs ls2 (ex_has_st hl2) hw hS)
theorem ev_if_eq {x : Int32} {off : Int} (tgt : Nat) (hC : Cx G C Y R0) (hd : decode Y.2.1 pc = .ok (.ifCond .eq off, 3)) (ht : (pc : Int) + off = (tgt : Int)) (kt : x = 0 → Ev G C Y tgt L S cl sl es) (kf : ¬ x = 0 → Ev G C Y (pc + 3) L S cl sl es) : Ev G C Y pc L (.int x :: S) cl sl es := by
  obtain ⟨p, e, R, s, m, args, below, meth, c, Q⟩ := C
  exact fun H locs ls hl hw hS => lv_if_eq hC.1 hC.2.1 hd ht (fun h => kt h H locs ls hl hw hS) (fun h => kf h H locs ls hl hw hS)
theorem ev_icmp_eq {x y : Int32} {off : Int} (tgt : Nat) (hC : Cx G C Y R0) (hd : decode Y.2.1 pc = .ok (.if_icmp .eq off, 3)) (ht : (pc : Int) + off = (tgt : Int)) (kt : x = y → Ev G C Y tgt L S cl sl es) (kf : ¬ x = y → Ev G C Y (pc + 3) L S cl sl es) : Ev G C Y pc L (.int y :: .int x :: S) cl sl es := by
  obtain ⟨p, e, R, s, m, args, below, meth, c, Q⟩ := C
  exact fun H locs ls hl hw hS => lv_icmp_eq hC.1 hC.2.1 hd ht (fun h => kt h H locs ls hl hw hS) (fun h => kf h H locs ls hl hw hS)
theorem ev_if_ne {x : Int32} {off : Int} (tgt : Nat) (hC : Cx G C Y R0) (hd : decode Y.2.1 pc = .ok (.ifCond .ne off, 3)) (ht : (pc : Int) + off = (tgt : Int)) (kt : ¬ x = 0 → Ev G C Y tgt L S cl sl es) (kf : x = 0 → Ev G C Y (pc + 3) L S cl sl es) : Ev G C Y pc L (.int x :: S) cl sl es := by
  obtain ⟨p, e, R, s, m, args, below, meth, c, Q⟩ := C
  exact fun H locs ls hl hw hS => lv_if_ne hC.1 hC.2.1 hd ht (fun h => kt h H locs ls hl hw hS) (fun h => kf h H locs ls hl hw hS)
theorem ev_icmp_ne {x y : Int32} {off : Int} (tgt : Nat) (hC : Cx G C Y R0) (hd : decode Y.2.1 pc = .ok (.if_icmp .ne off, 3)) (ht : (pc : Int) + off = (tgt : Int)) (kt : ¬ x = y → Ev G C Y tgt L S cl sl es) (kf : x = y → Ev G C Y (pc + 3) L S cl sl es) : Ev G C Y pc L (.int y :: .int x :: S) cl sl es := by
  obtain ⟨p, e, R, s, m, args, below, meth, c, Q⟩ := C
  exact fun H locs ls hl hw hS => lv_icmp_ne hC.1 hC.2.1 hd ht (fun h => kt h H locs ls hl hw hS) (fun h => kf h H locs ls hl hw hS)
theorem ev_if_lt {x : Int32} {off : Int} (tgt : Nat) (hC : Cx G C Y R0) (hd : decode Y.2.1 pc = .ok (.ifCond .lt off, 3)) (ht : (pc : Int) + off = (tgt : Int)) (kt : x < 0 → Ev G C Y tgt L S cl sl es) (kf : ¬ x < 0 → Ev G C Y (pc + 3) L S cl sl es) : Ev G C Y pc L (.int x :: S) cl sl es := by
  obtain ⟨p, e, R, s, m, args, below, meth, c, Q⟩ := C
  exact fun H locs ls hl hw hS => lv_if_lt hC.1 hC.2.1 hd ht (fun h => kt h H locs ls hl hw hS) (fun h => kf h H locs ls hl hw hS)
theorem ev_icmp_lt {x y : Int32} {off : Int} (tgt : Nat) (hC : Cx G C Y R0) (hd : decode Y.2.1 pc = .ok (.if_icmp .lt off, 3)) (ht : (pc : Int) + off = (tgt : Int)) (kt : x < y → Ev G C Y tgt L S cl sl es) (kf : ¬ x < y → Ev G C Y (pc + 3) L S cl sl es) : Ev G C Y pc L (.int y :: .int x :: S) cl sl es := by
  obtain ⟨p, e, R, s, m, args, below, meth, c, Q⟩ := C
  exact fun H locs ls hl hw hS => lv_icmp_lt hC.1 hC.2.1 hd ht (fun h => kt h H locs ls hl hw hS) (fun h => kf h H locs ls hl hw hS)
theorem ev_if_ge {x : Int32} {off : Int} (tgt : Nat) (hC : Cx G C Y R0) (hd : decode Y.2.1 pc = .ok (.ifCond .ge off, 3)) (ht : (pc : Int) + off = (tgt : Int)) (kt : 0 ≤ x → Ev G C Y tgt L S cl sl es) (kf : ¬ 0 ≤ x → Ev G C Y (pc + 3) L S cl sl es) : Ev G C Y pc L (.int x :: S) cl sl es := by
  obtain ⟨p, e, R, s, m, args, below, meth, c, Q⟩ := C
  exact fun H locs ls hl hw hS => lv_if_ge hC.1 hC.2.1 hd ht (fun h => kt h H locs ls hl hw hS) (fun h => kf h H locs ls hl hw hS)
theorem ev_icmp_ge {x y : Int32} {off : Int} (tgt : Nat) (hC : Cx G C Y R0) (hd : decode Y.2.1 pc = .ok (.if_icmp .ge off, 3)) (ht : (pc : Int) + off = (tgt : Int)) (kt : y ≤ x → Ev G C Y tgt L S cl sl es) (kf : ¬ y ≤ x → Ev G C Y (pc + 3) L S cl sl es) : Ev G C Y pc L (.int y :: .int x :: S) cl sl es := by
  obtain ⟨p, e, R, s, m, args, below, meth, c, Q⟩ := C
  exact fun H locs ls hl hw hS => lv_icmp_ge hC.1 hC.2.1 hd ht (fun h => kt h H locs ls hl hw hS) (fun h => kf h H locs ls hl hw hS)
theorem ev_if_gt {x : Int32} {off : Int} (tgt : Nat) (hC : Cx G C Y R0) (hd : decode Y.2.1 pc = .ok (.ifCond .gt off, 3)) (ht : (pc : Int) + off = (tgt : Int)) (kt : 0 < x → Ev G C Y tgt L S cl sl es) (kf : ¬ 0 < x → Ev G C Y (pc + 3) L S cl sl es) : Ev G C Y pc L (.int x :: S) cl sl es := by
  obtain ⟨p, e, R, s, m, args, below, meth, c, Q⟩ := C
  exact fun H locs ls hl hw hS => lv_if_gt hC.1 hC.2.1 hd ht (fun h => kt h H locs ls hl hw hS) (fun h => kf h H locs ls hl hw hS)
theorem ev_icmp_gt {x y : Int32} {off : Int} (tgt : Nat) (hC : Cx G C Y R0) (hd : decode Y.2.1 pc = .ok (.if_icmp .gt off, 3)) (ht : (pc : Int) + off = (tgt : Int)) (kt : y < x → Ev G C Y tgt L S cl sl es) (kf : ¬ y < x → Ev G C Y (pc + 3) L S cl sl es) : Ev G C Y pc L (.int y :: .int x :: S) cl sl es := by
  obtain ⟨p, e, R, s, m, args, below, meth, c, Q⟩ := C
  exact fun H locs ls hl hw hS => lv_icmp_gt hC.1 hC.2.1 hd ht (fun h => kt h H locs ls hl hw hS) (fun h => kf h H locs ls hl hw hS)
theorem ev_if_le {x : Int32} {off : Int} (tgt : Nat) (hC : Cx G C Y R0) (hd : decode Y.2.1 pc = .ok (.ifCond .le off, 3)) (ht : (pc : Int) + off = (tgt : Int)) (kt : x ≤ 0 → Ev G C Y tgt L S cl sl es) (kf : ¬ x ≤ 0 → Ev G C Y (pc + 3) L S cl sl es) : Ev G C Y pc L (.int x :: S) cl sl es := by
  obtain ⟨p, e, R, s, m, args, below, meth, c, Q⟩ := C
  exact fun H locs ls hl hw hS => lv_if_le hC.1 hC.2.1 hd ht (fun h => kt h H locs ls hl hw hS) (fun h => kf h H locs ls hl hw hS)
theorem ev_icmp_le {x y : Int32} {off : Int} (tgt : Nat) (hC : Cx G C Y R0) (hd : decode Y.2.1 pc = .ok (.if_icmp .le off, 3)) (ht : (pc : Int) + off = (tgt : Int)) (kt : x ≤ y → Ev G C Y tgt L S cl sl es) (kf : ¬ x ≤ y → Ev G C Y (pc + 3) L S cl sl es) : Ev G C Y pc L (.int y :: .int x :: S) cl sl es := by
  obtain ⟨p, e, R, s, m, args, below, meth, c, Q⟩ := C
  exact fun H locs ls hl hw hS => lv_icmp_le hC.1 hC.2.1 hd ht (fun h => kt h H locs ls hl hw hS) (fun h => kf h H locs ls hl hw hS)
theorem ev_goto {off : Int} (tgt : Nat) (hC : Cx G C Y R0) (hd : decode Y.2.1 pc = .ok (.goto off, 3)) (ht : (pc : Int) + off = (tgt : Int)) (k : Ev G C Y tgt L S cl sl es) : Ev G C Y pc L S cl sl es := by
  obtain ⟨p, e, R, s, m, args, below, meth, c, Q⟩ := C
  exact fun H locs ls hl hw hS => lv_goto hC.1 hC.2.1 hd ht (k H locs ls hl hw hS)
theorem ev_tabIn {dflt lo hi : Int} {offs : Array Int} {len : Nat} {x : Int32} {off : Int} (tgt : Nat) (hC : Cx G C Y R0) (hd : decode Y.2.1 pc = .ok (.tableswitch dflt lo hi offs, len)) (h1 : ¬ x.toInt < lo) (h2 : ¬ hi < x.toInt) (ho : offs[(x.toInt - lo).toNat]? = some off) (ht : (pc : Int) + off = (tgt : Int)) (k : Ev G C Y tgt L S cl sl es) : Ev G C Y pc L (.int x :: S) cl sl es := by
  obtain ⟨p, e, R, s, m, args, below, meth, c, Q⟩ := C
  exact fun H locs ls hl hw hS => lv_tableIn hC.1 hC.2.1 hd h1 h2 ho ht (k H locs ls hl hw hS)
theorem ev_tabOut {dflt lo hi : Int} {offs : Array Int} {len : Nat} {x : Int32} (tgt : Nat) (hC : Cx G C Y R0) (hd : decode Y.2.1 pc = .ok (.tableswitch dflt lo hi offs, len)) (h : x.toInt < lo ∨ hi < x.toInt) (ht : (pc : Int) + dflt = (tgt : Int)) (k : Ev G C Y tgt L S cl sl es) : Ev G C Y pc L (.int x :: S) cl sl es := by
  obtain ⟨p, e, R, s, m, args, below, meth, c, Q⟩ := C
  exact fun H locs ls hl hw hS => lv_tableOut hC.1 hC.2.1 hd h ht (k H locs ls hl hw hS)
theorem ev_look {dflt : Int} {ps : Array (Int × Int)} {len : Nat} {x : Int32} {off : Int} (tgt : Nat) (hC : Cx G C Y R0) (hd : decode Y.2.1 pc = .ok (.lookupswitch dflt ps, len)) (hp : (ps.toList.zip (ps.toList.drop 1)).all (fun (a, next) => a.1 < next.1) = true) (ho : Op.lookupswitch.offset ps.toList dflt x.toInt = off) (ht : (pc : Int) + off = (tgt : Int)) (k : Ev G C Y tgt L S cl sl es) : Ev G C Y pc L (.int x :: S) cl sl es := by
  obtain ⟨p, e, R, s, m, args, below, meth, c, Q⟩ := C
  exact fun H locs ls hl hw hS => lv_lookup hC.1 hC.2.1 hd hp ho ht (k H locs ls hl hw hS)
theorem ev_iret {v : Int32} {r : Option Value} {es2 : List va_E} (hC : Cx G C Y R0) (hR : Cr G C Y cl sl r es2) (hd : decode Y.2.1 pc = .ok (.ireturn, 1)) (hrt : Y.2.2.2 = some .int) (hr : r = some (.int v)) (he : es2 = es) : Ev G C Y pc L [.int v] cl sl es := by
  obtain ⟨p, e, R, s, m, args, below, meth, c, Q⟩ := C
  obtain ⟨h1, h2, h3, h4⟩ := hR
  subst h4
  subst hr
  subst he
  exact fun H locs ls hl hw hS => W.iret hC.1 hC.2.1 (h1.trans hrt) (fun t ht _ => ⟨rfl, by rw [ht]; exact hw, hS.F ht⟩) hS.2.2 hd h2
theorem ev_lret {v : Int64} {r : Option Value} {es2 : List va_E} (hC : Cx G C Y R0) (hR : Cr G C Y cl sl r es2) (hd : decode Y.2.1 pc = .ok (.lreturn, 1)) (hrt : Y.2.2.2 = some .long) (hr : r = some (.long v)) (he : es2 = es) : Ev G C Y pc L [.long v] cl sl es := by
  obtain ⟨p, e, R, s, m, args, below, meth, c, Q⟩ := C
  obtain ⟨h1, h2, h3, h4⟩ := hR
  subst h4
  subst hr
  subst he
  exact fun H locs ls hl hw hS => W.lret hC.1 hC.2.1 (h1.trans hrt) (fun t ht _ => ⟨rfl, by rw [ht]; exact hw, hS.F ht⟩) hS.2.2 hd h2
theorem ev_zret {v : Int32} {ty : FieldType} {r : Option Value} {es2 : List va_E} (hC : Cx G C Y R0) (hR : Cr G C Y cl sl r es2) (hd : decode Y.2.1 pc = .ok (.ireturn, 1)) (hrt : Y.2.2.2 = some ty) (hn : narrow ty (.int v) = .int v) (hr : r = some (.int v)) (he : es2 = es) : Ev G C Y pc L [.int v] cl sl es := by
  obtain ⟨p, e, R, s, m, args, below, meth, c, Q⟩ := C
  obtain ⟨h1, h2, h3, h4⟩ := hR
  subst h4
  subst hr
  subst he
  exact fun H locs ls hl hw hS => W.zret hC.1 hC.2.1 (h1.trans hrt) hn (fun t ht _ => ⟨rfl, by rw [ht]; exact hw, hS.F ht⟩) hS.2.2 hd h2
theorem ev_aret {a : Nat} {n : String} {r : Option Value} {es2 : List va_E} (hC : Cx G C Y R0) (hR : Cr G C Y cl sl r es2) (hd : decode Y.2.1 pc = .ok (.areturn, 1)) (hrt : Y.2.2.2 = some (.object n)) (hr : r = some (.ref a)) (he : es2 = es) : Ev G C Y pc L [.ref a] cl sl es := by
  obtain ⟨p, e, R, s, m, args, below, meth, c, Q⟩ := C
  obtain ⟨h1, h2, h3, h4⟩ := hR
  subst h4
  subst hr
  subst he
  exact fun H locs ls hl hw hS => W.aret hC.1 hC.2.1 (h1.trans hrt) (Or.inl ⟨n, rfl⟩) (Or.inr ⟨a, rfl⟩) (fun t ht _ => ⟨rfl, by rw [ht]; exact hw, hS.F ht⟩) hS.2.2 hd h2
theorem ev_vret {r : Option Value} {es2 : List va_E} (hC : Cx G C Y R0) (hR : Cr G C Y cl sl r es2) (hd : decode Y.2.1 pc = .ok (.return_, 1)) (hrt : Y.2.2.2 = none) (hr : r = none) (he : es2 = es) : Ev G C Y pc L [] cl sl es := by
  obtain ⟨p, e, R, s, m, args, below, meth, c, Q⟩ := C
  obtain ⟨h1, h2, h3, h4⟩ := hR
  subst h4
  subst hr
  subst he
  exact fun H locs ls hl hw hS => W.vret hC.1 hC.2.1 (h1.trans hrt) (fun t ht _ => ⟨rfl, by rw [ht]; exact hw, hS.F ht⟩) hS.2.2 hd h2
theorem ev_get {j ci idx k NF : Nat} {N0 : String} {T : u_T} {fs : List Value} {v : Value} (hC : Cx G C Y R0) (hd : decode Y.2.1 pc = .ok (.getfield idx, 3)) (hcl : ex_cl[ci]? = some (N0, T, NF)) (hin : ∀ w ∈ u_ws N0 T NF, w ∈ ex_tb) (hk : Cond.fieldLink Y.1.cls idx N0 (T k).2.1 (T k).2.2.1 ∈ ex_tb) (hself : (T k).1 = N0) (hlt : k < NF) (he : es[j]? = some (.inr (ci, fs))) (hv : fs[k]? = some v) (k2 : Ev G C Y (pc + 3) L (v :: S) cl sl es) : Ev G C Y pc L (.ref (ex_b G + j) :: S) cl sl es := by
  obtain ⟨p, e, R, s, m, args, below, meth, c, Q⟩ := C
  exact fun H locs ls hl hw hS => va_get hC.1 hC.2.1 hC.2.2.2.2.1 hin hC.2.2.2.1 hC.2.2.2.2.2.2.1 hw.1 j (ex_wl_get he) hcl k hlt (hC.2.2.2.2.1 _ hk) (by rw [hself]; exact fun _ h => h) hv hd (k2 H locs ls hl hw hS)
theorem ev_getN {j ci idx k NF : Nat} {N0 : String} {T : u_T} {fs : List Value} {v : Value} (hC : Cx G C Y R0) (hd : decode Y.2.1 pc = .ok (.getfield idx, 3)) (hcl : ex_cl[ci]? = some (N0, T, NF)) (hin : ∀ w ∈ u_ws N0 T NF, w ∈ ex_tb) (hk : Cond.fieldLinkNest Y.1.cls idx N0 (T k).2.1 (T k).2.2.1 "DayBehind" ∈ lw_tbl) (hself : (T k).1 = N0) (hlt : k < NF) (he : es[j]? = some (.inr (ci, fs))) (hv : fs[k]? = some v) (k2 : Ev G C Y (pc + 3) L (v :: S) cl sl es) : Ev G C Y pc L (.ref (ex_b G + j) :: S) cl sl es := by
  obtain ⟨p, e, R, s, m, args, below, meth, c, Q⟩ := C
  exact fun H locs ls hl hw hS => va_getN hC.1 hC.2.1 hC.2.2.2.2.1 hin hC.2.2.2.1 hC.2.2.2.2.2.2.1 hw.1 j (ex_wl_get he) hcl k hlt (va_Nw.use rfl (hC.2.2.2.2.2.2.2.2.2.1 _ hk rfl)) (by rw [hself]; exact fun _ h => h) hv hd (k2 H locs ls hl hw hS)
theorem ev_put {j ci idx k NF : Nat} {N0 : String} {T : u_T} {fs : List Value} {v : Value} {ty : FieldType} (ty0 : Nat → FieldType) (hty : ∀ k, k < NF → parseFieldDescriptor (T k).2.2.1 = some (ty0 k)) (hnm : ∀ a, a < NF → ∀ b, b < NF → a ≠ b → (T a).2.1 ≠ (T b).2.1) (hC : Cx G C Y R0) (hd : decode Y.2.1 pc = .ok (.putfield idx, 3)) (hcl : ex_cl[ci]? = some (N0, T, NF)) (hin : ∀ w ∈ u_ws N0 T NF, w ∈ ex_tb) (hk : Cond.fieldLink Y.1.cls idx N0 (T k).2.1 (T k).2.2.1 ∈ ex_tb) (hself : (T k).1 = N0) (hlt : k < NF) (hfin : (T k).2.2.2 = false) (hpd : parseFieldDescriptor (T k).2.2.1 = some ty) (hn : narrow ty v = v) (hfit : fits ty v = true) (he : es[j]? = some (.inr (ci, fs))) (hfs : k < fs.length) (k2 : Ev G C Y (pc + 3) L S cl sl (es.set j (.inr (ci, fs.set k v)))) : Ev G C Y pc L (v :: .ref (ex_b G + j) :: S) cl sl es := by
  obtain ⟨p, e, R, s, m, args, below, meth, c, Q⟩ := C
  intro H locs ls hl hw hS
  have hap := va_apart (own := Y.1.cls) hC.2.2.2.2.1 hin ty0 hty hnm hC.2.2.2.2.2.2.1 hcl
  have hP := hw.1
  have hD := ex_wl_D G es
  have he2 := ex_wl_get (b := ex_b G) he
  obtain ⟨r, h1, cell, q1, q2, q3, q4⟩ := hP j _ he2
  have hr : r = (N0, T, NF) := Option.some.inj (h1.symm.trans hcl)
  subst hr
  obtain ⟨hSl, hfc, kC, hkC, hkind⟩ := hC.2.2.2.2.2.2.1.1 ci _ hcl
  obtain ⟨cf, kf, fi, f, hi, hsl⟩ := hSl k hlt
  have hlay := hC.2.2.2.2.1 _ (hin _ (u_in_lay hlt))
  unfold u_lay at hlay
  rw [if_neg (by rw [hfin]; decide)] at hlay
  have hst := (u_facts hfc hkC (u_lays hC.2.2.2.2.1 hin hlt) hi).1
  have h6 := u_store hfc hkC hkind hlay hi hpd hn hfit
  refine W.putK hC.1 hC.2.1 (f := f) ⟨hC.2.2.2.1, (hC.2.2.2.2.1 _ hk), ⟨_, _, _, by rw [hself] at hi; exact hi⟩, hst⟩ (by rw [q2]; exact h6) q1 q3 (by rw [hsl]; exact k2_hasslot (q4 k hlt)) rfl rfl hd fun H2 e1 e2 e3 => ?_
  rw [hsl] at e1
  rw [hsl]
  refine k2 H2 _ ls hl ⟨?_, fun z => by rw [e2, List.length_set]; rw [List.length_set] at z; exact hw.2 z⟩ (hS.put e2 e3 (hD.2 j _ he2))
  rw [← ex_wl_set]
  exact hP.set hD he2 ⟨_, hcl, t_OB.to (V := updV (vp_V fs) k v) ⟨_, e1, q2, q3, t_set q4 hap hlt v⟩ (fun i _ => vp_updV_set hfs v i)⟩ e3
theorem ev_putN {j ci idx k NF : Nat} {N0 : String} {T : u_T} {fs : List Value} {v : Value} {ty : FieldType} (ty0 : Nat → FieldType) (hty : ∀ k, k < NF → parseFieldDescriptor (T k).2.2.1 = some (ty0 k)) (hnm : ∀ a, a < NF → ∀ b, b < NF → a ≠ b → (T a).2.1 ≠ (T b).2.1) (hC : Cx G C Y R0) (hd : decode Y.2.1 pc = .ok (.putfield idx, 3)) (hcl : ex_cl[ci]? = some (N0, T, NF)) (hin : ∀ w ∈ u_ws N0 T NF, w ∈ ex_tb) (hk : Cond.fieldLinkNest Y.1.cls idx N0 (T k).2.1 (T k).2.2.1 "DayBehind" ∈ lw_tbl) (hself : (T k).1 = N0) (hlt : k < NF) (hfin : (T k).2.2.2 = false) (hpd : parseFieldDescriptor (T k).2.2.1 = some ty) (hn : narrow ty v = v) (hfit : fits ty v = true) (he : es[j]? = some (.inr (ci, fs))) (hfs : k < fs.length) (k2 : Ev G C Y (pc + 3) L S cl sl (es.set j (.inr (ci, fs.set k v)))) : Ev G C Y pc L (v :: .ref (ex_b G + j) :: S) cl sl es := by
  obtain ⟨p, e, R, s, m, args, below, meth, c, Q⟩ := C
  intro H locs ls hl hw hS
  have hap := va_apart (own := Y.1.cls) hC.2.2.2.2.1 hin ty0 hty hnm hC.2.2.2.2.2.2.1 hcl
  have hP := hw.1
  have hD := ex_wl_D G es
  have he2 := ex_wl_get (b := ex_b G) he
  obtain ⟨r, h1, cell, q1, q2, q3, q4⟩ := hP j _ he2
  have hr : r = (N0, T, NF) := Option.some.inj (h1.symm.trans hcl)
  subst hr
  obtain ⟨hSl, hfc, kC, hkC, hkind⟩ := hC.2.2.2.2.2.2.1.1 ci _ hcl
  obtain ⟨cf, kf, fi, f, hi, hsl⟩ := hSl k hlt
  have hlay := hC.2.2.2.2.1 _ (hin _ (u_in_lay hlt))
  unfold u_lay at hlay
  rw [if_neg (by rw [hfin]; decide)] at hlay
  have hst := (u_facts hfc hkC (u_lays hC.2.2.2.2.1 hin hlt) hi).1
  have h6 := u_store hfc hkC hkind hlay hi hpd hn hfit
  refine va_WputK hC.1 hC.2.1 (f := f) hC.2.2.2.1 (va_Nw.use rfl (hC.2.2.2.2.2.2.2.2.2.1 _ hk rfl)) (by rw [hself] at hi; exact hi) hst (by rw [q2]; exact h6) q1 q3 (by rw [hsl]; exact k2_hasslot (q4 k hlt)) rfl rfl hd fun H2 e1 e2 e3 => ?_
  rw [hsl] at e1
  rw [hsl]
  refine k2 H2 _ ls hl ⟨?_, fun z => by rw [e2, List.length_set]; rw [List.length_set] at z; exact hw.2 z⟩ (hS.put e2 e3 (hD.2 j _ he2))
  rw [← ex_wl_set]
  exact hP.set hD he2 ⟨_, hcl, t_OB.to (V := updV (vp_V fs) k v) ⟨_, e1, q2, q3, t_set q4 hap hlt v⟩ (fun i _ => vp_updV_set hfs v i)⟩ e3
theorem ev_putF {j ci idx k NF mc ms : Nat} {N0 : String} {T : u_T} {fs : List Value} {v : Value} {ty : FieldType} {r0 : Option Value} {es0 : List va_E} (ty0 : Nat → FieldType) (hty : ∀ k, k < NF → parseFieldDescriptor (T k).2.2.1 = some (ty0 k)) (hnm : ∀ a, a < NF → ∀ b, b < NF → a ≠ b → (T a).2.1 ≠ (T b).2.1) (hC : Cx G C Y R0) (hR : Cr G C Y mc ms r0 es0) (hini : Y.1.name = "<init>") (hown : Y.1.cls = N0) (hd : decode Y.2.1 pc = .ok (.putfield idx, 3)) (hcl : ex_cl[ci]? = some (N0, T, NF)) (hin : ∀ w ∈ u_ws N0 T NF, w ∈ ex_tb) (hk : Cond.fieldLink Y.1.cls idx N0 (T k).2.1 (T k).2.2.1 ∈ ex_tb) (hself : (T k).1 = N0) (hlt : k < NF) (hfin : (T k).2.2.2 = true) (hpd : parseFieldDescriptor (T k).2.2.1 = some ty) (hn : narrow ty v = v) (hfit : fits ty v = true) (he : es[j]? = some (.inr (ci, fs))) (hfs : k < fs.length) (k2 : Ev G C Y (pc + 3) L S cl sl (es.set j (.inr (ci, fs.set k v)))) : Ev G C Y pc L (v :: .ref (ex_b G + j) :: S) cl sl es := by
  obtain ⟨p, e, R, s, m, args, below, meth, c, Q⟩ := C
  intro H locs ls hl hw hS
  have hap := va_apart (own := Y.1.cls) hC.2.2.2.2.1 hin ty0 hty hnm hC.2.2.2.2.2.2.1 hcl
  have hP := hw.1
  have hD := ex_wl_D G es
  have he2 := ex_wl_get (b := ex_b G) he
  obtain ⟨r, h1, cell, q1, q2, q3, q4⟩ := hP j _ he2
  have hr : r = (N0, T, NF) := Option.some.inj (h1.symm.trans hcl)
  subst hr
  obtain ⟨hSl, hfc, kC, hkC, hkind⟩ := hC.2.2.2.2.2.2.1.1 ci _ hcl
  obtain ⟨cf, kf, fi, f, hi, hsl⟩ := hSl k hlt
  have hlay := hC.2.2.2.2.1 _ (hin _ (u_in_lay hlt))
  unfold u_lay at hlay
  rw [if_pos hfin] at hlay
  have hst := (u_facts hfc hkC (u_lays hC.2.2.2.2.1 hin hlt) hi).1
  have hcf : m.cls = cf := by
    obtain ⟨_, _, c', _, _, _, -, -, hf', -, -, -, hown2, -⟩ := Cond.laysFinal_spec hlay
    have e1 : c' = cf := by have := hi.symm.trans hf'; simp at this; exact this.1.symm
    rw [hself, ← hown] at hown2
    rw [← e1]; exact Option.some.inj (hC.2.2.2.1.symm.trans hown2)
  have h6 := u_fits hfc hkC hkind (Or.inr hlay) hi hpd hn hfit
  refine W.putFinK hC.1 hC.2.1 hC.2.2.2.1 (hC.2.2.2.2.1 _ hk) (by rw [hself] at hi; exact hi) hst hcf (hR.2.2.1.trans hini) (by rw [q2]; exact h6) q1 q3 (by rw [hsl]; exact k2_hasslot (q4 k hlt)) rfl rfl hd fun H2 e1 e2 e3 => ?_
  rw [hsl] at e1
  rw [hsl]
  refine k2 H2 _ ls hl ⟨?_, fun z => by rw [e2, List.length_set]; rw [List.length_set] at z; exact hw.2 z⟩ (hS.put e2 e3 (hD.2 j _ he2))
  rw [← ex_wl_set]
  exact hP.set hD he2 ⟨_, hcl, t_OB.to (V := updV (vp_V fs) k v) ⟨_, e1, q2, q3, t_set q4 hap hlt v⟩ (fun i _ => vp_updV_set hfs v i)⟩ e3
theorem ev_iald {j n : Nat} {f : Nat → Int32} {i : Int32} (hC : Cx G C Y R0) (hd : decode Y.2.1 pc = .ok (.iaload, 1)) (he : es[j]? = some (.inl (ex_c G 0, n, .inl f))) (hi : vp_in i n) (k2 : Ev G C Y (pc + 1) L (.int (f i.toNatClampNeg) :: S) cl sl es) : Ev G C Y pc L (.int i :: .ref (ex_b G + j) :: S) cl sl es := by
  obtain ⟨p, e, R, s, m, args, below, meth, c, Q⟩ := C
  exact fun H locs ls hl hw hS => va_iald hC.1 hC.2.1 hC.2.2.2.2.2.2.1 hw.1 j 0 (ex_wl_get he) rfl hi hd (k2 H locs ls hl hw hS)
theorem ev_lald {j n : Nat} {f : Nat → Int64} {i : Int32} (hC : Cx G C Y R0) (hd : decode Y.2.1 pc = .ok (.laload, 1)) (he : es[j]? = some (.inl (ex_c G 1, n, .inr (.inl f)))) (hi : vp_in i n) (k2 : Ev G C Y (pc + 1) L (.long (f i.toNatClampNeg) :: S) cl sl es) : Ev G C Y pc L (.int i :: .ref (ex_b G + j) :: S) cl sl es := by
  obtain ⟨p, e, R, s, m, args, below, meth, c, Q⟩ := C
  exact fun H locs ls hl hw hS => va_lald hC.1 hC.2.1 hC.2.2.2.2.2.2.1 hw.1 j 1 (ex_wl_get he) rfl hi hd (k2 H locs ls hl hw hS)
theorem ev_aald {j n t a : Nat} {N0 : String} {f : Nat → Option Nat} {i : Int32} (hC : Cx G C Y R0) (hd : decode Y.2.1 pc = .ok (.aaload, 1)) (ht : (ex_ty G)[t]? = some (ex_c G t, .object N0)) (he : es[j]? = some (.inl (ex_c G t, n, .inr (.inr (.inr (.inr f)))))) (hi : vp_in i n) (ha : f i.toNatClampNeg = some a) (k2 : Ev G C Y (pc + 1) L (.ref a :: S) cl sl es) : Ev G C Y pc L (.int i :: .ref (ex_b G + j) :: S) cl sl es := by
  obtain ⟨p, e, R, s, m, args, below, meth, c, Q⟩ := C
  exact fun H locs ls hl hw hS => va_aldq hC.1 hC.2.1 hC.2.2.2.2.2.2.1 hw.1 j t (ex_wl_get he) ht hi hd (by rw [ha]; exact k2 H locs ls hl hw hS)
theorem ev_alen {j t : Nat} {x : vp_A} {ty : FieldType} {v : Int32} (hC : Cx G C Y R0) (hd : decode Y.2.1 pc = .ok (.arraylength, 1)) (ht : (ex_ty G)[t]? = some (ex_c G t, ty)) (he : es[j]? = some (.inl (ex_c G t, x))) (hv : Int32.ofNat x.1 = v) (k2 : Ev G C Y (pc + 1) L (.int v :: S) cl sl es) : Ev G C Y pc L (.ref (ex_b G + j) :: S) cl sl es := by
  obtain ⟨p, e, R, s, m, args, below, meth, c, Q⟩ := C
  exact fun H locs ls hl hw hS => va_alen hC.1 hC.2.1 hC.2.2.2.2.2.2.1 hw.1 j t (ex_wl_get he) ht hv hd (k2 H locs ls hl hw hS)
theorem ev_iast {j n : Nat} {f : Nat → Int32} {i x : Int32} (hC : Cx G C Y R0) (hd : decode Y.2.1 pc = .ok (.iastore, 1)) (he : es[j]? = some (.inl (ex_c G 0, n, .inl f))) (hi : vp_in i n) (k2 : Ev G C Y (pc + 1) L S cl sl (es.set j (.inl (ex_c G 0, n, .inl (upd f i.toNatClampNeg x))))) : Ev G C Y pc L (.int x :: .int i :: .ref (ex_b G + j) :: S) cl sl es := by
  obtain ⟨p, e, R, s, m, args, below, meth, c, Q⟩ := C
  intro H locs ls hl hw hS
  have hP := hw.1
  have hD := ex_wl_D G es
  have he2 := ex_wl_get (b := ex_b G) he
  refine W.iast hC.1 hC.2.1 (hP j _ he2) ((hC.2.2.2.2.2.2.1.2 0 _ rfl).1 n (fun j => .int (f j))) (fun q => by cases q) (by show ¬ (i < 0 ∨ (arrV _ _ _).slots.size ≤ _); rw [arrV_size]; exact hi) rfl rfl hd fun H2 e1 e2 e3 => ?_
  refine k2 H2 _ ls hl ⟨?_, fun z => by rw [e2, List.length_set]; rw [List.length_set] at z; exact hw.2 z⟩ (hS.put e2 e3 (hD.2 j _ he2))
  rw [← ex_wl_set]
  refine hP.set hD he2 ?_ e3
  show H2[ex_b G + j]? = some (vp_cell _ _)
  rw [e1]
  rw [vp_cell_i, vp_cell_i, arrV_store]
  congr 2
  funext q
  by_cases hq : q = i.toNatClampNeg
  · subst hq
    simp [updV, upd]
  · simp [updV, upd, hq]
theorem ev_last {j n : Nat} {f : Nat → Int64} {i : Int32} {x : Int64} (hC : Cx G C Y R0) (hd : decode Y.2.1 pc = .ok (.lastore, 1)) (he : es[j]? = some (.inl (ex_c G 1, n, .inr (.inl f)))) (hi : vp_in i n) (k2 : Ev G C Y (pc + 1) L S cl sl (es.set j (.inl (ex_c G 1, n, .inr (.inl (vp_updL f i.toNatClampNeg x)))))) : Ev G C Y pc L (.long x :: .int i :: .ref (ex_b G + j) :: S) cl sl es := by
  obtain ⟨p, e, R, s, m, args, below, meth, c, Q⟩ := C
  intro H locs ls hl hw hS
  have hP := hw.1
  have hD := ex_wl_D G es
  have he2 := ex_wl_get (b := ex_b G) he
  refine W.last hC.1 hC.2.1 (hP j _ he2) ((hC.2.2.2.2.2.2.1.2 1 _ rfl).1 n (fun j => .long (f j))) (fun q => by cases q) (by show ¬ (i < 0 ∨ (arrV _ _ _).slots.size ≤ _); rw [arrV_size]; exact hi) rfl rfl hd fun H2 e1 e2 e3 => ?_
  refine k2 H2 _ ls hl ⟨?_, fun z => by rw [e2, List.length_set]; rw [List.length_set] at z; exact hw.2 z⟩ (hS.put e2 e3 (hD.2 j _ he2))
  rw [← ex_wl_set]
  refine hP.set hD he2 ?_ e3
  show H2[ex_b G + j]? = some (vp_cell _ _)
  rw [e1]
  rw [vp_cell_l, vp_cell_l, arrV_store]
  congr 2
  funext q
  by_cases hq : q = i.toNatClampNeg
  · subst hq
    simp [updV, vp_updL]
  · simp [updV, vp_updL, hq]
end EvRows
end
section
/-- a method that can be called: its words -/
def ex_mi (Y : ex_Y) (n : Nat) : Prop := Cond.code Y.1 Y.2.1 Y.2.2.1 Y.2.2.2 ∈ ex_tb ∧ Cond.initialized Y.1.cls ∈ ex_tb ∧ Y.1.cls ≠ "java/lang/invoke/MethodHandle" ∧ Y.1.cls ≠ "java/lang/invoke/VarHandle" ∧ (parseMethodDescriptor Y.1.desc).map (fun d => d.parameters.length) = some n
theorem ex_blind {G : ex_G} {av : List Value} {es : List va_E} : FrameBlind (va_Pc av (fun U => ex_K G U ∧ ex_wd G es U.heap)) := fun a U g mk q => ⟨q.1, ex_K.same (u := U) (U := U.calling g mk a) rfl rfl q.2.1, q.2.2⟩
theorem ex_goodIn {Z : ex_Y} {n : Nat} (hm : ex_mi Z n) {ws : List Cond} (hw : ∀ w ∈ ws, w ∈ ex_tb) : GoodIn ex_tb (ws ++ (.code Z.1 Z.2.1 Z.2.2.1 Z.2.2.2 :: ex_tb)) := ex_tb_good fun w h => by
  rcases List.mem_append.mp h with h | h
  · exact hw w h
  · rcases List.mem_cons.mp h with h | h
    · rw [h]; exact hm.1
    · exact h
section EvCalls
variable {G : ex_G} {C : ex_C} {Y Z : ex_Y} {R0 : Room} {pc cl sl : Nat} {L : List (Option Value)} {S : List Value} {es es1 : List va_E}
/-- behind a call -/
theorem ex_after {p : Program} {e : Env} {R : Room} {s : State} {m : MethodId} {args : Array Value} {below : List Frame} {meth : Method} {c : Code} {Q : State → Prop} {H : Heap} {locs : List Loc} {ls : Array Slot} {mc ms : Nat} {st0 rest : List Value} {r : Option Value}
    (hr : va_Run p (ex_l G) e R s m args below meth c H locs cl sl mc ms (F0 m pc ls st0) rest (ex_Q G r es1 args) (ex_A G)) (hl : lv_has ls Y.2.2.1 (ex_ll 0 L)) (hS : va_S (ex_A G) s.heap H locs)
    (k : Ev G (p, e, R, s, m, args, below, meth, c, Q) Y (pc + 3) L (r.toList ++ rest) (cl + mc) (sl + ms) es1) : W p (ex_l G) e R s m args below meth c H locs cl sl Q (F0 m pc ls st0) := by
  intro T hT X
  obtain ⟨v, st₀, t, T', Lc, h0, X', hL, e1, e2, ⟨hv, hw, hz, hk⟩, st⟩ := hr T hT X
  cases hv
  rw [h0] at hz hk
  obtain ⟨t2, a1, b1⟩ := k T'.heap (locs ++ Lc) ls hl (by rw [e1]; exact hw)
    ⟨Nat.le_trans hS.1 (by rw [e1]; exact hz), fun q h1 h2 => by rw [e1, hk q (Nat.lt_of_lt_of_le h1 hS.1) h2]; exact hS.2.1 q h1 h2, fun q hq => by
      rcases List.mem_append.mp hq with h | h
      · exact hS.2.2 q h
      · exact hL q h⟩ T' rfl X'
  exact ⟨t2, st t2 a1, b1⟩
theorem ex_pre {p : Program} {e : Env} {R : Room} {s : State} {m : MethodId} {args : Array Value} {below : List Frame} {meth : Method} {c : Code} {Q : State → Prop} {H : Heap} {locs : List Loc} (hC : Cx G (p, e, R, s, m, args, below, meth, c, Q) Y R0) (hw : ex_wd G es H) (hS : va_S (ex_A G) s.heap H locs) (av : List Value) :
    ∀ U : State, U.heap = H → s.WarmedH U.vm → va_Pc av (fun U => ex_K G U ∧ ex_wd G es U.heap) av.toArray U := fun U hU hW => ⟨rfl, ex_K.warm hW (fun q h1 h2 => by rw [hU]; exact hS.2.1 q h1 h2) (by rw [hU]; exact hS.1) hC.2.2.2.2.2.2, by rw [hU]; exact hw⟩
theorem ex_argsfree {r : Option Value} {a b : Array Value} : ex_Q G r es1 a = ex_Q G r es1 b := rfl
/-- invokevirtual: the receiver is an object of the world -/
theorem ev_callV {F X mc ms idx n j ci NF : Nat} {T : u_T} {fs As rest : List Value} {r : Option Value} (hC : Cx G C Y R0) (hd : decode Y.2.1 pc = .ok (.invokevirtual idx, 3)) (hcon : Con G Z F X mc ms (.ref (ex_b G + j) :: As) es r es1) (hm : ex_mi Z n) (hlk : Cond.methodLink Y.1.cls idx Z.1 ∈ ex_tb) (hin : Cond.instanceMethod Z.1 ∈ ex_tb) (hse : Cond.selects Z.1.cls Z.1 Z.1 ∈ ex_tb)
    (hroom : F + 1 ≤ R0.frames ∧ 8 + (Z.2.2.1 + 11) + X ≤ R0.locals) (hroom2 : cl + mc ≤ R0.cells ∧ sl + ms ≤ R0.slots) (hcl : ex_cl[ci]? = some (Z.1.cls, T, NF)) (he : es[j]? = some (.inr (ci, fs))) (hst : S = As.reverse ++ .ref (ex_b G + j) :: rest) (hn : As.length = n) (hcat : (rest.map fun v => v.category).sum ≤ 8)
    (k : Ev G C Y (pc + 3) L (r.toList ++ rest) (cl + mc) (sl + ms) es1) : Ev G C Y pc L S cl sl es := by
  obtain ⟨p, e, R, s, m, args, below, meth, c, Q⟩ := C
  intro H locs ls hl hw hS
  have hRR : R = R0 := hC.2.2.2.2.2.1
  refine ex_after (Y := Y) (L := L) (r := r) (es1 := es1) (rest := rest) (mc := mc) (ms := ms) ?_ hl hS k
  exact va_runV (Ts := ex_tb) (own := Y.1.cls) (C := Z.1.cls) (nL := Y.2.2.1) (As := As) (rest := rest) (b := ex_b G + j) (bytes := Z.2.1) (maxL := Z.2.2.1) (ret := Z.2.2.2) (n := n) (index := idx) ⟨hC.1, hC.2.1, hC.2.2.1, hC.2.2.2.1, hC.2.2.2.2.1⟩ hcon
    (cwV n hC.2.2.2.2.1 (ex_goodIn (ws := [.methodLink Y.1.cls idx Z.1, .instanceMethod Z.1, .selects Z.1.cls Z.1 Z.1, .initialized Z.1.cls]) hm (by intro w h; simp only [List.mem_cons, List.not_mem_nil, or_false] at h; rcases h with h | h | h | h <;> subst h; exact hlk; exact hin; exact hse; exact hm.2.1)) rfl rfl rfl ⟨rfl, hm.2.2⟩ (by rw [hRR]; exact hroom))
    ⟨ex_blind, va_recv hC.2.2.2.2.2.2.1 hw.1 hcl (ex_wl_get he), ex_pre hC hw hS _⟩ rfl hn hl.1 hst (by show 2 * 0 + _ ≤ 8; omega) hd (by rw [hRR]; exact hroom2)
/-- invokevirtual on a String constant -/
theorem ev_callStr {F X idx n i : Nat} {As rest : List Value} {r : Option Value} (hC : Cx G C Y R0) (hd : decode Y.2.1 pc = .ok (.invokevirtual idx, 3)) (hcon : Con G Z F X 0 0 (.ref (ex_sK G i) :: As) es r es1) (hm : ex_mi Z n) (hlk : Cond.methodLink Y.1.cls idx Z.1 ∈ ex_tb) (hin : Cond.instanceMethod Z.1 ∈ ex_tb) (hse : Cond.selects Z.1.cls Z.1 Z.1 ∈ ex_tb) (hcs : Z.1.cls = "java/lang/String") (hi : i < 14)
    (hroom : F + 1 ≤ R0.frames ∧ 8 + (Z.2.2.1 + 11) + X ≤ R0.locals) (hroom2 : cl ≤ R0.cells ∧ sl ≤ R0.slots) (hst : S = As.reverse ++ .ref (ex_sK G i) :: rest) (hn : As.length = n) (hcat : (rest.map fun v => v.category).sum ≤ 8)
    (k : Ev G C Y (pc + 3) L (r.toList ++ rest) cl sl es1) : Ev G C Y pc L S cl sl es := by
  obtain ⟨p, e, R, s, m, args, below, meth, c, Q⟩ := C
  intro H locs ls hl hw hS
  have hRR : R = R0 := hC.2.2.2.2.2.1
  refine ex_after (Y := Y) (L := L) (r := r) (es1 := es1) (rest := rest) (mc := 0) (ms := 0) ?_ hl hS k
  refine va_runV (Ts := ex_tb) (own := Y.1.cls) (C := Z.1.cls) (nL := Y.2.2.1) (As := As) (rest := rest) (b := ex_sK G i) (bytes := Z.2.1) (maxL := Z.2.2.1) (ret := Z.2.2.2) (n := n) (index := idx) ⟨hC.1, hC.2.1, hC.2.2.1, hC.2.2.2.1, hC.2.2.2.2.1⟩ hcon
    (cwV n hC.2.2.2.2.1 (ex_goodIn (ws := [.methodLink Y.1.cls idx Z.1, .instanceMethod Z.1, .selects Z.1.cls Z.1 Z.1, .initialized Z.1.cls]) hm (by intro w h; simp only [List.mem_cons, List.not_mem_nil, or_false] at h; rcases h with h | h | h | h <;> subst h; exact hlk; exact hin; exact hse; exact hm.2.1)) rfl rfl rfl ⟨rfl, hm.2.2⟩ (by rw [hRR]; exact hroom))
    ⟨ex_blind, ?_, ex_pre hC hw hS _⟩ rfl hn hl.1 hst (by show 2 * 0 + _ ≤ 8; omega) hd (by rw [hRR]; exact hroom2)
  obtain ⟨cell, h1, h2, h3, -⟩ := (hC.2.2.2.2.2.2.2.1.2.2.2.2 i hi).1.kept hS.2.1
  exact ⟨cell, h1, h2, by rw [hcs]; exact h3⟩
/-- invokestatic -/
theorem ev_callS {F X idx n : Nat} {As rest : List Value} {r : Option Value} (hC : Cx G C Y R0) (hd : decode Y.2.1 pc = .ok (.invokestatic idx, 3)) (hcon : Con G Z F X 0 0 As es r es1) (hm : ex_mi Z n) (hlk : Cond.methodLink Y.1.cls idx Z.1 ∈ ex_tb) (hst0 : Cond.static Z.1 ∈ ex_tb)
    (hroom : F + 1 ≤ R0.frames ∧ 8 + (Z.2.2.1 + 11) + X ≤ R0.locals) (hroom2 : cl ≤ R0.cells ∧ sl ≤ R0.slots) (hst : S = As.reverse ++ rest) (hn : As.length = n) (hcat : (rest.map fun v => v.category).sum ≤ 8)
    (k : Ev G C Y (pc + 3) L (r.toList ++ rest) cl sl es1) : Ev G C Y pc L S cl sl es := by
  obtain ⟨p, e, R, s, m, args, below, meth, c, Q⟩ := C
  intro H locs ls hl hw hS
  have hRR : R = R0 := hC.2.2.2.2.2.1
  refine ex_after (Y := Y) (L := L) (r := r) (es1 := es1) (rest := rest) (mc := 0) (ms := 0) ?_ hl hS k
  exact va_runS (Ts := ex_tb) (own := Y.1.cls) (nL := Y.2.2.1) (As := As) (rest := rest) (bytes := Z.2.1) (maxL := Z.2.2.1) (ret := Z.2.2.2) (n := n) (index := idx) ⟨hC.1, hC.2.1, hC.2.2.1, hC.2.2.2.1, hC.2.2.2.2.1⟩ hcon
    (va_cwS n hC.2.2.2.2.1 (ex_goodIn (ws := [.methodLink Y.1.cls idx Z.1, .static Z.1, .initialized Z.1.cls]) hm (by intro w h; simp only [List.mem_cons, List.not_mem_nil, or_false] at h; rcases h with h | h | h <;> subst h; exact hlk; exact hst0; exact hm.2.1)) rfl rfl rfl hm.2.2 (by rw [hRR]; exact hroom))
    ⟨ex_blind, ex_pre hC hw hS _⟩ rfl hn hl.1 hst (by show 2 * 0 + _ ≤ 8; omega) hd (by rw [hRR]; exact hroom2)
/-- invokespecial of a constructor -/
theorem ev_callI {F X mc ms idx n j : Nat} {As rest : List Value} (hC : Cx G C Y R0) (hd : decode Y.2.1 pc = .ok (.invokespecial idx, 3)) (hcon : Con G Z F X mc ms (.ref (ex_b G + j) :: As) es none es1) (hm : ex_mi Z n) (hret : Z.2.2.2 = none) (hnm : Z.1.name = "<init>") (hlk : Cond.methodLink Y.1.cls idx Z.1 ∈ ex_tb) (hin : Cond.instanceMethod Z.1 ∈ ex_tb)
    (hroom : F + 1 ≤ R0.frames ∧ 8 + (Z.2.2.1 + 11) + X ≤ R0.locals) (hroom2 : cl + mc ≤ R0.cells ∧ sl + ms ≤ R0.slots) (hst : S = As.reverse ++ .ref (ex_b G + j) :: rest) (hn : As.length = n) (hcat : (rest.map fun v => v.category).sum ≤ 8)
    (k : Ev G C Y (pc + 3) L rest (cl + mc) (sl + ms) es1) : Ev G C Y pc L S cl sl es := by
  obtain ⟨p, e, R, s, m, args, below, meth, c, Q⟩ := C
  intro H locs ls hl hw hS
  have hRR : R = R0 := hC.2.2.2.2.2.1
  refine ex_after (Y := Y) (L := L) (r := none) (es1 := es1) (rest := rest) (mc := mc) (ms := ms) ?_ hl hS k
  obtain ⟨z1, z2, z3, z4⟩ := Z
  cases hret
  exact va_runI (Ts := ex_tb) (own := Y.1.cls) (nL := Y.2.2.1) (As := As) (rest := rest) (b := ex_b G + j) (bytes := z2) (maxL := z3) (n := n) (index := idx) ⟨hC.1, hC.2.1, hC.2.2.1, hC.2.2.2.1, hC.2.2.2.2.1⟩ hcon
    (cwI n hC.2.2.2.2.1 (ex_goodIn (ws := []) hm (by intro w h; cases h)) rfl rfl rfl (hC.2.2.2.2.1 _ hm.2.1) (hC.2.2.2.2.1 _ hlk) (hC.2.2.2.2.1 _ hin) hnm hm.2.2 (by rw [hRR]; exact hroom))
    ⟨ex_blind, ex_pre hC hw hS _⟩ rfl hn hl.1 hst (by show 2 * 0 + _ ≤ 8; omega) hd (by rw [hRR]; exact hroom2)
theorem ev_callIN {F X mc ms idx n j : Nat} {As rest : List Value} (hC : Cx G C Y R0) (hd : decode Y.2.1 pc = .ok (.invokespecial idx, 3)) (hcon : Con G Z F X mc ms (.ref (ex_b G + j) :: As) es none es1) (hm : ex_mi Z n) (hret : Z.2.2.2 = none) (hnm : Z.1.name = "<init>") (hlk : Cond.methodLinkNest Y.1.cls idx Z.1 "DayBehind" ∈ lw_tbl) (hin : Cond.instanceMethod Z.1 ∈ ex_tb)
    (hroom : F + 1 ≤ R0.frames ∧ 8 + (Z.2.2.1 + 11) + X ≤ R0.locals) (hroom2 : cl + mc ≤ R0.cells ∧ sl + ms ≤ R0.slots) (hst : S = As.reverse ++ .ref (ex_b G + j) :: rest) (hn : As.length = n) (hcat : (rest.map fun v => v.category).sum ≤ 8)
    (k : Ev G C Y (pc + 3) L rest (cl + mc) (sl + ms) es1) : Ev G C Y pc L S cl sl es := by
  obtain ⟨p, e, R, s, m, args, below, meth, c, Q⟩ := C
  intro H locs ls hl hw hS
  have hRR : R = R0 := hC.2.2.2.2.2.1
  refine ex_after (Y := Y) (L := L) (r := none) (es1 := es1) (rest := rest) (mc := mc) (ms := ms) ?_ hl hS k
  obtain ⟨z1, z2, z3, z4⟩ := Z
  cases hret
  exact va_runIN (Ts := ex_tb) (own := Y.1.cls) (host := "DayBehind") (nL := Y.2.2.1) (As := As) (rest := rest) (b := ex_b G + j) (bytes := z2) (maxL := z3) (n := n) (index := idx) ⟨hC.1, hC.2.1, hC.2.2.1, hC.2.2.2.1, hC.2.2.2.2.1⟩ hcon
    ⟨va_cnB n hC.2.2.2.2.1 (ex_goodIn (ws := []) hm (by intro w h; cases h)) rfl rfl rfl (hC.2.2.2.2.2.2.2.2.2.1 _ hlk rfl) (hC.2.2.2.2.1 _ hm.2.1) hm.2.2 (by rw [hRR]; exact hroom), hnm, hC.2.2.2.2.1 _ hin⟩
    ⟨ex_blind, ex_pre hC hw hS _⟩ rfl hn hl.1 hst (by show 2 * 0 + _ ≤ 8; omega) hd (by rw [hRR]; exact hroom2)
theorem ev_objInit {idx j : Nat} {rest : List Value} (hC : Cx G C Y R0) (hd : decode Y.2.1 pc = .ok (.invokespecial idx, 3)) (hlk : Cond.methodLink Y.1.cls idx Lib.objectInit ∈ ex_tb) (hin : Cond.instanceMethod Lib.objectInit ∈ ex_tb) (hco : Cond.code Lib.objectInit ⟨#[0xb1]⟩ 1 none ∈ ex_tb) (hroom : 1 ≤ R0.frames ∧ (rest.map fun v => v.category).sum + 12 ≤ R0.locals)
    (k : Ev G C Y (pc + 3) L rest cl sl es) : Ev G C Y pc L (.ref j :: rest) cl sl es := by
  obtain ⟨p, e, R, s, m, args, below, meth, c, Q⟩ := C
  have hRR : R = R0 := hC.2.2.2.2.2.1
  exact fun H locs ls hl hw hS => W.objInit hC.1 hC.2.1 hC.2.2.2.1 (hC.2.2.2.2.1 _ hlk) (hC.2.2.2.2.1 _ hin) (hC.2.2.2.2.1 _ hco) rfl (hl.1.trans hC.2.2.1.symm) rfl hd (by rw [hRR]; exact hroom.1) (by rw [hRR]; show 2 * 0 + _ + 12 ≤ _; have := hroom.2; omega) (k H locs ls hl hw hS)
end EvCalls
section EvNew
variable {G : ex_G} {C : ex_C} {Y : ex_Y} {R0 : Room} {pc cl sl : Nat} {L : List (Option Value)} {S : List Value} {es : List va_E}
theorem ex_wd_push {x : va_E} {H H1 : Heap} (hw : ex_wd G es H) (hz : es.length < 83) (z1 : H1.size = H.size + 1) (o1 : ∀ q : Nat, q < H.size → H1[q]? = H[q]?) (hx : va_at (ex_D G) ex_cl (ex_b G + es.length, x) H1) : ex_wd G (es ++ [x]) H1 := by
  have e : ex_wl (ex_b G) (es ++ [x]) = ex_wl (ex_b G) es ++ [(ex_b G + es.length, x)] := by simp [ex_wl, List.mapIdx_append]
  refine ⟨?_, fun _ => by rw [z1, hw.2 hz]; simp; omega⟩
  rw [e]
  refine va_P.app (hw.1.kept fun k q hq => o1 q.1 ((hw.1 k q hq).lt)) (fun k q hq => ?_)
  have hk : k < 1 := (List.getElem?_eq_some_iff.mp hq).1
  rw [show k = 0 by omega] at hq
  cases hq
  exact hx
theorem ev_new {idx ci NF : Nat} {N0 : String} {T : u_T} {fs : List Value} (ty0 : Nat → FieldType) (hty : ∀ k, k < NF → parseFieldDescriptor (T k).2.2.1 = some (ty0 k)) (hC : Cx G C Y R0) (hd : decode Y.2.1 pc = .ok (.new idx, 3)) (hcl : ex_cl[ci]? = some (N0, T, NF)) (hin : ∀ w ∈ u_ws N0 T NF, w ∈ ex_tb) (hck : Cond.classLink Y.1.cls idx N0 ∈ ex_tb) (hins : Cond.instantiable N0 NF ∈ ex_tb) (hini : Cond.initialized N0 ∈ ex_tb) (hfs : ∀ j, j < NF → defaultValue (ty0 j) = vp_V fs j) (hz : es.length < 83) (hroom : cl + 1 ≤ R0.cells ∧ sl + NF ≤ R0.slots)
    (k : Ev G C Y (pc + 3) L (.ref (ex_b G + es.length) :: S) (cl + 1) (sl + NF) (es ++ [.inr (ci, fs)])) : Ev G C Y pc L S cl sl es := by
  obtain ⟨p, e, R, s, m, args, below, meth, c, Q⟩ := C
  intro H locs ls hl hw hS
  have hRR : R = R0 := hC.2.2.2.2.2.1
  have hKn := hC.2.2.2.2.2.2.1.1 ci _ hcl
  refine W.newcK hC.1 hC.2.1 hC.2.2.2.1 (hC.2.2.2.2.1 _ hck) (hC.2.2.2.2.1 _ hins) (hC.2.2.2.2.1 _ hini) rfl hd (by rw [hRR]; exact hroom.1) (by rw [hRR]; exact hroom.2) hKn.2.1 (hw.2 hz) fun H1 kC hkC e1 z1 o1 => ?_
  rw [← hw.2 hz] at z1 o1
  exact k H1 locs ls hl (ex_wd_push hw hz z1 o1 ⟨_, hcl, (u_born ty0 hC.2.2.2.2.1 hin hKn hkC e1 hty).to hfs⟩) ⟨Nat.le_trans hS.1 (by omega), fun x h1 h2 => (o1 x (Nat.lt_of_lt_of_le h1 hS.1)).trans (hS.2.1 x h1 h2), hS.2.2⟩
theorem ev_newI {n : Int32} {N : Nat} (hC : Cx G C Y R0) (hd : decode Y.2.1 pc = .ok (.newarray .int, 2)) (har : Cond.arrayClass .int ∈ ex_tb) (hn : ¬ n < 0) (hN : n.toNatClampNeg = N) (hb : N * 4 ≤ 536870912) (hz : es.length < 83) (hroom : cl + 1 ≤ R0.cells ∧ sl + N ≤ R0.slots)
    (k : Ev G C Y (pc + 2) L (.ref (ex_b G + es.length) :: S) (cl + 1) (sl + N) (es ++ [.inl (ex_c G 0, N, .inl (fun _ => 0))])) : Ev G C Y pc L (.int n :: S) cl sl es := by
  obtain ⟨p, e, R, s, m, args, below, meth, c, Q⟩ := C
  intro H locs ls hl hw hS
  have hRR : R = R0 := hC.2.2.2.2.2.1
  refine va_newaK (atype := .int) hC.1 hC.2.1 (hC.2.2.2.2.1 _ har) rfl hd rfl hn hN hb (by rw [hRR]; exact hroom.1) (by rw [hRR]; exact hroom.2) (hw.2 hz) fun H1 cA e1 z1 o1 hAr hNm => ?_
  rw [← hw.2 hz] at z1 o1
  have hcA : cA = ex_c G 0 := Option.some.inj (hNm.symm.trans (hC.2.2.2.2.2.2.1.2 0 _ rfl).2)
  subst hcA
  exact k H1 locs ls hl (ex_wd_push hw hz z1 o1 e1) ⟨Nat.le_trans hS.1 (by omega), fun x h1 h2 => (o1 x (Nat.lt_of_lt_of_le h1 hS.1)).trans (hS.2.1 x h1 h2), hS.2.2⟩
theorem ev_newL {n : Int32} {N : Nat} (hC : Cx G C Y R0) (hd : decode Y.2.1 pc = .ok (.newarray .long, 2)) (har : Cond.arrayClass .long ∈ ex_tb) (hn : ¬ n < 0) (hN : n.toNatClampNeg = N) (hb : N * 8 ≤ 536870912) (hz : es.length < 83) (hroom : cl + 1 ≤ R0.cells ∧ sl + N ≤ R0.slots)
    (k : Ev G C Y (pc + 2) L (.ref (ex_b G + es.length) :: S) (cl + 1) (sl + N) (es ++ [.inl (ex_c G 1, N, .inr (.inl (fun _ => 0)))])) : Ev G C Y pc L (.int n :: S) cl sl es := by
  obtain ⟨p, e, R, s, m, args, below, meth, c, Q⟩ := C
  intro H locs ls hl hw hS
  have hRR : R = R0 := hC.2.2.2.2.2.1
  refine va_newaK (atype := .long) hC.1 hC.2.1 (hC.2.2.2.2.1 _ har) rfl hd rfl hn hN hb (by rw [hRR]; exact hroom.1) (by rw [hRR]; exact hroom.2) (hw.2 hz) fun H1 cA e1 z1 o1 hAr hNm => ?_
  rw [← hw.2 hz] at z1 o1
  have hcA : cA = ex_c G 1 := Option.some.inj (hNm.symm.trans (hC.2.2.2.2.2.2.1.2 1 _ rfl).2)
  subst hcA
  exact k H1 locs ls hl (ex_wd_push hw hz z1 o1 e1) ⟨Nat.le_trans hS.1 (by omega), fun x h1 h2 => (o1 x (Nat.lt_of_lt_of_le h1 hS.1)).trans (hS.2.1 x h1 h2), hS.2.2⟩
theorem ev_newA {t idx : Nat} {N0 : String} {n : Int32} {N : Nat} (hC : Cx G C Y R0) (hd : decode Y.2.1 pc = .ok (.anewarray idx, 3)) (ht : (ex_ty G)[t]? = some (ex_c G t, .object N0)) (hck : Cond.classLink Y.1.cls idx N0 ∈ ex_tb) (hov : Cond.arrayOver (.object N0) ∈ lw_tbl) (hn : ¬ n < 0) (hN : n.toNatClampNeg = N) (hb : N * 4 ≤ 536870912) (hz : es.length < 83) (hroom : cl + 1 ≤ R0.cells ∧ sl + N ≤ R0.slots)
    (k : Ev G C Y (pc + 3) L (.ref (ex_b G + es.length) :: S) (cl + 1) (sl + N) (es ++ [.inl (ex_c G t, N, .inr (.inr (.inr (.inr (fun _ => none)))))])) : Ev G C Y pc L (.int n :: S) cl sl es := by
  obtain ⟨p, e, R, s, m, args, below, meth, c, Q⟩ := C
  intro H locs ls hl hw hS
  have hRR : R = R0 := hC.2.2.2.2.2.1
  subst hN
  refine W.anew hC.1 hC.2.1 hC.2.2.2.1 (hC.2.2.2.2.1 _ hck) (va_AO.use (hC.2.2.2.2.2.2.2.2.2.1 _ hov rfl)) rfl hd rfl hn hb (by rw [hRR]; exact hroom.1) (by rw [hRR]; exact hroom.2) fun cA kA comp f1 f2 f3 f4 => ?_
  generalize hH1 : H.push ({ cls := cA, slots := Array.replicate n.toNatClampNeg .null, vm := .none } : Cell) = H1
  have z1 : H1.size = H.size + 1 := by rw [← hH1, Array.size_push]
  have e1 : H1[H.size]? = some (arrV cA n.toNatClampNeg (fun _ => .null)) := by rw [← hH1, Array.getElem?_push_size, ← arrV_new]
  have o1 : ∀ q : Nat, q < H.size → H1[q]? = H[q]? := fun q hq => by rw [← hH1, Array.getElem?_push, if_neg (Nat.ne_of_lt hq)]
  obtain ⟨kA2, comp2, g1, g2, g3, g4⟩ := (hC.2.2.2.2.2.2.1.2 t _ ht).2
  have hcA : cA = ex_c G t := Option.some.inj (f1.symm.trans g4)
  subst hcA
  have hH : H.size = ex_b G + es.length := hw.2 hz
  rw [hH]
  exact k H1 locs ls hl (ex_wd_push hw hz z1 o1 (by rw [hH] at e1; exact e1)) ⟨Nat.le_trans hS.1 (by omega), fun x h1 h2 => (o1 x (Nat.lt_of_lt_of_le h1 hS.1)).trans (hS.2.1 x h1 h2), hS.2.2⟩
/-- a made object goes into an array of its class -/
theorem ev_aast {j j2 n t ci : Nat} {q : vw_C} {vs : List Value} {f : Nat → Option Nat} {i : Int32} (hC : Cx G C Y R0) (hd : decode Y.2.1 pc = .ok (.aastore, 1)) (ht : (ex_ty G)[t]? = some (ex_c G t, .object q.1)) (he : es[j]? = some (.inl (ex_c G t, n, .inr (.inr (.inr (.inr f)))))) (he2 : es[j2]? = some (.inr (ci, vs))) (hcl : ex_cl[ci]? = some q) (hi : vp_in i n)
    (k : Ev G C Y (pc + 1) L S cl sl (es.set j (.inl (ex_c G t, n, .inr (.inr (.inr (.inr (va_up f i.toNatClampNeg (some (ex_b G + j2)))))))))) : Ev G C Y pc L (.ref (ex_b G + j2) :: .int i :: .ref (ex_b G + j) :: S) cl sl es := by
  obtain ⟨p, e, R, s, m, args, below, meth, c, Q⟩ := C
  intro H locs ls hl hw hS
  have hP := hw.1
  have hD := ex_wl_D G es
  have hb2 := ex_wl_get (b := ex_b G) he
  have hlt : i.toNatClampNeg < n := Nat.not_le.mp fun q => hi (Or.inr q)
  have h0 : ¬ i < 0 := fun q => hi (Or.inl q)
  obtain ⟨r', hr', cellV, g1, g2, g3, -⟩ := hP j2 _ (ex_wl_get he2)
  have hcls := (hC.2.2.2.2.2.2.1.1 ci q hcl).2
  obtain ⟨kA, comp, k1, k2, k3, -⟩ := (hC.2.2.2.2.2.2.1.2 t _ ht).2
  have hcomp : comp = (ex_D G).1 ci := Option.some.inj (k3.symm.trans hcls.1)
  subst hcomp
  obtain ⟨kC, hkC, -⟩ := hcls.2
  refine W.aast hC.1 hC.2.1 (hP j _ hb2) (fun q h => by cases h) (fun h => by cases h) k1 k2 rfl hkC ⟨h0, by show _ < (arrV _ _ _).slots.size; rw [arrV_size]; exact hlt⟩ g1 (fun q h => by rw [g3] at h; cases h) (by rw [g2]; exact hkC) (by rw [g2]; exact va_assign hcls) rfl rfl hd fun H2 e1 e2 e3 => ?_
  refine k H2 _ ls hl ⟨?_, fun z => by rw [e2, List.length_set]; rw [List.length_set] at z; exact hw.2 z⟩ (hS.put e2 e3 (hD.2 j _ hb2))
  rw [← ex_wl_set]
  refine hP.set hD hb2 ?_ e3
  show H2[ex_b G + j]? = some (vp_cell _ _)
  rw [e1]
  rw [vp_cell_q, vp_cell_q, arrV_store]
  congr 2
  funext q
  by_cases hq : q = i.toNatClampNeg
  · subst hq
    simp [updV, va_up, va_rf]
  · simp [updV, va_up, hq]
/-- a String constant goes into an array of Strings -/
theorem ev_aastS {j i0 n : Nat} {f : Nat → Option Nat} {i : Int32} (hC : Cx G C Y R0) (hd : decode Y.2.1 pc = .ok (.aastore, 1)) (he : es[j]? = some (.inl (ex_c G 5, n, .inr (.inr (.inr (.inr f)))))) (hi0 : i0 < 14) (hini : Cond.initialized "java/lang/String" ∈ ex_tb) (hi : vp_in i n)
    (k : Ev G C Y (pc + 1) L S cl sl (es.set j (.inl (ex_c G 5, n, .inr (.inr (.inr (.inr (va_up f i.toNatClampNeg (some (ex_sK G i0)))))))))) : Ev G C Y pc L (.ref (ex_sK G i0) :: .int i :: .ref (ex_b G + j) :: S) cl sl es := by
  obtain ⟨p, e, R, s, m, args, below, meth, c, Q⟩ := C
  intro H locs ls hl hw hS
  have hP := hw.1
  have hD := ex_wl_D G es
  have hb2 := ex_wl_get (b := ex_b G) he
  have hlt : i.toNatClampNeg < n := Nat.not_le.mp fun q => hi (Or.inr q)
  have h0 : ¬ i < 0 := fun q => hi (Or.inl q)
  obtain ⟨cellV, g1, g2, g3, -⟩ := (hC.2.2.2.2.2.2.2.1.2.2.2.2 i0 hi0).1.kept hS.2.1
  obtain ⟨kA, comp, k1, k2, k3, -⟩ := (hC.2.2.2.2.2.2.1.2 5 _ rfl).2
  have hcomp : comp = cellV.cls := Option.some.inj (k3.symm.trans g3)
  subst hcomp
  have hkk : ∃ kC : Class, s.vm.classes[cellV.cls]? = some kC := by
    have h1 := hC.2.2.2.2.1 _ hini
    cases hk : s.vm.classes[cellV.cls]? with
    | none => simp [Cond.before, Cond.holds, Cond.value, g3, hk] at h1
    | some kC => exact ⟨kC, rfl⟩
  obtain ⟨kC, hkC⟩ := hkk
  refine W.aast hC.1 hC.2.1 (hP j _ hb2) (fun q h => by cases h) (fun h => by cases h) k1 k2 rfl hkC ⟨h0, by show _ < (arrV _ _ _).slots.size; rw [arrV_size]; exact hlt⟩ g1 (fun q h => by rw [h] at g2; cases g2) hkC (va_asg _ _) rfl rfl hd fun H2 e1 e2 e3 => ?_
  refine k H2 _ ls hl ⟨?_, fun z => by rw [e2, List.length_set]; rw [List.length_set] at z; exact hw.2 z⟩ (hS.put e2 e3 (hD.2 j _ hb2))
  rw [← ex_wl_set]
  refine hP.set hD hb2 ?_ e3
  show H2[ex_b G + j]? = some (vp_cell _ _)
  rw [e1]
  rw [vp_cell_q, vp_cell_q, arrV_store]
  congr 2
  funext q
  by_cases hq : q = i.toNatClampNeg
  · subst hq
    simp [updV, va_up, va_rf]
  · simp [updV, va_up, hq]
/-- System.arraycopy between rows of longs -/
theorem ev_copyL {idx j0 j n0 n1 : Nat} {f g : Nat → Int64} {sp dp n : Int32} (hC : Cx G C Y R0) (hd : decode Y.2.1 pc = .ok (.invokestatic idx, 3)) (hlk : Cond.methodLink Y.1.cls idx arraycopyName ∈ ex_tb) (hna : Cond.native arraycopyName ∈ ex_tb) (hst : Cond.static arraycopyName ∈ ex_tb) (hini : Cond.initialized "java/lang/System" ∈ ex_tb) (hfull : 83 ≤ es.length)
    (he0 : es[j0]? = some (.inl (ex_c G 1, n0, .inr (.inl f)))) (he : es[j]? = some (.inl (ex_c G 1, n1, .inr (.inl g)))) (h1 : ¬ sp < 0) (h2 : ¬ dp < 0) (h3 : ¬ n < 0) (h4 : sp.toNatClampNeg + n.toNatClampNeg ≤ n0) (h5 : dp.toNatClampNeg + n.toNatClampNeg ≤ n1) (hroom : 1 ≤ R0.frames ∧ (S.map fun v => v.category).sum + (nativeFrameWords "java/lang/System" "arraycopy" 5 + 11) ≤ R0.locals)
    (k : Ev G C Y (pc + 3) L S cl sl (es.set j (.inl (ex_c G 1, n1, .inr (.inl (va_cpy f g sp.toNatClampNeg dp.toNatClampNeg n.toNatClampNeg)))))) : Ev G C Y pc L (.int n :: .int dp :: .ref (ex_b G + j) :: .int sp :: .ref (ex_b G + j0) :: S) cl sl es := by
  obtain ⟨p, e, R, s, m, args, below, meth, c, Q⟩ := C
  intro H locs ls hl hw hS
  have hRR : R = R0 := hC.2.2.2.2.2.1
  refine va_copyl hC.1 hC.2.1 (hC.2.2.1.trans hl.1.symm) hC.2.2.2.1 (hC.2.2.2.2.1 _ hlk) (hC.2.2.2.2.1 _ hna) (hC.2.2.2.2.1 _ hst) (hC.2.2.2.2.1 _ hini) hC.2.2.2.2.2.2.1 hw.1 (ex_wl_D G es) hS j0 j 1 1 (ex_wl_get he0) (ex_wl_get he) rfl rfl rfl h1 h2 h3 h4 h5 (fun _ _ => rfl) (by rw [hRR]; exact hroom.1) (by rw [hRR]; exact hroom.2) hd fun H1 locs1 hP1 hD1 hS1 => ?_
  rw [ex_wl_set] at hP1
  exact k H1 locs1 ls hl ⟨hP1, fun z => absurd z (by rw [List.length_set]; omega)⟩ hS1
/-- a static, and what lies in the constants' tables -/
theorem ev_above {idx : Nat} (hC : Cx G C Y R0) (hd : decode Y.2.1 pc = .ok (.getstatic idx, 3)) (hlk : Cond.fieldLink Y.1.cls idx "DayBehind$Kinds" "ABOVE" "[I" ∈ ex_tb) (k : Ev G C Y (pc + 3) L (.ref (ex_ab G) :: S) cl sl es) : Ev G C Y pc L S cl sl es := by
  obtain ⟨p, e, R, s, m, args, below, meth, c, Q⟩ := C
  exact fun H locs ls hl hw hS => va_gets hC.1 hC.2.1 hC.2.2.2.2.2.2.2.1.1 hS hC.2.2.2.1 (hC.2.2.2.2.1 _ hlk) (fun _ h => h) hd (k H locs ls hl hw hS)
theorem ev_aboveAt {i : Int32} (hC : Cx G C Y R0) (hd : decode Y.2.1 pc = .ok (.iaload, 1)) (hi : vp_in i 6) (k : Ev G C Y (pc + 1) L (.int (ck_above i.toNatClampNeg) :: S) cl sl es) : Ev G C Y pc L (.int i :: .ref (ex_ab G) :: S) cl sl es := by
  obtain ⟨p, e, R, s, m, args, below, meth, c, Q⟩ := C
  exact fun H locs ls hl hw hS => va_ti hC.1 hC.2.1 hC.2.2.2.2.2.2.2.1.2.1 hS hi rfl hd (k H locs ls hl hw hS)
theorem ev_compact {idx : Nat} (hC : Cx G C Y R0) (hd : decode Y.2.1 pc = .ok (.getstatic idx, 3)) (hlk : Cond.fieldLink Y.1.cls idx "java/lang/String" "COMPACT_STRINGS" "Z" ∈ ex_tb) (k : Ev G C Y (pc + 3) L (.int 1 :: S) cl sl es) : Ev G C Y pc L S cl sl es := by
  obtain ⟨p, e, R, s, m, args, below, meth, c, Q⟩ := C
  exact fun H locs ls hl hw hS => va_gets hC.1 hC.2.1 hC.2.2.2.2.2.2.2.1.2.2.1 hS hC.2.2.2.1 (hC.2.2.2.2.1 _ hlk) (fun _ h => h) hd (k H locs ls hl hw hS)
theorem ev_format {idx : Nat} (hC : Cx G C Y R0) (hd : decode Y.2.1 pc = .ok (.getstatic idx, 3)) (hlk : Cond.fieldLink Y.1.cls idx "jdk/internal/util/Preconditions" "SIOOBE_FORMATTER" "Ljava/util/function/BiFunction;" ∈ ex_tb) (k : ∀ v : Value, (v = .null ∨ ∃ a, v = .ref a) → Ev G C Y (pc + 3) L (v :: S) cl sl es) : Ev G C Y pc L S cl sl es := by
  obtain ⟨p, e, R, s, m, args, below, meth, c, Q⟩ := C
  intro H locs ls hl hw hS
  rcases hC.2.2.2.2.2.2.2.1.2.2.2.1 with hZ | ⟨t, hZ⟩
  · exact va_gets hC.1 hC.2.1 hZ hS hC.2.2.2.1 (hC.2.2.2.2.1 _ hlk) (fun _ h => h) hd (k _ (Or.inl rfl) H locs ls hl hw hS)
  · exact va_gets hC.1 hC.2.1 hZ hS hC.2.2.2.1 (hC.2.2.2.2.1 _ hlk) (fun _ h => h) hd (k _ (Or.inr ⟨t, rfl⟩) H locs ls hl hw hS)
theorem ev_strCoder {idx i : Nat} (hC : Cx G C Y R0) (hd : decode Y.2.1 pc = .ok (.getfield idx, 3)) (hi : i < 14) (hlk : Cond.fieldLink Y.1.cls idx "java/lang/String" "coder" "B" ∈ ex_tb) (k : Ev G C Y (pc + 3) L (.int 0 :: S) cl sl es) : Ev G C Y pc L (.ref (ex_sK G i) :: S) cl sl es := by
  obtain ⟨p, e, R, s, m, args, below, meth, c, Q⟩ := C
  exact fun H locs ls hl hw hS => vk_getf hC.1 hC.2.1 (hC.2.2.2.2.2.2.2.1.2.2.2.2 i hi).2.1 hS hC.2.2.2.1 (hC.2.2.2.2.1 _ hlk) (fun _ h => h) hd (k H locs ls hl hw hS)
theorem ev_strValue {idx i : Nat} (hC : Cx G C Y R0) (hd : decode Y.2.1 pc = .ok (.getfield idx, 3)) (hi : i < 14) (hlk : Cond.fieldLink Y.1.cls idx "java/lang/String" "value" "[B" ∈ ex_tb) (k : Ev G C Y (pc + 3) L (.ref (ex_sV G i) :: S) cl sl es) : Ev G C Y pc L (.ref (ex_sK G i) :: S) cl sl es := by
  obtain ⟨p, e, R, s, m, args, below, meth, c, Q⟩ := C
  exact fun H locs ls hl hw hS => vk_getf hC.1 hC.2.1 (hC.2.2.2.2.2.2.2.1.2.2.2.2 i hi).2.2.1 hS hC.2.2.2.1 (hC.2.2.2.2.1 _ hlk) (fun _ h => h) hd (k H locs ls hl hw hS)
theorem ev_strByte {i : Nat} {x : Int32} (hC : Cx G C Y R0) (hd : decode Y.2.1 pc = .ok (.baload, 1)) (hi : i < 14) (hx : vp_in x (ck_len.getD i 0)) (k : Ev G C Y (pc + 1) L (.int ((ck_byt.getD i []).getD x.toNatClampNeg 0) :: S) cl sl es) : Ev G C Y pc L (.int x :: .ref (ex_sV G i) :: S) cl sl es := by
  obtain ⟨p, e, R, s, m, args, below, meth, c, Q⟩ := C
  exact fun H locs ls hl hw hS => va_tb hC.1 hC.2.1 (hC.2.2.2.2.2.2.2.1.2.2.2.2 i hi).2.2.2 hS hx rfl hd (k H locs ls hl hw hS)
theorem ev_strLen {i : Nat} (hC : Cx G C Y R0) (hd : decode Y.2.1 pc = .ok (.arraylength, 1)) (hi : i < 14) (k : Ev G C Y (pc + 1) L (.int (Int32.ofNat (ck_len.getD i 0)) :: S) cl sl es) : Ev G C Y pc L (.ref (ex_sV G i) :: S) cl sl es := by
  obtain ⟨p, e, R, s, m, args, below, meth, c, Q⟩ := C
  intro H locs ls hl hw hS
  obtain ⟨cell, h1, h2, h3, h4, h5, h6, h7⟩ := (hC.2.2.2.2.2.2.2.1.2.2.2.2 i hi).2.2.2.kept hS.2.1
  exact W.alen hC.1 hC.2.1 h1 h2 h5 rfl rfl hd (k H locs ls hl hw hS)
end EvNew
end
