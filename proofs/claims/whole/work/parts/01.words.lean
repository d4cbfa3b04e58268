def lw_okq (q : MethodName × Nat) : Prop := (q.1.cls ≠ "java/lang/invoke/MethodHandle" ∧ q.1.cls ≠ "java/lang/invoke/VarHandle") ∧ Cond.instantiable q.1.cls q.2 ∈ tables_1 ∧ Cond.privateMethod q.1 ∈ tables_1 ∧ Cond.instanceMethod q.1 ∈ tables_1
theorem lw_p0 : lw_okq (⟨"TruePoll$Tape", "skipBlanks", "()V"⟩, 7) := ⟨⟨by decide +kernel, by decide +kernel⟩, List.mem_of_getElem? (i := 221) (by decide +kernel), List.mem_of_getElem? (i := 408) (by decide +kernel), List.mem_of_getElem? (i := 409) (by decide +kernel)⟩
theorem lw_p1 : lw_okq (⟨"TruePoll$Tape", "readToken", "(I)I"⟩, 7) := ⟨⟨by decide +kernel, by decide +kernel⟩, List.mem_of_getElem? (i := 221) (by decide +kernel), List.mem_of_getElem? (i := 416) (by decide +kernel), List.mem_of_getElem? (i := 417) (by decide +kernel)⟩
theorem lw_p2 : lw_okq (⟨"TruePoll$Tape", "readWord", "()I"⟩, 7) := ⟨⟨by decide +kernel, by decide +kernel⟩, List.mem_of_getElem? (i := 221) (by decide +kernel), List.mem_of_getElem? (i := 423) (by decide +kernel), List.mem_of_getElem? (i := 424) (by decide +kernel)⟩
theorem lw_p3 : lw_okq (⟨"TruePoll$Tape", "isWord", "(II)Z"⟩, 7) := ⟨⟨by decide +kernel, by decide +kernel⟩, List.mem_of_getElem? (i := 221) (by decide +kernel), List.mem_of_getElem? (i := 427) (by decide +kernel), List.mem_of_getElem? (i := 428) (by decide +kernel)⟩
theorem lw_p4 : lw_okq (⟨"TruePoll$Tape", "readNumber", "()I"⟩, 7) := ⟨⟨by decide +kernel, by decide +kernel⟩, List.mem_of_getElem? (i := 221) (by decide +kernel), List.mem_of_getElem? (i := 483) (by decide +kernel), List.mem_of_getElem? (i := 484) (by decide +kernel)⟩
theorem lw_p5 : lw_okq (⟨"TruePoll$Tape", "readMark", "(C)I"⟩, 7) := ⟨⟨by decide +kernel, by decide +kernel⟩, List.mem_of_getElem? (i := 221) (by decide +kernel), List.mem_of_getElem? (i := 490) (by decide +kernel), List.mem_of_getElem? (i := 491) (by decide +kernel)⟩
theorem lw_p6 : lw_okq (⟨"TruePoll$Reader", "advance", "()V"⟩, 18) := ⟨⟨by decide +kernel, by decide +kernel⟩, List.mem_of_getElem? (i := 253) (by decide +kernel), List.mem_of_getElem? (i := 552) (by decide +kernel), List.mem_of_getElem? (i := 553) (by decide +kernel)⟩
theorem lw_p7 : lw_okq (⟨"TruePoll$Reader", "readClause", "()V"⟩, 18) := ⟨⟨by decide +kernel, by decide +kernel⟩, List.mem_of_getElem? (i := 253) (by decide +kernel), List.mem_of_getElem? (i := 557) (by decide +kernel), List.mem_of_getElem? (i := 558) (by decide +kernel)⟩
theorem lw_p8 : lw_okq (⟨"TruePoll$Reader", "fail", "(I)V"⟩, 18) := ⟨⟨by decide +kernel, by decide +kernel⟩, List.mem_of_getElem? (i := 253) (by decide +kernel), List.mem_of_getElem? (i := 564) (by decide +kernel), List.mem_of_getElem? (i := 565) (by decide +kernel)⟩
theorem lw_p9 : lw_okq (⟨"TruePoll$Reader", "readRest", "(I)V"⟩, 18) := ⟨⟨by decide +kernel, by decide +kernel⟩, List.mem_of_getElem? (i := 253) (by decide +kernel), List.mem_of_getElem? (i := 569) (by decide +kernel), List.mem_of_getElem? (i := 570) (by decide +kernel)⟩
theorem lw_p10 : lw_okq (⟨"TruePoll$Reader", "readSum", "(I)V"⟩, 18) := ⟨⟨by decide +kernel, by decide +kernel⟩, List.mem_of_getElem? (i := 253) (by decide +kernel), List.mem_of_getElem? (i := 573) (by decide +kernel), List.mem_of_getElem? (i := 574) (by decide +kernel)⟩
theorem lw_p11 : lw_okq (⟨"TruePoll$Reader", "readProduct", "(I)V"⟩, 18) := ⟨⟨by decide +kernel, by decide +kernel⟩, List.mem_of_getElem? (i := 253) (by decide +kernel), List.mem_of_getElem? (i := 577) (by decide +kernel), List.mem_of_getElem? (i := 578) (by decide +kernel)⟩
theorem lw_p12 : lw_okq (⟨"TruePoll$Reader", "readOne", "(I)V"⟩, 18) := ⟨⟨by decide +kernel, by decide +kernel⟩, List.mem_of_getElem? (i := 253) (by decide +kernel), List.mem_of_getElem? (i := 581) (by decide +kernel), List.mem_of_getElem? (i := 582) (by decide +kernel)⟩
theorem lw_p13 : lw_okq (⟨"TruePoll$Reader", "readPlain", "()V"⟩, 18) := ⟨⟨by decide +kernel, by decide +kernel⟩, List.mem_of_getElem? (i := 253) (by decide +kernel), List.mem_of_getElem? (i := 588) (by decide +kernel), List.mem_of_getElem? (i := 589) (by decide +kernel)⟩
theorem lw_p14 : lw_okq (⟨"TruePoll$Reader", "write", "(II)V"⟩, 18) := ⟨⟨by decide +kernel, by decide +kernel⟩, List.mem_of_getElem? (i := 253) (by decide +kernel), List.mem_of_getElem? (i := 595) (by decide +kernel), List.mem_of_getElem? (i := 596) (by decide +kernel)⟩
theorem lw_p15 : lw_okq (⟨"TruePoll$Reader", "take", "(I)V"⟩, 18) := ⟨⟨by decide +kernel, by decide +kernel⟩, List.mem_of_getElem? (i := 253) (by decide +kernel), List.mem_of_getElem? (i := 599) (by decide +kernel), List.mem_of_getElem? (i := 600) (by decide +kernel)⟩
def lw_privs_1 : List (MethodName × Nat) := [(⟨"TruePoll$Tape", "skipBlanks", "()V"⟩, 7), (⟨"TruePoll$Tape", "readToken", "(I)I"⟩, 7), (⟨"TruePoll$Tape", "readWord", "()I"⟩, 7), (⟨"TruePoll$Tape", "isWord", "(II)Z"⟩, 7), (⟨"TruePoll$Tape", "readNumber", "()I"⟩, 7), (⟨"TruePoll$Tape", "readMark", "(C)I"⟩, 7), (⟨"TruePoll$Reader", "advance", "()V"⟩, 18), (⟨"TruePoll$Reader", "readClause", "()V"⟩, 18), (⟨"TruePoll$Reader", "fail", "(I)V"⟩, 18), (⟨"TruePoll$Reader", "readRest", "(I)V"⟩, 18), (⟨"TruePoll$Reader", "readSum", "(I)V"⟩, 18), (⟨"TruePoll$Reader", "readProduct", "(I)V"⟩, 18), (⟨"TruePoll$Reader", "readOne", "(I)V"⟩, 18), (⟨"TruePoll$Reader", "readPlain", "()V"⟩, 18), (⟨"TruePoll$Reader", "write", "(II)V"⟩, 18), (⟨"TruePoll$Reader", "take", "(I)V"⟩, 18)]
theorem lw_r1 : ∀ q ∈ lw_privs_1, lw_okq q := List.forall_mem_cons.mpr ⟨lw_p0, List.forall_mem_cons.mpr ⟨lw_p1, List.forall_mem_cons.mpr ⟨lw_p2, List.forall_mem_cons.mpr ⟨lw_p3, List.forall_mem_cons.mpr ⟨lw_p4, List.forall_mem_cons.mpr ⟨lw_p5, List.forall_mem_cons.mpr ⟨lw_p6, List.forall_mem_cons.mpr ⟨lw_p7, List.forall_mem_cons.mpr ⟨lw_p8, List.forall_mem_cons.mpr ⟨lw_p9, List.forall_mem_cons.mpr ⟨lw_p10, List.forall_mem_cons.mpr ⟨lw_p11, List.forall_mem_cons.mpr ⟨lw_p12, List.forall_mem_cons.mpr ⟨lw_p13, List.forall_mem_cons.mpr ⟨lw_p14, List.forall_mem_cons.mpr ⟨lw_p15, fun _ h => absurd h List.not_mem_nil⟩⟩⟩⟩⟩⟩⟩⟩⟩⟩⟩⟩⟩⟩⟩⟩
theorem lw_p16 : lw_okq (⟨"TruePoll$Reader", "readIf", "(I)V"⟩, 18) := ⟨⟨by decide +kernel, by decide +kernel⟩, List.mem_of_getElem? (i := 253) (by decide +kernel), List.mem_of_getElem? (i := 603) (by decide +kernel), List.mem_of_getElem? (i := 604) (by decide +kernel)⟩
theorem lw_p17 : lw_okq (⟨"TruePoll$Reader", "readEither", "(I)V"⟩, 18) := ⟨⟨by decide +kernel, by decide +kernel⟩, List.mem_of_getElem? (i := 253) (by decide +kernel), List.mem_of_getElem? (i := 607) (by decide +kernel), List.mem_of_getElem? (i := 608) (by decide +kernel)⟩
theorem lw_p18 : lw_okq (⟨"TruePoll$Reader", "readBoth", "(I)V"⟩, 18) := ⟨⟨by decide +kernel, by decide +kernel⟩, List.mem_of_getElem? (i := 253) (by decide +kernel), List.mem_of_getElem? (i := 611) (by decide +kernel), List.mem_of_getElem? (i := 612) (by decide +kernel)⟩
theorem lw_p19 : lw_okq (⟨"TruePoll$Reader", "readAsk", "(I)V"⟩, 18) := ⟨⟨by decide +kernel, by decide +kernel⟩, List.mem_of_getElem? (i := 253) (by decide +kernel), List.mem_of_getElem? (i := 615) (by decide +kernel), List.mem_of_getElem? (i := 616) (by decide +kernel)⟩
theorem lw_p20 : lw_okq (⟨"TruePoll$Reader", "readComparison", "(I)V"⟩, 18) := ⟨⟨by decide +kernel, by decide +kernel⟩, List.mem_of_getElem? (i := 253) (by decide +kernel), List.mem_of_getElem? (i := 619) (by decide +kernel), List.mem_of_getElem? (i := 620) (by decide +kernel)⟩
theorem lw_p21 : lw_okq (⟨"TruePoll$Reader", "isMultiplying", "()Z"⟩, 18) := ⟨⟨by decide +kernel, by decide +kernel⟩, List.mem_of_getElem? (i := 253) (by decide +kernel), List.mem_of_getElem? (i := 626) (by decide +kernel), List.mem_of_getElem? (i := 627) (by decide +kernel)⟩
theorem lw_p22 : lw_okq (⟨"TruePoll$Reader", "isAdding", "()Z"⟩, 18) := ⟨⟨by decide +kernel, by decide +kernel⟩, List.mem_of_getElem? (i := 253) (by decide +kernel), List.mem_of_getElem? (i := 630) (by decide +kernel), List.mem_of_getElem? (i := 631) (by decide +kernel)⟩
theorem lw_p23 : lw_okq (⟨"TruePoll$Reader", "readNumber", "([III)V"⟩, 18) := ⟨⟨by decide +kernel, by decide +kernel⟩, List.mem_of_getElem? (i := 253) (by decide +kernel), List.mem_of_getElem? (i := 634) (by decide +kernel), List.mem_of_getElem? (i := 635) (by decide +kernel)⟩
theorem lw_p24 : lw_okq (⟨"TruePoll$Reader", "made", "()LTruePoll$Text;"⟩, 18) := ⟨⟨by decide +kernel, by decide +kernel⟩, List.mem_of_getElem? (i := 253) (by decide +kernel), List.mem_of_getElem? (i := 638) (by decide +kernel), List.mem_of_getElem? (i := 639) (by decide +kernel)⟩
theorem lw_p25 : lw_okq (⟨"TruePoll$Crowd", "stepAt", "(I)LTruePoll$Moment;"⟩, 17) := ⟨⟨by decide +kernel, by decide +kernel⟩, List.mem_of_getElem? (i := 30) (by decide +kernel), List.mem_of_getElem? (i := 739) (by decide +kernel), List.mem_of_getElem? (i := 740) (by decide +kernel)⟩
theorem lw_p26 : lw_okq (⟨"TruePoll$Rounds", "pass", "(LTruePoll$Moment;I)V"⟩, 3) := ⟨⟨by decide +kernel, by decide +kernel⟩, List.mem_of_getElem? (i := 184) (by decide +kernel), List.mem_of_getElem? (i := 751) (by decide +kernel), List.mem_of_getElem? (i := 752) (by decide +kernel)⟩
theorem lw_p27 : lw_okq (⟨"TruePoll$Asker", "saysBySort", "()Z"⟩, 6) := ⟨⟨by decide +kernel, by decide +kernel⟩, List.mem_of_getElem? (i := 159) (by decide +kernel), List.mem_of_getElem? (i := 764) (by decide +kernel), List.mem_of_getElem? (i := 765) (by decide +kernel)⟩
theorem lw_p28 : lw_okq (⟨"TruePoll$Asker", "worth", "(LTruePoll$Text;II)I"⟩, 6) := ⟨⟨by decide +kernel, by decide +kernel⟩, List.mem_of_getElem? (i := 159) (by decide +kernel), List.mem_of_getElem? (i := 772) (by decide +kernel), List.mem_of_getElem? (i := 773) (by decide +kernel)⟩
theorem lw_p29 : lw_okq (⟨"TruePoll$Asker", "changed", "(II)I"⟩, 6) := ⟨⟨by decide +kernel, by decide +kernel⟩, List.mem_of_getElem? (i := 159) (by decide +kernel), List.mem_of_getElem? (i := 799) (by decide +kernel), List.mem_of_getElem? (i := 800) (by decide +kernel)⟩
theorem lw_p30 : lw_okq (⟨"TruePoll$Asker", "named", "(I)I"⟩, 6) := ⟨⟨by decide +kernel, by decide +kernel⟩, List.mem_of_getElem? (i := 159) (by decide +kernel), List.mem_of_getElem? (i := 803) (by decide +kernel), List.mem_of_getElem? (i := 804) (by decide +kernel)⟩
theorem lw_p31 : lw_okq (⟨"TruePoll$Rounds", "shift", "(II)V"⟩, 3) := ⟨⟨by decide +kernel, by decide +kernel⟩, List.mem_of_getElem? (i := 184) (by decide +kernel), List.mem_of_getElem? (i := 848) (by decide +kernel), List.mem_of_getElem? (i := 849) (by decide +kernel)⟩
def lw_privs_2 : List (MethodName × Nat) := [(⟨"TruePoll$Reader", "readIf", "(I)V"⟩, 18), (⟨"TruePoll$Reader", "readEither", "(I)V"⟩, 18), (⟨"TruePoll$Reader", "readBoth", "(I)V"⟩, 18), (⟨"TruePoll$Reader", "readAsk", "(I)V"⟩, 18), (⟨"TruePoll$Reader", "readComparison", "(I)V"⟩, 18), (⟨"TruePoll$Reader", "isMultiplying", "()Z"⟩, 18), (⟨"TruePoll$Reader", "isAdding", "()Z"⟩, 18), (⟨"TruePoll$Reader", "readNumber", "([III)V"⟩, 18), (⟨"TruePoll$Reader", "made", "()LTruePoll$Text;"⟩, 18), (⟨"TruePoll$Crowd", "stepAt", "(I)LTruePoll$Moment;"⟩, 17), (⟨"TruePoll$Rounds", "pass", "(LTruePoll$Moment;I)V"⟩, 3), (⟨"TruePoll$Asker", "saysBySort", "()Z"⟩, 6), (⟨"TruePoll$Asker", "worth", "(LTruePoll$Text;II)I"⟩, 6), (⟨"TruePoll$Asker", "changed", "(II)I"⟩, 6), (⟨"TruePoll$Asker", "named", "(I)I"⟩, 6), (⟨"TruePoll$Rounds", "shift", "(II)V"⟩, 3)]
theorem lw_r2 : ∀ q ∈ lw_privs_2, lw_okq q := List.forall_mem_cons.mpr ⟨lw_p16, List.forall_mem_cons.mpr ⟨lw_p17, List.forall_mem_cons.mpr ⟨lw_p18, List.forall_mem_cons.mpr ⟨lw_p19, List.forall_mem_cons.mpr ⟨lw_p20, List.forall_mem_cons.mpr ⟨lw_p21, List.forall_mem_cons.mpr ⟨lw_p22, List.forall_mem_cons.mpr ⟨lw_p23, List.forall_mem_cons.mpr ⟨lw_p24, List.forall_mem_cons.mpr ⟨lw_p25, List.forall_mem_cons.mpr ⟨lw_p26, List.forall_mem_cons.mpr ⟨lw_p27, List.forall_mem_cons.mpr ⟨lw_p28, List.forall_mem_cons.mpr ⟨lw_p29, List.forall_mem_cons.mpr ⟨lw_p30, List.forall_mem_cons.mpr ⟨lw_p31, fun _ h => absurd h List.not_mem_nil⟩⟩⟩⟩⟩⟩⟩⟩⟩⟩⟩⟩⟩⟩⟩⟩
theorem lw_p32 : lw_okq (⟨"TruePoll$Rounds", "passYear", "(LTruePoll$Moment;)V"⟩, 3) := ⟨⟨by decide +kernel, by decide +kernel⟩, List.mem_of_getElem? (i := 184) (by decide +kernel), List.mem_of_getElem? (i := 882) (by decide +kernel), List.mem_of_getElem? (i := 883) (by decide +kernel)⟩
theorem lw_p33 : lw_okq (⟨"TruePoll", "isFigure", "(I)Z"⟩, 13) := ⟨⟨by decide +kernel, by decide +kernel⟩, List.mem_of_getElem? (i := 22) (by decide +kernel), List.mem_of_getElem? (i := 936) (by decide +kernel), List.mem_of_getElem? (i := 937) (by decide +kernel)⟩
theorem lw_p34 : lw_okq (⟨"TruePoll", "look", "()LTruePoll$Outlook;"⟩, 13) := ⟨⟨by decide +kernel, by decide +kernel⟩, List.mem_of_getElem? (i := 22) (by decide +kernel), List.mem_of_getElem? (i := 940) (by decide +kernel), List.mem_of_getElem? (i := 941) (by decide +kernel)⟩
theorem lw_p35 : lw_okq (⟨"TruePoll$Outlook", "someOfRing", "(I)I"⟩, 4) := ⟨⟨by decide +kernel, by decide +kernel⟩, List.mem_of_getElem? (i := 200) (by decide +kernel), List.mem_of_getElem? (i := 981) (by decide +kernel), List.mem_of_getElem? (i := 982) (by decide +kernel)⟩
theorem lw_p36 : lw_okq (⟨"TruePoll$Outlook", "ringThrough", "(I)I"⟩, 4) := ⟨⟨by decide +kernel, by decide +kernel⟩, List.mem_of_getElem? (i := 200) (by decide +kernel), List.mem_of_getElem? (i := 985) (by decide +kernel), List.mem_of_getElem? (i := 986) (by decide +kernel)⟩
theorem lw_p37 : lw_okq (⟨"TruePoll$Outlook", "comeFrom", "(II)I"⟩, 4) := ⟨⟨by decide +kernel, by decide +kernel⟩, List.mem_of_getElem? (i := 200) (by decide +kernel), List.mem_of_getElem? (i := 1036) (by decide +kernel), List.mem_of_getElem? (i := 1037) (by decide +kernel)⟩
theorem lw_p38 : lw_okq (⟨"TruePoll$Outlook", "isTrueSplit", "(III)Z"⟩, 4) := ⟨⟨by decide +kernel, by decide +kernel⟩, List.mem_of_getElem? (i := 200) (by decide +kernel), List.mem_of_getElem? (i := 1066) (by decide +kernel), List.mem_of_getElem? (i := 1067) (by decide +kernel)⟩
theorem lw_p39 : lw_okq (⟨"TruePoll", "nearestLean", "(II)I"⟩, 13) := ⟨⟨by decide +kernel, by decide +kernel⟩, List.mem_of_getElem? (i := 22) (by decide +kernel), List.mem_of_getElem? (i := 1116) (by decide +kernel), List.mem_of_getElem? (i := 1117) (by decide +kernel)⟩
theorem lw_p40 : lw_okq (⟨"TruePoll", "cheapestMoves", "(I)I"⟩, 13) := ⟨⟨by decide +kernel, by decide +kernel⟩, List.mem_of_getElem? (i := 22) (by decide +kernel), List.mem_of_getElem? (i := 1125) (by decide +kernel), List.mem_of_getElem? (i := 1126) (by decide +kernel)⟩
theorem lw_p41 : lw_okq (⟨"TruePoll", "fillCosts", "(II)V"⟩, 13) := ⟨⟨by decide +kernel, by decide +kernel⟩, List.mem_of_getElem? (i := 22) (by decide +kernel), List.mem_of_getElem? (i := 1129) (by decide +kernel), List.mem_of_getElem? (i := 1130) (by decide +kernel)⟩
theorem lw_p42 : lw_okq (⟨"TruePoll", "waysFor", "(II)J"⟩, 13) := ⟨⟨by decide +kernel, by decide +kernel⟩, List.mem_of_getElem? (i := 22) (by decide +kernel), List.mem_of_getElem? (i := 1138) (by decide +kernel), List.mem_of_getElem? (i := 1139) (by decide +kernel)⟩
theorem lw_p43 : lw_okq (⟨"TruePoll", "yesAsNow", "()I"⟩, 13) := ⟨⟨by decide +kernel, by decide +kernel⟩, List.mem_of_getElem? (i := 22) (by decide +kernel), List.mem_of_getElem? (i := 1142) (by decide +kernel), List.mem_of_getElem? (i := 1143) (by decide +kernel)⟩
theorem lw_p44 : lw_okq (⟨"TruePoll", "allWays", "()J"⟩, 13) := ⟨⟨by decide +kernel, by decide +kernel⟩, List.mem_of_getElem? (i := 22) (by decide +kernel), List.mem_of_getElem? (i := 1149) (by decide +kernel), List.mem_of_getElem? (i := 1150) (by decide +kernel)⟩
theorem lw_p45 : lw_okq (⟨"TruePoll$Crowd", "isLowestOfCircle", "(I)Z"⟩, 17) := ⟨⟨by decide +kernel, by decide +kernel⟩, List.mem_of_getElem? (i := 30) (by decide +kernel), List.mem_of_getElem? (i := 1177) (by decide +kernel), List.mem_of_getElem? (i := 1178) (by decide +kernel)⟩
theorem lw_p46 : lw_okq (⟨"TruePoll$Crowd", "earsFor", "(I)I"⟩, 17) := ⟨⟨by decide +kernel, by decide +kernel⟩, List.mem_of_getElem? (i := 30) (by decide +kernel), List.mem_of_getElem? (i := 1190) (by decide +kernel), List.mem_of_getElem? (i := 1191) (by decide +kernel)⟩
theorem lw_p47 : lw_okq (⟨"TruePoll", "unlikeCounts", "(I)I"⟩, 13) := ⟨⟨by decide +kernel, by decide +kernel⟩, List.mem_of_getElem? (i := 22) (by decide +kernel), List.mem_of_getElem? (i := 1198) (by decide +kernel), List.mem_of_getElem? (i := 1199) (by decide +kernel)⟩
def lw_privs_3 : List (MethodName × Nat) := [(⟨"TruePoll$Rounds", "passYear", "(LTruePoll$Moment;)V"⟩, 3), (⟨"TruePoll", "isFigure", "(I)Z"⟩, 13), (⟨"TruePoll", "look", "()LTruePoll$Outlook;"⟩, 13), (⟨"TruePoll$Outlook", "someOfRing", "(I)I"⟩, 4), (⟨"TruePoll$Outlook", "ringThrough", "(I)I"⟩, 4), (⟨"TruePoll$Outlook", "comeFrom", "(II)I"⟩, 4), (⟨"TruePoll$Outlook", "isTrueSplit", "(III)Z"⟩, 4), (⟨"TruePoll", "nearestLean", "(II)I"⟩, 13), (⟨"TruePoll", "cheapestMoves", "(I)I"⟩, 13), (⟨"TruePoll", "fillCosts", "(II)V"⟩, 13), (⟨"TruePoll", "waysFor", "(II)J"⟩, 13), (⟨"TruePoll", "yesAsNow", "()I"⟩, 13), (⟨"TruePoll", "allWays", "()J"⟩, 13), (⟨"TruePoll$Crowd", "isLowestOfCircle", "(I)Z"⟩, 17), (⟨"TruePoll$Crowd", "earsFor", "(I)I"⟩, 17), (⟨"TruePoll", "unlikeCounts", "(I)I"⟩, 13)]
theorem lw_r3 : ∀ q ∈ lw_privs_3, lw_okq q := List.forall_mem_cons.mpr ⟨lw_p32, List.forall_mem_cons.mpr ⟨lw_p33, List.forall_mem_cons.mpr ⟨lw_p34, List.forall_mem_cons.mpr ⟨lw_p35, List.forall_mem_cons.mpr ⟨lw_p36, List.forall_mem_cons.mpr ⟨lw_p37, List.forall_mem_cons.mpr ⟨lw_p38, List.forall_mem_cons.mpr ⟨lw_p39, List.forall_mem_cons.mpr ⟨lw_p40, List.forall_mem_cons.mpr ⟨lw_p41, List.forall_mem_cons.mpr ⟨lw_p42, List.forall_mem_cons.mpr ⟨lw_p43, List.forall_mem_cons.mpr ⟨lw_p44, List.forall_mem_cons.mpr ⟨lw_p45, List.forall_mem_cons.mpr ⟨lw_p46, List.forall_mem_cons.mpr ⟨lw_p47, fun _ h => absurd h List.not_mem_nil⟩⟩⟩⟩⟩⟩⟩⟩⟩⟩⟩⟩⟩⟩⟩⟩
theorem lw_p48 : lw_okq (⟨"TruePoll$Outlook", "playBackTo", "(II)V"⟩, 4) := ⟨⟨by decide +kernel, by decide +kernel⟩, List.mem_of_getElem? (i := 200) (by decide +kernel), List.mem_of_getElem? (i := 1210) (by decide +kernel), List.mem_of_getElem? (i := 1211) (by decide +kernel)⟩
theorem lw_p49 : lw_okq (⟨"TruePoll$Outlook", "bestLast", "(IZ)I"⟩, 4) := ⟨⟨by decide +kernel, by decide +kernel⟩, List.mem_of_getElem? (i := 200) (by decide +kernel), List.mem_of_getElem? (i := 1214) (by decide +kernel), List.mem_of_getElem? (i := 1215) (by decide +kernel)⟩
theorem lw_p50 : lw_okq (⟨"TruePoll", "accountsForSaid", "(LTruePoll$Text;)Z"⟩, 13) := ⟨⟨by decide +kernel, by decide +kernel⟩, List.mem_of_getElem? (i := 22) (by decide +kernel), List.mem_of_getElem? (i := 1294) (by decide +kernel), List.mem_of_getElem? (i := 1295) (by decide +kernel)⟩
theorem lw_p51 : lw_okq (⟨"TruePoll$Crowd", "copyPeople", "(LTruePoll$Crowd;)V"⟩, 17) := ⟨⟨by decide +kernel, by decide +kernel⟩, List.mem_of_getElem? (i := 30) (by decide +kernel), List.mem_of_getElem? (i := 1318) (by decide +kernel), List.mem_of_getElem? (i := 1319) (by decide +kernel)⟩
theorem lw_p52 : lw_okq (⟨"TruePoll$Crowd", "copyTold", "(LTruePoll$Crowd;)V"⟩, 17) := ⟨⟨by decide +kernel, by decide +kernel⟩, List.mem_of_getElem? (i := 30) (by decide +kernel), List.mem_of_getElem? (i := 1323) (by decide +kernel), List.mem_of_getElem? (i := 1324) (by decide +kernel)⟩
theorem lw_p53 : lw_okq (⟨"TruePollModel", "isPerson", "(I)Z"⟩, 30) := ⟨⟨by decide +kernel, by decide +kernel⟩, List.mem_of_getElem? (i := 1335) (by decide +kernel), List.mem_of_getElem? (i := 1447) (by decide +kernel), List.mem_of_getElem? (i := 1448) (by decide +kernel)⟩
theorem lw_p54 : lw_okq (⟨"TruePollModel", "four", "(I)V"⟩, 30) := ⟨⟨by decide +kernel, by decide +kernel⟩, List.mem_of_getElem? (i := 1335) (by decide +kernel), List.mem_of_getElem? (i := 1455) (by decide +kernel), List.mem_of_getElem? (i := 1456) (by decide +kernel)⟩
theorem lw_p55 : lw_okq (⟨"TruePollModel", "readText", "()I"⟩, 30) := ⟨⟨by decide +kernel, by decide +kernel⟩, List.mem_of_getElem? (i := 1335) (by decide +kernel), List.mem_of_getElem? (i := 1467) (by decide +kernel), List.mem_of_getElem? (i := 1468) (by decide +kernel)⟩
theorem lw_p56 : lw_okq (⟨"TruePollModel", "nextToken", "()V"⟩, 30) := ⟨⟨by decide +kernel, by decide +kernel⟩, List.mem_of_getElem? (i := 1335) (by decide +kernel), List.mem_of_getElem? (i := 1471) (by decide +kernel), List.mem_of_getElem? (i := 1472) (by decide +kernel)⟩
theorem lw_p57 : lw_okq (⟨"TruePollModel", "byteAt", "(I)I"⟩, 30) := ⟨⟨by decide +kernel, by decide +kernel⟩, List.mem_of_getElem? (i := 1335) (by decide +kernel), List.mem_of_getElem? (i := 1475) (by decide +kernel), List.mem_of_getElem? (i := 1476) (by decide +kernel)⟩
theorem lw_p58 : lw_okq (⟨"TruePollModel", "clause", "()I"⟩, 30) := ⟨⟨by decide +kernel, by decide +kernel⟩, List.mem_of_getElem? (i := 1335) (by decide +kernel), List.mem_of_getElem? (i := 1490) (by decide +kernel), List.mem_of_getElem? (i := 1491) (by decide +kernel)⟩
theorem lw_p59 : lw_okq (⟨"TruePollModel", "sortOf", "()I"⟩, 30) := ⟨⟨by decide +kernel, by decide +kernel⟩, List.mem_of_getElem? (i := 1335) (by decide +kernel), List.mem_of_getElem? (i := 1494) (by decide +kernel), List.mem_of_getElem? (i := 1495) (by decide +kernel)⟩
theorem lw_p60 : lw_okq (⟨"TruePollModel", "isWord", "(J)Z"⟩, 30) := ⟨⟨by decide +kernel, by decide +kernel⟩, List.mem_of_getElem? (i := 1335) (by decide +kernel), List.mem_of_getElem? (i := 1507) (by decide +kernel), List.mem_of_getElem? (i := 1508) (by decide +kernel)⟩
theorem lw_p61 : lw_okq (⟨"TruePollModel", "body", "(II)I"⟩, 30) := ⟨⟨by decide +kernel, by decide +kernel⟩, List.mem_of_getElem? (i := 1335) (by decide +kernel), List.mem_of_getElem? (i := 1520) (by decide +kernel), List.mem_of_getElem? (i := 1521) (by decide +kernel)⟩
theorem lw_p62 : lw_okq (⟨"TruePollModel", "twoNumbers", "(IIJI)I"⟩, 30) := ⟨⟨by decide +kernel, by decide +kernel⟩, List.mem_of_getElem? (i := 1335) (by decide +kernel), List.mem_of_getElem? (i := 1524) (by decide +kernel), List.mem_of_getElem? (i := 1525) (by decide +kernel)⟩
theorem lw_p63 : lw_okq (⟨"TruePollModel", "figure", "(III)I"⟩, 30) := ⟨⟨by decide +kernel, by decide +kernel⟩, List.mem_of_getElem? (i := 1335) (by decide +kernel), List.mem_of_getElem? (i := 1528) (by decide +kernel), List.mem_of_getElem? (i := 1529) (by decide +kernel)⟩
def lw_privs_4 : List (MethodName × Nat) := [(⟨"TruePoll$Outlook", "playBackTo", "(II)V"⟩, 4), (⟨"TruePoll$Outlook", "bestLast", "(IZ)I"⟩, 4), (⟨"TruePoll", "accountsForSaid", "(LTruePoll$Text;)Z"⟩, 13), (⟨"TruePoll$Crowd", "copyPeople", "(LTruePoll$Crowd;)V"⟩, 17), (⟨"TruePoll$Crowd", "copyTold", "(LTruePoll$Crowd;)V"⟩, 17), (⟨"TruePollModel", "isPerson", "(I)Z"⟩, 30), (⟨"TruePollModel", "four", "(I)V"⟩, 30), (⟨"TruePollModel", "readText", "()I"⟩, 30), (⟨"TruePollModel", "nextToken", "()V"⟩, 30), (⟨"TruePollModel", "byteAt", "(I)I"⟩, 30), (⟨"TruePollModel", "clause", "()I"⟩, 30), (⟨"TruePollModel", "sortOf", "()I"⟩, 30), (⟨"TruePollModel", "isWord", "(J)Z"⟩, 30), (⟨"TruePollModel", "body", "(II)I"⟩, 30), (⟨"TruePollModel", "twoNumbers", "(IIJI)I"⟩, 30), (⟨"TruePollModel", "figure", "(III)I"⟩, 30)]
theorem lw_r4 : ∀ q ∈ lw_privs_4, lw_okq q := List.forall_mem_cons.mpr ⟨lw_p48, List.forall_mem_cons.mpr ⟨lw_p49, List.forall_mem_cons.mpr ⟨lw_p50, List.forall_mem_cons.mpr ⟨lw_p51, List.forall_mem_cons.mpr ⟨lw_p52, List.forall_mem_cons.mpr ⟨lw_p53, List.forall_mem_cons.mpr ⟨lw_p54, List.forall_mem_cons.mpr ⟨lw_p55, List.forall_mem_cons.mpr ⟨lw_p56, List.forall_mem_cons.mpr ⟨lw_p57, List.forall_mem_cons.mpr ⟨lw_p58, List.forall_mem_cons.mpr ⟨lw_p59, List.forall_mem_cons.mpr ⟨lw_p60, List.forall_mem_cons.mpr ⟨lw_p61, List.forall_mem_cons.mpr ⟨lw_p62, List.forall_mem_cons.mpr ⟨lw_p63, fun _ h => absurd h List.not_mem_nil⟩⟩⟩⟩⟩⟩⟩⟩⟩⟩⟩⟩⟩⟩⟩⟩
theorem lw_p64 : lw_okq (⟨"TruePollModel", "lawClause", "(I)I"⟩, 30) := ⟨⟨by decide +kernel, by decide +kernel⟩, List.mem_of_getElem? (i := 1335) (by decide +kernel), List.mem_of_getElem? (i := 1532) (by decide +kernel), List.mem_of_getElem? (i := 1533) (by decide +kernel)⟩
theorem lw_p65 : lw_okq (⟨"TruePollModel", "summed", "()I"⟩, 30) := ⟨⟨by decide +kernel, by decide +kernel⟩, List.mem_of_getElem? (i := 1335) (by decide +kernel), List.mem_of_getElem? (i := 1536) (by decide +kernel), List.mem_of_getElem? (i := 1537) (by decide +kernel)⟩
theorem lw_p66 : lw_okq (⟨"TruePollModel", "behindOne", "()Z"⟩, 30) := ⟨⟨by decide +kernel, by decide +kernel⟩, List.mem_of_getElem? (i := 1335) (by decide +kernel), List.mem_of_getElem? (i := 1540) (by decide +kernel), List.mem_of_getElem? (i := 1541) (by decide +kernel)⟩
theorem lw_p67 : lw_okq (⟨"TruePollModel", "betweenOf", "()I"⟩, 30) := ⟨⟨by decide +kernel, by decide +kernel⟩, List.mem_of_getElem? (i := 1335) (by decide +kernel), List.mem_of_getElem? (i := 1544) (by decide +kernel), List.mem_of_getElem? (i := 1545) (by decide +kernel)⟩
theorem lw_p68 : lw_okq (⟨"TruePollModel", "openNow", "()I"⟩, 30) := ⟨⟨by decide +kernel, by decide +kernel⟩, List.mem_of_getElem? (i := 1335) (by decide +kernel), List.mem_of_getElem? (i := 1548) (by decide +kernel), List.mem_of_getElem? (i := 1549) (by decide +kernel)⟩
theorem lw_p69 : lw_okq (⟨"TruePollModel", "openAt", "()I"⟩, 30) := ⟨⟨by decide +kernel, by decide +kernel⟩, List.mem_of_getElem? (i := 1335) (by decide +kernel), List.mem_of_getElem? (i := 1552) (by decide +kernel), List.mem_of_getElem? (i := 1553) (by decide +kernel)⟩
theorem lw_p70 : lw_okq (⟨"TruePollModel", "isCompared", "()Z"⟩, 30) := ⟨⟨by decide +kernel, by decide +kernel⟩, List.mem_of_getElem? (i := 1335) (by decide +kernel), List.mem_of_getElem? (i := 1556) (by decide +kernel), List.mem_of_getElem? (i := 1557) (by decide +kernel)⟩
theorem lw_p71 : lw_okq (⟨"TruePollModel", "compareOf", "()I"⟩, 30) := ⟨⟨by decide +kernel, by decide +kernel⟩, List.mem_of_getElem? (i := 1335) (by decide +kernel), List.mem_of_getElem? (i := 1563) (by decide +kernel), List.mem_of_getElem? (i := 1564) (by decide +kernel)⟩
theorem lw_p72 : lw_okq (⟨"TruePollModel", "settle", "(I)V"⟩, 30) := ⟨⟨by decide +kernel, by decide +kernel⟩, List.mem_of_getElem? (i := 1335) (by decide +kernel), List.mem_of_getElem? (i := 1567) (by decide +kernel), List.mem_of_getElem? (i := 1568) (by decide +kernel)⟩
theorem lw_p73 : lw_okq (⟨"TruePollModel", "emit", "(II)V"⟩, 30) := ⟨⟨by decide +kernel, by decide +kernel⟩, List.mem_of_getElem? (i := 1335) (by decide +kernel), List.mem_of_getElem? (i := 1571) (by decide +kernel), List.mem_of_getElem? (i := 1572) (by decide +kernel)⟩
theorem lw_p74 : lw_okq (⟨"TruePollModel", "partOf", "(I)I"⟩, 30) := ⟨⟨by decide +kernel, by decide +kernel⟩, List.mem_of_getElem? (i := 1335) (by decide +kernel), List.mem_of_getElem? (i := 1575) (by decide +kernel), List.mem_of_getElem? (i := 1576) (by decide +kernel)⟩
theorem lw_p75 : lw_okq (⟨"TruePollModel", "beginOne", "()I"⟩, 30) := ⟨⟨by decide +kernel, by decide +kernel⟩, List.mem_of_getElem? (i := 1335) (by decide +kernel), List.mem_of_getElem? (i := 1579) (by decide +kernel), List.mem_of_getElem? (i := 1580) (by decide +kernel)⟩
theorem lw_p76 : lw_okq (⟨"TruePollModel", "nameOf", "()I"⟩, 30) := ⟨⟨by decide +kernel, by decide +kernel⟩, List.mem_of_getElem? (i := 1335) (by decide +kernel), List.mem_of_getElem? (i := 1583) (by decide +kernel), List.mem_of_getElem? (i := 1584) (by decide +kernel)⟩
theorem lw_p77 : lw_okq (⟨"TruePollModel", "isOf", "(I)Z"⟩, 30) := ⟨⟨by decide +kernel, by decide +kernel⟩, List.mem_of_getElem? (i := 1335) (by decide +kernel), List.mem_of_getElem? (i := 1587) (by decide +kernel), List.mem_of_getElem? (i := 1588) (by decide +kernel)⟩
theorem lw_p78 : lw_okq (⟨"TruePollModel", "opened", "(I)I"⟩, 30) := ⟨⟨by decide +kernel, by decide +kernel⟩, List.mem_of_getElem? (i := 1335) (by decide +kernel), List.mem_of_getElem? (i := 1591) (by decide +kernel), List.mem_of_getElem? (i := 1592) (by decide +kernel)⟩
theorem lw_p79 : lw_okq (⟨"TruePollModel", "isAskAhead", "()Z"⟩, 30) := ⟨⟨by decide +kernel, by decide +kernel⟩, List.mem_of_getElem? (i := 1335) (by decide +kernel), List.mem_of_getElem? (i := 1595) (by decide +kernel), List.mem_of_getElem? (i := 1596) (by decide +kernel)⟩
def lw_privs_5 : List (MethodName × Nat) := [(⟨"TruePollModel", "lawClause", "(I)I"⟩, 30), (⟨"TruePollModel", "summed", "()I"⟩, 30), (⟨"TruePollModel", "behindOne", "()Z"⟩, 30), (⟨"TruePollModel", "betweenOf", "()I"⟩, 30), (⟨"TruePollModel", "openNow", "()I"⟩, 30), (⟨"TruePollModel", "openAt", "()I"⟩, 30), (⟨"TruePollModel", "isCompared", "()Z"⟩, 30), (⟨"TruePollModel", "compareOf", "()I"⟩, 30), (⟨"TruePollModel", "settle", "(I)V"⟩, 30), (⟨"TruePollModel", "emit", "(II)V"⟩, 30), (⟨"TruePollModel", "partOf", "(I)I"⟩, 30), (⟨"TruePollModel", "beginOne", "()I"⟩, 30), (⟨"TruePollModel", "nameOf", "()I"⟩, 30), (⟨"TruePollModel", "isOf", "(I)Z"⟩, 30), (⟨"TruePollModel", "opened", "(I)I"⟩, 30), (⟨"TruePollModel", "isAskAhead", "()Z"⟩, 30)]
theorem lw_r5 : ∀ q ∈ lw_privs_5, lw_okq q := List.forall_mem_cons.mpr ⟨lw_p64, List.forall_mem_cons.mpr ⟨lw_p65, List.forall_mem_cons.mpr ⟨lw_p66, List.forall_mem_cons.mpr ⟨lw_p67, List.forall_mem_cons.mpr ⟨lw_p68, List.forall_mem_cons.mpr ⟨lw_p69, List.forall_mem_cons.mpr ⟨lw_p70, List.forall_mem_cons.mpr ⟨lw_p71, List.forall_mem_cons.mpr ⟨lw_p72, List.forall_mem_cons.mpr ⟨lw_p73, List.forall_mem_cons.mpr ⟨lw_p74, List.forall_mem_cons.mpr ⟨lw_p75, List.forall_mem_cons.mpr ⟨lw_p76, List.forall_mem_cons.mpr ⟨lw_p77, List.forall_mem_cons.mpr ⟨lw_p78, List.forall_mem_cons.mpr ⟨lw_p79, fun _ h => absurd h List.not_mem_nil⟩⟩⟩⟩⟩⟩⟩⟩⟩⟩⟩⟩⟩⟩⟩⟩
theorem lw_p80 : lw_okq (⟨"TruePollModel", "canBeTold", "(I)Z"⟩, 30) := ⟨⟨by decide +kernel, by decide +kernel⟩, List.mem_of_getElem? (i := 1335) (by decide +kernel), List.mem_of_getElem? (i := 1615) (by decide +kernel), List.mem_of_getElem? (i := 1616) (by decide +kernel)⟩
theorem lw_p81 : lw_okq (⟨"TruePollModel", "keep", "()V"⟩, 30) := ⟨⟨by decide +kernel, by decide +kernel⟩, List.mem_of_getElem? (i := 1335) (by decide +kernel), List.mem_of_getElem? (i := 1619) (by decide +kernel), List.mem_of_getElem? (i := 1620) (by decide +kernel)⟩
theorem lw_p82 : lw_okq (⟨"TruePollModel", "pass", "(I)V"⟩, 30) := ⟨⟨by decide +kernel, by decide +kernel⟩, List.mem_of_getElem? (i := 1335) (by decide +kernel), List.mem_of_getElem? (i := 1623) (by decide +kernel), List.mem_of_getElem? (i := 1624) (by decide +kernel)⟩
theorem lw_p83 : lw_okq (⟨"TruePollModel", "isYes", "(II)Z"⟩, 30) := ⟨⟨by decide +kernel, by decide +kernel⟩, List.mem_of_getElem? (i := 1335) (by decide +kernel), List.mem_of_getElem? (i := 1627) (by decide +kernel), List.mem_of_getElem? (i := 1628) (by decide +kernel)⟩
theorem lw_p84 : lw_okq (⟨"TruePollModel", "isYesBy", "(III)Z"⟩, 30) := ⟨⟨by decide +kernel, by decide +kernel⟩, List.mem_of_getElem? (i := 1335) (by decide +kernel), List.mem_of_getElem? (i := 1631) (by decide +kernel), List.mem_of_getElem? (i := 1632) (by decide +kernel)⟩
theorem lw_p85 : lw_okq (⟨"TruePollModel", "clauseOf", "(II)I"⟩, 30) := ⟨⟨by decide +kernel, by decide +kernel⟩, List.mem_of_getElem? (i := 1335) (by decide +kernel), List.mem_of_getElem? (i := 1635) (by decide +kernel), List.mem_of_getElem? (i := 1636) (by decide +kernel)⟩
theorem lw_p86 : lw_okq (⟨"TruePollModel", "name", "(III)V"⟩, 30) := ⟨⟨by decide +kernel, by decide +kernel⟩, List.mem_of_getElem? (i := 1335) (by decide +kernel), List.mem_of_getElem? (i := 1639) (by decide +kernel), List.mem_of_getElem? (i := 1640) (by decide +kernel)⟩
theorem lw_p87 : lw_okq (⟨"TruePollModel", "isYesBySort", "(II)Z"⟩, 30) := ⟨⟨by decide +kernel, by decide +kernel⟩, List.mem_of_getElem? (i := 1335) (by decide +kernel), List.mem_of_getElem? (i := 1646) (by decide +kernel), List.mem_of_getElem? (i := 1647) (by decide +kernel)⟩
theorem lw_p88 : lw_okq (⟨"TruePollModel", "summedUp", "(II)J"⟩, 30) := ⟨⟨by decide +kernel, by decide +kernel⟩, List.mem_of_getElem? (i := 1335) (by decide +kernel), List.mem_of_getElem? (i := 1650) (by decide +kernel), List.mem_of_getElem? (i := 1651) (by decide +kernel)⟩
theorem lw_p89 : lw_okq (⟨"TruePollModel", "ofOne", "(IJ)J"⟩, 30) := ⟨⟨by decide +kernel, by decide +kernel⟩, List.mem_of_getElem? (i := 1335) (by decide +kernel), List.mem_of_getElem? (i := 1654) (by decide +kernel), List.mem_of_getElem? (i := 1655) (by decide +kernel)⟩
theorem lw_p90 : lw_okq (⟨"TruePollModel", "drawnBy", "(I)I"⟩, 30) := ⟨⟨by decide +kernel, by decide +kernel⟩, List.mem_of_getElem? (i := 1335) (by decide +kernel), List.mem_of_getElem? (i := 1672) (by decide +kernel), List.mem_of_getElem? (i := 1673) (by decide +kernel)⟩
theorem lw_p91 : lw_okq (⟨"TruePollModel", "anew", "()V"⟩, 30) := ⟨⟨by decide +kernel, by decide +kernel⟩, List.mem_of_getElem? (i := 1335) (by decide +kernel), List.mem_of_getElem? (i := 1676) (by decide +kernel), List.mem_of_getElem? (i := 1677) (by decide +kernel)⟩
theorem lw_p92 : lw_okq (⟨"TruePollModel", "swaysOf", "(III)I"⟩, 30) := ⟨⟨by decide +kernel, by decide +kernel⟩, List.mem_of_getElem? (i := 1335) (by decide +kernel), List.mem_of_getElem? (i := 1683) (by decide +kernel), List.mem_of_getElem? (i := 1684) (by decide +kernel)⟩
theorem lw_p93 : lw_okq (⟨"TruePollModel", "write", "(II)V"⟩, 30) := ⟨⟨by decide +kernel, by decide +kernel⟩, List.mem_of_getElem? (i := 1335) (by decide +kernel), List.mem_of_getElem? (i := 1690) (by decide +kernel), List.mem_of_getElem? (i := 1691) (by decide +kernel)⟩
theorem lw_p94 : lw_okq (⟨"TruePollModel", "canNudge", "(II)Z"⟩, 30) := ⟨⟨by decide +kernel, by decide +kernel⟩, List.mem_of_getElem? (i := 1335) (by decide +kernel), List.mem_of_getElem? (i := 1698) (by decide +kernel), List.mem_of_getElem? (i := 1699) (by decide +kernel)⟩
theorem lw_p95 : lw_okq (⟨"TruePollModel", "arePassed", "(I)Z"⟩, 30) := ⟨⟨by decide +kernel, by decide +kernel⟩, List.mem_of_getElem? (i := 1335) (by decide +kernel), List.mem_of_getElem? (i := 1706) (by decide +kernel), List.mem_of_getElem? (i := 1707) (by decide +kernel)⟩
def lw_privs_6 : List (MethodName × Nat) := [(⟨"TruePollModel", "canBeTold", "(I)Z"⟩, 30), (⟨"TruePollModel", "keep", "()V"⟩, 30), (⟨"TruePollModel", "pass", "(I)V"⟩, 30), (⟨"TruePollModel", "isYes", "(II)Z"⟩, 30), (⟨"TruePollModel", "isYesBy", "(III)Z"⟩, 30), (⟨"TruePollModel", "clauseOf", "(II)I"⟩, 30), (⟨"TruePollModel", "name", "(III)V"⟩, 30), (⟨"TruePollModel", "isYesBySort", "(II)Z"⟩, 30), (⟨"TruePollModel", "summedUp", "(II)J"⟩, 30), (⟨"TruePollModel", "ofOne", "(IJ)J"⟩, 30), (⟨"TruePollModel", "drawnBy", "(I)I"⟩, 30), (⟨"TruePollModel", "anew", "()V"⟩, 30), (⟨"TruePollModel", "swaysOf", "(III)I"⟩, 30), (⟨"TruePollModel", "write", "(II)V"⟩, 30), (⟨"TruePollModel", "canNudge", "(II)Z"⟩, 30), (⟨"TruePollModel", "arePassed", "(I)Z"⟩, 30)]
theorem lw_r6 : ∀ q ∈ lw_privs_6, lw_okq q := List.forall_mem_cons.mpr ⟨lw_p80, List.forall_mem_cons.mpr ⟨lw_p81, List.forall_mem_cons.mpr ⟨lw_p82, List.forall_mem_cons.mpr ⟨lw_p83, List.forall_mem_cons.mpr ⟨lw_p84, List.forall_mem_cons.mpr ⟨lw_p85, List.forall_mem_cons.mpr ⟨lw_p86, List.forall_mem_cons.mpr ⟨lw_p87, List.forall_mem_cons.mpr ⟨lw_p88, List.forall_mem_cons.mpr ⟨lw_p89, List.forall_mem_cons.mpr ⟨lw_p90, List.forall_mem_cons.mpr ⟨lw_p91, List.forall_mem_cons.mpr ⟨lw_p92, List.forall_mem_cons.mpr ⟨lw_p93, List.forall_mem_cons.mpr ⟨lw_p94, List.forall_mem_cons.mpr ⟨lw_p95, fun _ h => absurd h List.not_mem_nil⟩⟩⟩⟩⟩⟩⟩⟩⟩⟩⟩⟩⟩⟩⟩⟩
theorem lw_p96 : lw_okq (⟨"TruePollModel", "isPlayed", "(I)Z"⟩, 30) := ⟨⟨by decide +kernel, by decide +kernel⟩, List.mem_of_getElem? (i := 1335) (by decide +kernel), List.mem_of_getElem? (i := 1715) (by decide +kernel), List.mem_of_getElem? (i := 1716) (by decide +kernel)⟩
theorem lw_p97 : lw_okq (⟨"TruePollModel", "happens", "(I)V"⟩, 30) := ⟨⟨by decide +kernel, by decide +kernel⟩, List.mem_of_getElem? (i := 1335) (by decide +kernel), List.mem_of_getElem? (i := 1726) (by decide +kernel), List.mem_of_getElem? (i := 1727) (by decide +kernel)⟩
theorem lw_p98 : lw_okq (⟨"TruePollModel", "lineOf", "(II)I"⟩, 30) := ⟨⟨by decide +kernel, by decide +kernel⟩, List.mem_of_getElem? (i := 1335) (by decide +kernel), List.mem_of_getElem? (i := 1746) (by decide +kernel), List.mem_of_getElem? (i := 1747) (by decide +kernel)⟩
theorem lw_p99 : lw_okq (⟨"TruePollModel", "comesOf", "(I)I"⟩, 30) := ⟨⟨by decide +kernel, by decide +kernel⟩, List.mem_of_getElem? (i := 1335) (by decide +kernel), List.mem_of_getElem? (i := 1766) (by decide +kernel), List.mem_of_getElem? (i := 1767) (by decide +kernel)⟩
theorem lw_p100 : lw_okq (⟨"TruePollModel", "yesTo", "(I)I"⟩, 30) := ⟨⟨by decide +kernel, by decide +kernel⟩, List.mem_of_getElem? (i := 1335) (by decide +kernel), List.mem_of_getElem? (i := 1770) (by decide +kernel), List.mem_of_getElem? (i := 1771) (by decide +kernel)⟩
theorem lw_p101 : lw_okq (⟨"TruePollModel", "isFirm", "(I)Z"⟩, 30) := ⟨⟨by decide +kernel, by decide +kernel⟩, List.mem_of_getElem? (i := 1335) (by decide +kernel), List.mem_of_getElem? (i := 1782) (by decide +kernel), List.mem_of_getElem? (i := 1783) (by decide +kernel)⟩
theorem lw_p102 : lw_okq (⟨"TruePollModel", "layNext", "()V"⟩, 30) := ⟨⟨by decide +kernel, by decide +kernel⟩, List.mem_of_getElem? (i := 1335) (by decide +kernel), List.mem_of_getElem? (i := 1790) (by decide +kernel), List.mem_of_getElem? (i := 1791) (by decide +kernel)⟩
theorem lw_p103 : lw_okq (⟨"TruePollModel", "tillRing", "(I)I"⟩, 30) := ⟨⟨by decide +kernel, by decide +kernel⟩, List.mem_of_getElem? (i := 1335) (by decide +kernel), List.mem_of_getElem? (i := 1794) (by decide +kernel), List.mem_of_getElem? (i := 1795) (by decide +kernel)⟩
theorem lw_p104 : lw_okq (⟨"TruePollModel", "behind", "(II)I"⟩, 30) := ⟨⟨by decide +kernel, by decide +kernel⟩, List.mem_of_getElem? (i := 1335) (by decide +kernel), List.mem_of_getElem? (i := 1798) (by decide +kernel), List.mem_of_getElem? (i := 1799) (by decide +kernel)⟩
theorem lw_p105 : lw_okq (⟨"TruePollModel", "ringOf", "(I)I"⟩, 30) := ⟨⟨by decide +kernel, by decide +kernel⟩, List.mem_of_getElem? (i := 1335) (by decide +kernel), List.mem_of_getElem? (i := 1802) (by decide +kernel), List.mem_of_getElem? (i := 1803) (by decide +kernel)⟩
theorem lw_p106 : lw_okq (⟨"TruePollModel", "lowestOfRing", "(I)I"⟩, 30) := ⟨⟨by decide +kernel, by decide +kernel⟩, List.mem_of_getElem? (i := 1335) (by decide +kernel), List.mem_of_getElem? (i := 1806) (by decide +kernel), List.mem_of_getElem? (i := 1807) (by decide +kernel)⟩
theorem lw_p107 : lw_okq (⟨"TruePollModel", "everyone", "()I"⟩, 30) := ⟨⟨by decide +kernel, by decide +kernel⟩, List.mem_of_getElem? (i := 1335) (by decide +kernel), List.mem_of_getElem? (i := 1837) (by decide +kernel), List.mem_of_getElem? (i := 1838) (by decide +kernel)⟩
theorem lw_p108 : lw_okq (⟨"TruePollModel", "yesToAny", "()I"⟩, 30) := ⟨⟨by decide +kernel, by decide +kernel⟩, List.mem_of_getElem? (i := 1335) (by decide +kernel), List.mem_of_getElem? (i := 1861) (by decide +kernel), List.mem_of_getElem? (i := 1862) (by decide +kernel)⟩
theorem lw_p109 : lw_okq (⟨"TruePollModel", "yesToAll", "()I"⟩, 30) := ⟨⟨by decide +kernel, by decide +kernel⟩, List.mem_of_getElem? (i := 1335) (by decide +kernel), List.mem_of_getElem? (i := 1865) (by decide +kernel), List.mem_of_getElem? (i := 1866) (by decide +kernel)⟩
theorem lw_p110 : lw_okq (⟨"TruePollModel", "alikeOf", "(II)I"⟩, 30) := ⟨⟨by decide +kernel, by decide +kernel⟩, List.mem_of_getElem? (i := 1335) (by decide +kernel), List.mem_of_getElem? (i := 1877) (by decide +kernel), List.mem_of_getElem? (i := 1878) (by decide +kernel)⟩
theorem lw_p111 : lw_okq (⟨"TruePollModel", "moveOf", "(II)I"⟩, 30) := ⟨⟨by decide +kernel, by decide +kernel⟩, List.mem_of_getElem? (i := 1335) (by decide +kernel), List.mem_of_getElem? (i := 1889) (by decide +kernel), List.mem_of_getElem? (i := 1890) (by decide +kernel)⟩
def lw_privs_7 : List (MethodName × Nat) := [(⟨"TruePollModel", "isPlayed", "(I)Z"⟩, 30), (⟨"TruePollModel", "happens", "(I)V"⟩, 30), (⟨"TruePollModel", "lineOf", "(II)I"⟩, 30), (⟨"TruePollModel", "comesOf", "(I)I"⟩, 30), (⟨"TruePollModel", "yesTo", "(I)I"⟩, 30), (⟨"TruePollModel", "isFirm", "(I)Z"⟩, 30), (⟨"TruePollModel", "layNext", "()V"⟩, 30), (⟨"TruePollModel", "tillRing", "(I)I"⟩, 30), (⟨"TruePollModel", "behind", "(II)I"⟩, 30), (⟨"TruePollModel", "ringOf", "(I)I"⟩, 30), (⟨"TruePollModel", "lowestOfRing", "(I)I"⟩, 30), (⟨"TruePollModel", "everyone", "()I"⟩, 30), (⟨"TruePollModel", "yesToAny", "()I"⟩, 30), (⟨"TruePollModel", "yesToAll", "()I"⟩, 30), (⟨"TruePollModel", "alikeOf", "(II)I"⟩, 30), (⟨"TruePollModel", "moveOf", "(II)I"⟩, 30)]
theorem lw_r7 : ∀ q ∈ lw_privs_7, lw_okq q := List.forall_mem_cons.mpr ⟨lw_p96, List.forall_mem_cons.mpr ⟨lw_p97, List.forall_mem_cons.mpr ⟨lw_p98, List.forall_mem_cons.mpr ⟨lw_p99, List.forall_mem_cons.mpr ⟨lw_p100, List.forall_mem_cons.mpr ⟨lw_p101, List.forall_mem_cons.mpr ⟨lw_p102, List.forall_mem_cons.mpr ⟨lw_p103, List.forall_mem_cons.mpr ⟨lw_p104, List.forall_mem_cons.mpr ⟨lw_p105, List.forall_mem_cons.mpr ⟨lw_p106, List.forall_mem_cons.mpr ⟨lw_p107, List.forall_mem_cons.mpr ⟨lw_p108, List.forall_mem_cons.mpr ⟨lw_p109, List.forall_mem_cons.mpr ⟨lw_p110, List.forall_mem_cons.mpr ⟨lw_p111, fun _ h => absurd h List.not_mem_nil⟩⟩⟩⟩⟩⟩⟩⟩⟩⟩⟩⟩⟩⟩⟩⟩
theorem lw_p112 : lw_okq (⟨"TruePollModel", "saysByLean", "(III)Z"⟩, 30) := ⟨⟨by decide +kernel, by decide +kernel⟩, List.mem_of_getElem? (i := 1335) (by decide +kernel), List.mem_of_getElem? (i := 1893) (by decide +kernel), List.mem_of_getElem? (i := 1894) (by decide +kernel)⟩
theorem lw_p113 : lw_okq (⟨"TruePollModel", "layPrices", "(IZ)I"⟩, 30) := ⟨⟨by decide +kernel, by decide +kernel⟩, List.mem_of_getElem? (i := 1335) (by decide +kernel), List.mem_of_getElem? (i := 1901) (by decide +kernel), List.mem_of_getElem? (i := 1902) (by decide +kernel)⟩
theorem lw_p114 : lw_okq (⟨"TruePollModel", "tenths", "(III)I"⟩, 30) := ⟨⟨by decide +kernel, by decide +kernel⟩, List.mem_of_getElem? (i := 1335) (by decide +kernel), List.mem_of_getElem? (i := 1910) (by decide +kernel), List.mem_of_getElem? (i := 1911) (by decide +kernel)⟩
theorem lw_p115 : lw_okq (⟨"TruePollModel", "heardBy", "(I)I"⟩, 30) := ⟨⟨by decide +kernel, by decide +kernel⟩, List.mem_of_getElem? (i := 1335) (by decide +kernel), List.mem_of_getElem? (i := 1929) (by decide +kernel), List.mem_of_getElem? (i := 1930) (by decide +kernel)⟩
theorem lw_p116 : lw_okq (⟨"TruePollModel", "hearers", "(I)I"⟩, 30) := ⟨⟨by decide +kernel, by decide +kernel⟩, List.mem_of_getElem? (i := 1335) (by decide +kernel), List.mem_of_getElem? (i := 1941) (by decide +kernel), List.mem_of_getElem? (i := 1942) (by decide +kernel)⟩
theorem lw_p117 : lw_okq (⟨"TruePollModel", "unlikeBy", "(I)I"⟩, 30) := ⟨⟨by decide +kernel, by decide +kernel⟩, List.mem_of_getElem? (i := 1335) (by decide +kernel), List.mem_of_getElem? (i := 1949) (by decide +kernel), List.mem_of_getElem? (i := 1950) (by decide +kernel)⟩
theorem lw_p118 : lw_okq (⟨"TruePollModel", "countBy", "(II)I"⟩, 30) := ⟨⟨by decide +kernel, by decide +kernel⟩, List.mem_of_getElem? (i := 1335) (by decide +kernel), List.mem_of_getElem? (i := 1953) (by decide +kernel), List.mem_of_getElem? (i := 1954) (by decide +kernel)⟩
theorem lw_p119 : lw_okq (⟨"TruePollModel", "layGames", "(I)V"⟩, 30) := ⟨⟨by decide +kernel, by decide +kernel⟩, List.mem_of_getElem? (i := 1335) (by decide +kernel), List.mem_of_getElem? (i := 1961) (by decide +kernel), List.mem_of_getElem? (i := 1962) (by decide +kernel)⟩
theorem lw_p120 : lw_okq (⟨"TruePollModel", "canTell", "(II)Z"⟩, 30) := ⟨⟨by decide +kernel, by decide +kernel⟩, List.mem_of_getElem? (i := 1335) (by decide +kernel), List.mem_of_getElem? (i := 1965) (by decide +kernel), List.mem_of_getElem? (i := 1966) (by decide +kernel)⟩
theorem lw_p121 : lw_okq (⟨"TruePollModel", "byTold", "(II)I"⟩, 30) := ⟨⟨by decide +kernel, by decide +kernel⟩, List.mem_of_getElem? (i := 1335) (by decide +kernel), List.mem_of_getElem? (i := 1969) (by decide +kernel), List.mem_of_getElem? (i := 1970) (by decide +kernel)⟩
theorem lw_p122 : lw_okq (⟨"TruePollModel", "livesBy", "(I)I"⟩, 30) := ⟨⟨by decide +kernel, by decide +kernel⟩, List.mem_of_getElem? (i := 1335) (by decide +kernel), List.mem_of_getElem? (i := 1985) (by decide +kernel), List.mem_of_getElem? (i := 1986) (by decide +kernel)⟩
theorem lw_p123 : lw_okq (⟨"TruePollModel", "doAllLive", "(I)Z"⟩, 30) := ⟨⟨by decide +kernel, by decide +kernel⟩, List.mem_of_getElem? (i := 1335) (by decide +kernel), List.mem_of_getElem? (i := 1997) (by decide +kernel), List.mem_of_getElem? (i := 1998) (by decide +kernel)⟩
theorem lw_p124 : lw_okq (⟨"TruePollModel", "windowOf", "(II)I"⟩, 30) := ⟨⟨by decide +kernel, by decide +kernel⟩, List.mem_of_getElem? (i := 1335) (by decide +kernel), List.mem_of_getElem? (i := 2023) (by decide +kernel), List.mem_of_getElem? (i := 2024) (by decide +kernel)⟩
def lw_privs_8 : List (MethodName × Nat) := [(⟨"TruePollModel", "saysByLean", "(III)Z"⟩, 30), (⟨"TruePollModel", "layPrices", "(IZ)I"⟩, 30), (⟨"TruePollModel", "tenths", "(III)I"⟩, 30), (⟨"TruePollModel", "heardBy", "(I)I"⟩, 30), (⟨"TruePollModel", "hearers", "(I)I"⟩, 30), (⟨"TruePollModel", "unlikeBy", "(I)I"⟩, 30), (⟨"TruePollModel", "countBy", "(II)I"⟩, 30), (⟨"TruePollModel", "layGames", "(I)V"⟩, 30), (⟨"TruePollModel", "canTell", "(II)Z"⟩, 30), (⟨"TruePollModel", "byTold", "(II)I"⟩, 30), (⟨"TruePollModel", "livesBy", "(I)I"⟩, 30), (⟨"TruePollModel", "doAllLive", "(I)Z"⟩, 30), (⟨"TruePollModel", "windowOf", "(II)I"⟩, 30)]
theorem lw_r8 : ∀ q ∈ lw_privs_8, lw_okq q := List.forall_mem_cons.mpr ⟨lw_p112, List.forall_mem_cons.mpr ⟨lw_p113, List.forall_mem_cons.mpr ⟨lw_p114, List.forall_mem_cons.mpr ⟨lw_p115, List.forall_mem_cons.mpr ⟨lw_p116, List.forall_mem_cons.mpr ⟨lw_p117, List.forall_mem_cons.mpr ⟨lw_p118, List.forall_mem_cons.mpr ⟨lw_p119, List.forall_mem_cons.mpr ⟨lw_p120, List.forall_mem_cons.mpr ⟨lw_p121, List.forall_mem_cons.mpr ⟨lw_p122, List.forall_mem_cons.mpr ⟨lw_p123, List.forall_mem_cons.mpr ⟨lw_p124, fun _ h => absurd h List.not_mem_nil⟩⟩⟩⟩⟩⟩⟩⟩⟩⟩⟩⟩⟩
def lw_privs : List (MethodName × Nat) := lw_privs_1 ++ (lw_privs_2 ++ (lw_privs_3 ++ (lw_privs_4 ++ (lw_privs_5 ++ (lw_privs_6 ++ (lw_privs_7 ++ (lw_privs_8)))))))
def lw_tbl : List Cond := k2_sels lw_privs ++ tables_1
theorem lw_privs_ok : ∀ q ∈ lw_privs, lw_okq q := by
  show ∀ q ∈ lw_privs_1 ++ (lw_privs_2 ++ (lw_privs_3 ++ (lw_privs_4 ++ (lw_privs_5 ++ (lw_privs_6 ++ (lw_privs_7 ++ (lw_privs_8))))))), lw_okq q
  exact List.forall_mem_append.mpr ⟨lw_r1, List.forall_mem_append.mpr ⟨lw_r2, List.forall_mem_append.mpr ⟨lw_r3, List.forall_mem_append.mpr ⟨lw_r4, List.forall_mem_append.mpr ⟨lw_r5, List.forall_mem_append.mpr ⟨lw_r6, List.forall_mem_append.mpr ⟨lw_r7, lw_r8⟩⟩⟩⟩⟩⟩⟩

abbrev MI : Type := MethodName × ByteArray × Nat × Option FieldType
def TB : List Cond := lw_tbl.filter goodWord
theorem TB_of {w : Cond} (h : w ∈ lw_tbl) (hg : goodWord w = true) : w ∈ TB := List.mem_filter.mpr ⟨h, hg⟩
theorem TB_good {w : Cond} (h : w ∈ TB) : (w.onTables && w.keeps) = true ∨ ∃ ty, w = .arrayClass ty := good_of_word (List.mem_filter.mp h).2
theorem in_t1 {w : Cond} (i : Nat) (h : tables_1_1[i]? = some w) : w ∈ lw_tbl := List.mem_append_right _ (show w ∈ tables_1 from List.mem_append_left _ (List.mem_of_getElem? h))
theorem in_t2 {w : Cond} (i : Nat) (h : tables_1_2[i]? = some w) : w ∈ lw_tbl := List.mem_append_right _ (show w ∈ tables_1 from List.mem_append_right _ (List.mem_append_left _ (List.mem_of_getElem? h)))
theorem in_t3 {w : Cond} (i : Nat) (h : tables_1_3[i]? = some w) : w ∈ lw_tbl := List.mem_append_right _ (show w ∈ tables_1 from List.mem_append_right _ (List.mem_append_right _ (List.mem_append_left _ (List.mem_of_getElem? h))))
theorem in_t4 {w : Cond} (i : Nat) (h : tables_1_4[i]? = some w) : w ∈ lw_tbl := List.mem_append_right _ (show w ∈ tables_1 from List.mem_append_right _ (List.mem_append_right _ (List.mem_append_right _ (List.mem_append_left _ (List.mem_of_getElem? h)))))
theorem in_t5 {w : Cond} (i : Nat) (h : tables_1_5[i]? = some w) : w ∈ lw_tbl := List.mem_append_right _ (show w ∈ tables_1 from List.mem_append_right _ (List.mem_append_right _ (List.mem_append_right _ (List.mem_append_right _ (List.mem_append_left _ (List.mem_of_getElem? h))))))
theorem in_t6 {w : Cond} (i : Nat) (h : tables_1_6[i]? = some w) : w ∈ lw_tbl := List.mem_append_right _ (show w ∈ tables_1 from List.mem_append_right _ (List.mem_append_right _ (List.mem_append_right _ (List.mem_append_right _ (List.mem_append_right _ (List.mem_append_left _ (List.mem_of_getElem? h)))))))
theorem in_t7 {w : Cond} (i : Nat) (h : tables_1_7[i]? = some w) : w ∈ lw_tbl := List.mem_append_right _ (show w ∈ tables_1 from List.mem_append_right _ (List.mem_append_right _ (List.mem_append_right _ (List.mem_append_right _ (List.mem_append_right _ (List.mem_append_right _ (List.mem_append_left _ (List.mem_of_getElem? h))))))))
theorem in_t8 {w : Cond} (i : Nat) (h : tables_1_8[i]? = some w) : w ∈ lw_tbl := List.mem_append_right _ (show w ∈ tables_1 from List.mem_append_right _ (List.mem_append_right _ (List.mem_append_right _ (List.mem_append_right _ (List.mem_append_right _ (List.mem_append_right _ (List.mem_append_right _ (List.mem_append_left _ (List.mem_of_getElem? h)))))))))
theorem in_t9 {w : Cond} (i : Nat) (h : tables_1_9[i]? = some w) : w ∈ lw_tbl := List.mem_append_right _ (show w ∈ tables_1 from List.mem_append_right _ (List.mem_append_right _ (List.mem_append_right _ (List.mem_append_right _ (List.mem_append_right _ (List.mem_append_right _ (List.mem_append_right _ (List.mem_append_right _ (List.mem_of_getElem? h)))))))))
theorem in_q1 {q : MethodName × Nat} (i : Nat) (h : lw_privs_1[i]? = some q) : q ∈ lw_privs := List.mem_append_left _ (List.mem_of_getElem? h)
theorem in_p1 {y : MethodName} {n : Nat} (i : Nat) (h : lw_privs_1[i]? = some (y, n)) : Cond.selects y.cls y y ∈ lw_tbl := List.mem_append_left _ (List.mem_map.mpr ⟨(y, n), in_q1 i h, rfl⟩)
theorem in_q2 {q : MethodName × Nat} (i : Nat) (h : lw_privs_2[i]? = some q) : q ∈ lw_privs := List.mem_append_right _ (List.mem_append_left _ (List.mem_of_getElem? h))
theorem in_p2 {y : MethodName} {n : Nat} (i : Nat) (h : lw_privs_2[i]? = some (y, n)) : Cond.selects y.cls y y ∈ lw_tbl := List.mem_append_left _ (List.mem_map.mpr ⟨(y, n), in_q2 i h, rfl⟩)
theorem in_q3 {q : MethodName × Nat} (i : Nat) (h : lw_privs_3[i]? = some q) : q ∈ lw_privs := List.mem_append_right _ (List.mem_append_right _ (List.mem_append_left _ (List.mem_of_getElem? h)))
theorem in_p3 {y : MethodName} {n : Nat} (i : Nat) (h : lw_privs_3[i]? = some (y, n)) : Cond.selects y.cls y y ∈ lw_tbl := List.mem_append_left _ (List.mem_map.mpr ⟨(y, n), in_q3 i h, rfl⟩)
theorem in_q4 {q : MethodName × Nat} (i : Nat) (h : lw_privs_4[i]? = some q) : q ∈ lw_privs := List.mem_append_right _ (List.mem_append_right _ (List.mem_append_right _ (List.mem_append_left _ (List.mem_of_getElem? h))))
theorem in_p4 {y : MethodName} {n : Nat} (i : Nat) (h : lw_privs_4[i]? = some (y, n)) : Cond.selects y.cls y y ∈ lw_tbl := List.mem_append_left _ (List.mem_map.mpr ⟨(y, n), in_q4 i h, rfl⟩)
theorem in_q5 {q : MethodName × Nat} (i : Nat) (h : lw_privs_5[i]? = some q) : q ∈ lw_privs := List.mem_append_right _ (List.mem_append_right _ (List.mem_append_right _ (List.mem_append_right _ (List.mem_append_left _ (List.mem_of_getElem? h)))))
theorem in_p5 {y : MethodName} {n : Nat} (i : Nat) (h : lw_privs_5[i]? = some (y, n)) : Cond.selects y.cls y y ∈ lw_tbl := List.mem_append_left _ (List.mem_map.mpr ⟨(y, n), in_q5 i h, rfl⟩)
theorem in_q6 {q : MethodName × Nat} (i : Nat) (h : lw_privs_6[i]? = some q) : q ∈ lw_privs := List.mem_append_right _ (List.mem_append_right _ (List.mem_append_right _ (List.mem_append_right _ (List.mem_append_right _ (List.mem_append_left _ (List.mem_of_getElem? h))))))
theorem in_p6 {y : MethodName} {n : Nat} (i : Nat) (h : lw_privs_6[i]? = some (y, n)) : Cond.selects y.cls y y ∈ lw_tbl := List.mem_append_left _ (List.mem_map.mpr ⟨(y, n), in_q6 i h, rfl⟩)
theorem in_q7 {q : MethodName × Nat} (i : Nat) (h : lw_privs_7[i]? = some q) : q ∈ lw_privs := List.mem_append_right _ (List.mem_append_right _ (List.mem_append_right _ (List.mem_append_right _ (List.mem_append_right _ (List.mem_append_right _ (List.mem_append_left _ (List.mem_of_getElem? h)))))))
theorem in_p7 {y : MethodName} {n : Nat} (i : Nat) (h : lw_privs_7[i]? = some (y, n)) : Cond.selects y.cls y y ∈ lw_tbl := List.mem_append_left _ (List.mem_map.mpr ⟨(y, n), in_q7 i h, rfl⟩)
theorem in_q8 {q : MethodName × Nat} (i : Nat) (h : lw_privs_8[i]? = some q) : q ∈ lw_privs := List.mem_append_right _ (List.mem_append_right _ (List.mem_append_right _ (List.mem_append_right _ (List.mem_append_right _ (List.mem_append_right _ (List.mem_append_right _ (List.mem_of_getElem? h)))))))
theorem in_p8 {y : MethodName} {n : Nat} (i : Nat) (h : lw_privs_8[i]? = some (y, n)) : Cond.selects y.cls y y ∈ lw_tbl := List.mem_append_left _ (List.mem_map.mpr ⟨(y, n), in_q8 i h, rfl⟩)
theorem TB_at {w : Cond} (i : Nat) (h : lw_tbl[i]? = some w) (hg : goodWord w = true) : w ∈ TB := TB_of (List.mem_of_getElem? h) hg
def cT0 : u_T := fun k => match k with
  | 0 => ("TruePoll$Asker", "crowd", "LTruePoll$Crowd;", true)
  | 1 => ("TruePoll$Asker", "waiting", "[I", true)
  | 2 => ("TruePoll$Asker", "moment", "LTruePoll$Moment;", false)
  | 3 => ("TruePoll$Asker", "person", "I", false)
  | 4 => ("TruePoll$Asker", "figure", "I", false)
  | _ => ("TruePoll$Asker", "yes", "I", false)
def cY0 : Nat → FieldType := fun k => match k with
  | 0 => .object "TruePoll$Crowd"
  | 1 => .array (.int)
  | 2 => .object "TruePoll$Moment"
  | 3 => .int
  | 4 => .int
  | _ => .int
def cK0 : Nat → Nat := fun k => match k with
  | 0 => 2
  | 1 => 2
  | 2 => 2
  | 3 => 0
  | 4 => 0
  | _ => 0
def cT1 : u_T := fun k => match k with
  | 0 => ("TruePoll$Crowd", "now", "LTruePoll$Moment;", true)
  | 1 => ("TruePoll$Crowd", "sorts", "[I", true)
  | 2 => ("TruePoll$Crowd", "toldLeans", "[I", true)
  | 3 => ("TruePoll$Crowd", "hears", "[I", true)
  | 4 => ("TruePoll$Crowd", "before", "[LTruePoll$Moment;", true)
  | 5 => ("TruePoll$Crowd", "firstStep", "I", false)
  | 6 => ("TruePoll$Crowd", "steps", "I", false)
  | 7 => ("TruePoll$Crowd", "texts", "[LTruePoll$Text;", true)
  | 8 => ("TruePoll$Crowd", "textCount", "I", false)
  | 9 => ("TruePoll$Crowd", "ruling", "I", false)
  | 10 => ("TruePoll$Crowd", "partyLows", "[I", true)
  | 11 => ("TruePoll$Crowd", "partyHighs", "[I", true)
  | 12 => ("TruePoll$Crowd", "parties", "I", false)
  | 13 => ("TruePoll$Crowd", "saidFigures", "[I", true)
  | 14 => ("TruePoll$Crowd", "saidCounts", "[I", true)
  | 15 => ("TruePoll$Crowd", "saids", "I", false)
  | _ => ("TruePoll$Crowd", "villages", "[I", true)
def cY1 : Nat → FieldType := fun k => match k with
  | 0 => .object "TruePoll$Moment"
  | 1 => .array (.int)
  | 2 => .array (.int)
  | 3 => .array (.int)
  | 4 => .array (.object "TruePoll$Moment")
  | 5 => .int
  | 6 => .int
  | 7 => .array (.object "TruePoll$Text")
  | 8 => .int
  | 9 => .int
  | 10 => .array (.int)
  | 11 => .array (.int)
  | 12 => .int
  | 13 => .array (.int)
  | 14 => .array (.int)
  | 15 => .int
  | _ => .array (.int)
def cK1 : Nat → Nat := fun k => match k with
  | 0 => 2
  | 1 => 2
  | 2 => 2
  | 3 => 2
  | 4 => 2
  | 5 => 0
  | 6 => 0
  | 7 => 2
  | 8 => 0
  | 9 => 0
  | 10 => 2
  | 11 => 2
  | 12 => 0
  | 13 => 2
  | 14 => 2
  | 15 => 0
  | _ => 2
def cT2 : u_T := fun k => match k with
  | 0 => ("TruePoll$Moment", "leans", "[I", true)
  | 1 => ("TruePoll$Moment", "lines", "[I", true)
  | 2 => ("TruePoll$Moment", "people", "I", false)
  | 3 => ("TruePoll$Moment", "answers", "I", false)
  | 4 => ("TruePoll$Moment", "figure", "I", false)
  | 5 => ("TruePoll$Moment", "round", "I", false)
  | 6 => ("TruePoll$Moment", "x", "I", false)
  | _ => ("TruePoll$Moment", "written", "I", false)
def cY2 : Nat → FieldType := fun k => match k with
  | 0 => .array (.int)
  | 1 => .array (.int)
  | 2 => .int
  | 3 => .int
  | 4 => .int
  | 5 => .int
  | 6 => .int
  | _ => .int
def cK2 : Nat → Nat := fun k => match k with
  | 0 => 2
  | 1 => 2
  | 2 => 0
  | 3 => 0
  | 4 => 0
  | 5 => 0
  | 6 => 0
  | _ => 0
def cT3 : u_T := fun k => match k with
  | 0 => ("TruePoll$Outlook", "yes", "[I", true)
  | 1 => ("TruePoll$Outlook", "lasts", "[I", true)
  | 2 => ("TruePoll$Outlook", "fresh", "[I", true)
  | _ => ("TruePoll$Outlook", "people", "I", false)
def cY3 : Nat → FieldType := fun k => match k with
  | 0 => .array (.int)
  | 1 => .array (.int)
  | 2 => .array (.int)
  | _ => .int
def cK3 : Nat → Nat := fun k => match k with
  | 0 => 2
  | 1 => 2
  | 2 => 2
  | _ => 0
def cT4 : u_T := fun k => match k with
  | 0 => ("TruePoll$Reader", "tape", "LTruePoll$Tape;", true)
  | 1 => ("TruePoll$Reader", "kinds", "[I", true)
  | 2 => ("TruePoll$Reader", "firsts", "[I", true)
  | 3 => ("TruePoll$Reader", "seconds", "[I", true)
  | 4 => ("TruePoll$Reader", "signs", "[I", true)
  | 5 => ("TruePoll$Reader", "mores", "[I", true)
  | 6 => ("TruePoll$Reader", "clauses", "I", false)
  | 7 => ("TruePoll$Reader", "size", "I", false)
  | 8 => ("TruePoll$Reader", "saysFrom", "I", false)
  | 9 => ("TruePoll$Reader", "saysTo", "I", false)
  | 10 => ("TruePoll$Reader", "swaysFrom", "I", false)
  | 11 => ("TruePoll$Reader", "swaysTo", "I", false)
  | 12 => ("TruePoll$Reader", "law", "I", false)
  | 13 => ("TruePoll$Reader", "next", "I", false)
  | 14 => ("TruePoll$Reader", "sign", "I", false)
  | 15 => ("TruePoll$Reader", "value", "I", false)
  | 16 => ("TruePoll$Reader", "fault", "I", false)
  | _ => ("TruePoll$Reader", "place", "I", false)
def cY4 : Nat → FieldType := fun k => match k with
  | 0 => .object "TruePoll$Tape"
  | 1 => .array (.int)
  | 2 => .array (.int)
  | 3 => .array (.int)
  | 4 => .array (.int)
  | 5 => .array (.int)
  | 6 => .int
  | 7 => .int
  | 8 => .int
  | 9 => .int
  | 10 => .int
  | 11 => .int
  | 12 => .int
  | 13 => .int
  | 14 => .int
  | 15 => .int
  | 16 => .int
  | _ => .int
def cK4 : Nat → Nat := fun k => match k with
  | 0 => 2
  | 1 => 2
  | 2 => 2
  | 3 => 2
  | 4 => 2
  | 5 => 2
  | 6 => 0
  | 7 => 0
  | 8 => 0
  | 9 => 0
  | 10 => 0
  | 11 => 0
  | 12 => 0
  | 13 => 0
  | 14 => 0
  | 15 => 0
  | 16 => 0
  | _ => 0
def cT5 : u_T := fun k => match k with
  | 0 => ("TruePoll$Rounds", "crowd", "LTruePoll$Crowd;", true)
  | 1 => ("TruePoll$Rounds", "asker", "LTruePoll$Asker;", true)
  | _ => ("TruePoll$Rounds", "fresh", "[I", true)
def cY5 : Nat → FieldType := fun k => match k with
  | 0 => .object "TruePoll$Crowd"
  | 1 => .object "TruePoll$Asker"
  | _ => .array (.int)
def cK5 : Nat → Nat := fun k => match k with
  | 0 => 2
  | 1 => 2
  | _ => 2
def cT6 : u_T := fun k => match k with
  | 0 => ("TruePoll$Tape", "bytes", "[I", true)
  | 1 => ("TruePoll$Tape", "size", "I", false)
  | 2 => ("TruePoll$Tape", "signs", "[I", true)
  | 3 => ("TruePoll$Tape", "starts", "[I", true)
  | 4 => ("TruePoll$Tape", "values", "[I", true)
  | 5 => ("TruePoll$Tape", "next", "I", false)
  | _ => ("TruePoll$Tape", "value", "I", false)
def cY6 : Nat → FieldType := fun k => match k with
  | 0 => .array (.int)
  | 1 => .int
  | 2 => .array (.int)
  | 3 => .array (.int)
  | 4 => .array (.int)
  | 5 => .int
  | _ => .int
def cK6 : Nat → Nat := fun k => match k with
  | 0 => 2
  | 1 => 0
  | 2 => 2
  | 3 => 2
  | 4 => 2
  | 5 => 0
  | _ => 0
def cT7 : u_T := fun k => match k with
  | 0 => ("TruePoll$Text", "kinds", "[I", true)
  | 1 => ("TruePoll$Text", "firsts", "[I", true)
  | 2 => ("TruePoll$Text", "seconds", "[I", true)
  | 3 => ("TruePoll$Text", "signs", "[I", true)
  | 4 => ("TruePoll$Text", "mores", "[I", true)
  | 5 => ("TruePoll$Text", "saysFrom", "I", false)
  | 6 => ("TruePoll$Text", "saysTo", "I", false)
  | 7 => ("TruePoll$Text", "swaysFrom", "I", false)
  | _ => ("TruePoll$Text", "swaysTo", "I", false)
def cY7 : Nat → FieldType := fun k => match k with
  | 0 => .array (.int)
  | 1 => .array (.int)
  | 2 => .array (.int)
  | 3 => .array (.int)
  | 4 => .array (.int)
  | 5 => .int
  | 6 => .int
  | 7 => .int
  | _ => .int
def cK7 : Nat → Nat := fun k => match k with
  | 0 => 2
  | 1 => 2
  | 2 => 2
  | 3 => 2
  | 4 => 2
  | 5 => 0
  | 6 => 0
  | 7 => 0
  | _ => 0
def cT8 : u_T := fun k => match k with
  | 0 => ("TruePoll", "crowd", "LTruePoll$Crowd;", true)
  | 1 => ("TruePoll", "kept", "LTruePoll$Crowd;", true)
  | 2 => ("TruePoll", "trial", "LTruePoll$Moment;", true)
  | 3 => ("TruePoll", "asker", "LTruePoll$Asker;", true)
  | 4 => ("TruePoll", "rounds", "LTruePoll$Rounds;", true)
  | 5 => ("TruePoll", "outlook", "LTruePoll$Outlook;", true)
  | 6 => ("TruePoll", "tape", "LTruePoll$Tape;", true)
  | 7 => ("TruePoll", "reader", "LTruePoll$Reader;", true)
  | 8 => ("TruePoll", "ways", "[J", true)
  | 9 => ("TruePoll", "costs", "[I", true)
  | 10 => ("TruePoll", "seen", "[I", true)
  | 11 => ("TruePoll", "faultKind", "I", false)
  | _ => ("TruePoll", "faultPlace", "I", false)
def cY8 : Nat → FieldType := fun k => match k with
  | 0 => .object "TruePoll$Crowd"
  | 1 => .object "TruePoll$Crowd"
  | 2 => .object "TruePoll$Moment"
  | 3 => .object "TruePoll$Asker"
  | 4 => .object "TruePoll$Rounds"
  | 5 => .object "TruePoll$Outlook"
  | 6 => .object "TruePoll$Tape"
  | 7 => .object "TruePoll$Reader"
  | 8 => .array (.long)
  | 9 => .array (.int)
  | 10 => .array (.int)
  | 11 => .int
  | _ => .int
def cK8 : Nat → Nat := fun k => match k with
  | 0 => 2
  | 1 => 2
  | 2 => 2
  | 3 => 2
  | 4 => 2
  | 5 => 2
  | 6 => 2
  | 7 => 2
  | 8 => 2
  | 9 => 2
  | 10 => 2
  | 11 => 0
  | _ => 0
def cT9 : u_T := fun k => match k with
  | 0 => ("TruePollModel", "a", "[I", true)
  | 1 => ("TruePollModel", "image", "[I", true)
  | 2 => ("TruePollModel", "texts", "[I", true)
  | 3 => ("TruePollModel", "tape", "[I", true)
  | 4 => ("TruePollModel", "taped", "I", false)
  | 5 => ("TruePollModel", "fault", "I", false)
  | 6 => ("TruePollModel", "faultPlace", "I", false)
  | 7 => ("TruePollModel", "at", "I", false)
  | 8 => ("TruePollModel", "place", "I", false)
  | 9 => ("TruePollModel", "token", "I", false)
  | 10 => ("TruePollModel", "number", "I", false)
  | 11 => ("TruePollModel", "word", "J", false)
  | 12 => ("TruePollModel", "text0", "I", false)
  | 13 => ("TruePollModel", "written", "I", false)
  | 14 => ("TruePollModel", "sort0", "I", false)
  | 15 => ("TruePollModel", "pile", "[I", true)
  | 16 => ("TruePollModel", "piled", "I", false)
  | 17 => ("TruePollModel", "opens", "I", false)
  | 18 => ("TruePollModel", "isWhole", "Z", false)
  | 19 => ("TruePollModel", "once", "I", false)
  | 20 => ("TruePollModel", "named", "[I", true)
  | 21 => ("TruePollModel", "values", "[J", true)
  | 22 => ("TruePollModel", "truth", "[Z", true)
  | 23 => ("TruePollModel", "isWritten", "Z", false)
  | 24 => ("TruePollModel", "swayed", "[I", true)
  | 25 => ("TruePollModel", "aside", "[I", true)
  | 26 => ("TruePollModel", "next", "[I", true)
  | 27 => ("TruePollModel", "prices", "[I", true)
  | 28 => ("TruePollModel", "rows", "[J", true)
  | _ => ("TruePollModel", "games", "[I", true)
def cY9 : Nat → FieldType := fun k => match k with
  | 0 => .array (.int)
  | 1 => .array (.int)
  | 2 => .array (.int)
  | 3 => .array (.int)
  | 4 => .int
  | 5 => .int
  | 6 => .int
  | 7 => .int
  | 8 => .int
  | 9 => .int
  | 10 => .int
  | 11 => .long
  | 12 => .int
  | 13 => .int
  | 14 => .int
  | 15 => .array (.int)
  | 16 => .int
  | 17 => .int
  | 18 => .boolean
  | 19 => .int
  | 20 => .array (.int)
  | 21 => .array (.long)
  | 22 => .array (.boolean)
  | 23 => .boolean
  | 24 => .array (.int)
  | 25 => .array (.int)
  | 26 => .array (.int)
  | 27 => .array (.int)
  | 28 => .array (.long)
  | _ => .array (.int)
def cK9 : Nat → Nat := fun k => match k with
  | 0 => 2
  | 1 => 2
  | 2 => 2
  | 3 => 2
  | 4 => 0
  | 5 => 0
  | 6 => 0
  | 7 => 0
  | 8 => 0
  | 9 => 0
  | 10 => 0
  | 11 => 1
  | 12 => 0
  | 13 => 0
  | 14 => 0
  | 15 => 2
  | 16 => 0
  | 17 => 0
  | 18 => 3
  | 19 => 0
  | 20 => 2
  | 21 => 2
  | 22 => 2
  | 23 => 3
  | 24 => 2
  | 25 => 2
  | 26 => 2
  | 27 => 2
  | 28 => 2
  | _ => 2
def clC : Nat → String := fun c => match c with
  | 0 => "TruePoll$Asker"
  | 1 => "TruePoll$Crowd"
  | 2 => "TruePoll$Moment"
  | 3 => "TruePoll$Outlook"
  | 4 => "TruePoll$Reader"
  | 5 => "TruePoll$Rounds"
  | 6 => "TruePoll$Tape"
  | 7 => "TruePoll$Text"
  | 8 => "TruePoll"
  | _ => "TruePollModel"
def clT : Nat → u_T := fun c => match c with
  | 0 => cT0
  | 1 => cT1
  | 2 => cT2
  | 3 => cT3
  | 4 => cT4
  | 5 => cT5
  | 6 => cT6
  | 7 => cT7
  | 8 => cT8
  | _ => cT9
def clN : Nat → Nat := fun c => match c with
  | 0 => 6
  | 1 => 17
  | 2 => 8
  | 3 => 4
  | 4 => 18
  | 5 => 3
  | 6 => 7
  | 7 => 9
  | 8 => 13
  | _ => 30
def clY : Nat → (Nat → FieldType) := fun c => match c with
  | 0 => cY0
  | 1 => cY1
  | 2 => cY2
  | 3 => cY3
  | 4 => cY4
  | 5 => cY5
  | 6 => cY6
  | 7 => cY7
  | 8 => cY8
  | _ => cY9
def fk : Nat → (Nat → Nat) := fun c => match c with
  | 0 => cK0
  | 1 => cK1
  | 2 => cK2
  | 3 => cK3
  | 4 => cK4
  | 5 => cK5
  | 6 => cK6
  | 7 => cK7
  | 8 => cK8
  | _ => cK9
abbrev NC : Nat := 10
def classes : List vw_C := (List.range NC).map fun c => (clC c, clT c, clN c)
theorem cl_nm0 : ∀ a, a < 6 → ∀ b, b < 6 → a ≠ b → (cT0 a).2.1 ≠ (cT0 b).2.1 := by decide +kernel
theorem cl_ty0 : ∀ k, k < 6 → parseFieldDescriptor (cT0 k).2.2.1 = some (cY0 k) := by decide +kernel
theorem cl_wm0 : ∀ k, k < 6 → u_lay (clC 0) cT0 k ∈ TB := fun k h => match k, h with
  | 0, _ => TB_of (in_t1 170 rfl) rfl
  | 1, _ => TB_of (in_t1 172 rfl) rfl
  | 2, _ => TB_of (in_t1 174 rfl) rfl
  | 3, _ => TB_of (in_t1 176 rfl) rfl
  | 4, _ => TB_of (in_t1 178 rfl) rfl
  | 5, _ => TB_of (in_t1 180 rfl) rfl
  | m + 6, h => absurd h (by omega)
theorem cl_in0 : ∀ w ∈ u_ws (clC 0) cT0 6, w ∈ TB := by
  intro w hw
  obtain ⟨k, hk, rfl⟩ := List.mem_map.mp hw
  exact cl_wm0 k (List.mem_range.mp hk)
theorem cl_nm1 : ∀ a, a < 17 → ∀ b, b < 17 → a ≠ b → (cT1 a).2.1 ≠ (cT1 b).2.1 := by decide +kernel
theorem cl_ty1 : ∀ k, k < 17 → parseFieldDescriptor (cT1 k).2.2.1 = some (cY1 k) := by decide +kernel
theorem cl_wm1 : ∀ k, k < 17 → u_lay (clC 1) cT1 k ∈ TB := fun k h => match k, h with
  | 0, _ => TB_of (in_t1 121 rfl) rfl
  | 1, _ => TB_of (in_t1 123 rfl) rfl
  | 2, _ => TB_of (in_t1 125 rfl) rfl
  | 3, _ => TB_of (in_t1 127 rfl) rfl
  | 4, _ => TB_of (in_t1 129 rfl) rfl
  | 5, _ => TB_of (in_t1 131 rfl) rfl
  | 6, _ => TB_of (in_t1 133 rfl) rfl
  | 7, _ => TB_of (in_t1 135 rfl) rfl
  | 8, _ => TB_of (in_t1 137 rfl) rfl
  | 9, _ => TB_of (in_t1 139 rfl) rfl
  | 10, _ => TB_of (in_t1 141 rfl) rfl
  | 11, _ => TB_of (in_t1 143 rfl) rfl
  | 12, _ => TB_of (in_t1 145 rfl) rfl
  | 13, _ => TB_of (in_t1 147 rfl) rfl
  | 14, _ => TB_of (in_t1 149 rfl) rfl
  | 15, _ => TB_of (in_t1 151 rfl) rfl
  | 16, _ => TB_of (in_t1 153 rfl) rfl
  | m + 17, h => absurd h (by omega)
theorem cl_in1 : ∀ w ∈ u_ws (clC 1) cT1 17, w ∈ TB := by
  intro w hw
  obtain ⟨k, hk, rfl⟩ := List.mem_map.mp hw
  exact cl_wm1 k (List.mem_range.mp hk)
theorem cl_nm2 : ∀ a, a < 8 → ∀ b, b < 8 → a ≠ b → (cT2 a).2.1 ≠ (cT2 b).2.1 := by decide +kernel
theorem cl_ty2 : ∀ k, k < 8 → parseFieldDescriptor (cT2 k).2.2.1 = some (cY2 k) := by decide +kernel
theorem cl_wm2 : ∀ k, k < 8 → u_lay (clC 2) cT2 k ∈ TB := fun k h => match k, h with
  | 0, _ => TB_of (in_t1 68 rfl) rfl
  | 1, _ => TB_of (in_t1 70 rfl) rfl
  | 2, _ => TB_of (in_t1 72 rfl) rfl
  | 3, _ => TB_of (in_t1 74 rfl) rfl
  | 4, _ => TB_of (in_t1 76 rfl) rfl
  | 5, _ => TB_of (in_t1 78 rfl) rfl
  | 6, _ => TB_of (in_t1 80 rfl) rfl
  | 7, _ => TB_of (in_t1 82 rfl) rfl
  | m + 8, h => absurd h (by omega)
theorem cl_in2 : ∀ w ∈ u_ws (clC 2) cT2 8, w ∈ TB := by
  intro w hw
  obtain ⟨k, hk, rfl⟩ := List.mem_map.mp hw
  exact cl_wm2 k (List.mem_range.mp hk)
theorem cl_nm3 : ∀ a, a < 4 → ∀ b, b < 4 → a ≠ b → (cT3 a).2.1 ≠ (cT3 b).2.1 := by decide +kernel
theorem cl_ty3 : ∀ k, k < 4 → parseFieldDescriptor (cT3 k).2.2.1 = some (cY3 k) := by decide +kernel
theorem cl_wm3 : ∀ k, k < 4 → u_lay (clC 3) cT3 k ∈ TB := fun k h => match k, h with
  | 0, _ => TB_of (in_t1 211 rfl) rfl
  | 1, _ => TB_of (in_t1 213 rfl) rfl
  | 2, _ => TB_of (in_t1 215 rfl) rfl
  | 3, _ => TB_of (in_t1 217 rfl) rfl
  | m + 4, h => absurd h (by omega)
theorem cl_in3 : ∀ w ∈ u_ws (clC 3) cT3 4, w ∈ TB := by
  intro w hw
  obtain ⟨k, hk, rfl⟩ := List.mem_map.mp hw
  exact cl_wm3 k (List.mem_range.mp hk)
theorem cl_nm4 : ∀ a, a < 18 → ∀ b, b < 18 → a ≠ b → (cT4 a).2.1 ≠ (cT4 b).2.1 := by decide +kernel
theorem cl_ty4 : ∀ k, k < 18 → parseFieldDescriptor (cT4 k).2.2.1 = some (cY4 k) := by decide +kernel
theorem cl_wm4 : ∀ k, k < 18 → u_lay (clC 4) cT4 k ∈ TB := fun k h => match k, h with
  | 0, _ => TB_of (in_t2 38 rfl) rfl
  | 1, _ => TB_of (in_t2 40 rfl) rfl
  | 2, _ => TB_of (in_t2 42 rfl) rfl
  | 3, _ => TB_of (in_t2 44 rfl) rfl
  | 4, _ => TB_of (in_t2 46 rfl) rfl
  | 5, _ => TB_of (in_t2 48 rfl) rfl
  | 6, _ => TB_of (in_t2 50 rfl) rfl
  | 7, _ => TB_of (in_t2 52 rfl) rfl
  | 8, _ => TB_of (in_t2 54 rfl) rfl
  | 9, _ => TB_of (in_t2 56 rfl) rfl
  | 10, _ => TB_of (in_t2 58 rfl) rfl
  | 11, _ => TB_of (in_t2 60 rfl) rfl
  | 12, _ => TB_of (in_t2 62 rfl) rfl
  | 13, _ => TB_of (in_t2 64 rfl) rfl
  | 14, _ => TB_of (in_t2 66 rfl) rfl
  | 15, _ => TB_of (in_t2 68 rfl) rfl
  | 16, _ => TB_of (in_t2 70 rfl) rfl
  | 17, _ => TB_of (in_t2 72 rfl) rfl
  | m + 18, h => absurd h (by omega)
theorem cl_in4 : ∀ w ∈ u_ws (clC 4) cT4 18, w ∈ TB := by
  intro w hw
  obtain ⟨k, hk, rfl⟩ := List.mem_map.mp hw
  exact cl_wm4 k (List.mem_range.mp hk)
theorem cl_nm5 : ∀ a, a < 3 → ∀ b, b < 3 → a ≠ b → (cT5 a).2.1 ≠ (cT5 b).2.1 := by decide +kernel
theorem cl_ty5 : ∀ k, k < 3 → parseFieldDescriptor (cT5 k).2.2.1 = some (cY5 k) := by decide +kernel
theorem cl_wm5 : ∀ k, k < 3 → u_lay (clC 5) cT5 k ∈ TB := fun k h => match k, h with
  | 0, _ => TB_of (in_t1 192 rfl) rfl
  | 1, _ => TB_of (in_t1 194 rfl) rfl
  | 2, _ => TB_of (in_t1 196 rfl) rfl
  | m + 3, h => absurd h (by omega)
theorem cl_in5 : ∀ w ∈ u_ws (clC 5) cT5 3, w ∈ TB := by
  intro w hw
  obtain ⟨k, hk, rfl⟩ := List.mem_map.mp hw
  exact cl_wm5 k (List.mem_range.mp hk)
theorem cl_nm6 : ∀ a, a < 7 → ∀ b, b < 7 → a ≠ b → (cT6 a).2.1 ≠ (cT6 b).2.1 := by decide +kernel
theorem cl_ty6 : ∀ k, k < 7 → parseFieldDescriptor (cT6 k).2.2.1 = some (cY6 k) := by decide +kernel
theorem cl_wm6 : ∀ k, k < 7 → u_lay (clC 6) cT6 k ∈ TB := fun k h => match k, h with
  | 0, _ => TB_of (in_t1 237 rfl) rfl
  | 1, _ => TB_of (in_t1 239 rfl) rfl
  | 2, _ => TB_of (in_t2 1 rfl) rfl
  | 3, _ => TB_of (in_t2 3 rfl) rfl
  | 4, _ => TB_of (in_t2 5 rfl) rfl
  | 5, _ => TB_of (in_t2 7 rfl) rfl
  | 6, _ => TB_of (in_t2 9 rfl) rfl
  | m + 7, h => absurd h (by omega)
theorem cl_in6 : ∀ w ∈ u_ws (clC 6) cT6 7, w ∈ TB := by
  intro w hw
  obtain ⟨k, hk, rfl⟩ := List.mem_map.mp hw
  exact cl_wm6 k (List.mem_range.mp hk)
theorem cl_nm7 : ∀ a, a < 9 → ∀ b, b < 9 → a ≠ b → (cT7 a).2.1 ≠ (cT7 b).2.1 := by decide +kernel
theorem cl_ty7 : ∀ k, k < 9 → parseFieldDescriptor (cT7 k).2.2.1 = some (cY7 k) := by decide +kernel
theorem cl_wm7 : ∀ k, k < 9 → u_lay (clC 7) cT7 k ∈ TB := fun k h => match k, h with
  | 0, _ => TB_of (in_t3 202 rfl) rfl
  | 1, _ => TB_of (in_t3 204 rfl) rfl
  | 2, _ => TB_of (in_t3 206 rfl) rfl
  | 3, _ => TB_of (in_t3 208 rfl) rfl
  | 4, _ => TB_of (in_t3 210 rfl) rfl
  | 5, _ => TB_of (in_t3 212 rfl) rfl
  | 6, _ => TB_of (in_t3 214 rfl) rfl
  | 7, _ => TB_of (in_t3 216 rfl) rfl
  | 8, _ => TB_of (in_t3 218 rfl) rfl
  | m + 9, h => absurd h (by omega)
theorem cl_in7 : ∀ w ∈ u_ws (clC 7) cT7 9, w ∈ TB := by
  intro w hw
  obtain ⟨k, hk, rfl⟩ := List.mem_map.mp hw
  exact cl_wm7 k (List.mem_range.mp hk)
theorem cl_nm8 : ∀ a, a < 13 → ∀ b, b < 13 → a ≠ b → (cT8 a).2.1 ≠ (cT8 b).2.1 := by decide +kernel
theorem cl_ty8 : ∀ k, k < 13 → parseFieldDescriptor (cT8 k).2.2.1 = some (cY8 k) := by decide +kernel
theorem cl_wm8 : ∀ k, k < 13 → u_lay (clC 8) cT8 k ∈ TB := fun k h => match k, h with
  | 0, _ => TB_of (in_t2 88 rfl) rfl
  | 1, _ => TB_of (in_t2 90 rfl) rfl
  | 2, _ => TB_of (in_t2 92 rfl) rfl
  | 3, _ => TB_of (in_t2 94 rfl) rfl
  | 4, _ => TB_of (in_t2 96 rfl) rfl
  | 5, _ => TB_of (in_t2 98 rfl) rfl
  | 6, _ => TB_of (in_t2 100 rfl) rfl
  | 7, _ => TB_of (in_t2 102 rfl) rfl
  | 8, _ => TB_of (in_t2 104 rfl) rfl
  | 9, _ => TB_of (in_t2 106 rfl) rfl
  | 10, _ => TB_of (in_t2 108 rfl) rfl
  | 11, _ => TB_of (in_t2 110 rfl) rfl
  | 12, _ => TB_of (in_t2 112 rfl) rfl
  | m + 13, h => absurd h (by omega)
theorem cl_in8 : ∀ w ∈ u_ws (clC 8) cT8 13, w ∈ TB := by
  intro w hw
  obtain ⟨k, hk, rfl⟩ := List.mem_map.mp hw
  exact cl_wm8 k (List.mem_range.mp hk)
theorem cl_nm9 : ∀ a, a < 30 → ∀ b, b < 30 → a ≠ b → (cT9 a).2.1 ≠ (cT9 b).2.1 := by decide +kernel
theorem cl_ty9 : ∀ k, k < 30 → parseFieldDescriptor (cT9 k).2.2.1 = some (cY9 k) := by decide +kernel
theorem cl_wm9 : ∀ k, k < 30 → u_lay (clC 9) cT9 k ∈ TB := fun k h => match k, h with
  | 0, _ => TB_of (in_t6 173 rfl) rfl
  | 1, _ => TB_of (in_t6 175 rfl) rfl
  | 2, _ => TB_of (in_t6 177 rfl) rfl
  | 3, _ => TB_of (in_t6 179 rfl) rfl
  | 4, _ => TB_of (in_t6 181 rfl) rfl
  | 5, _ => TB_of (in_t6 183 rfl) rfl
  | 6, _ => TB_of (in_t6 185 rfl) rfl
  | 7, _ => TB_of (in_t6 187 rfl) rfl
  | 8, _ => TB_of (in_t6 189 rfl) rfl
  | 9, _ => TB_of (in_t6 191 rfl) rfl
  | 10, _ => TB_of (in_t6 193 rfl) rfl
  | 11, _ => TB_of (in_t6 195 rfl) rfl
  | 12, _ => TB_of (in_t6 197 rfl) rfl
  | 13, _ => TB_of (in_t6 199 rfl) rfl
  | 14, _ => TB_of (in_t6 201 rfl) rfl
  | 15, _ => TB_of (in_t6 203 rfl) rfl
  | 16, _ => TB_of (in_t6 205 rfl) rfl
  | 17, _ => TB_of (in_t6 207 rfl) rfl
  | 18, _ => TB_of (in_t6 209 rfl) rfl
  | 19, _ => TB_of (in_t6 211 rfl) rfl
  | 20, _ => TB_of (in_t6 213 rfl) rfl
  | 21, _ => TB_of (in_t6 215 rfl) rfl
  | 22, _ => TB_of (in_t6 217 rfl) rfl
  | 23, _ => TB_of (in_t6 219 rfl) rfl
  | 24, _ => TB_of (in_t6 221 rfl) rfl
  | 25, _ => TB_of (in_t6 223 rfl) rfl
  | 26, _ => TB_of (in_t6 225 rfl) rfl
  | 27, _ => TB_of (in_t6 227 rfl) rfl
  | 28, _ => TB_of (in_t6 229 rfl) rfl
  | 29, _ => TB_of (in_t6 231 rfl) rfl
  | m + 30, h => absurd h (by omega)
theorem cl_in9 : ∀ w ∈ u_ws (clC 9) cT9 30, w ∈ TB := by
  intro w hw
  obtain ⟨k, hk, rfl⟩ := List.mem_map.mp hw
  exact cl_wm9 k (List.mem_range.mp hk)
theorem cl_in (c : Nat) (h : c < NC) : ∀ w ∈ u_ws (clC c) (clT c) (clN c), w ∈ TB := match c, h with
  | 0, _ => cl_in0
  | 1, _ => cl_in1
  | 2, _ => cl_in2
  | 3, _ => cl_in3
  | 4, _ => cl_in4
  | 5, _ => cl_in5
  | 6, _ => cl_in6
  | 7, _ => cl_in7
  | 8, _ => cl_in8
  | 9, _ => cl_in9
  | n + 10, h => absurd h (by have h : n + 10 < 10 := h; omega)
theorem cl_ty (c : Nat) (h : c < NC) : ∀ k, k < clN c → parseFieldDescriptor (clT c k).2.2.1 = some (clY c k) := match c, h with
  | 0, _ => cl_ty0
  | 1, _ => cl_ty1
  | 2, _ => cl_ty2
  | 3, _ => cl_ty3
  | 4, _ => cl_ty4
  | 5, _ => cl_ty5
  | 6, _ => cl_ty6
  | 7, _ => cl_ty7
  | 8, _ => cl_ty8
  | 9, _ => cl_ty9
  | n + 10, h => absurd h (by have h : n + 10 < 10 := h; omega)
theorem cl_nm (c : Nat) (h : c < NC) : ∀ a, a < clN c → ∀ b, b < clN c → a ≠ b → (clT c a).2.1 ≠ (clT c b).2.1 := match c, h with
  | 0, _ => cl_nm0
  | 1, _ => cl_nm1
  | 2, _ => cl_nm2
  | 3, _ => cl_nm3
  | 4, _ => cl_nm4
  | 5, _ => cl_nm5
  | 6, _ => cl_nm6
  | 7, _ => cl_nm7
  | 8, _ => cl_nm8
  | 9, _ => cl_nm9
  | n + 10, h => absurd h (by have h : n + 10 < 10 := h; omega)
theorem cl_at (c : Nat) (h : c < NC) : classes[c]? = some (clC c, clT c, clN c) := by
  unfold classes
  rw [List.getElem?_map, List.getElem?_range h]
  rfl
abbrev Y_TP_init : MI := (⟨"TruePoll", "<init>", "()V"⟩, prog_1_method_1_code, 1, (none : Option FieldType))
abbrev Y_Cr_init : MI := (⟨"TruePoll$Crowd", "<init>", "()V"⟩, prog_3_method_1_code, 2, (none : Option FieldType))
abbrev Y_Mo_init : MI := (⟨"TruePoll$Moment", "<init>", "()V"⟩, prog_4_method_1_code, 1, (none : Option FieldType))
abbrev Y_As_init : MI := (⟨"TruePoll$Asker", "<init>", "(LTruePoll$Crowd;)V"⟩, prog_2_method_1_code, 2, (none : Option FieldType))
abbrev Y_Ro_init : MI := (⟨"TruePoll$Rounds", "<init>", "(LTruePoll$Crowd;LTruePoll$Asker;)V"⟩, prog_7_method_1_code, 3, (none : Option FieldType))
abbrev Y_Ou_init : MI := (⟨"TruePoll$Outlook", "<init>", "()V"⟩, prog_5_method_1_code, 1, (none : Option FieldType))
abbrev Y_Ta_init : MI := (⟨"TruePoll$Tape", "<init>", "()V"⟩, prog_9_method_1_code, 1, (none : Option FieldType))
abbrev Y_Re_init : MI := (⟨"TruePoll$Reader", "<init>", "(LTruePoll$Tape;)V"⟩, prog_6_method_1_code, 2, (none : Option FieldType))
abbrev Y_TP_person : MI := (⟨"TruePoll", "person", "(II)I"⟩, prog_1_method_2_code, 3, (some FieldType.int))
abbrev Y_Cr_addPerson : MI := (⟨"TruePoll$Crowd", "addPerson", "(II)I"⟩, prog_3_method_6_code, 4, (some FieldType.int))
abbrev Y_TP_put : MI := (⟨"TruePoll", "put", "([III)V"⟩, prog_1_method_64_code, 3, (none : Option FieldType))
abbrev Y_TP_hear : MI := (⟨"TruePoll", "hear", "(II)Z"⟩, prog_1_method_3_code, 3, (some FieldType.boolean))
abbrev Y_Cr_turnEar : MI := (⟨"TruePoll$Crowd", "turnEar", "(II)Z"⟩, prog_3_method_7_code, 3, (some FieldType.boolean))
abbrev Y_Mo_hasPerson : MI := (⟨"TruePoll$Moment", "hasPerson", "(I)Z"⟩, prog_4_method_3_code, 2, (some FieldType.boolean))
abbrev Y_TP_at : MI := (⟨"TruePoll", "at", "([II)I"⟩, prog_1_method_63_code, 2, (some FieldType.int))
abbrev Y_TP_feed : MI := (⟨"TruePoll", "feed", "(IIIII)I"⟩, prog_1_method_4_code, 6, (some FieldType.int))
abbrev Y_Ta_addFour : MI := (⟨"TruePoll$Tape", "addFour", "(I)V"⟩, prog_9_method_2_code, 3, (none : Option FieldType))
abbrev Y_TP_end : MI := (⟨"TruePoll", "end", "(I)I"⟩, prog_1_method_5_code, 2, (some FieldType.int))
abbrev Y_TP_text : MI := (⟨"TruePoll", "text", "()I"⟩, prog_1_method_6_code, 2, (some FieldType.int))
abbrev Y_Re_readAll : MI := (⟨"TruePoll$Reader", "readAll", "()LTruePoll$Text;"⟩, prog_6_method_2_code, 2, (some (FieldType.object "TruePoll$Text")))
abbrev Y_Ta_cutTokens : MI := (⟨"TruePoll$Tape", "cutTokens", "()V"⟩, prog_9_method_3_code, 2, (none : Option FieldType))
abbrev Y_Ta_skipBlanks : MI := (⟨"TruePoll$Tape", "skipBlanks", "()V"⟩, prog_9_method_4_code, 1, (none : Option FieldType))
abbrev Y_Ta_isBlank : MI := (⟨"TruePoll$Tape", "isBlank", "(I)Z"⟩, prog_9_method_10_code, 1, (some FieldType.boolean))
abbrev Y_Ta_readToken : MI := (⟨"TruePoll$Tape", "readToken", "(I)I"⟩, prog_9_method_5_code, 2, (some FieldType.int))
abbrev Y_Ta_isLetter : MI := (⟨"TruePoll$Tape", "isLetter", "(I)Z"⟩, prog_9_method_11_code, 1, (some FieldType.boolean))
abbrev Y_Ta_readWord : MI := (⟨"TruePoll$Tape", "readWord", "()I"⟩, prog_9_method_6_code, 3, (some FieldType.int))
abbrev Y_Ta_isWord : MI := (⟨"TruePoll$Tape", "isWord", "(II)Z"⟩, prog_9_method_7_code, 7, (some FieldType.boolean))
abbrev Y_JS_length : MI := (⟨"java/lang/String", "length", "()I"⟩, prog_17_method_54_code, 1, (some FieldType.int))
abbrev Y_JS_coder : MI := (⟨"java/lang/String", "coder", "()B"⟩, prog_17_method_152_code, 1, (some FieldType.byte))
abbrev Y_JS_charAt : MI := (⟨"java/lang/String", "charAt", "(I)C"⟩, prog_17_method_56_code, 2, (some FieldType.char))
abbrev Y_JS_isLatin1 : MI := (⟨"java/lang/String", "isLatin1", "()Z"⟩, prog_17_method_154_code, 1, (some FieldType.boolean))
abbrev Y_JL_charAt : MI := (⟨"java/lang/StringLatin1", "charAt", "([BI)C"⟩, prog_18_method_2_code, 2, (some FieldType.char))
abbrev Y_JS_checkIndex : MI := (⟨"java/lang/String", "checkIndex", "(II)V"⟩, prog_17_method_155_code, 2, (none : Option FieldType))
abbrev Y_JP_checkIndex : MI := (⟨"jdk/internal/util/Preconditions", "checkIndex", "(IILjava/util/function/BiFunction;)I"⟩, prog_22_method_11_code, 3, (some FieldType.int))
abbrev Y_Ta_isDigit : MI := (⟨"TruePoll$Tape", "isDigit", "(I)Z"⟩, prog_9_method_12_code, 1, (some FieldType.boolean))
abbrev Y_Ta_readNumber : MI := (⟨"TruePoll$Tape", "readNumber", "()I"⟩, prog_9_method_8_code, 1, (some FieldType.int))
abbrev Y_Ta_readMark : MI := (⟨"TruePoll$Tape", "readMark", "(C)I"⟩, prog_9_method_9_code, 4, (some FieldType.int))
abbrev Y_JS_indexOf_I : MI := (⟨"java/lang/String", "indexOf", "(I)I"⟩, prog_17_method_79_code, 2, (some FieldType.int))
abbrev Y_JS_indexOf_II : MI := (⟨"java/lang/String", "indexOf", "(II)I"⟩, prog_17_method_80_code, 3, (some FieldType.int))
abbrev Y_JL_indexOf : MI := (⟨"java/lang/StringLatin1", "indexOf", "([BIII)I"⟩, prog_18_method_22_code, 4, (some FieldType.int))
abbrev Y_JL_canEncode : MI := (⟨"java/lang/StringLatin1", "canEncode", "(I)Z"⟩, prog_18_method_4_code, 1, (some FieldType.boolean))
abbrev Y_JL_indexOfChar : MI := (⟨"java/lang/StringLatin1", "indexOfChar", "([BIII)I"⟩, prog_18_method_23_code, 6, (some FieldType.int))
abbrev Y_JS_checkBoundsBeginEnd : MI := (⟨"java/lang/String", "checkBoundsBeginEnd", "(III)V"⟩, prog_17_method_158_code, 3, (none : Option FieldType))
abbrev Y_JP_checkFromToIndex : MI := (⟨"jdk/internal/util/Preconditions", "checkFromToIndex", "(IIILjava/util/function/BiFunction;)I"⟩, prog_22_method_12_code, 4, (some FieldType.int))
abbrev Y_Re_advance : MI := (⟨"TruePoll$Reader", "advance", "()V"⟩, prog_6_method_4_code, 1, (none : Option FieldType))
abbrev Y_Re_readClause : MI := (⟨"TruePoll$Reader", "readClause", "()V"⟩, prog_6_method_7_code, 3, (none : Option FieldType))
abbrev Y_Sg_beginsClause : MI := (⟨"TruePoll$Sign", "beginsClause", "(I)Z"⟩, prog_8_method_6_code, 1, (some FieldType.boolean))
abbrev Y_Re_fail : MI := (⟨"TruePoll$Reader", "fail", "(I)V"⟩, prog_6_method_5_code, 2, (none : Option FieldType))
abbrev Y_Re_readRest : MI := (⟨"TruePoll$Reader", "readRest", "(I)V"⟩, prog_6_method_8_code, 2, (none : Option FieldType))
abbrev Y_Re_readSum : MI := (⟨"TruePoll$Reader", "readSum", "(I)V"⟩, prog_6_method_11_code, 4, (none : Option FieldType))
abbrev Y_Re_readProduct : MI := (⟨"TruePoll$Reader", "readProduct", "(I)V"⟩, prog_6_method_13_code, 4, (none : Option FieldType))
abbrev Y_Re_readOne : MI := (⟨"TruePoll$Reader", "readOne", "(I)V"⟩, prog_6_method_15_code, 3, (none : Option FieldType))
abbrev Y_Sg_opensOne : MI := (⟨"TruePoll$Sign", "opensOne", "(I)Z"⟩, prog_8_method_7_code, 1, (some FieldType.boolean))
abbrev Y_Re_readPlain : MI := (⟨"TruePoll$Reader", "readPlain", "()V"⟩, prog_6_method_16_code, 1, (none : Option FieldType))
abbrev Y_Sg_isName : MI := (⟨"TruePoll$Sign", "isName", "(I)Z"⟩, prog_8_method_5_code, 1, (some FieldType.boolean))
abbrev Y_Re_write : MI := (⟨"TruePoll$Reader", "write", "(II)V"⟩, prog_6_method_10_code, 3, (none : Option FieldType))
abbrev Y_Re_take : MI := (⟨"TruePoll$Reader", "take", "(I)V"⟩, prog_6_method_6_code, 2, (none : Option FieldType))
abbrev Y_Re_readIf : MI := (⟨"TruePoll$Reader", "readIf", "(I)V"⟩, prog_6_method_17_code, 4, (none : Option FieldType))
abbrev Y_Re_readEither : MI := (⟨"TruePoll$Reader", "readEither", "(I)V"⟩, prog_6_method_18_code, 3, (none : Option FieldType))
abbrev Y_Re_readBoth : MI := (⟨"TruePoll$Reader", "readBoth", "(I)V"⟩, prog_6_method_19_code, 3, (none : Option FieldType))
abbrev Y_Re_readAsk : MI := (⟨"TruePoll$Reader", "readAsk", "(I)V"⟩, prog_6_method_20_code, 2, (none : Option FieldType))
abbrev Y_Re_readComparison : MI := (⟨"TruePoll$Reader", "readComparison", "(I)V"⟩, prog_6_method_21_code, 3, (none : Option FieldType))
abbrev Y_Sg_isComparing : MI := (⟨"TruePoll$Sign", "isComparing", "(I)Z"⟩, prog_8_method_2_code, 1, (some FieldType.boolean))
abbrev Y_Re_isMultiplying : MI := (⟨"TruePoll$Reader", "isMultiplying", "()Z"⟩, prog_6_method_14_code, 1, (some FieldType.boolean))
abbrev Y_Re_isAdding : MI := (⟨"TruePoll$Reader", "isAdding", "()Z"⟩, prog_6_method_12_code, 1, (some FieldType.boolean))
abbrev Y_Re_readNumber : MI := (⟨"TruePoll$Reader", "readNumber", "([III)V"⟩, prog_6_method_9_code, 4, (none : Option FieldType))
abbrev Y_Re_made : MI := (⟨"TruePoll$Reader", "made", "()LTruePoll$Text;"⟩, prog_6_method_3_code, 2, (some (FieldType.object "TruePoll$Text")))
abbrev Y_JA_copyOf : MI := (⟨"java/util/Arrays", "copyOf", "([II)[I"⟩, prog_21_method_123_code, 3, (some (FieldType.array FieldType.int)))
abbrev Y_Tx_init : MI := (⟨"TruePoll$Text", "<init>", "([I[I[I[I[I)V"⟩, prog_10_method_1_code, 6, (none : Option FieldType))
abbrev Y_Cr_addText : MI := (⟨"TruePoll$Crowd", "addText", "(LTruePoll$Text;)I"⟩, prog_3_method_8_code, 2, (some FieldType.int))
abbrev Y_TP_fault : MI := (⟨"TruePoll", "fault", "(I)I"⟩, prog_1_method_7_code, 2, (some FieldType.int))
abbrev Y_TP_by : MI := (⟨"TruePoll", "by", "(I)Z"⟩, prog_1_method_8_code, 2, (some FieldType.boolean))
abbrev Y_Cr_textAt : MI := (⟨"TruePoll$Crowd", "textAt", "(I)LTruePoll$Text;"⟩, prog_3_method_9_code, 2, (some (FieldType.object "TruePoll$Text")))
abbrev Y_TP_tell : MI := (⟨"TruePoll", "tell", "(I)I"⟩, prog_1_method_9_code, 2, (some FieldType.int))
abbrev Y_Ro_tellByHand : MI := (⟨"TruePoll$Rounds", "tellByHand", "(I)Z"⟩, prog_7_method_5_code, 2, (some FieldType.boolean))
abbrev Y_Mo_canTell : MI := (⟨"TruePoll$Moment", "canTell", "(I)Z"⟩, prog_4_method_4_code, 2, (some FieldType.boolean))
abbrev Y_Mo_canPass : MI := (⟨"TruePoll$Moment", "canPass", "()Z"⟩, prog_4_method_5_code, 1, (some FieldType.boolean))
abbrev Y_Cr_keepStep : MI := (⟨"TruePoll$Crowd", "keepStep", "()V"⟩, prog_3_method_12_code, 1, (none : Option FieldType))
abbrev Y_Cr_stepAt : MI := (⟨"TruePoll$Crowd", "stepAt", "(I)LTruePoll$Moment;"⟩, prog_3_method_11_code, 3, (some (FieldType.object "TruePoll$Moment")))
abbrev Y_Cr_copyStep : MI := (⟨"TruePoll$Crowd", "copyStep", "(LTruePoll$Moment;LTruePoll$Moment;)V"⟩, prog_3_method_3_code, 2, (none : Option FieldType))
abbrev Y_Mo_copyFrom : MI := (⟨"TruePoll$Moment", "copyFrom", "(LTruePoll$Moment;)V"⟩, prog_4_method_2_code, 2, (none : Option FieldType))
abbrev Y_Ro_pass : MI := (⟨"TruePoll$Rounds", "pass", "(LTruePoll$Moment;I)V"⟩, prog_7_method_2_code, 8, (none : Option FieldType))
abbrev Y_Cr_rulingText : MI := (⟨"TruePoll$Crowd", "rulingText", "()LTruePoll$Text;"⟩, prog_3_method_10_code, 1, (some (FieldType.object "TruePoll$Text")))
abbrev Y_As_saysYes : MI := (⟨"TruePoll$Asker", "saysYes", "(LTruePoll$Moment;LTruePoll$Text;II)Z"⟩, prog_2_method_3_code, 5, (some FieldType.boolean))
abbrev Y_As_saysBySort : MI := (⟨"TruePoll$Asker", "saysBySort", "()Z"⟩, prog_2_method_4_code, 2, (some FieldType.boolean))
abbrev Y_As_worth : MI := (⟨"TruePoll$Asker", "worth", "(LTruePoll$Text;II)I"⟩, prog_2_method_6_code, 11, (some FieldType.int))
abbrev Y_Sg_joinsTwo : MI := (⟨"TruePoll$Sign", "joinsTwo", "(I)Z"⟩, prog_8_method_3_code, 1, (some FieldType.boolean))
abbrev Y_As_joined : MI := (⟨"TruePoll$Asker", "joined", "(IJJ)J"⟩, prog_2_method_9_code, 5, (some FieldType.long))
abbrev Y_TP_within : MI := (⟨"TruePoll", "within", "(JJJ)J"⟩, prog_1_method_65_code, 6, (some FieldType.long))
abbrev Y_Sg_changesOne : MI := (⟨"TruePoll$Sign", "changesOne", "(I)Z"⟩, prog_8_method_4_code, 1, (some FieldType.boolean))
abbrev Y_As_changed : MI := (⟨"TruePoll$Asker", "changed", "(II)I"⟩, prog_2_method_8_code, 4, (some FieldType.int))
abbrev Y_As_named : MI := (⟨"TruePoll$Asker", "named", "(I)I"⟩, prog_2_method_7_code, 2, (some FieldType.int))
abbrev Y_JI_bitCount : MI := (⟨"java/lang/Integer", "bitCount", "(I)I"⟩, prog_15_method_49_code, 1, (some FieldType.int))
abbrev Y_Mo_drawX : MI := (⟨"TruePoll$Moment", "drawX", "()I"⟩, prog_4_method_8_code, 2, (some FieldType.int))
abbrev Y_As_swayOf : MI := (⟨"TruePoll$Asker", "swayOf", "(LTruePoll$Moment;III)I"⟩, prog_2_method_5_code, 6, (some FieldType.int))
abbrev Y_Mo_writeDown : MI := (⟨"TruePoll$Moment", "writeDown", "(I)V"⟩, prog_4_method_9_code, 2, (none : Option FieldType))
abbrev Y_TP_nudge : MI := (⟨"TruePoll", "nudge", "(II)Z"⟩, prog_1_method_10_code, 3, (some FieldType.boolean))
abbrev Y_Ro_nudgeByHand : MI := (⟨"TruePoll$Rounds", "nudgeByHand", "(II)Z"⟩, prog_7_method_6_code, 3, (some FieldType.boolean))
abbrev Y_Mo_canNudge : MI := (⟨"TruePoll$Moment", "canNudge", "(II)Z"⟩, prog_4_method_6_code, 4, (some FieldType.boolean))
abbrev Y_Ro_shift : MI := (⟨"TruePoll$Rounds", "shift", "(II)V"⟩, prog_7_method_7_code, 3, (none : Option FieldType))
abbrev Y_TP_day : MI := (⟨"TruePoll", "day", "(I)I"⟩, prog_1_method_11_code, 2, (some FieldType.int))
abbrev Y_Ro_passByHand : MI := (⟨"TruePoll$Rounds", "passByHand", "(I)Z"⟩, prog_7_method_4_code, 3, (some FieldType.boolean))
abbrev Y_TP_played : MI := (⟨"TruePoll", "played", "(I)I"⟩, prog_1_method_12_code, 4, (some FieldType.int))
abbrev Y_Ro_playClause : MI := (⟨"TruePoll$Rounds", "playClause", "(LTruePoll$Text;I)Z"⟩, prog_7_method_8_code, 5, (some FieldType.boolean))
abbrev Y_TP_years : MI := (⟨"TruePoll", "years", "(II)I"⟩, prog_1_method_13_code, 3, (some FieldType.int))
abbrev Y_Ro_passYears : MI := (⟨"TruePoll$Rounds", "passYears", "(II)V"⟩, prog_7_method_9_code, 4, (none : Option FieldType))
abbrev Y_Ro_passYear : MI := (⟨"TruePoll$Rounds", "passYear", "(LTruePoll$Moment;)V"⟩, prog_7_method_10_code, 7, (none : Option FieldType))
abbrev Y_TP_undo : MI := (⟨"TruePoll", "undo", "()I"⟩, prog_1_method_14_code, 1, (some FieldType.int))
abbrev Y_Cr_takeStepBack : MI := (⟨"TruePoll$Crowd", "takeStepBack", "()Z"⟩, prog_3_method_13_code, 4, (some FieldType.boolean))
abbrev Y_TP_of : MI := (⟨"TruePoll", "of", "(II)I"⟩, prog_1_method_15_code, 4, (some FieldType.int))
abbrev Y_TP_says : MI := (⟨"TruePoll", "says", "(II)Z"⟩, prog_1_method_16_code, 3, (some FieldType.boolean))
abbrev Y_TP_is : MI := (⟨"TruePoll", "is", "(I)I"⟩, prog_1_method_17_code, 3, (some FieldType.int))
abbrev Y_Mo_allLeans : MI := (⟨"TruePoll$Moment", "allLeans", "()I"⟩, prog_4_method_7_code, 3, (some FieldType.int))
abbrev Y_TP_book : MI := (⟨"TruePoll", "book", "(II)I"⟩, prog_1_method_18_code, 4, (some FieldType.int))
abbrev Y_Mo_bookAt : MI := (⟨"TruePoll$Moment", "bookAt", "(II)I"⟩, prog_4_method_10_code, 3, (some FieldType.int))
abbrev Y_TP_foretold : MI := (⟨"TruePoll", "foretold", "(II)I"⟩, prog_1_method_19_code, 3, (some FieldType.int))
abbrev Y_Ro_passSome : MI := (⟨"TruePoll$Rounds", "passSome", "(LTruePoll$Moment;I)V"⟩, prog_7_method_3_code, 4, (none : Option FieldType))
abbrev Y_TP_comes : MI := (⟨"TruePoll", "comes", "(I)I"⟩, prog_1_method_20_code, 2, (some FieldType.int))
abbrev Y_TP_isFigure : MI := (⟨"TruePoll", "isFigure", "(I)Z"⟩, prog_1_method_66_code, 2, (some FieldType.boolean))
abbrev Y_TP_look : MI := (⟨"TruePoll", "look", "()LTruePoll$Outlook;"⟩, prog_1_method_68_code, 3, (some (FieldType.object "TruePoll$Outlook")))
abbrev Y_As_yesBits : MI := (⟨"TruePoll$Asker", "yesBits", "(LTruePoll$Moment;LTruePoll$Text;I)I"⟩, prog_2_method_2_code, 6, (some FieldType.int))
abbrev Y_Ou_comesOf : MI := (⟨"TruePoll$Outlook", "comesOf", "(I)I"⟩, prog_5_method_3_code, 2, (some FieldType.int))
abbrev Y_TP_trues : MI := (⟨"TruePoll", "trues", "()I"⟩, prog_1_method_21_code, 1, (some FieldType.int))
abbrev Y_Ou_trueBits : MI := (⟨"TruePoll$Outlook", "trueBits", "()I"⟩, prog_5_method_4_code, 3, (some FieldType.int))
abbrev Y_TP_firm : MI := (⟨"TruePoll", "firm", "()I"⟩, prog_1_method_22_code, 1, (some FieldType.int))
abbrev Y_Ou_firmBits : MI := (⟨"TruePoll$Outlook", "firmBits", "()I"⟩, prog_5_method_5_code, 5, (some FieldType.int))
abbrev Y_TP_ends : MI := (⟨"TruePoll", "ends", "(IZ)I"⟩, prog_1_method_23_code, 3, (some FieldType.int))
abbrev Y_Ou_ringSize : MI := (⟨"TruePoll$Outlook", "ringSize", "(I)I"⟩, prog_5_method_9_code, 2, (some FieldType.int))
abbrev Y_Ou_someOfRing : MI := (⟨"TruePoll$Outlook", "someOfRing", "(I)I"⟩, prog_5_method_8_code, 4, (some FieldType.int))
abbrev Y_Ou_ringThrough : MI := (⟨"TruePoll$Outlook", "ringThrough", "(I)I"⟩, prog_5_method_6_code, 4, (some FieldType.int))
abbrev Y_Ou_ringLowest : MI := (⟨"TruePoll$Outlook", "ringLowest", "(I)I"⟩, prog_5_method_10_code, 5, (some FieldType.int))
abbrev Y_TP_till : MI := (⟨"TruePoll", "till", "(I)I"⟩, prog_1_method_24_code, 2, (some FieldType.int))
abbrev Y_Ou_tillRing : MI := (⟨"TruePoll$Outlook", "tillRing", "(I)I"⟩, prog_5_method_7_code, 4, (some FieldType.int))
abbrev Y_TP_leads : MI := (⟨"TruePoll", "leads", "(I)I"⟩, prog_1_method_25_code, 2, (some FieldType.int))
abbrev Y_Ou_leadBits : MI := (⟨"TruePoll$Outlook", "leadBits", "(I)I"⟩, prog_5_method_11_code, 5, (some FieldType.int))
abbrev Y_TP_rings : MI := (⟨"TruePoll", "rings", "()I"⟩, prog_1_method_26_code, 1, (some FieldType.int))
abbrev Y_Ou_ringCount : MI := (⟨"TruePoll$Outlook", "ringCount", "()I"⟩, prog_5_method_12_code, 3, (some FieldType.int))
abbrev Y_TP_nearest : MI := (⟨"TruePoll", "nearest", "()I"⟩, prog_1_method_27_code, 1, (some FieldType.int))
abbrev Y_Ou_nearestFigure : MI := (⟨"TruePoll$Outlook", "nearestFigure", "()I"⟩, prog_5_method_13_code, 3, (some FieldType.int))
abbrev Y_TP_path : MI := (⟨"TruePoll", "path", "(III)I"⟩, prog_1_method_28_code, 4, (some FieldType.int))
abbrev Y_Ou_fewestTellings : MI := (⟨"TruePoll$Outlook", "fewestTellings", "(III)I"⟩, prog_5_method_14_code, 6, (some FieldType.int))
abbrev Y_Ou_comeFrom : MI := (⟨"TruePoll$Outlook", "comeFrom", "(II)I"⟩, prog_5_method_15_code, 6, (some FieldType.int))
abbrev Y_TP_win : MI := (⟨"TruePoll", "win", "(IZ)I"⟩, prog_1_method_29_code, 4, (some FieldType.int))
abbrev Y_Ou_winners : MI := (⟨"TruePoll$Outlook", "winners", "(I)I"⟩, prog_5_method_16_code, 5, (some FieldType.int))
abbrev Y_Ou_yesTold : MI := (⟨"TruePoll$Outlook", "yesTold", "(I)I"⟩, prog_5_method_2_code, 2, (some FieldType.int))
abbrev Y_TP_two : MI := (⟨"TruePoll", "two", "(III)I"⟩, prog_1_method_30_code, 4, (some FieldType.int))
abbrev Y_Ou_yesOfTwo : MI := (⟨"TruePoll$Outlook", "yesOfTwo", "(IIZ)I"⟩, prog_5_method_17_code, 6, (some FieldType.int))
abbrev Y_Ou_trueSplits : MI := (⟨"TruePoll$Outlook", "trueSplits", "(II)I"⟩, prog_5_method_19_code, 5, (some FieldType.int))
abbrev Y_Ou_isTrueSplit : MI := (⟨"TruePoll$Outlook", "isTrueSplit", "(III)Z"⟩, prog_5_method_18_code, 4, (some FieldType.boolean))
abbrev Y_TP_split : MI := (⟨"TruePoll", "split", "(II)I"⟩, prog_1_method_31_code, 3, (some FieldType.int))
abbrev Y_Ou_lowestSplit : MI := (⟨"TruePoll$Outlook", "lowestSplit", "(II)I"⟩, prog_5_method_20_code, 4, (some FieldType.int))
abbrev Y_TP_mind : MI := (⟨"TruePoll", "mind", "(II)I"⟩, prog_1_method_32_code, 3, (some FieldType.int))
abbrev Y_TP_unasked : MI := (⟨"TruePoll", "unasked", "(Z)I"⟩, prog_1_method_33_code, 2, (some FieldType.int))
abbrev Y_Ou_yesByAny : MI := (⟨"TruePoll$Outlook", "yesByAny", "()I"⟩, prog_5_method_22_code, 3, (some FieldType.int))
abbrev Y_Ou_yesByAll : MI := (⟨"TruePoll$Outlook", "yesByAll", "()I"⟩, prog_5_method_21_code, 3, (some FieldType.int))
abbrev Y_TP_alike : MI := (⟨"TruePoll", "alike", "(II)I"⟩, prog_1_method_34_code, 3, (some FieldType.int))
abbrev Y_Ou_alikeFigures : MI := (⟨"TruePoll$Outlook", "alikeFigures", "(II)I"⟩, prog_5_method_23_code, 5, (some FieldType.int))
abbrev Y_TP_pair : MI := (⟨"TruePoll", "pair", "(Z)I"⟩, prog_1_method_35_code, 2, (some FieldType.int))
abbrev Y_Ou_mostAlike : MI := (⟨"TruePoll$Outlook", "mostAlike", "(Z)I"⟩, prog_5_method_24_code, 8, (some FieldType.int))
abbrev Y_TP_move : MI := (⟨"TruePoll", "move", "(II)I"⟩, prog_1_method_36_code, 3, (some FieldType.int))
abbrev Y_TP_nearestLean : MI := (⟨"TruePoll", "nearestLean", "(II)I"⟩, prog_1_method_70_code, 9, (some FieldType.int))
abbrev Y_TP_cheapest : MI := (⟨"TruePoll", "cheapest", "(I)I"⟩, prog_1_method_37_code, 2, (some FieldType.int))
abbrev Y_TP_cheapestMoves : MI := (⟨"TruePoll", "cheapestMoves", "(I)I"⟩, prog_1_method_71_code, 9, (some FieldType.int))
abbrev Y_TP_fillCosts : MI := (⟨"TruePoll", "fillCosts", "(II)V"⟩, prog_1_method_72_code, 5, (none : Option FieldType))
abbrev Y_TP_sure : MI := (⟨"TruePoll", "sure", "(IIZ)J"⟩, prog_1_method_38_code, 4, (some FieldType.long))
abbrev Y_TP_waysFor : MI := (⟨"TruePoll", "waysFor", "(II)J"⟩, prog_1_method_73_code, 7, (some FieldType.long))
abbrev Y_TP_yesAsNow : MI := (⟨"TruePoll", "yesAsNow", "()I"⟩, prog_1_method_69_code, 1, (some FieldType.int))
abbrev Y_JA_fill_AJJ : MI := (⟨"java/util/Arrays", "fill", "([JJ)V"⟩, prog_21_method_101_code, 5, (none : Option FieldType))
abbrev Y_TP_allWays : MI := (⟨"TruePoll", "allWays", "()J"⟩, prog_1_method_74_code, 4, (some FieldType.long))
abbrev Y_TP_inLowestTerms : MI := (⟨"TruePoll", "inLowestTerms", "(JJZ)J"⟩, prog_1_method_75_code, 12, (some FieldType.long))
abbrev Y_TP_mean : MI := (⟨"TruePoll", "mean", "(IZ)J"⟩, prog_1_method_39_code, 5, (some FieldType.long))
abbrev Y_TP_reach : MI := (⟨"TruePoll", "reach", "(I)I"⟩, prog_1_method_40_code, 2, (some FieldType.int))
abbrev Y_Cr_heardBy : MI := (⟨"TruePoll$Crowd", "heardBy", "(I)I"⟩, prog_3_method_18_code, 5, (some FieldType.int))
abbrev Y_TP_circles : MI := (⟨"TruePoll", "circles", "()I"⟩, prog_1_method_41_code, 1, (some FieldType.int))
abbrev Y_Cr_circleCount : MI := (⟨"TruePoll$Crowd", "circleCount", "()I"⟩, prog_3_method_19_code, 3, (some FieldType.int))
abbrev Y_Cr_isLowestOfCircle : MI := (⟨"TruePoll$Crowd", "isLowestOfCircle", "(I)Z"⟩, prog_3_method_20_code, 4, (some FieldType.boolean))
abbrev Y_TP_loud : MI := (⟨"TruePoll", "loud", "()I"⟩, prog_1_method_42_code, 1, (some FieldType.int))
abbrev Y_Cr_loudest : MI := (⟨"TruePoll$Crowd", "loudest", "()I"⟩, prog_3_method_21_code, 5, (some FieldType.int))
abbrev Y_Cr_earsFor : MI := (⟨"TruePoll$Crowd", "earsFor", "(I)I"⟩, prog_3_method_22_code, 4, (some FieldType.int))
abbrev Y_TP_part : MI := (⟨"TruePoll", "part", "()I"⟩, prog_1_method_43_code, 5, (some FieldType.int))
abbrev Y_TP_unlikeCounts : MI := (⟨"TruePoll", "unlikeCounts", "(I)I"⟩, prog_1_method_76_code, 4, (some FieldType.int))
abbrev Y_TP_game : MI := (⟨"TruePoll", "game", "(I)I"⟩, prog_1_method_44_code, 2, (some FieldType.int))
abbrev Y_Ou_gameEnd : MI := (⟨"TruePoll$Outlook", "gameEnd", "(II)I"⟩, prog_5_method_25_code, 3, (some FieldType.int))
abbrev Y_Ou_playBackTo : MI := (⟨"TruePoll$Outlook", "playBackTo", "(II)V"⟩, prog_5_method_27_code, 5, (none : Option FieldType))
abbrev Y_Ou_bestLast : MI := (⟨"TruePoll$Outlook", "bestLast", "(IZ)I"⟩, prog_5_method_28_code, 6, (some FieldType.int))
abbrev Y_TP_choice : MI := (⟨"TruePoll", "choice", "(I)I"⟩, prog_1_method_45_code, 2, (some FieldType.int))
abbrev Y_Ou_gameStart : MI := (⟨"TruePoll$Outlook", "gameStart", "(II)I"⟩, prog_5_method_26_code, 5, (some FieldType.int))
abbrev Y_TP_party : MI := (⟨"TruePoll", "party", "(II)I"⟩, prog_1_method_46_code, 3, (some FieldType.int))
abbrev Y_Cr_addParty : MI := (⟨"TruePoll$Crowd", "addParty", "(II)Z"⟩, prog_3_method_14_code, 3, (some FieldType.boolean))
abbrev Y_TP_lives : MI := (⟨"TruePoll", "lives", "(I)I"⟩, prog_1_method_47_code, 2, (some FieldType.int))
abbrev Y_Cr_partiesBy : MI := (⟨"TruePoll$Crowd", "partiesBy", "(I)I"⟩, prog_3_method_15_code, 5, (some FieldType.int))
abbrev Y_TP_most : MI := (⟨"TruePoll", "most", "()I"⟩, prog_1_method_48_code, 3, (some FieldType.int))
abbrev Y_TP_fewest : MI := (⟨"TruePoll", "fewest", "(Z)I"⟩, prog_1_method_49_code, 4, (some FieldType.int))
abbrev Y_TP_decimal : MI := (⟨"TruePoll", "decimal", "(III)I"⟩, prog_1_method_50_code, 6, (some FieldType.int))
abbrev Y_TP_isPart : MI := (⟨"TruePoll", "isPart", "(II)Z"⟩, prog_1_method_67_code, 2, (some FieldType.boolean))
abbrev Y_TP_decimals : MI := (⟨"TruePoll", "decimals", "(IIZ)I"⟩, prog_1_method_51_code, 7, (some FieldType.int))
abbrev Y_JA_fill_AII : MI := (⟨"java/util/Arrays", "fill", "([II)V"⟩, prog_21_method_103_code, 4, (none : Option FieldType))
abbrev Y_TP_village : MI := (⟨"TruePoll", "village", "(II)Z"⟩, prog_1_method_52_code, 3, (some FieldType.boolean))
abbrev Y_TP_window : MI := (⟨"TruePoll", "window", "(II)I"⟩, prog_1_method_53_code, 3, (some FieldType.int))
abbrev Y_Cr_villagesFrom : MI := (⟨"TruePoll$Crowd", "villagesFrom", "(II)I"⟩, prog_3_method_17_code, 5, (some FieldType.int))
abbrev Y_TP_busiest : MI := (⟨"TruePoll", "busiest", "(I)I"⟩, prog_1_method_54_code, 4, (some FieldType.int))
abbrev Y_TP_said : MI := (⟨"TruePoll", "said", "(II)I"⟩, prog_1_method_55_code, 3, (some FieldType.int))
abbrev Y_Cr_addSaid : MI := (⟨"TruePoll$Crowd", "addSaid", "(II)Z"⟩, prog_3_method_16_code, 3, (some FieldType.boolean))
abbrev Y_TP_whose : MI := (⟨"TruePoll", "whose", "()I"⟩, prog_1_method_56_code, 3, (some FieldType.int))
abbrev Y_TP_accountsForSaid : MI := (⟨"TruePoll", "accountsForSaid", "(LTruePoll$Text;)Z"⟩, prog_1_method_77_code, 4, (some FieldType.boolean))
abbrev Y_TP_honest : MI := (⟨"TruePoll", "honest", "()I"⟩, prog_1_method_57_code, 3, (some FieldType.int))
abbrev Y_TP_changes : MI := (⟨"TruePoll", "changes", "()I"⟩, prog_1_method_58_code, 4, (some FieldType.int))
abbrev Y_TP_ledger : MI := (⟨"TruePoll", "ledger", "(I)I"⟩, prog_1_method_59_code, 5, (some FieldType.int))
abbrev Y_TP_image : MI := (⟨"TruePoll", "image", "()I"⟩, prog_1_method_60_code, 1, (some FieldType.int))
abbrev Y_Cr_copyAll : MI := (⟨"TruePoll$Crowd", "copyAll", "(LTruePoll$Crowd;)V"⟩, prog_3_method_2_code, 3, (none : Option FieldType))
abbrev Y_Cr_copyPeople : MI := (⟨"TruePoll$Crowd", "copyPeople", "(LTruePoll$Crowd;)V"⟩, prog_3_method_4_code, 2, (none : Option FieldType))
abbrev Y_Cr_copyTold : MI := (⟨"TruePoll$Crowd", "copyTold", "(LTruePoll$Crowd;)V"⟩, prog_3_method_5_code, 2, (none : Option FieldType))
abbrev Y_TP_back : MI := (⟨"TruePoll", "back", "()I"⟩, prog_1_method_61_code, 1, (some FieldType.int))
abbrev Y_TP_about : MI := (⟨"TruePoll", "about", "(I)I"⟩, prog_1_method_62_code, 2, (some FieldType.int))
abbrev Y_TM_init : MI := (⟨"TruePollModel", "<init>", "()V"⟩, prog_12_method_1_code, 1, (none : Option FieldType))
abbrev Y_TM_copy : MI := (⟨"TruePollModel", "copy", "([I[I)V"⟩, prog_12_method_2_code, 3, (none : Option FieldType))
abbrev Y_TM_person : MI := (⟨"TruePollModel", "person", "(II)I"⟩, prog_12_method_10_code, 4, (some FieldType.int))
abbrev Y_TM_isIn : MI := (⟨"TruePollModel", "isIn", "(III)Z"⟩, prog_12_method_3_code, 3, (some FieldType.boolean))
abbrev Y_TM_hear : MI := (⟨"TruePollModel", "hear", "(II)Z"⟩, prog_12_method_11_code, 3, (some FieldType.boolean))
abbrev Y_TM_isPerson : MI := (⟨"TruePollModel", "isPerson", "(I)Z"⟩, prog_12_method_7_code, 2, (some FieldType.boolean))
abbrev Y_TM_feed : MI := (⟨"TruePollModel", "feed", "(IIIII)I"⟩, prog_12_method_13_code, 6, (some FieldType.int))
abbrev Y_TM_four : MI := (⟨"TruePollModel", "four", "(I)V"⟩, prog_12_method_12_code, 3, (none : Option FieldType))
abbrev Y_TM_end : MI := (⟨"TruePollModel", "end", "(I)I"⟩, prog_12_method_14_code, 2, (some FieldType.int))
abbrev Y_TM_text : MI := (⟨"TruePollModel", "text", "()I"⟩, prog_12_method_49_code, 1, (some FieldType.int))
abbrev Y_TM_readText : MI := (⟨"TruePollModel", "readText", "()I"⟩, prog_12_method_48_code, 2, (some FieldType.int))
abbrev Y_TM_nextToken : MI := (⟨"TruePollModel", "nextToken", "()V"⟩, prog_12_method_19_code, 2, (none : Option FieldType))
abbrev Y_TM_byteAt : MI := (⟨"TruePollModel", "byteAt", "(I)I"⟩, prog_12_method_15_code, 2, (some FieldType.int))
abbrev Y_TM_isFigure : MI := (⟨"TruePollModel", "isFigure", "(I)Z"⟩, prog_12_method_17_code, 1, (some FieldType.boolean))
abbrev Y_TM_isLetterByte : MI := (⟨"TruePollModel", "isLetterByte", "(I)Z"⟩, prog_12_method_16_code, 1, (some FieldType.boolean))
abbrev Y_TM_isSign : MI := (⟨"TruePollModel", "isSign", "(I)Z"⟩, prog_12_method_18_code, 1, (some FieldType.boolean))
abbrev Y_TM_clause : MI := (⟨"TruePollModel", "clause", "()I"⟩, prog_12_method_47_code, 5, (some FieldType.int))
abbrev Y_TM_sortOf : MI := (⟨"TruePollModel", "sortOf", "()I"⟩, prog_12_method_46_code, 1, (some FieldType.int))
abbrev Y_TM_w4 : MI := (⟨"TruePollModel", "w4", "(IIII)J"⟩, prog_12_method_22_code, 4, (some FieldType.long))
abbrev Y_TM_w3 : MI := (⟨"TruePollModel", "w3", "(III)J"⟩, prog_12_method_21_code, 3, (some FieldType.long))
abbrev Y_TM_w2 : MI := (⟨"TruePollModel", "w2", "(II)J"⟩, prog_12_method_20_code, 2, (some FieldType.long))
abbrev Y_TM_isWord : MI := (⟨"TruePollModel", "isWord", "(J)Z"⟩, prog_12_method_25_code, 3, (some FieldType.boolean))
abbrev Y_TM_w5 : MI := (⟨"TruePollModel", "w5", "(IIIII)J"⟩, prog_12_method_23_code, 5, (some FieldType.long))
abbrev Y_TM_w6 : MI := (⟨"TruePollModel", "w6", "(IIIIII)J"⟩, prog_12_method_24_code, 6, (some FieldType.long))
abbrev Y_TM_has : MI := (⟨"TruePollModel", "has", "(II)Z"⟩, prog_12_method_5_code, 2, (some FieldType.boolean))
abbrev Y_TM_body : MI := (⟨"TruePollModel", "body", "(II)I"⟩, prog_12_method_45_code, 3, (some FieldType.int))
abbrev Y_TM_twoNumbers : MI := (⟨"TruePollModel", "twoNumbers", "(IIJI)I"⟩, prog_12_method_44_code, 7, (some FieldType.int))
abbrev Y_TM_figure : MI := (⟨"TruePollModel", "figure", "(III)I"⟩, prog_12_method_42_code, 4, (some FieldType.int))
abbrev Y_TM_lawClause : MI := (⟨"TruePollModel", "lawClause", "(I)I"⟩, prog_12_method_43_code, 3, (some FieldType.int))
abbrev Y_TM_summed : MI := (⟨"TruePollModel", "summed", "()I"⟩, prog_12_method_41_code, 2, (some FieldType.int))
abbrev Y_TM_behindOne : MI := (⟨"TruePollModel", "behindOne", "()Z"⟩, prog_12_method_40_code, 4, (some FieldType.boolean))
abbrev Y_TM_betweenOf : MI := (⟨"TruePollModel", "betweenOf", "()I"⟩, prog_12_method_38_code, 1, (some FieldType.int))
abbrev Y_TM_openNow : MI := (⟨"TruePollModel", "openNow", "()I"⟩, prog_12_method_32_code, 1, (some FieldType.int))
abbrev Y_TM_openAt : MI := (⟨"TruePollModel", "openAt", "()I"⟩, prog_12_method_31_code, 2, (some FieldType.int))
abbrev Y_TM_isCompared : MI := (⟨"TruePollModel", "isCompared", "()Z"⟩, prog_12_method_33_code, 2, (some FieldType.boolean))
abbrev Y_TM_rank : MI := (⟨"TruePollModel", "rank", "(I)I"⟩, prog_12_method_29_code, 1, (some FieldType.int))
abbrev Y_TM_compareOf : MI := (⟨"TruePollModel", "compareOf", "()I"⟩, prog_12_method_37_code, 1, (some FieldType.int))
abbrev Y_TM_settle : MI := (⟨"TruePollModel", "settle", "(I)V"⟩, prog_12_method_30_code, 2, (none : Option FieldType))
abbrev Y_TM_emit : MI := (⟨"TruePollModel", "emit", "(II)V"⟩, prog_12_method_26_code, 3, (none : Option FieldType))
abbrev Y_TM_partOf : MI := (⟨"TruePollModel", "partOf", "(I)I"⟩, prog_12_method_39_code, 2, (some FieldType.int))
abbrev Y_TM_beginOne : MI := (⟨"TruePollModel", "beginOne", "()I"⟩, prog_12_method_36_code, 2, (some FieldType.int))
abbrev Y_TM_nameOf : MI := (⟨"TruePollModel", "nameOf", "()I"⟩, prog_12_method_27_code, 1, (some FieldType.int))
abbrev Y_TM_isOf : MI := (⟨"TruePollModel", "isOf", "(I)Z"⟩, prog_12_method_28_code, 2, (some FieldType.boolean))
abbrev Y_TM_opened : MI := (⟨"TruePollModel", "opened", "(I)I"⟩, prog_12_method_35_code, 2, (some FieldType.int))
abbrev Y_TM_isAskAhead : MI := (⟨"TruePollModel", "isAskAhead", "()Z"⟩, prog_12_method_34_code, 1, (some FieldType.boolean))
abbrev Y_TM_fault : MI := (⟨"TruePollModel", "fault", "(I)I"⟩, prog_12_method_50_code, 2, (some FieldType.int))
abbrev Y_TM_by : MI := (⟨"TruePollModel", "by", "(I)Z"⟩, prog_12_method_51_code, 2, (some FieldType.boolean))
abbrev Y_TM_undo : MI := (⟨"TruePollModel", "undo", "()I"⟩, prog_12_method_70_code, 3, (some FieldType.int))
abbrev Y_TM_tell : MI := (⟨"TruePollModel", "tell", "(I)I"⟩, prog_12_method_71_code, 2, (some FieldType.int))
abbrev Y_TM_canBeTold : MI := (⟨"TruePollModel", "canBeTold", "(I)Z"⟩, prog_12_method_8_code, 2, (some FieldType.boolean))
abbrev Y_TM_keep : MI := (⟨"TruePollModel", "keep", "()V"⟩, prog_12_method_69_code, 3, (none : Option FieldType))
abbrev Y_TM_pass : MI := (⟨"TruePollModel", "pass", "(I)V"⟩, prog_12_method_67_code, 5, (none : Option FieldType))
abbrev Y_TM_isYes : MI := (⟨"TruePollModel", "isYes", "(II)Z"⟩, prog_12_method_62_code, 3, (some FieldType.boolean))
abbrev Y_TM_isYesBy : MI := (⟨"TruePollModel", "isYesBy", "(III)Z"⟩, prog_12_method_61_code, 5, (some FieldType.boolean))
abbrev Y_TM_clauseOf : MI := (⟨"TruePollModel", "clauseOf", "(II)I"⟩, prog_12_method_58_code, 4, (some FieldType.int))
abbrev Y_TM_name : MI := (⟨"TruePollModel", "name", "(III)V"⟩, prog_12_method_59_code, 4, (none : Option FieldType))
abbrev Y_TM_bits : MI := (⟨"TruePollModel", "bits", "(I)I"⟩, prog_12_method_6_code, 3, (some FieldType.int))
abbrev Y_TM_isYesBySort : MI := (⟨"TruePollModel", "isYesBySort", "(II)Z"⟩, prog_12_method_60_code, 4, (some FieldType.boolean))
abbrev Y_TM_summedUp : MI := (⟨"TruePollModel", "summedUp", "(II)J"⟩, prog_12_method_57_code, 10, (some FieldType.long))
abbrev Y_TM_ofOne : MI := (⟨"TruePollModel", "ofOne", "(IJ)J"⟩, prog_12_method_55_code, 4, (some FieldType.long))
abbrev Y_TM_twoBy : MI := (⟨"TruePollModel", "twoBy", "(IJJ)J"⟩, prog_12_method_53_code, 5, (some FieldType.long))
abbrev Y_TM_clip : MI := (⟨"TruePollModel", "clip", "(J)J"⟩, prog_12_method_52_code, 2, (some FieldType.long))
abbrev Y_TM_isAsked : MI := (⟨"TruePollModel", "isAsked", "(IJJ)Z"⟩, prog_12_method_54_code, 5, (some FieldType.boolean))
abbrev Y_TM_joined : MI := (⟨"TruePollModel", "joined", "(IZZ)Z"⟩, prog_12_method_56_code, 3, (some FieldType.boolean))
abbrev Y_TM_drawnBy : MI := (⟨"TruePollModel", "drawnBy", "(I)I"⟩, prog_12_method_65_code, 3, (some FieldType.int))
abbrev Y_TM_anew : MI := (⟨"TruePollModel", "anew", "()V"⟩, prog_12_method_66_code, 1, (none : Option FieldType))
abbrev Y_TM_swaysOf : MI := (⟨"TruePollModel", "swaysOf", "(III)I"⟩, prog_12_method_63_code, 5, (some FieldType.int))
abbrev Y_TM_held : MI := (⟨"TruePollModel", "held", "(JII)I"⟩, prog_12_method_4_code, 4, (some FieldType.int))
abbrev Y_TM_write : MI := (⟨"TruePollModel", "write", "(II)V"⟩, prog_12_method_64_code, 4, (none : Option FieldType))
abbrev Y_TM_nudge : MI := (⟨"TruePollModel", "nudge", "(II)Z"⟩, prog_12_method_72_code, 3, (some FieldType.boolean))
abbrev Y_TM_canNudge : MI := (⟨"TruePollModel", "canNudge", "(II)Z"⟩, prog_12_method_68_code, 3, (some FieldType.boolean))
abbrev Y_TM_day : MI := (⟨"TruePollModel", "day", "(I)I"⟩, prog_12_method_74_code, 2, (some FieldType.int))
abbrev Y_TM_arePassed : MI := (⟨"TruePollModel", "arePassed", "(I)Z"⟩, prog_12_method_73_code, 3, (some FieldType.boolean))
abbrev Y_TM_played : MI := (⟨"TruePollModel", "played", "(I)I"⟩, prog_12_method_76_code, 3, (some FieldType.int))
abbrev Y_TM_isPlayed : MI := (⟨"TruePollModel", "isPlayed", "(I)Z"⟩, prog_12_method_75_code, 4, (some FieldType.boolean))
abbrev Y_TM_years : MI := (⟨"TruePollModel", "years", "(II)I"⟩, prog_12_method_78_code, 5, (some FieldType.int))
abbrev Y_TM_happens : MI := (⟨"TruePollModel", "happens", "(I)V"⟩, prog_12_method_77_code, 3, (none : Option FieldType))
abbrev Y_TM_of : MI := (⟨"TruePollModel", "of", "(II)I"⟩, prog_12_method_79_code, 3, (some FieldType.int))
abbrev Y_TM_says : MI := (⟨"TruePollModel", "says", "(II)Z"⟩, prog_12_method_80_code, 3, (some FieldType.boolean))
abbrev Y_TM_is : MI := (⟨"TruePollModel", "is", "(I)I"⟩, prog_12_method_81_code, 4, (some FieldType.int))
abbrev Y_TM_book : MI := (⟨"TruePollModel", "book", "(II)I"⟩, prog_12_method_83_code, 3, (some FieldType.int))
abbrev Y_TM_lineOf : MI := (⟨"TruePollModel", "lineOf", "(II)I"⟩, prog_12_method_82_code, 4, (some FieldType.int))
abbrev Y_TM_ledger : MI := (⟨"TruePollModel", "ledger", "(I)I"⟩, prog_12_method_84_code, 4, (some FieldType.int))
abbrev Y_TM_changes : MI := (⟨"TruePollModel", "changes", "()I"⟩, prog_12_method_85_code, 3, (some FieldType.int))
abbrev Y_TM_foretold : MI := (⟨"TruePollModel", "foretold", "(II)I"⟩, prog_12_method_86_code, 5, (some FieldType.int))
abbrev Y_TM_comes : MI := (⟨"TruePollModel", "comes", "(I)I"⟩, prog_12_method_89_code, 2, (some FieldType.int))
abbrev Y_TM_comesOf : MI := (⟨"TruePollModel", "comesOf", "(I)I"⟩, prog_12_method_88_code, 2, (some FieldType.int))
abbrev Y_TM_yesTo : MI := (⟨"TruePollModel", "yesTo", "(I)I"⟩, prog_12_method_87_code, 4, (some FieldType.int))
abbrev Y_TM_trues : MI := (⟨"TruePollModel", "trues", "()I"⟩, prog_12_method_90_code, 3, (some FieldType.int))
abbrev Y_TM_firm : MI := (⟨"TruePollModel", "firm", "()I"⟩, prog_12_method_92_code, 3, (some FieldType.int))
abbrev Y_TM_isFirm : MI := (⟨"TruePollModel", "isFirm", "(I)Z"⟩, prog_12_method_91_code, 2, (some FieldType.boolean))
abbrev Y_TM_ends : MI := (⟨"TruePollModel", "ends", "(IZ)I"⟩, prog_12_method_98_code, 4, (some FieldType.int))
abbrev Y_TM_layNext : MI := (⟨"TruePollModel", "layNext", "()V"⟩, prog_12_method_93_code, 2, (none : Option FieldType))
abbrev Y_TM_tillRing : MI := (⟨"TruePollModel", "tillRing", "(I)I"⟩, prog_12_method_96_code, 3, (some FieldType.int))
abbrev Y_TM_behind : MI := (⟨"TruePollModel", "behind", "(II)I"⟩, prog_12_method_94_code, 5, (some FieldType.int))
abbrev Y_TM_ringOf : MI := (⟨"TruePollModel", "ringOf", "(I)I"⟩, prog_12_method_95_code, 3, (some FieldType.int))
abbrev Y_TM_lowestOfRing : MI := (⟨"TruePollModel", "lowestOfRing", "(I)I"⟩, prog_12_method_97_code, 4, (some FieldType.int))
abbrev Y_TM_till : MI := (⟨"TruePollModel", "till", "(I)I"⟩, prog_12_method_99_code, 2, (some FieldType.int))
abbrev Y_TM_leads : MI := (⟨"TruePollModel", "leads", "(I)I"⟩, prog_12_method_100_code, 5, (some FieldType.int))
abbrev Y_TM_rings : MI := (⟨"TruePollModel", "rings", "()I"⟩, prog_12_method_101_code, 3, (some FieldType.int))
abbrev Y_TM_nearest : MI := (⟨"TruePollModel", "nearest", "()I"⟩, prog_12_method_102_code, 3, (some FieldType.int))
abbrev Y_TM_apartBy : MI := (⟨"TruePollModel", "apartBy", "(II)I"⟩, prog_12_method_103_code, 2, (some FieldType.int))
abbrev Y_TM_path : MI := (⟨"TruePollModel", "path", "(III)I"⟩, prog_12_method_104_code, 9, (some FieldType.int))
abbrev Y_TM_win : MI := (⟨"TruePollModel", "win", "(IZ)I"⟩, prog_12_method_105_code, 6, (some FieldType.int))
abbrev Y_TM_everyone : MI := (⟨"TruePollModel", "everyone", "()I"⟩, prog_12_method_9_code, 1, (some FieldType.int))
abbrev Y_TM_two : MI := (⟨"TruePollModel", "two", "(III)I"⟩, prog_12_method_107_code, 11, (some FieldType.int))
abbrev Y_TM_areTrue : MI := (⟨"TruePollModel", "areTrue", "(IIIII)Z"⟩, prog_12_method_106_code, 5, (some FieldType.boolean))
abbrev Y_TM_split : MI := (⟨"TruePollModel", "split", "(II)I"⟩, prog_12_method_108_code, 6, (some FieldType.int))
abbrev Y_TM_mind : MI := (⟨"TruePollModel", "mind", "(II)I"⟩, prog_12_method_109_code, 3, (some FieldType.int))
abbrev Y_TM_unasked : MI := (⟨"TruePollModel", "unasked", "(Z)I"⟩, prog_12_method_112_code, 2, (some FieldType.int))
abbrev Y_TM_yesToAny : MI := (⟨"TruePollModel", "yesToAny", "()I"⟩, prog_12_method_111_code, 3, (some FieldType.int))
abbrev Y_TM_yesToAll : MI := (⟨"TruePollModel", "yesToAll", "()I"⟩, prog_12_method_110_code, 3, (some FieldType.int))
abbrev Y_TM_honest : MI := (⟨"TruePollModel", "honest", "()I"⟩, prog_12_method_113_code, 1, (some FieldType.int))
abbrev Y_TM_alike : MI := (⟨"TruePollModel", "alike", "(II)I"⟩, prog_12_method_115_code, 3, (some FieldType.int))
abbrev Y_TM_alikeOf : MI := (⟨"TruePollModel", "alikeOf", "(II)I"⟩, prog_12_method_114_code, 5, (some FieldType.int))
abbrev Y_TM_pair : MI := (⟨"TruePollModel", "pair", "(Z)I"⟩, prog_12_method_116_code, 6, (some FieldType.int))
abbrev Y_TM_move : MI := (⟨"TruePollModel", "move", "(II)I"⟩, prog_12_method_119_code, 3, (some FieldType.int))
abbrev Y_TM_moveOf : MI := (⟨"TruePollModel", "moveOf", "(II)I"⟩, prog_12_method_118_code, 6, (some FieldType.int))
abbrev Y_TM_saysByLean : MI := (⟨"TruePollModel", "saysByLean", "(III)Z"⟩, prog_12_method_117_code, 6, (some FieldType.boolean))
abbrev Y_TM_cheapest : MI := (⟨"TruePollModel", "cheapest", "(I)I"⟩, prog_12_method_121_code, 6, (some FieldType.int))
abbrev Y_TM_layPrices : MI := (⟨"TruePollModel", "layPrices", "(IZ)I"⟩, prog_12_method_120_code, 7, (some FieldType.int))
abbrev Y_TM_sure : MI := (⟨"TruePollModel", "sure", "(IIZ)J"⟩, prog_12_method_125_code, 10, (some FieldType.long))
abbrev Y_TM_tenths : MI := (⟨"TruePollModel", "tenths", "(III)I"⟩, prog_12_method_124_code, 4, (some FieldType.int))
abbrev Y_TM_part0 : MI := (⟨"TruePollModel", "part0", "(JJZ)J"⟩, prog_12_method_123_code, 5, (some FieldType.long))
abbrev Y_TM_divisor : MI := (⟨"TruePollModel", "divisor", "(JJ)J"⟩, prog_12_method_122_code, 10, (some FieldType.long))
abbrev Y_TM_mean : MI := (⟨"TruePollModel", "mean", "(IZ)J"⟩, prog_12_method_126_code, 7, (some FieldType.long))
abbrev Y_TM_reach : MI := (⟨"TruePollModel", "reach", "(I)I"⟩, prog_12_method_128_code, 2, (some FieldType.int))
abbrev Y_TM_heardBy : MI := (⟨"TruePollModel", "heardBy", "(I)I"⟩, prog_12_method_127_code, 5, (some FieldType.int))
abbrev Y_TM_circles : MI := (⟨"TruePollModel", "circles", "()I"⟩, prog_12_method_129_code, 5, (some FieldType.int))
abbrev Y_TM_loud : MI := (⟨"TruePollModel", "loud", "()I"⟩, prog_12_method_131_code, 3, (some FieldType.int))
abbrev Y_TM_hearers : MI := (⟨"TruePollModel", "hearers", "(I)I"⟩, prog_12_method_130_code, 4, (some FieldType.int))
abbrev Y_TM_part : MI := (⟨"TruePollModel", "part", "()I"⟩, prog_12_method_134_code, 3, (some FieldType.int))
abbrev Y_TM_unlikeBy : MI := (⟨"TruePollModel", "unlikeBy", "(I)I"⟩, prog_12_method_133_code, 4, (some FieldType.int))
abbrev Y_TM_countBy : MI := (⟨"TruePollModel", "countBy", "(II)I"⟩, prog_12_method_132_code, 5, (some FieldType.int))
abbrev Y_TM_game : MI := (⟨"TruePollModel", "game", "(I)I"⟩, prog_12_method_138_code, 2, (some FieldType.int))
abbrev Y_TM_layGames : MI := (⟨"TruePollModel", "layGames", "(I)V"⟩, prog_12_method_137_code, 8, (none : Option FieldType))
abbrev Y_TM_canTell : MI := (⟨"TruePollModel", "canTell", "(II)Z"⟩, prog_12_method_136_code, 3, (some FieldType.boolean))
abbrev Y_TM_byTold : MI := (⟨"TruePollModel", "byTold", "(II)I"⟩, prog_12_method_135_code, 3, (some FieldType.int))
abbrev Y_TM_choice : MI := (⟨"TruePollModel", "choice", "(I)I"⟩, prog_12_method_139_code, 3, (some FieldType.int))
abbrev Y_TM_party : MI := (⟨"TruePollModel", "party", "(II)I"⟩, prog_12_method_140_code, 3, (some FieldType.int))
abbrev Y_TM_lives : MI := (⟨"TruePollModel", "lives", "(I)I"⟩, prog_12_method_142_code, 2, (some FieldType.int))
abbrev Y_TM_livesBy : MI := (⟨"TruePollModel", "livesBy", "(I)I"⟩, prog_12_method_141_code, 4, (some FieldType.int))
abbrev Y_TM_most : MI := (⟨"TruePollModel", "most", "()I"⟩, prog_12_method_143_code, 3, (some FieldType.int))
abbrev Y_TM_fewest : MI := (⟨"TruePollModel", "fewest", "(Z)I"⟩, prog_12_method_145_code, 4, (some FieldType.int))
abbrev Y_TM_doAllLive : MI := (⟨"TruePollModel", "doAllLive", "(I)Z"⟩, prog_12_method_144_code, 3, (some FieldType.boolean))
abbrev Y_TM_decimal : MI := (⟨"TruePollModel", "decimal", "(III)I"⟩, prog_12_method_148_code, 4, (some FieldType.int))
abbrev Y_TM_isPart : MI := (⟨"TruePollModel", "isPart", "(II)Z"⟩, prog_12_method_146_code, 2, (some FieldType.boolean))
abbrev Y_TM_leftBehind : MI := (⟨"TruePollModel", "leftBehind", "(III)I"⟩, prog_12_method_147_code, 5, (some FieldType.int))
abbrev Y_TM_decimals : MI := (⟨"TruePollModel", "decimals", "(IIZ)I"⟩, prog_12_method_149_code, 7, (some FieldType.int))
abbrev Y_TM_village : MI := (⟨"TruePollModel", "village", "(II)Z"⟩, prog_12_method_150_code, 3, (some FieldType.boolean))
abbrev Y_TM_window : MI := (⟨"TruePollModel", "window", "(II)I"⟩, prog_12_method_152_code, 3, (some FieldType.int))
abbrev Y_TM_windowOf : MI := (⟨"TruePollModel", "windowOf", "(II)I"⟩, prog_12_method_151_code, 5, (some FieldType.int))
abbrev Y_TM_busiest : MI := (⟨"TruePollModel", "busiest", "(I)I"⟩, prog_12_method_153_code, 4, (some FieldType.int))
abbrev Y_TM_said : MI := (⟨"TruePollModel", "said", "(II)I"⟩, prog_12_method_154_code, 3, (some FieldType.int))
abbrev Y_TM_whose : MI := (⟨"TruePollModel", "whose", "()I"⟩, prog_12_method_155_code, 5, (some FieldType.int))
abbrev Y_TM_image : MI := (⟨"TruePollModel", "image", "()I"⟩, prog_12_method_156_code, 1, (some FieldType.int))
abbrev Y_TM_back : MI := (⟨"TruePollModel", "back", "()I"⟩, prog_12_method_157_code, 1, (some FieldType.int))
abbrev Y_TM_about : MI := (⟨"TruePollModel", "about", "(I)I"⟩, prog_12_method_158_code, 2, (some FieldType.int))
def CB (Y : MI) (n : Nat) : Prop := Cond.code Y.1 Y.2.1 Y.2.2.1 Y.2.2.2 ∈ TB ∧ (Cond.initialized Y.1.cls ∈ TB) ∧ plainName Y.1.cls = true ∧ Y.1.cls ≠ "java/lang/invoke/MethodHandle" ∧ Y.1.cls ≠ "java/lang/invoke/VarHandle" ∧ (parseMethodDescriptor Y.1.desc).map (fun d => d.parameters.length) = some n
def CVt (Y : MI) : Prop := Cond.instanceMethod Y.1 ∈ TB ∧ Cond.selects Y.1.cls Y.1 Y.1 ∈ TB
def CSt (Y : MI) : Prop := Cond.static Y.1 ∈ TB
def CIt (Y : MI) : Prop := Cond.instanceMethod Y.1 ∈ TB ∧ Y.1.name = "<init>"
theorem cb_TP_init : CB Y_TP_init 0 := ⟨TB_of (in_t1 25 rfl) rfl, TB_of (in_t1 1 rfl) rfl, by decide, by decide, by decide, by decide +kernel⟩
theorem ci_TP_init : CIt Y_TP_init := ⟨TB_of (in_t1 24 rfl) rfl, rfl⟩
theorem cb_Cr_init : CB Y_Cr_init 0 := ⟨TB_of (in_t1 33 rfl) rfl, TB_of (in_t1 2 rfl) rfl, by decide, by decide, by decide, by decide +kernel⟩
theorem ci_Cr_init : CIt Y_Cr_init := ⟨TB_of (in_t1 32 rfl) rfl, rfl⟩
theorem cb_Mo_init : CB Y_Mo_init 0 := ⟨TB_of (in_t1 39 rfl) rfl, TB_of (in_t1 3 rfl) rfl, by decide, by decide, by decide, by decide +kernel⟩
theorem ci_Mo_init : CIt Y_Mo_init := ⟨TB_of (in_t1 38 rfl) rfl, rfl⟩
theorem cb_As_init : CB Y_As_init 1 := ⟨TB_of (in_t1 162 rfl) rfl, TB_of (in_t1 4 rfl) rfl, by decide, by decide, by decide, by decide +kernel⟩
theorem ci_As_init : CIt Y_As_init := ⟨TB_of (in_t1 161 rfl) rfl, rfl⟩
theorem cb_Ro_init : CB Y_Ro_init 2 := ⟨TB_of (in_t1 187 rfl) rfl, TB_of (in_t1 5 rfl) rfl, by decide, by decide, by decide, by decide +kernel⟩
theorem ci_Ro_init : CIt Y_Ro_init := ⟨TB_of (in_t1 186 rfl) rfl, rfl⟩
theorem cb_Ou_init : CB Y_Ou_init 0 := ⟨TB_of (in_t1 203 rfl) rfl, TB_of (in_t1 6 rfl) rfl, by decide, by decide, by decide, by decide +kernel⟩
theorem ci_Ou_init : CIt Y_Ou_init := ⟨TB_of (in_t1 202 rfl) rfl, rfl⟩
theorem cb_Ta_init : CB Y_Ta_init 0 := ⟨TB_of (in_t1 224 rfl) rfl, TB_of (in_t1 7 rfl) rfl, by decide, by decide, by decide, by decide +kernel⟩
theorem ci_Ta_init : CIt Y_Ta_init := ⟨TB_of (in_t1 223 rfl) rfl, rfl⟩
theorem cb_Re_init : CB Y_Re_init 1 := ⟨TB_of (in_t2 16 rfl) rfl, TB_of (in_t1 8 rfl) rfl, by decide, by decide, by decide, by decide +kernel⟩
theorem ci_Re_init : CIt Y_Re_init := ⟨TB_of (in_t2 15 rfl) rfl, rfl⟩
theorem cb_TP_person : CB Y_TP_person 2 := ⟨TB_of (in_t2 119 rfl) rfl, TB_of (in_t1 1 rfl) rfl, by decide, by decide, by decide, by decide +kernel⟩
theorem cv_TP_person : CVt Y_TP_person := ⟨TB_of (in_t2 117 rfl) rfl, TB_of (in_t2 118 rfl) rfl⟩
theorem cb_Cr_addPerson : CB Y_Cr_addPerson 2 := ⟨TB_of (in_t2 123 rfl) rfl, TB_of (in_t1 2 rfl) rfl, by decide, by decide, by decide, by decide +kernel⟩
theorem cv_Cr_addPerson : CVt Y_Cr_addPerson := ⟨TB_of (in_t2 121 rfl) rfl, TB_of (in_t2 122 rfl) rfl⟩
theorem cb_TP_put : CB Y_TP_put 3 := ⟨TB_of (in_t2 126 rfl) rfl, TB_of (in_t1 1 rfl) rfl, by decide, by decide, by decide, by decide +kernel⟩
theorem cs_TP_put : CSt Y_TP_put := TB_of (in_t2 125 rfl) rfl
theorem cb_TP_hear : CB Y_TP_hear 2 := ⟨TB_of (in_t2 130 rfl) rfl, TB_of (in_t1 1 rfl) rfl, by decide, by decide, by decide, by decide +kernel⟩
theorem cv_TP_hear : CVt Y_TP_hear := ⟨TB_of (in_t2 128 rfl) rfl, TB_of (in_t2 129 rfl) rfl⟩
theorem cb_Cr_turnEar : CB Y_Cr_turnEar 2 := ⟨TB_of (in_t2 134 rfl) rfl, TB_of (in_t1 2 rfl) rfl, by decide, by decide, by decide, by decide +kernel⟩
theorem cv_Cr_turnEar : CVt Y_Cr_turnEar := ⟨TB_of (in_t2 132 rfl) rfl, TB_of (in_t2 133 rfl) rfl⟩
theorem cb_Mo_hasPerson : CB Y_Mo_hasPerson 1 := ⟨TB_of (in_t2 138 rfl) rfl, TB_of (in_t1 3 rfl) rfl, by decide, by decide, by decide, by decide +kernel⟩
theorem cv_Mo_hasPerson : CVt Y_Mo_hasPerson := ⟨TB_of (in_t2 136 rfl) rfl, TB_of (in_t2 137 rfl) rfl⟩
theorem cb_TP_at : CB Y_TP_at 2 := ⟨TB_of (in_t2 141 rfl) rfl, TB_of (in_t1 1 rfl) rfl, by decide, by decide, by decide, by decide +kernel⟩
theorem cs_TP_at : CSt Y_TP_at := TB_of (in_t2 140 rfl) rfl
theorem cb_TP_feed : CB Y_TP_feed 5 := ⟨TB_of (in_t2 145 rfl) rfl, TB_of (in_t1 1 rfl) rfl, by decide, by decide, by decide, by decide +kernel⟩
theorem cv_TP_feed : CVt Y_TP_feed := ⟨TB_of (in_t2 143 rfl) rfl, TB_of (in_t2 144 rfl) rfl⟩
theorem cb_Ta_addFour : CB Y_Ta_addFour 1 := ⟨TB_of (in_t2 149 rfl) rfl, TB_of (in_t1 7 rfl) rfl, by decide, by decide, by decide, by decide +kernel⟩
theorem cv_Ta_addFour : CVt Y_Ta_addFour := ⟨TB_of (in_t2 147 rfl) rfl, TB_of (in_t2 148 rfl) rfl⟩
theorem cb_TP_end : CB Y_TP_end 1 := ⟨TB_of (in_t2 154 rfl) rfl, TB_of (in_t1 1 rfl) rfl, by decide, by decide, by decide, by decide +kernel⟩
theorem cv_TP_end : CVt Y_TP_end := ⟨TB_of (in_t2 152 rfl) rfl, TB_of (in_t2 153 rfl) rfl⟩
theorem cb_TP_text : CB Y_TP_text 0 := ⟨TB_of (in_t2 158 rfl) rfl, TB_of (in_t1 1 rfl) rfl, by decide, by decide, by decide, by decide +kernel⟩
theorem cv_TP_text : CVt Y_TP_text := ⟨TB_of (in_t2 156 rfl) rfl, TB_of (in_t2 157 rfl) rfl⟩
theorem cb_Re_readAll : CB Y_Re_readAll 0 := ⟨TB_of (in_t2 162 rfl) rfl, TB_of (in_t1 8 rfl) rfl, by decide, by decide, by decide, by decide +kernel⟩
theorem cv_Re_readAll : CVt Y_Re_readAll := ⟨TB_of (in_t2 160 rfl) rfl, TB_of (in_t2 161 rfl) rfl⟩
theorem cb_Ta_cutTokens : CB Y_Ta_cutTokens 0 := ⟨TB_of (in_t2 166 rfl) rfl, TB_of (in_t1 7 rfl) rfl, by decide, by decide, by decide, by decide +kernel⟩
theorem cv_Ta_cutTokens : CVt Y_Ta_cutTokens := ⟨TB_of (in_t2 164 rfl) rfl, TB_of (in_t2 165 rfl) rfl⟩
theorem cb_Ta_skipBlanks : CB Y_Ta_skipBlanks 0 := ⟨TB_of (in_t2 170 rfl) rfl, TB_of (in_t1 7 rfl) rfl, by decide, by decide, by decide, by decide +kernel⟩
theorem cv_Ta_skipBlanks : CVt Y_Ta_skipBlanks := ⟨TB_of (in_t2 169 rfl) rfl, TB_of (in_p1 0 rfl) rfl⟩
theorem cb_Ta_isBlank : CB Y_Ta_isBlank 1 := ⟨TB_of (in_t2 174 rfl) rfl, TB_of (in_t1 7 rfl) rfl, by decide, by decide, by decide, by decide +kernel⟩
theorem cs_Ta_isBlank : CSt Y_Ta_isBlank := TB_of (in_t2 173 rfl) rfl
theorem cb_Ta_readToken : CB Y_Ta_readToken 1 := ⟨TB_of (in_t2 178 rfl) rfl, TB_of (in_t1 7 rfl) rfl, by decide, by decide, by decide, by decide +kernel⟩
theorem cv_Ta_readToken : CVt Y_Ta_readToken := ⟨TB_of (in_t2 177 rfl) rfl, TB_of (in_p1 1 rfl) rfl⟩
theorem cb_Ta_isLetter : CB Y_Ta_isLetter 1 := ⟨TB_of (in_t2 181 rfl) rfl, TB_of (in_t1 7 rfl) rfl, by decide, by decide, by decide, by decide +kernel⟩
theorem cs_Ta_isLetter : CSt Y_Ta_isLetter := TB_of (in_t2 180 rfl) rfl
theorem cb_Ta_readWord : CB Y_Ta_readWord 0 := ⟨TB_of (in_t2 185 rfl) rfl, TB_of (in_t1 7 rfl) rfl, by decide, by decide, by decide, by decide +kernel⟩
theorem cv_Ta_readWord : CVt Y_Ta_readWord := ⟨TB_of (in_t2 184 rfl) rfl, TB_of (in_p1 2 rfl) rfl⟩
theorem cb_Ta_isWord : CB Y_Ta_isWord 2 := ⟨TB_of (in_t2 189 rfl) rfl, TB_of (in_t1 7 rfl) rfl, by decide, by decide, by decide, by decide +kernel⟩
theorem cv_Ta_isWord : CVt Y_Ta_isWord := ⟨TB_of (in_t2 188 rfl) rfl, TB_of (in_p1 3 rfl) rfl⟩
theorem cb_JS_length : CB Y_JS_length 0 := ⟨TB_of (in_t2 194 rfl) rfl, TB_of (in_t1 10 rfl) rfl, by decide, by decide, by decide, by decide +kernel⟩
theorem cv_JS_length : CVt Y_JS_length := ⟨TB_of (in_t2 192 rfl) rfl, TB_of (in_t2 193 rfl) rfl⟩
theorem cb_JS_coder : CB Y_JS_coder 0 := ⟨TB_of (in_t2 198 rfl) rfl, TB_of (in_t1 10 rfl) rfl, by decide, by decide, by decide, by decide +kernel⟩
theorem cv_JS_coder : CVt Y_JS_coder := ⟨TB_of (in_t2 196 rfl) rfl, TB_of (in_t2 197 rfl) rfl⟩
theorem cb_JS_charAt : CB Y_JS_charAt 1 := ⟨TB_of (in_t2 204 rfl) rfl, TB_of (in_t1 10 rfl) rfl, by decide, by decide, by decide, by decide +kernel⟩
theorem cv_JS_charAt : CVt Y_JS_charAt := ⟨TB_of (in_t2 202 rfl) rfl, TB_of (in_t2 203 rfl) rfl⟩
theorem cb_JS_isLatin1 : CB Y_JS_isLatin1 0 := ⟨TB_of (in_t2 208 rfl) rfl, TB_of (in_t1 10 rfl) rfl, by decide, by decide, by decide, by decide +kernel⟩
theorem cv_JS_isLatin1 : CVt Y_JS_isLatin1 := ⟨TB_of (in_t2 206 rfl) rfl, TB_of (in_t2 207 rfl) rfl⟩
theorem cb_JL_charAt : CB Y_JL_charAt 2 := ⟨TB_of (in_t2 211 rfl) rfl, TB_of (in_t1 11 rfl) rfl, by decide, by decide, by decide, by decide +kernel⟩
theorem cs_JL_charAt : CSt Y_JL_charAt := TB_of (in_t2 210 rfl) rfl
theorem cb_JS_checkIndex : CB Y_JS_checkIndex 2 := ⟨TB_of (in_t2 214 rfl) rfl, TB_of (in_t1 10 rfl) rfl, by decide, by decide, by decide, by decide +kernel⟩
theorem cs_JS_checkIndex : CSt Y_JS_checkIndex := TB_of (in_t2 213 rfl) rfl
theorem cb_JP_checkIndex : CB Y_JP_checkIndex 3 := ⟨TB_of (in_t2 219 rfl) rfl, TB_of (in_t1 12 rfl) rfl, by decide, by decide, by decide, by decide +kernel⟩
theorem cs_JP_checkIndex : CSt Y_JP_checkIndex := TB_of (in_t2 218 rfl) rfl
theorem cb_Ta_isDigit : CB Y_Ta_isDigit 1 := ⟨TB_of (in_t3 1 rfl) rfl, TB_of (in_t1 7 rfl) rfl, by decide, by decide, by decide, by decide +kernel⟩
theorem cs_Ta_isDigit : CSt Y_Ta_isDigit := TB_of (in_t3 0 rfl) rfl
theorem cb_Ta_readNumber : CB Y_Ta_readNumber 0 := ⟨TB_of (in_t3 5 rfl) rfl, TB_of (in_t1 7 rfl) rfl, by decide, by decide, by decide, by decide +kernel⟩
theorem cv_Ta_readNumber : CVt Y_Ta_readNumber := ⟨TB_of (in_t3 4 rfl) rfl, TB_of (in_p1 4 rfl) rfl⟩
theorem cb_Ta_readMark : CB Y_Ta_readMark 1 := ⟨TB_of (in_t3 12 rfl) rfl, TB_of (in_t1 7 rfl) rfl, by decide, by decide, by decide, by decide +kernel⟩
theorem cv_Ta_readMark : CVt Y_Ta_readMark := ⟨TB_of (in_t3 11 rfl) rfl, TB_of (in_p1 5 rfl) rfl⟩
theorem cb_JS_indexOf_I : CB Y_JS_indexOf_I 1 := ⟨TB_of (in_t3 17 rfl) rfl, TB_of (in_t1 10 rfl) rfl, by decide, by decide, by decide, by decide +kernel⟩
theorem cv_JS_indexOf_I : CVt Y_JS_indexOf_I := ⟨TB_of (in_t3 15 rfl) rfl, TB_of (in_t3 16 rfl) rfl⟩
theorem cb_JS_indexOf_II : CB Y_JS_indexOf_II 2 := ⟨TB_of (in_t3 21 rfl) rfl, TB_of (in_t1 10 rfl) rfl, by decide, by decide, by decide, by decide +kernel⟩
theorem cv_JS_indexOf_II : CVt Y_JS_indexOf_II := ⟨TB_of (in_t3 19 rfl) rfl, TB_of (in_t3 20 rfl) rfl⟩
theorem cb_JL_indexOf : CB Y_JL_indexOf 4 := ⟨TB_of (in_t3 25 rfl) rfl, TB_of (in_t1 11 rfl) rfl, by decide, by decide, by decide, by decide +kernel⟩
theorem cs_JL_indexOf : CSt Y_JL_indexOf := TB_of (in_t3 24 rfl) rfl
theorem cb_JL_canEncode : CB Y_JL_canEncode 1 := ⟨TB_of (in_t3 28 rfl) rfl, TB_of (in_t1 11 rfl) rfl, by decide, by decide, by decide, by decide +kernel⟩
theorem cs_JL_canEncode : CSt Y_JL_canEncode := TB_of (in_t3 27 rfl) rfl
theorem cb_JL_indexOfChar : CB Y_JL_indexOfChar 4 := ⟨TB_of (in_t3 35 rfl) rfl, TB_of (in_t1 11 rfl) rfl, by decide, by decide, by decide, by decide +kernel⟩
theorem cs_JL_indexOfChar : CSt Y_JL_indexOfChar := TB_of (in_t3 34 rfl) rfl
theorem cb_JS_checkBoundsBeginEnd : CB Y_JS_checkBoundsBeginEnd 3 := ⟨TB_of (in_t3 50 rfl) rfl, TB_of (in_t1 10 rfl) rfl, by decide, by decide, by decide, by decide +kernel⟩
theorem cs_JS_checkBoundsBeginEnd : CSt Y_JS_checkBoundsBeginEnd := TB_of (in_t3 49 rfl) rfl
theorem cb_JP_checkFromToIndex : CB Y_JP_checkFromToIndex 4 := ⟨TB_of (in_t3 53 rfl) rfl, TB_of (in_t1 12 rfl) rfl, by decide, by decide, by decide, by decide +kernel⟩
theorem cs_JP_checkFromToIndex : CSt Y_JP_checkFromToIndex := TB_of (in_t3 52 rfl) rfl
theorem cb_Re_advance : CB Y_Re_advance 0 := ⟨TB_of (in_t3 74 rfl) rfl, TB_of (in_t1 8 rfl) rfl, by decide, by decide, by decide, by decide +kernel⟩
theorem cv_Re_advance : CVt Y_Re_advance := ⟨TB_of (in_t3 73 rfl) rfl, TB_of (in_p1 6 rfl) rfl⟩
theorem cb_Re_readClause : CB Y_Re_readClause 0 := ⟨TB_of (in_t3 79 rfl) rfl, TB_of (in_t1 8 rfl) rfl, by decide, by decide, by decide, by decide +kernel⟩
theorem cv_Re_readClause : CVt Y_Re_readClause := ⟨TB_of (in_t3 78 rfl) rfl, TB_of (in_p1 7 rfl) rfl⟩
theorem cb_Sg_beginsClause : CB Y_Sg_beginsClause 1 := ⟨TB_of (in_t3 82 rfl) rfl, TB_of (in_t1 16 rfl) rfl, by decide, by decide, by decide, by decide +kernel⟩
theorem cs_Sg_beginsClause : CSt Y_Sg_beginsClause := TB_of (in_t3 81 rfl) rfl
theorem cb_Re_fail : CB Y_Re_fail 1 := ⟨TB_of (in_t3 86 rfl) rfl, TB_of (in_t1 8 rfl) rfl, by decide, by decide, by decide, by decide +kernel⟩
theorem cv_Re_fail : CVt Y_Re_fail := ⟨TB_of (in_t3 85 rfl) rfl, TB_of (in_p1 8 rfl) rfl⟩
theorem cb_Re_readRest : CB Y_Re_readRest 1 := ⟨TB_of (in_t3 91 rfl) rfl, TB_of (in_t1 8 rfl) rfl, by decide, by decide, by decide, by decide +kernel⟩
theorem cv_Re_readRest : CVt Y_Re_readRest := ⟨TB_of (in_t3 90 rfl) rfl, TB_of (in_p1 9 rfl) rfl⟩
theorem cb_Re_readSum : CB Y_Re_readSum 1 := ⟨TB_of (in_t3 95 rfl) rfl, TB_of (in_t1 8 rfl) rfl, by decide, by decide, by decide, by decide +kernel⟩
theorem cv_Re_readSum : CVt Y_Re_readSum := ⟨TB_of (in_t3 94 rfl) rfl, TB_of (in_p1 10 rfl) rfl⟩
theorem cb_Re_readProduct : CB Y_Re_readProduct 1 := ⟨TB_of (in_t3 99 rfl) rfl, TB_of (in_t1 8 rfl) rfl, by decide, by decide, by decide, by decide +kernel⟩
theorem cv_Re_readProduct : CVt Y_Re_readProduct := ⟨TB_of (in_t3 98 rfl) rfl, TB_of (in_p1 11 rfl) rfl⟩
theorem cb_Re_readOne : CB Y_Re_readOne 1 := ⟨TB_of (in_t3 103 rfl) rfl, TB_of (in_t1 8 rfl) rfl, by decide, by decide, by decide, by decide +kernel⟩
theorem cv_Re_readOne : CVt Y_Re_readOne := ⟨TB_of (in_t3 102 rfl) rfl, TB_of (in_p1 12 rfl) rfl⟩
theorem cb_Sg_opensOne : CB Y_Sg_opensOne 1 := ⟨TB_of (in_t3 106 rfl) rfl, TB_of (in_t1 16 rfl) rfl, by decide, by decide, by decide, by decide +kernel⟩
theorem cs_Sg_opensOne : CSt Y_Sg_opensOne := TB_of (in_t3 105 rfl) rfl
theorem cb_Re_readPlain : CB Y_Re_readPlain 0 := ⟨TB_of (in_t3 110 rfl) rfl, TB_of (in_t1 8 rfl) rfl, by decide, by decide, by decide, by decide +kernel⟩
theorem cv_Re_readPlain : CVt Y_Re_readPlain := ⟨TB_of (in_t3 109 rfl) rfl, TB_of (in_p1 13 rfl) rfl⟩
theorem cb_Sg_isName : CB Y_Sg_isName 1 := ⟨TB_of (in_t3 113 rfl) rfl, TB_of (in_t1 16 rfl) rfl, by decide, by decide, by decide, by decide +kernel⟩
theorem cs_Sg_isName : CSt Y_Sg_isName := TB_of (in_t3 112 rfl) rfl
theorem cb_Re_write : CB Y_Re_write 2 := ⟨TB_of (in_t3 117 rfl) rfl, TB_of (in_t1 8 rfl) rfl, by decide, by decide, by decide, by decide +kernel⟩
theorem cv_Re_write : CVt Y_Re_write := ⟨TB_of (in_t3 116 rfl) rfl, TB_of (in_p1 14 rfl) rfl⟩
theorem cb_Re_take : CB Y_Re_take 1 := ⟨TB_of (in_t3 121 rfl) rfl, TB_of (in_t1 8 rfl) rfl, by decide, by decide, by decide, by decide +kernel⟩
theorem cv_Re_take : CVt Y_Re_take := ⟨TB_of (in_t3 120 rfl) rfl, TB_of (in_p1 15 rfl) rfl⟩
theorem cb_Re_readIf : CB Y_Re_readIf 1 := ⟨TB_of (in_t3 125 rfl) rfl, TB_of (in_t1 8 rfl) rfl, by decide, by decide, by decide, by decide +kernel⟩
theorem cv_Re_readIf : CVt Y_Re_readIf := ⟨TB_of (in_t3 124 rfl) rfl, TB_of (in_p2 0 rfl) rfl⟩
theorem cb_Re_readEither : CB Y_Re_readEither 1 := ⟨TB_of (in_t3 129 rfl) rfl, TB_of (in_t1 8 rfl) rfl, by decide, by decide, by decide, by decide +kernel⟩
theorem cv_Re_readEither : CVt Y_Re_readEither := ⟨TB_of (in_t3 128 rfl) rfl, TB_of (in_p2 1 rfl) rfl⟩
theorem cb_Re_readBoth : CB Y_Re_readBoth 1 := ⟨TB_of (in_t3 133 rfl) rfl, TB_of (in_t1 8 rfl) rfl, by decide, by decide, by decide, by decide +kernel⟩
theorem cv_Re_readBoth : CVt Y_Re_readBoth := ⟨TB_of (in_t3 132 rfl) rfl, TB_of (in_p2 2 rfl) rfl⟩
theorem cb_Re_readAsk : CB Y_Re_readAsk 1 := ⟨TB_of (in_t3 137 rfl) rfl, TB_of (in_t1 8 rfl) rfl, by decide, by decide, by decide, by decide +kernel⟩
theorem cv_Re_readAsk : CVt Y_Re_readAsk := ⟨TB_of (in_t3 136 rfl) rfl, TB_of (in_p2 3 rfl) rfl⟩
theorem cb_Re_readComparison : CB Y_Re_readComparison 1 := ⟨TB_of (in_t3 141 rfl) rfl, TB_of (in_t1 8 rfl) rfl, by decide, by decide, by decide, by decide +kernel⟩
theorem cv_Re_readComparison : CVt Y_Re_readComparison := ⟨TB_of (in_t3 140 rfl) rfl, TB_of (in_p2 4 rfl) rfl⟩
theorem cb_Sg_isComparing : CB Y_Sg_isComparing 1 := ⟨TB_of (in_t3 144 rfl) rfl, TB_of (in_t1 16 rfl) rfl, by decide, by decide, by decide, by decide +kernel⟩
theorem cs_Sg_isComparing : CSt Y_Sg_isComparing := TB_of (in_t3 143 rfl) rfl
theorem cb_Re_isMultiplying : CB Y_Re_isMultiplying 0 := ⟨TB_of (in_t3 148 rfl) rfl, TB_of (in_t1 8 rfl) rfl, by decide, by decide, by decide, by decide +kernel⟩
theorem cv_Re_isMultiplying : CVt Y_Re_isMultiplying := ⟨TB_of (in_t3 147 rfl) rfl, TB_of (in_p2 5 rfl) rfl⟩
theorem cb_Re_isAdding : CB Y_Re_isAdding 0 := ⟨TB_of (in_t3 152 rfl) rfl, TB_of (in_t1 8 rfl) rfl, by decide, by decide, by decide, by decide +kernel⟩
theorem cv_Re_isAdding : CVt Y_Re_isAdding := ⟨TB_of (in_t3 151 rfl) rfl, TB_of (in_p2 6 rfl) rfl⟩
theorem cb_Re_readNumber : CB Y_Re_readNumber 3 := ⟨TB_of (in_t3 156 rfl) rfl, TB_of (in_t1 8 rfl) rfl, by decide, by decide, by decide, by decide +kernel⟩
theorem cv_Re_readNumber : CVt Y_Re_readNumber := ⟨TB_of (in_t3 155 rfl) rfl, TB_of (in_p2 7 rfl) rfl⟩
theorem cb_Re_made : CB Y_Re_made 0 := ⟨TB_of (in_t3 160 rfl) rfl, TB_of (in_t1 8 rfl) rfl, by decide, by decide, by decide, by decide +kernel⟩
theorem cv_Re_made : CVt Y_Re_made := ⟨TB_of (in_t3 159 rfl) rfl, TB_of (in_p2 8 rfl) rfl⟩
theorem cb_JA_copyOf : CB Y_JA_copyOf 2 := ⟨TB_of (in_t3 165 rfl) rfl, TB_of (in_t1 18 rfl) rfl, by decide, by decide, by decide, by decide +kernel⟩
theorem cs_JA_copyOf : CSt Y_JA_copyOf := TB_of (in_t3 164 rfl) rfl
theorem cb_Tx_init : CB Y_Tx_init 5 := ⟨TB_of (in_t3 179 rfl) rfl, TB_of (in_t1 17 rfl) rfl, by decide, by decide, by decide, by decide +kernel⟩
theorem ci_Tx_init : CIt Y_Tx_init := ⟨TB_of (in_t3 178 rfl) rfl, rfl⟩
theorem cb_Cr_addText : CB Y_Cr_addText 1 := ⟨TB_of (in_t3 225 rfl) rfl, TB_of (in_t1 2 rfl) rfl, by decide, by decide, by decide, by decide +kernel⟩
theorem cv_Cr_addText : CVt Y_Cr_addText := ⟨TB_of (in_t3 223 rfl) rfl, TB_of (in_t3 224 rfl) rfl⟩
theorem cb_TP_fault : CB Y_TP_fault 1 := ⟨TB_of (in_t3 229 rfl) rfl, TB_of (in_t1 1 rfl) rfl, by decide, by decide, by decide, by decide +kernel⟩
theorem cv_TP_fault : CVt Y_TP_fault := ⟨TB_of (in_t3 227 rfl) rfl, TB_of (in_t3 228 rfl) rfl⟩
theorem cb_TP_by : CB Y_TP_by 1 := ⟨TB_of (in_t3 233 rfl) rfl, TB_of (in_t1 1 rfl) rfl, by decide, by decide, by decide, by decide +kernel⟩
theorem cv_TP_by : CVt Y_TP_by := ⟨TB_of (in_t3 231 rfl) rfl, TB_of (in_t3 232 rfl) rfl⟩
theorem cb_Cr_textAt : CB Y_Cr_textAt 1 := ⟨TB_of (in_t3 237 rfl) rfl, TB_of (in_t1 2 rfl) rfl, by decide, by decide, by decide, by decide +kernel⟩
theorem cv_Cr_textAt : CVt Y_Cr_textAt := ⟨TB_of (in_t3 235 rfl) rfl, TB_of (in_t3 236 rfl) rfl⟩
theorem cb_TP_tell : CB Y_TP_tell 1 := ⟨TB_of (in_t4 1 rfl) rfl, TB_of (in_t1 1 rfl) rfl, by decide, by decide, by decide, by decide +kernel⟩
theorem cv_TP_tell : CVt Y_TP_tell := ⟨TB_of (in_t3 239 rfl) rfl, TB_of (in_t4 0 rfl) rfl⟩
theorem cb_Ro_tellByHand : CB Y_Ro_tellByHand 1 := ⟨TB_of (in_t4 5 rfl) rfl, TB_of (in_t1 5 rfl) rfl, by decide, by decide, by decide, by decide +kernel⟩
theorem cv_Ro_tellByHand : CVt Y_Ro_tellByHand := ⟨TB_of (in_t4 3 rfl) rfl, TB_of (in_t4 4 rfl) rfl⟩
theorem cb_Mo_canTell : CB Y_Mo_canTell 1 := ⟨TB_of (in_t4 9 rfl) rfl, TB_of (in_t1 3 rfl) rfl, by decide, by decide, by decide, by decide +kernel⟩
theorem cv_Mo_canTell : CVt Y_Mo_canTell := ⟨TB_of (in_t4 7 rfl) rfl, TB_of (in_t4 8 rfl) rfl⟩
theorem cb_Mo_canPass : CB Y_Mo_canPass 0 := ⟨TB_of (in_t4 13 rfl) rfl, TB_of (in_t1 3 rfl) rfl, by decide, by decide, by decide, by decide +kernel⟩
theorem cv_Mo_canPass : CVt Y_Mo_canPass := ⟨TB_of (in_t4 11 rfl) rfl, TB_of (in_t4 12 rfl) rfl⟩
theorem cb_Cr_keepStep : CB Y_Cr_keepStep 0 := ⟨TB_of (in_t4 17 rfl) rfl, TB_of (in_t1 2 rfl) rfl, by decide, by decide, by decide, by decide +kernel⟩
theorem cv_Cr_keepStep : CVt Y_Cr_keepStep := ⟨TB_of (in_t4 15 rfl) rfl, TB_of (in_t4 16 rfl) rfl⟩
theorem cb_Cr_stepAt : CB Y_Cr_stepAt 1 := ⟨TB_of (in_t4 21 rfl) rfl, TB_of (in_t1 2 rfl) rfl, by decide, by decide, by decide, by decide +kernel⟩
theorem cv_Cr_stepAt : CVt Y_Cr_stepAt := ⟨TB_of (in_t4 20 rfl) rfl, TB_of (in_p2 9 rfl) rfl⟩
theorem cb_Cr_copyStep : CB Y_Cr_copyStep 2 := ⟨TB_of (in_t4 24 rfl) rfl, TB_of (in_t1 2 rfl) rfl, by decide, by decide, by decide, by decide +kernel⟩
theorem cs_Cr_copyStep : CSt Y_Cr_copyStep := TB_of (in_t4 23 rfl) rfl
theorem cb_Mo_copyFrom : CB Y_Mo_copyFrom 1 := ⟨TB_of (in_t4 28 rfl) rfl, TB_of (in_t1 3 rfl) rfl, by decide, by decide, by decide, by decide +kernel⟩
theorem cv_Mo_copyFrom : CVt Y_Mo_copyFrom := ⟨TB_of (in_t4 26 rfl) rfl, TB_of (in_t4 27 rfl) rfl⟩
theorem cb_Ro_pass : CB Y_Ro_pass 2 := ⟨TB_of (in_t4 33 rfl) rfl, TB_of (in_t1 5 rfl) rfl, by decide, by decide, by decide, by decide +kernel⟩
theorem cv_Ro_pass : CVt Y_Ro_pass := ⟨TB_of (in_t4 32 rfl) rfl, TB_of (in_p2 10 rfl) rfl⟩
theorem cb_Cr_rulingText : CB Y_Cr_rulingText 0 := ⟨TB_of (in_t4 37 rfl) rfl, TB_of (in_t1 2 rfl) rfl, by decide, by decide, by decide, by decide +kernel⟩
theorem cv_Cr_rulingText : CVt Y_Cr_rulingText := ⟨TB_of (in_t4 35 rfl) rfl, TB_of (in_t4 36 rfl) rfl⟩
theorem cb_As_saysYes : CB Y_As_saysYes 4 := ⟨TB_of (in_t4 42 rfl) rfl, TB_of (in_t1 4 rfl) rfl, by decide, by decide, by decide, by decide +kernel⟩
theorem cv_As_saysYes : CVt Y_As_saysYes := ⟨TB_of (in_t4 40 rfl) rfl, TB_of (in_t4 41 rfl) rfl⟩
theorem cb_As_saysBySort : CB Y_As_saysBySort 0 := ⟨TB_of (in_t4 46 rfl) rfl, TB_of (in_t1 4 rfl) rfl, by decide, by decide, by decide, by decide +kernel⟩
theorem cv_As_saysBySort : CVt Y_As_saysBySort := ⟨TB_of (in_t4 45 rfl) rfl, TB_of (in_p2 11 rfl) rfl⟩
theorem cb_As_worth : CB Y_As_worth 3 := ⟨TB_of (in_t4 54 rfl) rfl, TB_of (in_t1 4 rfl) rfl, by decide, by decide, by decide, by decide +kernel⟩
theorem cv_As_worth : CVt Y_As_worth := ⟨TB_of (in_t4 53 rfl) rfl, TB_of (in_p2 12 rfl) rfl⟩
theorem cb_Sg_joinsTwo : CB Y_Sg_joinsTwo 1 := ⟨TB_of (in_t4 57 rfl) rfl, TB_of (in_t1 16 rfl) rfl, by decide, by decide, by decide, by decide +kernel⟩
theorem cs_Sg_joinsTwo : CSt Y_Sg_joinsTwo := TB_of (in_t4 56 rfl) rfl
theorem cb_As_joined : CB Y_As_joined 3 := ⟨TB_of (in_t4 60 rfl) rfl, TB_of (in_t1 4 rfl) rfl, by decide, by decide, by decide, by decide +kernel⟩
theorem cs_As_joined : CSt Y_As_joined := TB_of (in_t4 59 rfl) rfl
theorem cb_TP_within : CB Y_TP_within 3 := ⟨TB_of (in_t4 71 rfl) rfl, TB_of (in_t1 1 rfl) rfl, by decide, by decide, by decide, by decide +kernel⟩
theorem cs_TP_within : CSt Y_TP_within := TB_of (in_t4 70 rfl) rfl
theorem cb_Sg_changesOne : CB Y_Sg_changesOne 1 := ⟨TB_of (in_t4 77 rfl) rfl, TB_of (in_t1 16 rfl) rfl, by decide, by decide, by decide, by decide +kernel⟩
theorem cs_Sg_changesOne : CSt Y_Sg_changesOne := TB_of (in_t4 76 rfl) rfl
theorem cb_As_changed : CB Y_As_changed 2 := ⟨TB_of (in_t4 81 rfl) rfl, TB_of (in_t1 4 rfl) rfl, by decide, by decide, by decide, by decide +kernel⟩
theorem cv_As_changed : CVt Y_As_changed := ⟨TB_of (in_t4 80 rfl) rfl, TB_of (in_p2 13 rfl) rfl⟩
theorem cb_As_named : CB Y_As_named 1 := ⟨TB_of (in_t4 85 rfl) rfl, TB_of (in_t1 4 rfl) rfl, by decide, by decide, by decide, by decide +kernel⟩
theorem cv_As_named : CVt Y_As_named := ⟨TB_of (in_t4 84 rfl) rfl, TB_of (in_p2 14 rfl) rfl⟩
theorem cb_JI_bitCount : CB Y_JI_bitCount 1 := ⟨TB_of (in_t4 88 rfl) rfl, TB_of (in_t1 20 rfl) rfl, by decide, by decide, by decide, by decide +kernel⟩
theorem cs_JI_bitCount : CSt Y_JI_bitCount := TB_of (in_t4 87 rfl) rfl
theorem cb_Mo_drawX : CB Y_Mo_drawX 0 := ⟨TB_of (in_t4 95 rfl) rfl, TB_of (in_t1 3 rfl) rfl, by decide, by decide, by decide, by decide +kernel⟩
theorem cv_Mo_drawX : CVt Y_Mo_drawX := ⟨TB_of (in_t4 93 rfl) rfl, TB_of (in_t4 94 rfl) rfl⟩
theorem cb_As_swayOf : CB Y_As_swayOf 4 := ⟨TB_of (in_t4 99 rfl) rfl, TB_of (in_t1 4 rfl) rfl, by decide, by decide, by decide, by decide +kernel⟩
theorem cv_As_swayOf : CVt Y_As_swayOf := ⟨TB_of (in_t4 97 rfl) rfl, TB_of (in_t4 98 rfl) rfl⟩
theorem cb_Mo_writeDown : CB Y_Mo_writeDown 1 := ⟨TB_of (in_t4 111 rfl) rfl, TB_of (in_t1 3 rfl) rfl, by decide, by decide, by decide, by decide +kernel⟩
theorem cv_Mo_writeDown : CVt Y_Mo_writeDown := ⟨TB_of (in_t4 109 rfl) rfl, TB_of (in_t4 110 rfl) rfl⟩
theorem cb_TP_nudge : CB Y_TP_nudge 2 := ⟨TB_of (in_t4 116 rfl) rfl, TB_of (in_t1 1 rfl) rfl, by decide, by decide, by decide, by decide +kernel⟩
theorem cv_TP_nudge : CVt Y_TP_nudge := ⟨TB_of (in_t4 114 rfl) rfl, TB_of (in_t4 115 rfl) rfl⟩
theorem cb_Ro_nudgeByHand : CB Y_Ro_nudgeByHand 2 := ⟨TB_of (in_t4 120 rfl) rfl, TB_of (in_t1 5 rfl) rfl, by decide, by decide, by decide, by decide +kernel⟩
theorem cv_Ro_nudgeByHand : CVt Y_Ro_nudgeByHand := ⟨TB_of (in_t4 118 rfl) rfl, TB_of (in_t4 119 rfl) rfl⟩
theorem cb_Mo_canNudge : CB Y_Mo_canNudge 2 := ⟨TB_of (in_t4 124 rfl) rfl, TB_of (in_t1 3 rfl) rfl, by decide, by decide, by decide, by decide +kernel⟩
theorem cv_Mo_canNudge : CVt Y_Mo_canNudge := ⟨TB_of (in_t4 122 rfl) rfl, TB_of (in_t4 123 rfl) rfl⟩
theorem cb_Ro_shift : CB Y_Ro_shift 2 := ⟨TB_of (in_t4 130 rfl) rfl, TB_of (in_t1 5 rfl) rfl, by decide, by decide, by decide, by decide +kernel⟩
theorem cv_Ro_shift : CVt Y_Ro_shift := ⟨TB_of (in_t4 129 rfl) rfl, TB_of (in_p2 15 rfl) rfl⟩
theorem cb_TP_day : CB Y_TP_day 1 := ⟨TB_of (in_t4 134 rfl) rfl, TB_of (in_t1 1 rfl) rfl, by decide, by decide, by decide, by decide +kernel⟩
theorem cv_TP_day : CVt Y_TP_day := ⟨TB_of (in_t4 132 rfl) rfl, TB_of (in_t4 133 rfl) rfl⟩
theorem cb_Ro_passByHand : CB Y_Ro_passByHand 1 := ⟨TB_of (in_t4 138 rfl) rfl, TB_of (in_t1 5 rfl) rfl, by decide, by decide, by decide, by decide +kernel⟩
theorem cv_Ro_passByHand : CVt Y_Ro_passByHand := ⟨TB_of (in_t4 136 rfl) rfl, TB_of (in_t4 137 rfl) rfl⟩
theorem cb_TP_played : CB Y_TP_played 1 := ⟨TB_of (in_t4 143 rfl) rfl, TB_of (in_t1 1 rfl) rfl, by decide, by decide, by decide, by decide +kernel⟩
theorem cv_TP_played : CVt Y_TP_played := ⟨TB_of (in_t4 141 rfl) rfl, TB_of (in_t4 142 rfl) rfl⟩
theorem cb_Ro_playClause : CB Y_Ro_playClause 2 := ⟨TB_of (in_t4 147 rfl) rfl, TB_of (in_t1 5 rfl) rfl, by decide, by decide, by decide, by decide +kernel⟩
theorem cv_Ro_playClause : CVt Y_Ro_playClause := ⟨TB_of (in_t4 145 rfl) rfl, TB_of (in_t4 146 rfl) rfl⟩
theorem cb_TP_years : CB Y_TP_years 2 := ⟨TB_of (in_t4 156 rfl) rfl, TB_of (in_t1 1 rfl) rfl, by decide, by decide, by decide, by decide +kernel⟩
theorem cv_TP_years : CVt Y_TP_years := ⟨TB_of (in_t4 154 rfl) rfl, TB_of (in_t4 155 rfl) rfl⟩
theorem cb_Ro_passYears : CB Y_Ro_passYears 2 := ⟨TB_of (in_t4 160 rfl) rfl, TB_of (in_t1 5 rfl) rfl, by decide, by decide, by decide, by decide +kernel⟩
theorem cv_Ro_passYears : CVt Y_Ro_passYears := ⟨TB_of (in_t4 158 rfl) rfl, TB_of (in_t4 159 rfl) rfl⟩
theorem cb_Ro_passYear : CB Y_Ro_passYear 1 := ⟨TB_of (in_t4 164 rfl) rfl, TB_of (in_t1 5 rfl) rfl, by decide, by decide, by decide, by decide +kernel⟩
theorem cv_Ro_passYear : CVt Y_Ro_passYear := ⟨TB_of (in_t4 163 rfl) rfl, TB_of (in_p3 0 rfl) rfl⟩
theorem cb_TP_undo : CB Y_TP_undo 0 := ⟨TB_of (in_t4 168 rfl) rfl, TB_of (in_t1 1 rfl) rfl, by decide, by decide, by decide, by decide +kernel⟩
theorem cv_TP_undo : CVt Y_TP_undo := ⟨TB_of (in_t4 166 rfl) rfl, TB_of (in_t4 167 rfl) rfl⟩
theorem cb_Cr_takeStepBack : CB Y_Cr_takeStepBack 0 := ⟨TB_of (in_t4 172 rfl) rfl, TB_of (in_t1 2 rfl) rfl, by decide, by decide, by decide, by decide +kernel⟩
theorem cv_Cr_takeStepBack : CVt Y_Cr_takeStepBack := ⟨TB_of (in_t4 170 rfl) rfl, TB_of (in_t4 171 rfl) rfl⟩
theorem cb_TP_of : CB Y_TP_of 2 := ⟨TB_of (in_t4 176 rfl) rfl, TB_of (in_t1 1 rfl) rfl, by decide, by decide, by decide, by decide +kernel⟩
theorem cv_TP_of : CVt Y_TP_of := ⟨TB_of (in_t4 174 rfl) rfl, TB_of (in_t4 175 rfl) rfl⟩
theorem cb_TP_says : CB Y_TP_says 2 := ⟨TB_of (in_t4 183 rfl) rfl, TB_of (in_t1 1 rfl) rfl, by decide, by decide, by decide, by decide +kernel⟩
theorem cv_TP_says : CVt Y_TP_says := ⟨TB_of (in_t4 181 rfl) rfl, TB_of (in_t4 182 rfl) rfl⟩
theorem cb_TP_is : CB Y_TP_is 1 := ⟨TB_of (in_t4 189 rfl) rfl, TB_of (in_t1 1 rfl) rfl, by decide, by decide, by decide, by decide +kernel⟩
theorem cv_TP_is : CVt Y_TP_is := ⟨TB_of (in_t4 187 rfl) rfl, TB_of (in_t4 188 rfl) rfl⟩
theorem cb_Mo_allLeans : CB Y_Mo_allLeans 0 := ⟨TB_of (in_t4 193 rfl) rfl, TB_of (in_t1 3 rfl) rfl, by decide, by decide, by decide, by decide +kernel⟩
theorem cv_Mo_allLeans : CVt Y_Mo_allLeans := ⟨TB_of (in_t4 191 rfl) rfl, TB_of (in_t4 192 rfl) rfl⟩
theorem cb_TP_book : CB Y_TP_book 2 := ⟨TB_of (in_t4 197 rfl) rfl, TB_of (in_t1 1 rfl) rfl, by decide, by decide, by decide, by decide +kernel⟩
theorem cv_TP_book : CVt Y_TP_book := ⟨TB_of (in_t4 195 rfl) rfl, TB_of (in_t4 196 rfl) rfl⟩
theorem cb_Mo_bookAt : CB Y_Mo_bookAt 2 := ⟨TB_of (in_t4 201 rfl) rfl, TB_of (in_t1 3 rfl) rfl, by decide, by decide, by decide, by decide +kernel⟩
theorem cv_Mo_bookAt : CVt Y_Mo_bookAt := ⟨TB_of (in_t4 199 rfl) rfl, TB_of (in_t4 200 rfl) rfl⟩
theorem cb_TP_foretold : CB Y_TP_foretold 2 := ⟨TB_of (in_t4 205 rfl) rfl, TB_of (in_t1 1 rfl) rfl, by decide, by decide, by decide, by decide +kernel⟩
theorem cv_TP_foretold : CVt Y_TP_foretold := ⟨TB_of (in_t4 203 rfl) rfl, TB_of (in_t4 204 rfl) rfl⟩
theorem cb_Ro_passSome : CB Y_Ro_passSome 2 := ⟨TB_of (in_t4 210 rfl) rfl, TB_of (in_t1 5 rfl) rfl, by decide, by decide, by decide, by decide +kernel⟩
theorem cv_Ro_passSome : CVt Y_Ro_passSome := ⟨TB_of (in_t4 208 rfl) rfl, TB_of (in_t4 209 rfl) rfl⟩
theorem cb_TP_comes : CB Y_TP_comes 1 := ⟨TB_of (in_t4 214 rfl) rfl, TB_of (in_t1 1 rfl) rfl, by decide, by decide, by decide, by decide +kernel⟩
theorem cv_TP_comes : CVt Y_TP_comes := ⟨TB_of (in_t4 212 rfl) rfl, TB_of (in_t4 213 rfl) rfl⟩
theorem cb_TP_isFigure : CB Y_TP_isFigure 1 := ⟨TB_of (in_t4 218 rfl) rfl, TB_of (in_t1 1 rfl) rfl, by decide, by decide, by decide, by decide +kernel⟩
theorem cv_TP_isFigure : CVt Y_TP_isFigure := ⟨TB_of (in_t4 217 rfl) rfl, TB_of (in_p3 1 rfl) rfl⟩
theorem cb_TP_look : CB Y_TP_look 0 := ⟨TB_of (in_t4 222 rfl) rfl, TB_of (in_t1 1 rfl) rfl, by decide, by decide, by decide, by decide +kernel⟩
theorem cv_TP_look : CVt Y_TP_look := ⟨TB_of (in_t4 221 rfl) rfl, TB_of (in_p3 2 rfl) rfl⟩
theorem cb_As_yesBits : CB Y_As_yesBits 3 := ⟨TB_of (in_t4 226 rfl) rfl, TB_of (in_t1 4 rfl) rfl, by decide, by decide, by decide, by decide +kernel⟩
theorem cv_As_yesBits : CVt Y_As_yesBits := ⟨TB_of (in_t4 224 rfl) rfl, TB_of (in_t4 225 rfl) rfl⟩
theorem cb_Ou_comesOf : CB Y_Ou_comesOf 1 := ⟨TB_of (in_t4 232 rfl) rfl, TB_of (in_t1 6 rfl) rfl, by decide, by decide, by decide, by decide +kernel⟩
theorem cv_Ou_comesOf : CVt Y_Ou_comesOf := ⟨TB_of (in_t4 230 rfl) rfl, TB_of (in_t4 231 rfl) rfl⟩
theorem cb_TP_trues : CB Y_TP_trues 0 := ⟨TB_of (in_t4 238 rfl) rfl, TB_of (in_t1 1 rfl) rfl, by decide, by decide, by decide, by decide +kernel⟩
theorem cv_TP_trues : CVt Y_TP_trues := ⟨TB_of (in_t4 236 rfl) rfl, TB_of (in_t4 237 rfl) rfl⟩
theorem cb_Ou_trueBits : CB Y_Ou_trueBits 0 := ⟨TB_of (in_t5 2 rfl) rfl, TB_of (in_t1 6 rfl) rfl, by decide, by decide, by decide, by decide +kernel⟩
theorem cv_Ou_trueBits : CVt Y_Ou_trueBits := ⟨TB_of (in_t5 0 rfl) rfl, TB_of (in_t5 1 rfl) rfl⟩
theorem cb_TP_firm : CB Y_TP_firm 0 := ⟨TB_of (in_t5 7 rfl) rfl, TB_of (in_t1 1 rfl) rfl, by decide, by decide, by decide, by decide +kernel⟩
theorem cv_TP_firm : CVt Y_TP_firm := ⟨TB_of (in_t5 5 rfl) rfl, TB_of (in_t5 6 rfl) rfl⟩
theorem cb_Ou_firmBits : CB Y_Ou_firmBits 0 := ⟨TB_of (in_t5 11 rfl) rfl, TB_of (in_t1 6 rfl) rfl, by decide, by decide, by decide, by decide +kernel⟩
theorem cv_Ou_firmBits : CVt Y_Ou_firmBits := ⟨TB_of (in_t5 9 rfl) rfl, TB_of (in_t5 10 rfl) rfl⟩
theorem cb_TP_ends : CB Y_TP_ends 2 := ⟨TB_of (in_t5 15 rfl) rfl, TB_of (in_t1 1 rfl) rfl, by decide, by decide, by decide, by decide +kernel⟩
theorem cv_TP_ends : CVt Y_TP_ends := ⟨TB_of (in_t5 13 rfl) rfl, TB_of (in_t5 14 rfl) rfl⟩
theorem cb_Ou_ringSize : CB Y_Ou_ringSize 1 := ⟨TB_of (in_t5 19 rfl) rfl, TB_of (in_t1 6 rfl) rfl, by decide, by decide, by decide, by decide +kernel⟩
theorem cv_Ou_ringSize : CVt Y_Ou_ringSize := ⟨TB_of (in_t5 17 rfl) rfl, TB_of (in_t5 18 rfl) rfl⟩
theorem cb_Ou_someOfRing : CB Y_Ou_someOfRing 1 := ⟨TB_of (in_t5 23 rfl) rfl, TB_of (in_t1 6 rfl) rfl, by decide, by decide, by decide, by decide +kernel⟩
theorem cv_Ou_someOfRing : CVt Y_Ou_someOfRing := ⟨TB_of (in_t5 22 rfl) rfl, TB_of (in_p3 3 rfl) rfl⟩
theorem cb_Ou_ringThrough : CB Y_Ou_ringThrough 1 := ⟨TB_of (in_t5 27 rfl) rfl, TB_of (in_t1 6 rfl) rfl, by decide, by decide, by decide, by decide +kernel⟩
theorem cv_Ou_ringThrough : CVt Y_Ou_ringThrough := ⟨TB_of (in_t5 26 rfl) rfl, TB_of (in_p3 4 rfl) rfl⟩
theorem cb_Ou_ringLowest : CB Y_Ou_ringLowest 1 := ⟨TB_of (in_t5 31 rfl) rfl, TB_of (in_t1 6 rfl) rfl, by decide, by decide, by decide, by decide +kernel⟩
theorem cv_Ou_ringLowest : CVt Y_Ou_ringLowest := ⟨TB_of (in_t5 29 rfl) rfl, TB_of (in_t5 30 rfl) rfl⟩
theorem cb_TP_till : CB Y_TP_till 1 := ⟨TB_of (in_t5 36 rfl) rfl, TB_of (in_t1 1 rfl) rfl, by decide, by decide, by decide, by decide +kernel⟩
theorem cv_TP_till : CVt Y_TP_till := ⟨TB_of (in_t5 34 rfl) rfl, TB_of (in_t5 35 rfl) rfl⟩
theorem cb_Ou_tillRing : CB Y_Ou_tillRing 1 := ⟨TB_of (in_t5 40 rfl) rfl, TB_of (in_t1 6 rfl) rfl, by decide, by decide, by decide, by decide +kernel⟩
theorem cv_Ou_tillRing : CVt Y_Ou_tillRing := ⟨TB_of (in_t5 38 rfl) rfl, TB_of (in_t5 39 rfl) rfl⟩
theorem cb_TP_leads : CB Y_TP_leads 1 := ⟨TB_of (in_t5 44 rfl) rfl, TB_of (in_t1 1 rfl) rfl, by decide, by decide, by decide, by decide +kernel⟩
theorem cv_TP_leads : CVt Y_TP_leads := ⟨TB_of (in_t5 42 rfl) rfl, TB_of (in_t5 43 rfl) rfl⟩
theorem cb_Ou_leadBits : CB Y_Ou_leadBits 1 := ⟨TB_of (in_t5 48 rfl) rfl, TB_of (in_t1 6 rfl) rfl, by decide, by decide, by decide, by decide +kernel⟩
theorem cv_Ou_leadBits : CVt Y_Ou_leadBits := ⟨TB_of (in_t5 46 rfl) rfl, TB_of (in_t5 47 rfl) rfl⟩
theorem cb_TP_rings : CB Y_TP_rings 0 := ⟨TB_of (in_t5 52 rfl) rfl, TB_of (in_t1 1 rfl) rfl, by decide, by decide, by decide, by decide +kernel⟩
theorem cv_TP_rings : CVt Y_TP_rings := ⟨TB_of (in_t5 50 rfl) rfl, TB_of (in_t5 51 rfl) rfl⟩
theorem cb_Ou_ringCount : CB Y_Ou_ringCount 0 := ⟨TB_of (in_t5 56 rfl) rfl, TB_of (in_t1 6 rfl) rfl, by decide, by decide, by decide, by decide +kernel⟩
theorem cv_Ou_ringCount : CVt Y_Ou_ringCount := ⟨TB_of (in_t5 54 rfl) rfl, TB_of (in_t5 55 rfl) rfl⟩
theorem cb_TP_nearest : CB Y_TP_nearest 0 := ⟨TB_of (in_t5 61 rfl) rfl, TB_of (in_t1 1 rfl) rfl, by decide, by decide, by decide, by decide +kernel⟩
theorem cv_TP_nearest : CVt Y_TP_nearest := ⟨TB_of (in_t5 59 rfl) rfl, TB_of (in_t5 60 rfl) rfl⟩
theorem cb_Ou_nearestFigure : CB Y_Ou_nearestFigure 0 := ⟨TB_of (in_t5 65 rfl) rfl, TB_of (in_t1 6 rfl) rfl, by decide, by decide, by decide, by decide +kernel⟩
theorem cv_Ou_nearestFigure : CVt Y_Ou_nearestFigure := ⟨TB_of (in_t5 63 rfl) rfl, TB_of (in_t5 64 rfl) rfl⟩
theorem cb_TP_path : CB Y_TP_path 3 := ⟨TB_of (in_t5 70 rfl) rfl, TB_of (in_t1 1 rfl) rfl, by decide, by decide, by decide, by decide +kernel⟩
theorem cv_TP_path : CVt Y_TP_path := ⟨TB_of (in_t5 68 rfl) rfl, TB_of (in_t5 69 rfl) rfl⟩
theorem cb_Ou_fewestTellings : CB Y_Ou_fewestTellings 3 := ⟨TB_of (in_t5 74 rfl) rfl, TB_of (in_t1 6 rfl) rfl, by decide, by decide, by decide, by decide +kernel⟩
theorem cv_Ou_fewestTellings : CVt Y_Ou_fewestTellings := ⟨TB_of (in_t5 72 rfl) rfl, TB_of (in_t5 73 rfl) rfl⟩
theorem cb_Ou_comeFrom : CB Y_Ou_comeFrom 2 := ⟨TB_of (in_t5 78 rfl) rfl, TB_of (in_t1 6 rfl) rfl, by decide, by decide, by decide, by decide +kernel⟩
theorem cv_Ou_comeFrom : CVt Y_Ou_comeFrom := ⟨TB_of (in_t5 77 rfl) rfl, TB_of (in_p3 5 rfl) rfl⟩
theorem cb_TP_win : CB Y_TP_win 2 := ⟨TB_of (in_t5 83 rfl) rfl, TB_of (in_t1 1 rfl) rfl, by decide, by decide, by decide, by decide +kernel⟩
theorem cv_TP_win : CVt Y_TP_win := ⟨TB_of (in_t5 81 rfl) rfl, TB_of (in_t5 82 rfl) rfl⟩
theorem cb_Ou_winners : CB Y_Ou_winners 1 := ⟨TB_of (in_t5 87 rfl) rfl, TB_of (in_t1 6 rfl) rfl, by decide, by decide, by decide, by decide +kernel⟩
theorem cv_Ou_winners : CVt Y_Ou_winners := ⟨TB_of (in_t5 85 rfl) rfl, TB_of (in_t5 86 rfl) rfl⟩
theorem cb_Ou_yesTold : CB Y_Ou_yesTold 1 := ⟨TB_of (in_t5 91 rfl) rfl, TB_of (in_t1 6 rfl) rfl, by decide, by decide, by decide, by decide +kernel⟩
theorem cv_Ou_yesTold : CVt Y_Ou_yesTold := ⟨TB_of (in_t5 89 rfl) rfl, TB_of (in_t5 90 rfl) rfl⟩
theorem cb_TP_two : CB Y_TP_two 3 := ⟨TB_of (in_t5 96 rfl) rfl, TB_of (in_t1 1 rfl) rfl, by decide, by decide, by decide, by decide +kernel⟩
theorem cv_TP_two : CVt Y_TP_two := ⟨TB_of (in_t5 94 rfl) rfl, TB_of (in_t5 95 rfl) rfl⟩
theorem cb_Ou_yesOfTwo : CB Y_Ou_yesOfTwo 3 := ⟨TB_of (in_t5 100 rfl) rfl, TB_of (in_t1 6 rfl) rfl, by decide, by decide, by decide, by decide +kernel⟩
theorem cv_Ou_yesOfTwo : CVt Y_Ou_yesOfTwo := ⟨TB_of (in_t5 98 rfl) rfl, TB_of (in_t5 99 rfl) rfl⟩
theorem cb_Ou_trueSplits : CB Y_Ou_trueSplits 2 := ⟨TB_of (in_t5 104 rfl) rfl, TB_of (in_t1 6 rfl) rfl, by decide, by decide, by decide, by decide +kernel⟩
theorem cv_Ou_trueSplits : CVt Y_Ou_trueSplits := ⟨TB_of (in_t5 102 rfl) rfl, TB_of (in_t5 103 rfl) rfl⟩
theorem cb_Ou_isTrueSplit : CB Y_Ou_isTrueSplit 3 := ⟨TB_of (in_t5 108 rfl) rfl, TB_of (in_t1 6 rfl) rfl, by decide, by decide, by decide, by decide +kernel⟩
theorem cv_Ou_isTrueSplit : CVt Y_Ou_isTrueSplit := ⟨TB_of (in_t5 107 rfl) rfl, TB_of (in_p3 6 rfl) rfl⟩
theorem cb_TP_split : CB Y_TP_split 2 := ⟨TB_of (in_t5 112 rfl) rfl, TB_of (in_t1 1 rfl) rfl, by decide, by decide, by decide, by decide +kernel⟩
theorem cv_TP_split : CVt Y_TP_split := ⟨TB_of (in_t5 110 rfl) rfl, TB_of (in_t5 111 rfl) rfl⟩
theorem cb_Ou_lowestSplit : CB Y_Ou_lowestSplit 2 := ⟨TB_of (in_t5 116 rfl) rfl, TB_of (in_t1 6 rfl) rfl, by decide, by decide, by decide, by decide +kernel⟩
theorem cv_Ou_lowestSplit : CVt Y_Ou_lowestSplit := ⟨TB_of (in_t5 114 rfl) rfl, TB_of (in_t5 115 rfl) rfl⟩
theorem cb_TP_mind : CB Y_TP_mind 2 := ⟨TB_of (in_t5 120 rfl) rfl, TB_of (in_t1 1 rfl) rfl, by decide, by decide, by decide, by decide +kernel⟩
theorem cv_TP_mind : CVt Y_TP_mind := ⟨TB_of (in_t5 118 rfl) rfl, TB_of (in_t5 119 rfl) rfl⟩
theorem cb_TP_unasked : CB Y_TP_unasked 1 := ⟨TB_of (in_t5 125 rfl) rfl, TB_of (in_t1 1 rfl) rfl, by decide, by decide, by decide, by decide +kernel⟩
theorem cv_TP_unasked : CVt Y_TP_unasked := ⟨TB_of (in_t5 123 rfl) rfl, TB_of (in_t5 124 rfl) rfl⟩
theorem cb_Ou_yesByAny : CB Y_Ou_yesByAny 0 := ⟨TB_of (in_t5 129 rfl) rfl, TB_of (in_t1 6 rfl) rfl, by decide, by decide, by decide, by decide +kernel⟩
theorem cv_Ou_yesByAny : CVt Y_Ou_yesByAny := ⟨TB_of (in_t5 127 rfl) rfl, TB_of (in_t5 128 rfl) rfl⟩
theorem cb_Ou_yesByAll : CB Y_Ou_yesByAll 0 := ⟨TB_of (in_t5 133 rfl) rfl, TB_of (in_t1 6 rfl) rfl, by decide, by decide, by decide, by decide +kernel⟩
theorem cv_Ou_yesByAll : CVt Y_Ou_yesByAll := ⟨TB_of (in_t5 131 rfl) rfl, TB_of (in_t5 132 rfl) rfl⟩
theorem cb_TP_alike : CB Y_TP_alike 2 := ⟨TB_of (in_t5 137 rfl) rfl, TB_of (in_t1 1 rfl) rfl, by decide, by decide, by decide, by decide +kernel⟩
theorem cv_TP_alike : CVt Y_TP_alike := ⟨TB_of (in_t5 135 rfl) rfl, TB_of (in_t5 136 rfl) rfl⟩
theorem cb_Ou_alikeFigures : CB Y_Ou_alikeFigures 2 := ⟨TB_of (in_t5 141 rfl) rfl, TB_of (in_t1 6 rfl) rfl, by decide, by decide, by decide, by decide +kernel⟩
theorem cv_Ou_alikeFigures : CVt Y_Ou_alikeFigures := ⟨TB_of (in_t5 139 rfl) rfl, TB_of (in_t5 140 rfl) rfl⟩
theorem cb_TP_pair : CB Y_TP_pair 1 := ⟨TB_of (in_t5 145 rfl) rfl, TB_of (in_t1 1 rfl) rfl, by decide, by decide, by decide, by decide +kernel⟩
theorem cv_TP_pair : CVt Y_TP_pair := ⟨TB_of (in_t5 143 rfl) rfl, TB_of (in_t5 144 rfl) rfl⟩
theorem cb_Ou_mostAlike : CB Y_Ou_mostAlike 1 := ⟨TB_of (in_t5 149 rfl) rfl, TB_of (in_t1 6 rfl) rfl, by decide, by decide, by decide, by decide +kernel⟩
theorem cv_Ou_mostAlike : CVt Y_Ou_mostAlike := ⟨TB_of (in_t5 147 rfl) rfl, TB_of (in_t5 148 rfl) rfl⟩
theorem cb_TP_move : CB Y_TP_move 2 := ⟨TB_of (in_t5 154 rfl) rfl, TB_of (in_t1 1 rfl) rfl, by decide, by decide, by decide, by decide +kernel⟩
theorem cv_TP_move : CVt Y_TP_move := ⟨TB_of (in_t5 152 rfl) rfl, TB_of (in_t5 153 rfl) rfl⟩
theorem cb_TP_nearestLean : CB Y_TP_nearestLean 2 := ⟨TB_of (in_t5 158 rfl) rfl, TB_of (in_t1 1 rfl) rfl, by decide, by decide, by decide, by decide +kernel⟩
theorem cv_TP_nearestLean : CVt Y_TP_nearestLean := ⟨TB_of (in_t5 157 rfl) rfl, TB_of (in_p3 7 rfl) rfl⟩
theorem cb_TP_cheapest : CB Y_TP_cheapest 1 := ⟨TB_of (in_t5 163 rfl) rfl, TB_of (in_t1 1 rfl) rfl, by decide, by decide, by decide, by decide +kernel⟩
theorem cv_TP_cheapest : CVt Y_TP_cheapest := ⟨TB_of (in_t5 161 rfl) rfl, TB_of (in_t5 162 rfl) rfl⟩
theorem cb_TP_cheapestMoves : CB Y_TP_cheapestMoves 1 := ⟨TB_of (in_t5 167 rfl) rfl, TB_of (in_t1 1 rfl) rfl, by decide, by decide, by decide, by decide +kernel⟩
theorem cv_TP_cheapestMoves : CVt Y_TP_cheapestMoves := ⟨TB_of (in_t5 166 rfl) rfl, TB_of (in_p3 8 rfl) rfl⟩
theorem cb_TP_fillCosts : CB Y_TP_fillCosts 2 := ⟨TB_of (in_t5 171 rfl) rfl, TB_of (in_t1 1 rfl) rfl, by decide, by decide, by decide, by decide +kernel⟩
theorem cv_TP_fillCosts : CVt Y_TP_fillCosts := ⟨TB_of (in_t5 170 rfl) rfl, TB_of (in_p3 9 rfl) rfl⟩
theorem cb_TP_sure : CB Y_TP_sure 3 := ⟨TB_of (in_t5 175 rfl) rfl, TB_of (in_t1 1 rfl) rfl, by decide, by decide, by decide, by decide +kernel⟩
theorem cv_TP_sure : CVt Y_TP_sure := ⟨TB_of (in_t5 173 rfl) rfl, TB_of (in_t5 174 rfl) rfl⟩
theorem cb_TP_waysFor : CB Y_TP_waysFor 2 := ⟨TB_of (in_t5 180 rfl) rfl, TB_of (in_t1 1 rfl) rfl, by decide, by decide, by decide, by decide +kernel⟩
theorem cv_TP_waysFor : CVt Y_TP_waysFor := ⟨TB_of (in_t5 179 rfl) rfl, TB_of (in_p3 10 rfl) rfl⟩
theorem cb_TP_yesAsNow : CB Y_TP_yesAsNow 0 := ⟨TB_of (in_t5 184 rfl) rfl, TB_of (in_t1 1 rfl) rfl, by decide, by decide, by decide, by decide +kernel⟩
theorem cv_TP_yesAsNow : CVt Y_TP_yesAsNow := ⟨TB_of (in_t5 183 rfl) rfl, TB_of (in_p3 11 rfl) rfl⟩
theorem cb_JA_fill_AJJ : CB Y_JA_fill_AJJ 2 := ⟨TB_of (in_t5 187 rfl) rfl, TB_of (in_t1 18 rfl) rfl, by decide, by decide, by decide, by decide +kernel⟩
theorem cs_JA_fill_AJJ : CSt Y_JA_fill_AJJ := TB_of (in_t5 186 rfl) rfl
theorem cb_TP_allWays : CB Y_TP_allWays 0 := ⟨TB_of (in_t5 191 rfl) rfl, TB_of (in_t1 1 rfl) rfl, by decide, by decide, by decide, by decide +kernel⟩
theorem cv_TP_allWays : CVt Y_TP_allWays := ⟨TB_of (in_t5 190 rfl) rfl, TB_of (in_p3 12 rfl) rfl⟩
theorem cb_TP_inLowestTerms : CB Y_TP_inLowestTerms 3 := ⟨TB_of (in_t5 195 rfl) rfl, TB_of (in_t1 1 rfl) rfl, by decide, by decide, by decide, by decide +kernel⟩
theorem cs_TP_inLowestTerms : CSt Y_TP_inLowestTerms := TB_of (in_t5 194 rfl) rfl
theorem cb_TP_mean : CB Y_TP_mean 2 := ⟨TB_of (in_t5 199 rfl) rfl, TB_of (in_t1 1 rfl) rfl, by decide, by decide, by decide, by decide +kernel⟩
theorem cv_TP_mean : CVt Y_TP_mean := ⟨TB_of (in_t5 197 rfl) rfl, TB_of (in_t5 198 rfl) rfl⟩
theorem cb_TP_reach : CB Y_TP_reach 1 := ⟨TB_of (in_t5 203 rfl) rfl, TB_of (in_t1 1 rfl) rfl, by decide, by decide, by decide, by decide +kernel⟩
theorem cv_TP_reach : CVt Y_TP_reach := ⟨TB_of (in_t5 201 rfl) rfl, TB_of (in_t5 202 rfl) rfl⟩
theorem cb_Cr_heardBy : CB Y_Cr_heardBy 1 := ⟨TB_of (in_t5 207 rfl) rfl, TB_of (in_t1 2 rfl) rfl, by decide, by decide, by decide, by decide +kernel⟩
theorem cv_Cr_heardBy : CVt Y_Cr_heardBy := ⟨TB_of (in_t5 205 rfl) rfl, TB_of (in_t5 206 rfl) rfl⟩
theorem cb_TP_circles : CB Y_TP_circles 0 := ⟨TB_of (in_t5 211 rfl) rfl, TB_of (in_t1 1 rfl) rfl, by decide, by decide, by decide, by decide +kernel⟩
theorem cv_TP_circles : CVt Y_TP_circles := ⟨TB_of (in_t5 209 rfl) rfl, TB_of (in_t5 210 rfl) rfl⟩
theorem cb_Cr_circleCount : CB Y_Cr_circleCount 0 := ⟨TB_of (in_t5 215 rfl) rfl, TB_of (in_t1 2 rfl) rfl, by decide, by decide, by decide, by decide +kernel⟩
theorem cv_Cr_circleCount : CVt Y_Cr_circleCount := ⟨TB_of (in_t5 213 rfl) rfl, TB_of (in_t5 214 rfl) rfl⟩
theorem cb_Cr_isLowestOfCircle : CB Y_Cr_isLowestOfCircle 1 := ⟨TB_of (in_t5 219 rfl) rfl, TB_of (in_t1 2 rfl) rfl, by decide, by decide, by decide, by decide +kernel⟩
theorem cv_Cr_isLowestOfCircle : CVt Y_Cr_isLowestOfCircle := ⟨TB_of (in_t5 218 rfl) rfl, TB_of (in_p3 13 rfl) rfl⟩
theorem cb_TP_loud : CB Y_TP_loud 0 := ⟨TB_of (in_t5 224 rfl) rfl, TB_of (in_t1 1 rfl) rfl, by decide, by decide, by decide, by decide +kernel⟩
theorem cv_TP_loud : CVt Y_TP_loud := ⟨TB_of (in_t5 222 rfl) rfl, TB_of (in_t5 223 rfl) rfl⟩
theorem cb_Cr_loudest : CB Y_Cr_loudest 0 := ⟨TB_of (in_t5 228 rfl) rfl, TB_of (in_t1 2 rfl) rfl, by decide, by decide, by decide, by decide +kernel⟩
theorem cv_Cr_loudest : CVt Y_Cr_loudest := ⟨TB_of (in_t5 226 rfl) rfl, TB_of (in_t5 227 rfl) rfl⟩
theorem cb_Cr_earsFor : CB Y_Cr_earsFor 1 := ⟨TB_of (in_t5 232 rfl) rfl, TB_of (in_t1 2 rfl) rfl, by decide, by decide, by decide, by decide +kernel⟩
theorem cv_Cr_earsFor : CVt Y_Cr_earsFor := ⟨TB_of (in_t5 231 rfl) rfl, TB_of (in_p3 14 rfl) rfl⟩
theorem cb_TP_part : CB Y_TP_part 0 := ⟨TB_of (in_t5 236 rfl) rfl, TB_of (in_t1 1 rfl) rfl, by decide, by decide, by decide, by decide +kernel⟩
theorem cv_TP_part : CVt Y_TP_part := ⟨TB_of (in_t5 234 rfl) rfl, TB_of (in_t5 235 rfl) rfl⟩
theorem cb_TP_unlikeCounts : CB Y_TP_unlikeCounts 1 := ⟨TB_of (in_t6 0 rfl) rfl, TB_of (in_t1 1 rfl) rfl, by decide, by decide, by decide, by decide +kernel⟩
theorem cv_TP_unlikeCounts : CVt Y_TP_unlikeCounts := ⟨TB_of (in_t5 239 rfl) rfl, TB_of (in_p3 15 rfl) rfl⟩
theorem cb_TP_game : CB Y_TP_game 1 := ⟨TB_of (in_t6 4 rfl) rfl, TB_of (in_t1 1 rfl) rfl, by decide, by decide, by decide, by decide +kernel⟩
theorem cv_TP_game : CVt Y_TP_game := ⟨TB_of (in_t6 2 rfl) rfl, TB_of (in_t6 3 rfl) rfl⟩
theorem cb_Ou_gameEnd : CB Y_Ou_gameEnd 2 := ⟨TB_of (in_t6 8 rfl) rfl, TB_of (in_t1 6 rfl) rfl, by decide, by decide, by decide, by decide +kernel⟩
theorem cv_Ou_gameEnd : CVt Y_Ou_gameEnd := ⟨TB_of (in_t6 6 rfl) rfl, TB_of (in_t6 7 rfl) rfl⟩
theorem cb_Ou_playBackTo : CB Y_Ou_playBackTo 2 := ⟨TB_of (in_t6 12 rfl) rfl, TB_of (in_t1 6 rfl) rfl, by decide, by decide, by decide, by decide +kernel⟩
theorem cv_Ou_playBackTo : CVt Y_Ou_playBackTo := ⟨TB_of (in_t6 11 rfl) rfl, TB_of (in_p4 0 rfl) rfl⟩
theorem cb_Ou_bestLast : CB Y_Ou_bestLast 2 := ⟨TB_of (in_t6 16 rfl) rfl, TB_of (in_t1 6 rfl) rfl, by decide, by decide, by decide, by decide +kernel⟩
theorem cv_Ou_bestLast : CVt Y_Ou_bestLast := ⟨TB_of (in_t6 15 rfl) rfl, TB_of (in_p4 1 rfl) rfl⟩
theorem cb_TP_choice : CB Y_TP_choice 1 := ⟨TB_of (in_t6 22 rfl) rfl, TB_of (in_t1 1 rfl) rfl, by decide, by decide, by decide, by decide +kernel⟩
theorem cv_TP_choice : CVt Y_TP_choice := ⟨TB_of (in_t6 20 rfl) rfl, TB_of (in_t6 21 rfl) rfl⟩
theorem cb_Ou_gameStart : CB Y_Ou_gameStart 2 := ⟨TB_of (in_t6 26 rfl) rfl, TB_of (in_t1 6 rfl) rfl, by decide, by decide, by decide, by decide +kernel⟩
theorem cv_Ou_gameStart : CVt Y_Ou_gameStart := ⟨TB_of (in_t6 24 rfl) rfl, TB_of (in_t6 25 rfl) rfl⟩
theorem cb_TP_party : CB Y_TP_party 2 := ⟨TB_of (in_t6 30 rfl) rfl, TB_of (in_t1 1 rfl) rfl, by decide, by decide, by decide, by decide +kernel⟩
theorem cv_TP_party : CVt Y_TP_party := ⟨TB_of (in_t6 28 rfl) rfl, TB_of (in_t6 29 rfl) rfl⟩
theorem cb_Cr_addParty : CB Y_Cr_addParty 2 := ⟨TB_of (in_t6 34 rfl) rfl, TB_of (in_t1 2 rfl) rfl, by decide, by decide, by decide, by decide +kernel⟩
theorem cv_Cr_addParty : CVt Y_Cr_addParty := ⟨TB_of (in_t6 32 rfl) rfl, TB_of (in_t6 33 rfl) rfl⟩
theorem cb_TP_lives : CB Y_TP_lives 1 := ⟨TB_of (in_t6 38 rfl) rfl, TB_of (in_t1 1 rfl) rfl, by decide, by decide, by decide, by decide +kernel⟩
theorem cv_TP_lives : CVt Y_TP_lives := ⟨TB_of (in_t6 36 rfl) rfl, TB_of (in_t6 37 rfl) rfl⟩
theorem cb_Cr_partiesBy : CB Y_Cr_partiesBy 1 := ⟨TB_of (in_t6 42 rfl) rfl, TB_of (in_t1 2 rfl) rfl, by decide, by decide, by decide, by decide +kernel⟩
theorem cv_Cr_partiesBy : CVt Y_Cr_partiesBy := ⟨TB_of (in_t6 40 rfl) rfl, TB_of (in_t6 41 rfl) rfl⟩
theorem cb_TP_most : CB Y_TP_most 0 := ⟨TB_of (in_t6 46 rfl) rfl, TB_of (in_t1 1 rfl) rfl, by decide, by decide, by decide, by decide +kernel⟩
theorem cv_TP_most : CVt Y_TP_most := ⟨TB_of (in_t6 44 rfl) rfl, TB_of (in_t6 45 rfl) rfl⟩
theorem cb_TP_fewest : CB Y_TP_fewest 1 := ⟨TB_of (in_t6 50 rfl) rfl, TB_of (in_t1 1 rfl) rfl, by decide, by decide, by decide, by decide +kernel⟩
theorem cv_TP_fewest : CVt Y_TP_fewest := ⟨TB_of (in_t6 48 rfl) rfl, TB_of (in_t6 49 rfl) rfl⟩
theorem cb_TP_decimal : CB Y_TP_decimal 3 := ⟨TB_of (in_t6 54 rfl) rfl, TB_of (in_t1 1 rfl) rfl, by decide, by decide, by decide, by decide +kernel⟩
theorem cv_TP_decimal : CVt Y_TP_decimal := ⟨TB_of (in_t6 52 rfl) rfl, TB_of (in_t6 53 rfl) rfl⟩
theorem cb_TP_isPart : CB Y_TP_isPart 2 := ⟨TB_of (in_t6 57 rfl) rfl, TB_of (in_t1 1 rfl) rfl, by decide, by decide, by decide, by decide +kernel⟩
theorem cs_TP_isPart : CSt Y_TP_isPart := TB_of (in_t6 56 rfl) rfl
theorem cb_TP_decimals : CB Y_TP_decimals 3 := ⟨TB_of (in_t6 61 rfl) rfl, TB_of (in_t1 1 rfl) rfl, by decide, by decide, by decide, by decide +kernel⟩
theorem cv_TP_decimals : CVt Y_TP_decimals := ⟨TB_of (in_t6 59 rfl) rfl, TB_of (in_t6 60 rfl) rfl⟩
theorem cb_JA_fill_AII : CB Y_JA_fill_AII 2 := ⟨TB_of (in_t6 64 rfl) rfl, TB_of (in_t1 18 rfl) rfl, by decide, by decide, by decide, by decide +kernel⟩
theorem cs_JA_fill_AII : CSt Y_JA_fill_AII := TB_of (in_t6 63 rfl) rfl
theorem cb_TP_village : CB Y_TP_village 2 := ⟨TB_of (in_t6 68 rfl) rfl, TB_of (in_t1 1 rfl) rfl, by decide, by decide, by decide, by decide +kernel⟩
theorem cv_TP_village : CVt Y_TP_village := ⟨TB_of (in_t6 66 rfl) rfl, TB_of (in_t6 67 rfl) rfl⟩
theorem cb_TP_window : CB Y_TP_window 2 := ⟨TB_of (in_t6 72 rfl) rfl, TB_of (in_t1 1 rfl) rfl, by decide, by decide, by decide, by decide +kernel⟩
theorem cv_TP_window : CVt Y_TP_window := ⟨TB_of (in_t6 70 rfl) rfl, TB_of (in_t6 71 rfl) rfl⟩
theorem cb_Cr_villagesFrom : CB Y_Cr_villagesFrom 2 := ⟨TB_of (in_t6 76 rfl) rfl, TB_of (in_t1 2 rfl) rfl, by decide, by decide, by decide, by decide +kernel⟩
theorem cv_Cr_villagesFrom : CVt Y_Cr_villagesFrom := ⟨TB_of (in_t6 74 rfl) rfl, TB_of (in_t6 75 rfl) rfl⟩
theorem cb_TP_busiest : CB Y_TP_busiest 1 := ⟨TB_of (in_t6 80 rfl) rfl, TB_of (in_t1 1 rfl) rfl, by decide, by decide, by decide, by decide +kernel⟩
theorem cv_TP_busiest : CVt Y_TP_busiest := ⟨TB_of (in_t6 78 rfl) rfl, TB_of (in_t6 79 rfl) rfl⟩
theorem cb_TP_said : CB Y_TP_said 2 := ⟨TB_of (in_t6 84 rfl) rfl, TB_of (in_t1 1 rfl) rfl, by decide, by decide, by decide, by decide +kernel⟩
theorem cv_TP_said : CVt Y_TP_said := ⟨TB_of (in_t6 82 rfl) rfl, TB_of (in_t6 83 rfl) rfl⟩
theorem cb_Cr_addSaid : CB Y_Cr_addSaid 2 := ⟨TB_of (in_t6 88 rfl) rfl, TB_of (in_t1 2 rfl) rfl, by decide, by decide, by decide, by decide +kernel⟩
theorem cv_Cr_addSaid : CVt Y_Cr_addSaid := ⟨TB_of (in_t6 86 rfl) rfl, TB_of (in_t6 87 rfl) rfl⟩
theorem cb_TP_whose : CB Y_TP_whose 0 := ⟨TB_of (in_t6 92 rfl) rfl, TB_of (in_t1 1 rfl) rfl, by decide, by decide, by decide, by decide +kernel⟩
theorem cv_TP_whose : CVt Y_TP_whose := ⟨TB_of (in_t6 90 rfl) rfl, TB_of (in_t6 91 rfl) rfl⟩
theorem cb_TP_accountsForSaid : CB Y_TP_accountsForSaid 1 := ⟨TB_of (in_t6 96 rfl) rfl, TB_of (in_t1 1 rfl) rfl, by decide, by decide, by decide, by decide +kernel⟩
theorem cv_TP_accountsForSaid : CVt Y_TP_accountsForSaid := ⟨TB_of (in_t6 95 rfl) rfl, TB_of (in_p4 2 rfl) rfl⟩
theorem cb_TP_honest : CB Y_TP_honest 0 := ⟨TB_of (in_t6 100 rfl) rfl, TB_of (in_t1 1 rfl) rfl, by decide, by decide, by decide, by decide +kernel⟩
theorem cv_TP_honest : CVt Y_TP_honest := ⟨TB_of (in_t6 98 rfl) rfl, TB_of (in_t6 99 rfl) rfl⟩
theorem cb_TP_changes : CB Y_TP_changes 0 := ⟨TB_of (in_t6 104 rfl) rfl, TB_of (in_t1 1 rfl) rfl, by decide, by decide, by decide, by decide +kernel⟩
theorem cv_TP_changes : CVt Y_TP_changes := ⟨TB_of (in_t6 102 rfl) rfl, TB_of (in_t6 103 rfl) rfl⟩
theorem cb_TP_ledger : CB Y_TP_ledger 1 := ⟨TB_of (in_t6 108 rfl) rfl, TB_of (in_t1 1 rfl) rfl, by decide, by decide, by decide, by decide +kernel⟩
theorem cv_TP_ledger : CVt Y_TP_ledger := ⟨TB_of (in_t6 106 rfl) rfl, TB_of (in_t6 107 rfl) rfl⟩
theorem cb_TP_image : CB Y_TP_image 0 := ⟨TB_of (in_t6 112 rfl) rfl, TB_of (in_t1 1 rfl) rfl, by decide, by decide, by decide, by decide +kernel⟩
theorem cv_TP_image : CVt Y_TP_image := ⟨TB_of (in_t6 110 rfl) rfl, TB_of (in_t6 111 rfl) rfl⟩
theorem cb_Cr_copyAll : CB Y_Cr_copyAll 1 := ⟨TB_of (in_t6 116 rfl) rfl, TB_of (in_t1 2 rfl) rfl, by decide, by decide, by decide, by decide +kernel⟩
theorem cv_Cr_copyAll : CVt Y_Cr_copyAll := ⟨TB_of (in_t6 114 rfl) rfl, TB_of (in_t6 115 rfl) rfl⟩
theorem cb_Cr_copyPeople : CB Y_Cr_copyPeople 1 := ⟨TB_of (in_t6 120 rfl) rfl, TB_of (in_t1 2 rfl) rfl, by decide, by decide, by decide, by decide +kernel⟩
theorem cv_Cr_copyPeople : CVt Y_Cr_copyPeople := ⟨TB_of (in_t6 119 rfl) rfl, TB_of (in_p4 3 rfl) rfl⟩
theorem cb_Cr_copyTold : CB Y_Cr_copyTold 1 := ⟨TB_of (in_t6 125 rfl) rfl, TB_of (in_t1 2 rfl) rfl, by decide, by decide, by decide, by decide +kernel⟩
theorem cv_Cr_copyTold : CVt Y_Cr_copyTold := ⟨TB_of (in_t6 124 rfl) rfl, TB_of (in_p4 4 rfl) rfl⟩
theorem cb_TP_back : CB Y_TP_back 0 := ⟨TB_of (in_t6 129 rfl) rfl, TB_of (in_t1 1 rfl) rfl, by decide, by decide, by decide, by decide +kernel⟩
theorem cv_TP_back : CVt Y_TP_back := ⟨TB_of (in_t6 127 rfl) rfl, TB_of (in_t6 128 rfl) rfl⟩
theorem cb_TP_about : CB Y_TP_about 1 := ⟨TB_of (in_t6 133 rfl) rfl, TB_of (in_t1 1 rfl) rfl, by decide, by decide, by decide, by decide +kernel⟩
theorem cv_TP_about : CVt Y_TP_about := ⟨TB_of (in_t6 131 rfl) rfl, TB_of (in_t6 132 rfl) rfl⟩
theorem cb_TM_init : CB Y_TM_init 0 := ⟨TB_of (in_t6 138 rfl) rfl, TB_of (in_t1 9 rfl) rfl, by decide, by decide, by decide, by decide +kernel⟩
theorem ci_TM_init : CIt Y_TM_init := ⟨TB_of (in_t6 137 rfl) rfl, rfl⟩
theorem cb_TM_copy : CB Y_TM_copy 2 := ⟨TB_of (in_t6 142 rfl) rfl, TB_of (in_t1 9 rfl) rfl, by decide, by decide, by decide, by decide +kernel⟩
theorem cs_TM_copy : CSt Y_TM_copy := TB_of (in_t6 141 rfl) rfl
theorem cb_TM_person : CB Y_TM_person 2 := ⟨TB_of (in_t6 238 rfl) rfl, TB_of (in_t1 9 rfl) rfl, by decide, by decide, by decide, by decide +kernel⟩
theorem cv_TM_person : CVt Y_TM_person := ⟨TB_of (in_t6 236 rfl) rfl, TB_of (in_t6 237 rfl) rfl⟩
theorem cb_TM_isIn : CB Y_TM_isIn 3 := ⟨TB_of (in_t7 1 rfl) rfl, TB_of (in_t1 9 rfl) rfl, by decide, by decide, by decide, by decide +kernel⟩
theorem cs_TM_isIn : CSt Y_TM_isIn := TB_of (in_t7 0 rfl) rfl
theorem cb_TM_hear : CB Y_TM_hear 2 := ⟨TB_of (in_t7 5 rfl) rfl, TB_of (in_t1 9 rfl) rfl, by decide, by decide, by decide, by decide +kernel⟩
theorem cv_TM_hear : CVt Y_TM_hear := ⟨TB_of (in_t7 3 rfl) rfl, TB_of (in_t7 4 rfl) rfl⟩
theorem cb_TM_isPerson : CB Y_TM_isPerson 1 := ⟨TB_of (in_t7 9 rfl) rfl, TB_of (in_t1 9 rfl) rfl, by decide, by decide, by decide, by decide +kernel⟩
theorem cv_TM_isPerson : CVt Y_TM_isPerson := ⟨TB_of (in_t7 8 rfl) rfl, TB_of (in_p4 5 rfl) rfl⟩
theorem cb_TM_feed : CB Y_TM_feed 5 := ⟨TB_of (in_t7 13 rfl) rfl, TB_of (in_t1 9 rfl) rfl, by decide, by decide, by decide, by decide +kernel⟩
theorem cv_TM_feed : CVt Y_TM_feed := ⟨TB_of (in_t7 11 rfl) rfl, TB_of (in_t7 12 rfl) rfl⟩
theorem cb_TM_four : CB Y_TM_four 1 := ⟨TB_of (in_t7 17 rfl) rfl, TB_of (in_t1 9 rfl) rfl, by decide, by decide, by decide, by decide +kernel⟩
theorem cv_TM_four : CVt Y_TM_four := ⟨TB_of (in_t7 16 rfl) rfl, TB_of (in_p4 6 rfl) rfl⟩
theorem cb_TM_end : CB Y_TM_end 1 := ⟨TB_of (in_t7 21 rfl) rfl, TB_of (in_t1 9 rfl) rfl, by decide, by decide, by decide, by decide +kernel⟩
theorem cv_TM_end : CVt Y_TM_end := ⟨TB_of (in_t7 19 rfl) rfl, TB_of (in_t7 20 rfl) rfl⟩
theorem cb_TM_text : CB Y_TM_text 0 := ⟨TB_of (in_t7 25 rfl) rfl, TB_of (in_t1 9 rfl) rfl, by decide, by decide, by decide, by decide +kernel⟩
theorem cv_TM_text : CVt Y_TM_text := ⟨TB_of (in_t7 23 rfl) rfl, TB_of (in_t7 24 rfl) rfl⟩
theorem cb_TM_readText : CB Y_TM_readText 0 := ⟨TB_of (in_t7 29 rfl) rfl, TB_of (in_t1 9 rfl) rfl, by decide, by decide, by decide, by decide +kernel⟩
theorem cv_TM_readText : CVt Y_TM_readText := ⟨TB_of (in_t7 28 rfl) rfl, TB_of (in_p4 7 rfl) rfl⟩
theorem cb_TM_nextToken : CB Y_TM_nextToken 0 := ⟨TB_of (in_t7 33 rfl) rfl, TB_of (in_t1 9 rfl) rfl, by decide, by decide, by decide, by decide +kernel⟩
theorem cv_TM_nextToken : CVt Y_TM_nextToken := ⟨TB_of (in_t7 32 rfl) rfl, TB_of (in_p4 8 rfl) rfl⟩
theorem cb_TM_byteAt : CB Y_TM_byteAt 1 := ⟨TB_of (in_t7 37 rfl) rfl, TB_of (in_t1 9 rfl) rfl, by decide, by decide, by decide, by decide +kernel⟩
theorem cv_TM_byteAt : CVt Y_TM_byteAt := ⟨TB_of (in_t7 36 rfl) rfl, TB_of (in_p4 9 rfl) rfl⟩
theorem cb_TM_isFigure : CB Y_TM_isFigure 1 := ⟨TB_of (in_t7 40 rfl) rfl, TB_of (in_t1 9 rfl) rfl, by decide, by decide, by decide, by decide +kernel⟩
theorem cs_TM_isFigure : CSt Y_TM_isFigure := TB_of (in_t7 39 rfl) rfl
theorem cb_TM_isLetterByte : CB Y_TM_isLetterByte 1 := ⟨TB_of (in_t7 44 rfl) rfl, TB_of (in_t1 9 rfl) rfl, by decide, by decide, by decide, by decide +kernel⟩
theorem cs_TM_isLetterByte : CSt Y_TM_isLetterByte := TB_of (in_t7 43 rfl) rfl
theorem cb_TM_isSign : CB Y_TM_isSign 1 := ⟨TB_of (in_t7 48 rfl) rfl, TB_of (in_t1 9 rfl) rfl, by decide, by decide, by decide, by decide +kernel⟩
theorem cs_TM_isSign : CSt Y_TM_isSign := TB_of (in_t7 47 rfl) rfl
theorem cb_TM_clause : CB Y_TM_clause 0 := ⟨TB_of (in_t7 52 rfl) rfl, TB_of (in_t1 9 rfl) rfl, by decide, by decide, by decide, by decide +kernel⟩
theorem cv_TM_clause : CVt Y_TM_clause := ⟨TB_of (in_t7 51 rfl) rfl, TB_of (in_p4 10 rfl) rfl⟩
theorem cb_TM_sortOf : CB Y_TM_sortOf 0 := ⟨TB_of (in_t7 56 rfl) rfl, TB_of (in_t1 9 rfl) rfl, by decide, by decide, by decide, by decide +kernel⟩
theorem cv_TM_sortOf : CVt Y_TM_sortOf := ⟨TB_of (in_t7 55 rfl) rfl, TB_of (in_p4 11 rfl) rfl⟩
theorem cb_TM_w4 : CB Y_TM_w4 4 := ⟨TB_of (in_t7 59 rfl) rfl, TB_of (in_t1 9 rfl) rfl, by decide, by decide, by decide, by decide +kernel⟩
theorem cs_TM_w4 : CSt Y_TM_w4 := TB_of (in_t7 58 rfl) rfl
theorem cb_TM_w3 : CB Y_TM_w3 3 := ⟨TB_of (in_t7 62 rfl) rfl, TB_of (in_t1 9 rfl) rfl, by decide, by decide, by decide, by decide +kernel⟩
theorem cs_TM_w3 : CSt Y_TM_w3 := TB_of (in_t7 61 rfl) rfl
theorem cb_TM_w2 : CB Y_TM_w2 2 := ⟨TB_of (in_t7 65 rfl) rfl, TB_of (in_t1 9 rfl) rfl, by decide, by decide, by decide, by decide +kernel⟩
theorem cs_TM_w2 : CSt Y_TM_w2 := TB_of (in_t7 64 rfl) rfl
theorem cb_TM_isWord : CB Y_TM_isWord 1 := ⟨TB_of (in_t7 69 rfl) rfl, TB_of (in_t1 9 rfl) rfl, by decide, by decide, by decide, by decide +kernel⟩
theorem cv_TM_isWord : CVt Y_TM_isWord := ⟨TB_of (in_t7 68 rfl) rfl, TB_of (in_p4 12 rfl) rfl⟩
theorem cb_TM_w5 : CB Y_TM_w5 5 := ⟨TB_of (in_t7 72 rfl) rfl, TB_of (in_t1 9 rfl) rfl, by decide, by decide, by decide, by decide +kernel⟩
theorem cs_TM_w5 : CSt Y_TM_w5 := TB_of (in_t7 71 rfl) rfl
theorem cb_TM_w6 : CB Y_TM_w6 6 := ⟨TB_of (in_t7 75 rfl) rfl, TB_of (in_t1 9 rfl) rfl, by decide, by decide, by decide, by decide +kernel⟩
theorem cs_TM_w6 : CSt Y_TM_w6 := TB_of (in_t7 74 rfl) rfl
theorem cb_TM_has : CB Y_TM_has 2 := ⟨TB_of (in_t7 78 rfl) rfl, TB_of (in_t1 9 rfl) rfl, by decide, by decide, by decide, by decide +kernel⟩
theorem cs_TM_has : CSt Y_TM_has := TB_of (in_t7 77 rfl) rfl
theorem cb_TM_body : CB Y_TM_body 2 := ⟨TB_of (in_t7 82 rfl) rfl, TB_of (in_t1 9 rfl) rfl, by decide, by decide, by decide, by decide +kernel⟩
theorem cv_TM_body : CVt Y_TM_body := ⟨TB_of (in_t7 81 rfl) rfl, TB_of (in_p4 13 rfl) rfl⟩
theorem cb_TM_twoNumbers : CB Y_TM_twoNumbers 4 := ⟨TB_of (in_t7 86 rfl) rfl, TB_of (in_t1 9 rfl) rfl, by decide, by decide, by decide, by decide +kernel⟩
theorem cv_TM_twoNumbers : CVt Y_TM_twoNumbers := ⟨TB_of (in_t7 85 rfl) rfl, TB_of (in_p4 14 rfl) rfl⟩
theorem cb_TM_figure : CB Y_TM_figure 3 := ⟨TB_of (in_t7 90 rfl) rfl, TB_of (in_t1 9 rfl) rfl, by decide, by decide, by decide, by decide +kernel⟩
theorem cv_TM_figure : CVt Y_TM_figure := ⟨TB_of (in_t7 89 rfl) rfl, TB_of (in_p4 15 rfl) rfl⟩
theorem cb_TM_lawClause : CB Y_TM_lawClause 1 := ⟨TB_of (in_t7 94 rfl) rfl, TB_of (in_t1 9 rfl) rfl, by decide, by decide, by decide, by decide +kernel⟩
theorem cv_TM_lawClause : CVt Y_TM_lawClause := ⟨TB_of (in_t7 93 rfl) rfl, TB_of (in_p5 0 rfl) rfl⟩
theorem cb_TM_summed : CB Y_TM_summed 0 := ⟨TB_of (in_t7 98 rfl) rfl, TB_of (in_t1 9 rfl) rfl, by decide, by decide, by decide, by decide +kernel⟩
theorem cv_TM_summed : CVt Y_TM_summed := ⟨TB_of (in_t7 97 rfl) rfl, TB_of (in_p5 1 rfl) rfl⟩
theorem cb_TM_behindOne : CB Y_TM_behindOne 0 := ⟨TB_of (in_t7 102 rfl) rfl, TB_of (in_t1 9 rfl) rfl, by decide, by decide, by decide, by decide +kernel⟩
theorem cv_TM_behindOne : CVt Y_TM_behindOne := ⟨TB_of (in_t7 101 rfl) rfl, TB_of (in_p5 2 rfl) rfl⟩
theorem cb_TM_betweenOf : CB Y_TM_betweenOf 0 := ⟨TB_of (in_t7 106 rfl) rfl, TB_of (in_t1 9 rfl) rfl, by decide, by decide, by decide, by decide +kernel⟩
theorem cv_TM_betweenOf : CVt Y_TM_betweenOf := ⟨TB_of (in_t7 105 rfl) rfl, TB_of (in_p5 3 rfl) rfl⟩
theorem cb_TM_openNow : CB Y_TM_openNow 0 := ⟨TB_of (in_t7 110 rfl) rfl, TB_of (in_t1 9 rfl) rfl, by decide, by decide, by decide, by decide +kernel⟩
theorem cv_TM_openNow : CVt Y_TM_openNow := ⟨TB_of (in_t7 109 rfl) rfl, TB_of (in_p5 4 rfl) rfl⟩
theorem cb_TM_openAt : CB Y_TM_openAt 0 := ⟨TB_of (in_t7 114 rfl) rfl, TB_of (in_t1 9 rfl) rfl, by decide, by decide, by decide, by decide +kernel⟩
theorem cv_TM_openAt : CVt Y_TM_openAt := ⟨TB_of (in_t7 113 rfl) rfl, TB_of (in_p5 5 rfl) rfl⟩
theorem cb_TM_isCompared : CB Y_TM_isCompared 0 := ⟨TB_of (in_t7 118 rfl) rfl, TB_of (in_t1 9 rfl) rfl, by decide, by decide, by decide, by decide +kernel⟩
theorem cv_TM_isCompared : CVt Y_TM_isCompared := ⟨TB_of (in_t7 117 rfl) rfl, TB_of (in_p5 6 rfl) rfl⟩
theorem cb_TM_rank : CB Y_TM_rank 1 := ⟨TB_of (in_t7 121 rfl) rfl, TB_of (in_t1 9 rfl) rfl, by decide, by decide, by decide, by decide +kernel⟩
theorem cs_TM_rank : CSt Y_TM_rank := TB_of (in_t7 120 rfl) rfl
theorem cb_TM_compareOf : CB Y_TM_compareOf 0 := ⟨TB_of (in_t7 125 rfl) rfl, TB_of (in_t1 9 rfl) rfl, by decide, by decide, by decide, by decide +kernel⟩
theorem cv_TM_compareOf : CVt Y_TM_compareOf := ⟨TB_of (in_t7 124 rfl) rfl, TB_of (in_p5 7 rfl) rfl⟩
theorem cb_TM_settle : CB Y_TM_settle 1 := ⟨TB_of (in_t7 129 rfl) rfl, TB_of (in_t1 9 rfl) rfl, by decide, by decide, by decide, by decide +kernel⟩
theorem cv_TM_settle : CVt Y_TM_settle := ⟨TB_of (in_t7 128 rfl) rfl, TB_of (in_p5 8 rfl) rfl⟩
theorem cb_TM_emit : CB Y_TM_emit 2 := ⟨TB_of (in_t7 133 rfl) rfl, TB_of (in_t1 9 rfl) rfl, by decide, by decide, by decide, by decide +kernel⟩
theorem cv_TM_emit : CVt Y_TM_emit := ⟨TB_of (in_t7 132 rfl) rfl, TB_of (in_p5 9 rfl) rfl⟩
theorem cb_TM_partOf : CB Y_TM_partOf 1 := ⟨TB_of (in_t7 137 rfl) rfl, TB_of (in_t1 9 rfl) rfl, by decide, by decide, by decide, by decide +kernel⟩
theorem cv_TM_partOf : CVt Y_TM_partOf := ⟨TB_of (in_t7 136 rfl) rfl, TB_of (in_p5 10 rfl) rfl⟩
theorem cb_TM_beginOne : CB Y_TM_beginOne 0 := ⟨TB_of (in_t7 141 rfl) rfl, TB_of (in_t1 9 rfl) rfl, by decide, by decide, by decide, by decide +kernel⟩
theorem cv_TM_beginOne : CVt Y_TM_beginOne := ⟨TB_of (in_t7 140 rfl) rfl, TB_of (in_p5 11 rfl) rfl⟩
theorem cb_TM_nameOf : CB Y_TM_nameOf 0 := ⟨TB_of (in_t7 145 rfl) rfl, TB_of (in_t1 9 rfl) rfl, by decide, by decide, by decide, by decide +kernel⟩
theorem cv_TM_nameOf : CVt Y_TM_nameOf := ⟨TB_of (in_t7 144 rfl) rfl, TB_of (in_p5 12 rfl) rfl⟩
theorem cb_TM_isOf : CB Y_TM_isOf 1 := ⟨TB_of (in_t7 149 rfl) rfl, TB_of (in_t1 9 rfl) rfl, by decide, by decide, by decide, by decide +kernel⟩
theorem cv_TM_isOf : CVt Y_TM_isOf := ⟨TB_of (in_t7 148 rfl) rfl, TB_of (in_p5 13 rfl) rfl⟩
theorem cb_TM_opened : CB Y_TM_opened 1 := ⟨TB_of (in_t7 153 rfl) rfl, TB_of (in_t1 9 rfl) rfl, by decide, by decide, by decide, by decide +kernel⟩
theorem cv_TM_opened : CVt Y_TM_opened := ⟨TB_of (in_t7 152 rfl) rfl, TB_of (in_p5 14 rfl) rfl⟩
theorem cb_TM_isAskAhead : CB Y_TM_isAskAhead 0 := ⟨TB_of (in_t7 157 rfl) rfl, TB_of (in_t1 9 rfl) rfl, by decide, by decide, by decide, by decide +kernel⟩
theorem cv_TM_isAskAhead : CVt Y_TM_isAskAhead := ⟨TB_of (in_t7 156 rfl) rfl, TB_of (in_p5 15 rfl) rfl⟩
theorem cb_TM_fault : CB Y_TM_fault 1 := ⟨TB_of (in_t7 161 rfl) rfl, TB_of (in_t1 9 rfl) rfl, by decide, by decide, by decide, by decide +kernel⟩
theorem cv_TM_fault : CVt Y_TM_fault := ⟨TB_of (in_t7 159 rfl) rfl, TB_of (in_t7 160 rfl) rfl⟩
theorem cb_TM_by : CB Y_TM_by 1 := ⟨TB_of (in_t7 165 rfl) rfl, TB_of (in_t1 9 rfl) rfl, by decide, by decide, by decide, by decide +kernel⟩
theorem cv_TM_by : CVt Y_TM_by := ⟨TB_of (in_t7 163 rfl) rfl, TB_of (in_t7 164 rfl) rfl⟩
theorem cb_TM_undo : CB Y_TM_undo 0 := ⟨TB_of (in_t7 169 rfl) rfl, TB_of (in_t1 9 rfl) rfl, by decide, by decide, by decide, by decide +kernel⟩
theorem cv_TM_undo : CVt Y_TM_undo := ⟨TB_of (in_t7 167 rfl) rfl, TB_of (in_t7 168 rfl) rfl⟩
theorem cb_TM_tell : CB Y_TM_tell 1 := ⟨TB_of (in_t7 173 rfl) rfl, TB_of (in_t1 9 rfl) rfl, by decide, by decide, by decide, by decide +kernel⟩
theorem cv_TM_tell : CVt Y_TM_tell := ⟨TB_of (in_t7 171 rfl) rfl, TB_of (in_t7 172 rfl) rfl⟩
theorem cb_TM_canBeTold : CB Y_TM_canBeTold 1 := ⟨TB_of (in_t7 177 rfl) rfl, TB_of (in_t1 9 rfl) rfl, by decide, by decide, by decide, by decide +kernel⟩
theorem cv_TM_canBeTold : CVt Y_TM_canBeTold := ⟨TB_of (in_t7 176 rfl) rfl, TB_of (in_p6 0 rfl) rfl⟩
theorem cb_TM_keep : CB Y_TM_keep 0 := ⟨TB_of (in_t7 181 rfl) rfl, TB_of (in_t1 9 rfl) rfl, by decide, by decide, by decide, by decide +kernel⟩
theorem cv_TM_keep : CVt Y_TM_keep := ⟨TB_of (in_t7 180 rfl) rfl, TB_of (in_p6 1 rfl) rfl⟩
theorem cb_TM_pass : CB Y_TM_pass 1 := ⟨TB_of (in_t7 185 rfl) rfl, TB_of (in_t1 9 rfl) rfl, by decide, by decide, by decide, by decide +kernel⟩
theorem cv_TM_pass : CVt Y_TM_pass := ⟨TB_of (in_t7 184 rfl) rfl, TB_of (in_p6 2 rfl) rfl⟩
theorem cb_TM_isYes : CB Y_TM_isYes 2 := ⟨TB_of (in_t7 189 rfl) rfl, TB_of (in_t1 9 rfl) rfl, by decide, by decide, by decide, by decide +kernel⟩
theorem cv_TM_isYes : CVt Y_TM_isYes := ⟨TB_of (in_t7 188 rfl) rfl, TB_of (in_p6 3 rfl) rfl⟩
theorem cb_TM_isYesBy : CB Y_TM_isYesBy 3 := ⟨TB_of (in_t7 193 rfl) rfl, TB_of (in_t1 9 rfl) rfl, by decide, by decide, by decide, by decide +kernel⟩
theorem cv_TM_isYesBy : CVt Y_TM_isYesBy := ⟨TB_of (in_t7 192 rfl) rfl, TB_of (in_p6 4 rfl) rfl⟩
theorem cb_TM_clauseOf : CB Y_TM_clauseOf 2 := ⟨TB_of (in_t7 197 rfl) rfl, TB_of (in_t1 9 rfl) rfl, by decide, by decide, by decide, by decide +kernel⟩
theorem cv_TM_clauseOf : CVt Y_TM_clauseOf := ⟨TB_of (in_t7 196 rfl) rfl, TB_of (in_p6 5 rfl) rfl⟩
theorem cb_TM_name : CB Y_TM_name 3 := ⟨TB_of (in_t7 201 rfl) rfl, TB_of (in_t1 9 rfl) rfl, by decide, by decide, by decide, by decide +kernel⟩
theorem cv_TM_name : CVt Y_TM_name := ⟨TB_of (in_t7 200 rfl) rfl, TB_of (in_p6 6 rfl) rfl⟩
theorem cb_TM_bits : CB Y_TM_bits 1 := ⟨TB_of (in_t7 204 rfl) rfl, TB_of (in_t1 9 rfl) rfl, by decide, by decide, by decide, by decide +kernel⟩
theorem cs_TM_bits : CSt Y_TM_bits := TB_of (in_t7 203 rfl) rfl
theorem cb_TM_isYesBySort : CB Y_TM_isYesBySort 2 := ⟨TB_of (in_t7 208 rfl) rfl, TB_of (in_t1 9 rfl) rfl, by decide, by decide, by decide, by decide +kernel⟩
theorem cv_TM_isYesBySort : CVt Y_TM_isYesBySort := ⟨TB_of (in_t7 207 rfl) rfl, TB_of (in_p6 7 rfl) rfl⟩
theorem cb_TM_summedUp : CB Y_TM_summedUp 2 := ⟨TB_of (in_t7 212 rfl) rfl, TB_of (in_t1 9 rfl) rfl, by decide, by decide, by decide, by decide +kernel⟩
theorem cv_TM_summedUp : CVt Y_TM_summedUp := ⟨TB_of (in_t7 211 rfl) rfl, TB_of (in_p6 8 rfl) rfl⟩
theorem cb_TM_ofOne : CB Y_TM_ofOne 2 := ⟨TB_of (in_t7 216 rfl) rfl, TB_of (in_t1 9 rfl) rfl, by decide, by decide, by decide, by decide +kernel⟩
theorem cv_TM_ofOne : CVt Y_TM_ofOne := ⟨TB_of (in_t7 215 rfl) rfl, TB_of (in_p6 9 rfl) rfl⟩
theorem cb_TM_twoBy : CB Y_TM_twoBy 3 := ⟨TB_of (in_t7 219 rfl) rfl, TB_of (in_t1 9 rfl) rfl, by decide, by decide, by decide, by decide +kernel⟩
theorem cs_TM_twoBy : CSt Y_TM_twoBy := TB_of (in_t7 218 rfl) rfl
theorem cb_TM_clip : CB Y_TM_clip 1 := ⟨TB_of (in_t7 222 rfl) rfl, TB_of (in_t1 9 rfl) rfl, by decide, by decide, by decide, by decide +kernel⟩
theorem cs_TM_clip : CSt Y_TM_clip := TB_of (in_t7 221 rfl) rfl
theorem cb_TM_isAsked : CB Y_TM_isAsked 3 := ⟨TB_of (in_t7 227 rfl) rfl, TB_of (in_t1 9 rfl) rfl, by decide, by decide, by decide, by decide +kernel⟩
theorem cs_TM_isAsked : CSt Y_TM_isAsked := TB_of (in_t7 226 rfl) rfl
theorem cb_TM_joined : CB Y_TM_joined 3 := ⟨TB_of (in_t7 230 rfl) rfl, TB_of (in_t1 9 rfl) rfl, by decide, by decide, by decide, by decide +kernel⟩
theorem cs_TM_joined : CSt Y_TM_joined := TB_of (in_t7 229 rfl) rfl
theorem cb_TM_drawnBy : CB Y_TM_drawnBy 1 := ⟨TB_of (in_t7 234 rfl) rfl, TB_of (in_t1 9 rfl) rfl, by decide, by decide, by decide, by decide +kernel⟩
theorem cv_TM_drawnBy : CVt Y_TM_drawnBy := ⟨TB_of (in_t7 233 rfl) rfl, TB_of (in_p6 10 rfl) rfl⟩
theorem cb_TM_anew : CB Y_TM_anew 0 := ⟨TB_of (in_t7 238 rfl) rfl, TB_of (in_t1 9 rfl) rfl, by decide, by decide, by decide, by decide +kernel⟩
theorem cv_TM_anew : CVt Y_TM_anew := ⟨TB_of (in_t7 237 rfl) rfl, TB_of (in_p6 11 rfl) rfl⟩
theorem cb_TM_swaysOf : CB Y_TM_swaysOf 3 := ⟨TB_of (in_t8 5 rfl) rfl, TB_of (in_t1 9 rfl) rfl, by decide, by decide, by decide, by decide +kernel⟩
theorem cv_TM_swaysOf : CVt Y_TM_swaysOf := ⟨TB_of (in_t8 4 rfl) rfl, TB_of (in_p6 12 rfl) rfl⟩
theorem cb_TM_held : CB Y_TM_held 3 := ⟨TB_of (in_t8 8 rfl) rfl, TB_of (in_t1 9 rfl) rfl, by decide, by decide, by decide, by decide +kernel⟩
theorem cs_TM_held : CSt Y_TM_held := TB_of (in_t8 7 rfl) rfl
theorem cb_TM_write : CB Y_TM_write 2 := ⟨TB_of (in_t8 12 rfl) rfl, TB_of (in_t1 9 rfl) rfl, by decide, by decide, by decide, by decide +kernel⟩
theorem cv_TM_write : CVt Y_TM_write := ⟨TB_of (in_t8 11 rfl) rfl, TB_of (in_p6 13 rfl) rfl⟩
theorem cb_TM_nudge : CB Y_TM_nudge 2 := ⟨TB_of (in_t8 16 rfl) rfl, TB_of (in_t1 9 rfl) rfl, by decide, by decide, by decide, by decide +kernel⟩
theorem cv_TM_nudge : CVt Y_TM_nudge := ⟨TB_of (in_t8 14 rfl) rfl, TB_of (in_t8 15 rfl) rfl⟩
theorem cb_TM_canNudge : CB Y_TM_canNudge 2 := ⟨TB_of (in_t8 20 rfl) rfl, TB_of (in_t1 9 rfl) rfl, by decide, by decide, by decide, by decide +kernel⟩
theorem cv_TM_canNudge : CVt Y_TM_canNudge := ⟨TB_of (in_t8 19 rfl) rfl, TB_of (in_p6 14 rfl) rfl⟩
theorem cb_TM_day : CB Y_TM_day 1 := ⟨TB_of (in_t8 24 rfl) rfl, TB_of (in_t1 9 rfl) rfl, by decide, by decide, by decide, by decide +kernel⟩
theorem cv_TM_day : CVt Y_TM_day := ⟨TB_of (in_t8 22 rfl) rfl, TB_of (in_t8 23 rfl) rfl⟩
theorem cb_TM_arePassed : CB Y_TM_arePassed 1 := ⟨TB_of (in_t8 28 rfl) rfl, TB_of (in_t1 9 rfl) rfl, by decide, by decide, by decide, by decide +kernel⟩
theorem cv_TM_arePassed : CVt Y_TM_arePassed := ⟨TB_of (in_t8 27 rfl) rfl, TB_of (in_p6 15 rfl) rfl⟩
theorem cb_TM_played : CB Y_TM_played 1 := ⟨TB_of (in_t8 33 rfl) rfl, TB_of (in_t1 9 rfl) rfl, by decide, by decide, by decide, by decide +kernel⟩
theorem cv_TM_played : CVt Y_TM_played := ⟨TB_of (in_t8 31 rfl) rfl, TB_of (in_t8 32 rfl) rfl⟩
theorem cb_TM_isPlayed : CB Y_TM_isPlayed 1 := ⟨TB_of (in_t8 37 rfl) rfl, TB_of (in_t1 9 rfl) rfl, by decide, by decide, by decide, by decide +kernel⟩
theorem cv_TM_isPlayed : CVt Y_TM_isPlayed := ⟨TB_of (in_t8 36 rfl) rfl, TB_of (in_p7 0 rfl) rfl⟩
theorem cb_TM_years : CB Y_TM_years 2 := ⟨TB_of (in_t8 44 rfl) rfl, TB_of (in_t1 9 rfl) rfl, by decide, by decide, by decide, by decide +kernel⟩
theorem cv_TM_years : CVt Y_TM_years := ⟨TB_of (in_t8 42 rfl) rfl, TB_of (in_t8 43 rfl) rfl⟩
theorem cb_TM_happens : CB Y_TM_happens 1 := ⟨TB_of (in_t8 48 rfl) rfl, TB_of (in_t1 9 rfl) rfl, by decide, by decide, by decide, by decide +kernel⟩
theorem cv_TM_happens : CVt Y_TM_happens := ⟨TB_of (in_t8 47 rfl) rfl, TB_of (in_p7 1 rfl) rfl⟩
theorem cb_TM_of : CB Y_TM_of 2 := ⟨TB_of (in_t8 52 rfl) rfl, TB_of (in_t1 9 rfl) rfl, by decide, by decide, by decide, by decide +kernel⟩
theorem cv_TM_of : CVt Y_TM_of := ⟨TB_of (in_t8 50 rfl) rfl, TB_of (in_t8 51 rfl) rfl⟩
theorem cb_TM_says : CB Y_TM_says 2 := ⟨TB_of (in_t8 56 rfl) rfl, TB_of (in_t1 9 rfl) rfl, by decide, by decide, by decide, by decide +kernel⟩
theorem cv_TM_says : CVt Y_TM_says := ⟨TB_of (in_t8 54 rfl) rfl, TB_of (in_t8 55 rfl) rfl⟩
theorem cb_TM_is : CB Y_TM_is 1 := ⟨TB_of (in_t8 60 rfl) rfl, TB_of (in_t1 9 rfl) rfl, by decide, by decide, by decide, by decide +kernel⟩
theorem cv_TM_is : CVt Y_TM_is := ⟨TB_of (in_t8 58 rfl) rfl, TB_of (in_t8 59 rfl) rfl⟩
theorem cb_TM_book : CB Y_TM_book 2 := ⟨TB_of (in_t8 64 rfl) rfl, TB_of (in_t1 9 rfl) rfl, by decide, by decide, by decide, by decide +kernel⟩
theorem cv_TM_book : CVt Y_TM_book := ⟨TB_of (in_t8 62 rfl) rfl, TB_of (in_t8 63 rfl) rfl⟩
theorem cb_TM_lineOf : CB Y_TM_lineOf 2 := ⟨TB_of (in_t8 68 rfl) rfl, TB_of (in_t1 9 rfl) rfl, by decide, by decide, by decide, by decide +kernel⟩
theorem cv_TM_lineOf : CVt Y_TM_lineOf := ⟨TB_of (in_t8 67 rfl) rfl, TB_of (in_p7 2 rfl) rfl⟩
theorem cb_TM_ledger : CB Y_TM_ledger 1 := ⟨TB_of (in_t8 72 rfl) rfl, TB_of (in_t1 9 rfl) rfl, by decide, by decide, by decide, by decide +kernel⟩
theorem cv_TM_ledger : CVt Y_TM_ledger := ⟨TB_of (in_t8 70 rfl) rfl, TB_of (in_t8 71 rfl) rfl⟩
theorem cb_TM_changes : CB Y_TM_changes 0 := ⟨TB_of (in_t8 76 rfl) rfl, TB_of (in_t1 9 rfl) rfl, by decide, by decide, by decide, by decide +kernel⟩
theorem cv_TM_changes : CVt Y_TM_changes := ⟨TB_of (in_t8 74 rfl) rfl, TB_of (in_t8 75 rfl) rfl⟩
theorem cb_TM_foretold : CB Y_TM_foretold 2 := ⟨TB_of (in_t8 80 rfl) rfl, TB_of (in_t1 9 rfl) rfl, by decide, by decide, by decide, by decide +kernel⟩
theorem cv_TM_foretold : CVt Y_TM_foretold := ⟨TB_of (in_t8 78 rfl) rfl, TB_of (in_t8 79 rfl) rfl⟩
theorem cb_TM_comes : CB Y_TM_comes 1 := ⟨TB_of (in_t8 84 rfl) rfl, TB_of (in_t1 9 rfl) rfl, by decide, by decide, by decide, by decide +kernel⟩
theorem cv_TM_comes : CVt Y_TM_comes := ⟨TB_of (in_t8 82 rfl) rfl, TB_of (in_t8 83 rfl) rfl⟩
theorem cb_TM_comesOf : CB Y_TM_comesOf 1 := ⟨TB_of (in_t8 88 rfl) rfl, TB_of (in_t1 9 rfl) rfl, by decide, by decide, by decide, by decide +kernel⟩
theorem cv_TM_comesOf : CVt Y_TM_comesOf := ⟨TB_of (in_t8 87 rfl) rfl, TB_of (in_p7 3 rfl) rfl⟩
theorem cb_TM_yesTo : CB Y_TM_yesTo 1 := ⟨TB_of (in_t8 92 rfl) rfl, TB_of (in_t1 9 rfl) rfl, by decide, by decide, by decide, by decide +kernel⟩
theorem cv_TM_yesTo : CVt Y_TM_yesTo := ⟨TB_of (in_t8 91 rfl) rfl, TB_of (in_p7 4 rfl) rfl⟩
theorem cb_TM_trues : CB Y_TM_trues 0 := ⟨TB_of (in_t8 96 rfl) rfl, TB_of (in_t1 9 rfl) rfl, by decide, by decide, by decide, by decide +kernel⟩
theorem cv_TM_trues : CVt Y_TM_trues := ⟨TB_of (in_t8 94 rfl) rfl, TB_of (in_t8 95 rfl) rfl⟩
theorem cb_TM_firm : CB Y_TM_firm 0 := ⟨TB_of (in_t8 100 rfl) rfl, TB_of (in_t1 9 rfl) rfl, by decide, by decide, by decide, by decide +kernel⟩
theorem cv_TM_firm : CVt Y_TM_firm := ⟨TB_of (in_t8 98 rfl) rfl, TB_of (in_t8 99 rfl) rfl⟩
theorem cb_TM_isFirm : CB Y_TM_isFirm 1 := ⟨TB_of (in_t8 104 rfl) rfl, TB_of (in_t1 9 rfl) rfl, by decide, by decide, by decide, by decide +kernel⟩
theorem cv_TM_isFirm : CVt Y_TM_isFirm := ⟨TB_of (in_t8 103 rfl) rfl, TB_of (in_p7 5 rfl) rfl⟩
theorem cb_TM_ends : CB Y_TM_ends 2 := ⟨TB_of (in_t8 108 rfl) rfl, TB_of (in_t1 9 rfl) rfl, by decide, by decide, by decide, by decide +kernel⟩
theorem cv_TM_ends : CVt Y_TM_ends := ⟨TB_of (in_t8 106 rfl) rfl, TB_of (in_t8 107 rfl) rfl⟩
theorem cb_TM_layNext : CB Y_TM_layNext 0 := ⟨TB_of (in_t8 112 rfl) rfl, TB_of (in_t1 9 rfl) rfl, by decide, by decide, by decide, by decide +kernel⟩
theorem cv_TM_layNext : CVt Y_TM_layNext := ⟨TB_of (in_t8 111 rfl) rfl, TB_of (in_p7 6 rfl) rfl⟩
theorem cb_TM_tillRing : CB Y_TM_tillRing 1 := ⟨TB_of (in_t8 116 rfl) rfl, TB_of (in_t1 9 rfl) rfl, by decide, by decide, by decide, by decide +kernel⟩
theorem cv_TM_tillRing : CVt Y_TM_tillRing := ⟨TB_of (in_t8 115 rfl) rfl, TB_of (in_p7 7 rfl) rfl⟩
theorem cb_TM_behind : CB Y_TM_behind 2 := ⟨TB_of (in_t8 120 rfl) rfl, TB_of (in_t1 9 rfl) rfl, by decide, by decide, by decide, by decide +kernel⟩
theorem cv_TM_behind : CVt Y_TM_behind := ⟨TB_of (in_t8 119 rfl) rfl, TB_of (in_p7 8 rfl) rfl⟩
theorem cb_TM_ringOf : CB Y_TM_ringOf 1 := ⟨TB_of (in_t8 124 rfl) rfl, TB_of (in_t1 9 rfl) rfl, by decide, by decide, by decide, by decide +kernel⟩
theorem cv_TM_ringOf : CVt Y_TM_ringOf := ⟨TB_of (in_t8 123 rfl) rfl, TB_of (in_p7 9 rfl) rfl⟩
theorem cb_TM_lowestOfRing : CB Y_TM_lowestOfRing 1 := ⟨TB_of (in_t8 128 rfl) rfl, TB_of (in_t1 9 rfl) rfl, by decide, by decide, by decide, by decide +kernel⟩
theorem cv_TM_lowestOfRing : CVt Y_TM_lowestOfRing := ⟨TB_of (in_t8 127 rfl) rfl, TB_of (in_p7 10 rfl) rfl⟩
theorem cb_TM_till : CB Y_TM_till 1 := ⟨TB_of (in_t8 132 rfl) rfl, TB_of (in_t1 9 rfl) rfl, by decide, by decide, by decide, by decide +kernel⟩
theorem cv_TM_till : CVt Y_TM_till := ⟨TB_of (in_t8 130 rfl) rfl, TB_of (in_t8 131 rfl) rfl⟩
theorem cb_TM_leads : CB Y_TM_leads 1 := ⟨TB_of (in_t8 136 rfl) rfl, TB_of (in_t1 9 rfl) rfl, by decide, by decide, by decide, by decide +kernel⟩
theorem cv_TM_leads : CVt Y_TM_leads := ⟨TB_of (in_t8 134 rfl) rfl, TB_of (in_t8 135 rfl) rfl⟩
theorem cb_TM_rings : CB Y_TM_rings 0 := ⟨TB_of (in_t8 140 rfl) rfl, TB_of (in_t1 9 rfl) rfl, by decide, by decide, by decide, by decide +kernel⟩
theorem cv_TM_rings : CVt Y_TM_rings := ⟨TB_of (in_t8 138 rfl) rfl, TB_of (in_t8 139 rfl) rfl⟩
theorem cb_TM_nearest : CB Y_TM_nearest 0 := ⟨TB_of (in_t8 144 rfl) rfl, TB_of (in_t1 9 rfl) rfl, by decide, by decide, by decide, by decide +kernel⟩
theorem cv_TM_nearest : CVt Y_TM_nearest := ⟨TB_of (in_t8 142 rfl) rfl, TB_of (in_t8 143 rfl) rfl⟩
theorem cb_TM_apartBy : CB Y_TM_apartBy 2 := ⟨TB_of (in_t8 147 rfl) rfl, TB_of (in_t1 9 rfl) rfl, by decide, by decide, by decide, by decide +kernel⟩
theorem cs_TM_apartBy : CSt Y_TM_apartBy := TB_of (in_t8 146 rfl) rfl
theorem cb_TM_path : CB Y_TM_path 3 := ⟨TB_of (in_t8 151 rfl) rfl, TB_of (in_t1 9 rfl) rfl, by decide, by decide, by decide, by decide +kernel⟩
theorem cv_TM_path : CVt Y_TM_path := ⟨TB_of (in_t8 149 rfl) rfl, TB_of (in_t8 150 rfl) rfl⟩
theorem cb_TM_win : CB Y_TM_win 2 := ⟨TB_of (in_t8 155 rfl) rfl, TB_of (in_t1 9 rfl) rfl, by decide, by decide, by decide, by decide +kernel⟩
theorem cv_TM_win : CVt Y_TM_win := ⟨TB_of (in_t8 153 rfl) rfl, TB_of (in_t8 154 rfl) rfl⟩
theorem cb_TM_everyone : CB Y_TM_everyone 0 := ⟨TB_of (in_t8 159 rfl) rfl, TB_of (in_t1 9 rfl) rfl, by decide, by decide, by decide, by decide +kernel⟩
theorem cv_TM_everyone : CVt Y_TM_everyone := ⟨TB_of (in_t8 158 rfl) rfl, TB_of (in_p7 11 rfl) rfl⟩
theorem cb_TM_two : CB Y_TM_two 3 := ⟨TB_of (in_t8 163 rfl) rfl, TB_of (in_t1 9 rfl) rfl, by decide, by decide, by decide, by decide +kernel⟩
theorem cv_TM_two : CVt Y_TM_two := ⟨TB_of (in_t8 161 rfl) rfl, TB_of (in_t8 162 rfl) rfl⟩
theorem cb_TM_areTrue : CB Y_TM_areTrue 5 := ⟨TB_of (in_t8 167 rfl) rfl, TB_of (in_t1 9 rfl) rfl, by decide, by decide, by decide, by decide +kernel⟩
theorem cs_TM_areTrue : CSt Y_TM_areTrue := TB_of (in_t8 166 rfl) rfl
theorem cb_TM_split : CB Y_TM_split 2 := ⟨TB_of (in_t8 171 rfl) rfl, TB_of (in_t1 9 rfl) rfl, by decide, by decide, by decide, by decide +kernel⟩
theorem cv_TM_split : CVt Y_TM_split := ⟨TB_of (in_t8 169 rfl) rfl, TB_of (in_t8 170 rfl) rfl⟩
theorem cb_TM_mind : CB Y_TM_mind 2 := ⟨TB_of (in_t8 175 rfl) rfl, TB_of (in_t1 9 rfl) rfl, by decide, by decide, by decide, by decide +kernel⟩
theorem cv_TM_mind : CVt Y_TM_mind := ⟨TB_of (in_t8 173 rfl) rfl, TB_of (in_t8 174 rfl) rfl⟩
theorem cb_TM_unasked : CB Y_TM_unasked 1 := ⟨TB_of (in_t8 179 rfl) rfl, TB_of (in_t1 9 rfl) rfl, by decide, by decide, by decide, by decide +kernel⟩
theorem cv_TM_unasked : CVt Y_TM_unasked := ⟨TB_of (in_t8 177 rfl) rfl, TB_of (in_t8 178 rfl) rfl⟩
theorem cb_TM_yesToAny : CB Y_TM_yesToAny 0 := ⟨TB_of (in_t8 183 rfl) rfl, TB_of (in_t1 9 rfl) rfl, by decide, by decide, by decide, by decide +kernel⟩
theorem cv_TM_yesToAny : CVt Y_TM_yesToAny := ⟨TB_of (in_t8 182 rfl) rfl, TB_of (in_p7 12 rfl) rfl⟩
theorem cb_TM_yesToAll : CB Y_TM_yesToAll 0 := ⟨TB_of (in_t8 187 rfl) rfl, TB_of (in_t1 9 rfl) rfl, by decide, by decide, by decide, by decide +kernel⟩
theorem cv_TM_yesToAll : CVt Y_TM_yesToAll := ⟨TB_of (in_t8 186 rfl) rfl, TB_of (in_p7 13 rfl) rfl⟩
theorem cb_TM_honest : CB Y_TM_honest 0 := ⟨TB_of (in_t8 191 rfl) rfl, TB_of (in_t1 9 rfl) rfl, by decide, by decide, by decide, by decide +kernel⟩
theorem cv_TM_honest : CVt Y_TM_honest := ⟨TB_of (in_t8 189 rfl) rfl, TB_of (in_t8 190 rfl) rfl⟩
theorem cb_TM_alike : CB Y_TM_alike 2 := ⟨TB_of (in_t8 195 rfl) rfl, TB_of (in_t1 9 rfl) rfl, by decide, by decide, by decide, by decide +kernel⟩
theorem cv_TM_alike : CVt Y_TM_alike := ⟨TB_of (in_t8 193 rfl) rfl, TB_of (in_t8 194 rfl) rfl⟩
theorem cb_TM_alikeOf : CB Y_TM_alikeOf 2 := ⟨TB_of (in_t8 199 rfl) rfl, TB_of (in_t1 9 rfl) rfl, by decide, by decide, by decide, by decide +kernel⟩
theorem cv_TM_alikeOf : CVt Y_TM_alikeOf := ⟨TB_of (in_t8 198 rfl) rfl, TB_of (in_p7 14 rfl) rfl⟩
theorem cb_TM_pair : CB Y_TM_pair 1 := ⟨TB_of (in_t8 203 rfl) rfl, TB_of (in_t1 9 rfl) rfl, by decide, by decide, by decide, by decide +kernel⟩
theorem cv_TM_pair : CVt Y_TM_pair := ⟨TB_of (in_t8 201 rfl) rfl, TB_of (in_t8 202 rfl) rfl⟩
theorem cb_TM_move : CB Y_TM_move 2 := ⟨TB_of (in_t8 207 rfl) rfl, TB_of (in_t1 9 rfl) rfl, by decide, by decide, by decide, by decide +kernel⟩
theorem cv_TM_move : CVt Y_TM_move := ⟨TB_of (in_t8 205 rfl) rfl, TB_of (in_t8 206 rfl) rfl⟩
theorem cb_TM_moveOf : CB Y_TM_moveOf 2 := ⟨TB_of (in_t8 211 rfl) rfl, TB_of (in_t1 9 rfl) rfl, by decide, by decide, by decide, by decide +kernel⟩
theorem cv_TM_moveOf : CVt Y_TM_moveOf := ⟨TB_of (in_t8 210 rfl) rfl, TB_of (in_p7 15 rfl) rfl⟩
theorem cb_TM_saysByLean : CB Y_TM_saysByLean 3 := ⟨TB_of (in_t8 215 rfl) rfl, TB_of (in_t1 9 rfl) rfl, by decide, by decide, by decide, by decide +kernel⟩
theorem cv_TM_saysByLean : CVt Y_TM_saysByLean := ⟨TB_of (in_t8 214 rfl) rfl, TB_of (in_p8 0 rfl) rfl⟩
theorem cb_TM_cheapest : CB Y_TM_cheapest 1 := ⟨TB_of (in_t8 219 rfl) rfl, TB_of (in_t1 9 rfl) rfl, by decide, by decide, by decide, by decide +kernel⟩
theorem cv_TM_cheapest : CVt Y_TM_cheapest := ⟨TB_of (in_t8 217 rfl) rfl, TB_of (in_t8 218 rfl) rfl⟩
theorem cb_TM_layPrices : CB Y_TM_layPrices 2 := ⟨TB_of (in_t8 223 rfl) rfl, TB_of (in_t1 9 rfl) rfl, by decide, by decide, by decide, by decide +kernel⟩
theorem cv_TM_layPrices : CVt Y_TM_layPrices := ⟨TB_of (in_t8 222 rfl) rfl, TB_of (in_p8 1 rfl) rfl⟩
theorem cb_TM_sure : CB Y_TM_sure 3 := ⟨TB_of (in_t8 227 rfl) rfl, TB_of (in_t1 9 rfl) rfl, by decide, by decide, by decide, by decide +kernel⟩
theorem cv_TM_sure : CVt Y_TM_sure := ⟨TB_of (in_t8 225 rfl) rfl, TB_of (in_t8 226 rfl) rfl⟩
theorem cb_TM_tenths : CB Y_TM_tenths 3 := ⟨TB_of (in_t8 232 rfl) rfl, TB_of (in_t1 9 rfl) rfl, by decide, by decide, by decide, by decide +kernel⟩
theorem cv_TM_tenths : CVt Y_TM_tenths := ⟨TB_of (in_t8 231 rfl) rfl, TB_of (in_p8 2 rfl) rfl⟩
theorem cb_TM_part0 : CB Y_TM_part0 3 := ⟨TB_of (in_t8 236 rfl) rfl, TB_of (in_t1 9 rfl) rfl, by decide, by decide, by decide, by decide +kernel⟩
theorem cs_TM_part0 : CSt Y_TM_part0 := TB_of (in_t8 235 rfl) rfl
theorem cb_TM_divisor : CB Y_TM_divisor 2 := ⟨TB_of (in_t8 239 rfl) rfl, TB_of (in_t1 9 rfl) rfl, by decide, by decide, by decide, by decide +kernel⟩
theorem cs_TM_divisor : CSt Y_TM_divisor := TB_of (in_t8 238 rfl) rfl
theorem cb_TM_mean : CB Y_TM_mean 2 := ⟨TB_of (in_t9 3 rfl) rfl, TB_of (in_t1 9 rfl) rfl, by decide, by decide, by decide, by decide +kernel⟩
theorem cv_TM_mean : CVt Y_TM_mean := ⟨TB_of (in_t9 1 rfl) rfl, TB_of (in_t9 2 rfl) rfl⟩
theorem cb_TM_reach : CB Y_TM_reach 1 := ⟨TB_of (in_t9 7 rfl) rfl, TB_of (in_t1 9 rfl) rfl, by decide, by decide, by decide, by decide +kernel⟩
theorem cv_TM_reach : CVt Y_TM_reach := ⟨TB_of (in_t9 5 rfl) rfl, TB_of (in_t9 6 rfl) rfl⟩
theorem cb_TM_heardBy : CB Y_TM_heardBy 1 := ⟨TB_of (in_t9 11 rfl) rfl, TB_of (in_t1 9 rfl) rfl, by decide, by decide, by decide, by decide +kernel⟩
theorem cv_TM_heardBy : CVt Y_TM_heardBy := ⟨TB_of (in_t9 10 rfl) rfl, TB_of (in_p8 3 rfl) rfl⟩
theorem cb_TM_circles : CB Y_TM_circles 0 := ⟨TB_of (in_t9 15 rfl) rfl, TB_of (in_t1 9 rfl) rfl, by decide, by decide, by decide, by decide +kernel⟩
theorem cv_TM_circles : CVt Y_TM_circles := ⟨TB_of (in_t9 13 rfl) rfl, TB_of (in_t9 14 rfl) rfl⟩
theorem cb_TM_loud : CB Y_TM_loud 0 := ⟨TB_of (in_t9 19 rfl) rfl, TB_of (in_t1 9 rfl) rfl, by decide, by decide, by decide, by decide +kernel⟩
theorem cv_TM_loud : CVt Y_TM_loud := ⟨TB_of (in_t9 17 rfl) rfl, TB_of (in_t9 18 rfl) rfl⟩
theorem cb_TM_hearers : CB Y_TM_hearers 1 := ⟨TB_of (in_t9 23 rfl) rfl, TB_of (in_t1 9 rfl) rfl, by decide, by decide, by decide, by decide +kernel⟩
theorem cv_TM_hearers : CVt Y_TM_hearers := ⟨TB_of (in_t9 22 rfl) rfl, TB_of (in_p8 4 rfl) rfl⟩
theorem cb_TM_part : CB Y_TM_part 0 := ⟨TB_of (in_t9 27 rfl) rfl, TB_of (in_t1 9 rfl) rfl, by decide, by decide, by decide, by decide +kernel⟩
theorem cv_TM_part : CVt Y_TM_part := ⟨TB_of (in_t9 25 rfl) rfl, TB_of (in_t9 26 rfl) rfl⟩
theorem cb_TM_unlikeBy : CB Y_TM_unlikeBy 1 := ⟨TB_of (in_t9 31 rfl) rfl, TB_of (in_t1 9 rfl) rfl, by decide, by decide, by decide, by decide +kernel⟩
theorem cv_TM_unlikeBy : CVt Y_TM_unlikeBy := ⟨TB_of (in_t9 30 rfl) rfl, TB_of (in_p8 5 rfl) rfl⟩
theorem cb_TM_countBy : CB Y_TM_countBy 2 := ⟨TB_of (in_t9 35 rfl) rfl, TB_of (in_t1 9 rfl) rfl, by decide, by decide, by decide, by decide +kernel⟩
theorem cv_TM_countBy : CVt Y_TM_countBy := ⟨TB_of (in_t9 34 rfl) rfl, TB_of (in_p8 6 rfl) rfl⟩
theorem cb_TM_game : CB Y_TM_game 1 := ⟨TB_of (in_t9 39 rfl) rfl, TB_of (in_t1 9 rfl) rfl, by decide, by decide, by decide, by decide +kernel⟩
theorem cv_TM_game : CVt Y_TM_game := ⟨TB_of (in_t9 37 rfl) rfl, TB_of (in_t9 38 rfl) rfl⟩
theorem cb_TM_layGames : CB Y_TM_layGames 1 := ⟨TB_of (in_t9 43 rfl) rfl, TB_of (in_t1 9 rfl) rfl, by decide, by decide, by decide, by decide +kernel⟩
theorem cv_TM_layGames : CVt Y_TM_layGames := ⟨TB_of (in_t9 42 rfl) rfl, TB_of (in_p8 7 rfl) rfl⟩
theorem cb_TM_canTell : CB Y_TM_canTell 2 := ⟨TB_of (in_t9 47 rfl) rfl, TB_of (in_t1 9 rfl) rfl, by decide, by decide, by decide, by decide +kernel⟩
theorem cv_TM_canTell : CVt Y_TM_canTell := ⟨TB_of (in_t9 46 rfl) rfl, TB_of (in_p8 8 rfl) rfl⟩
theorem cb_TM_byTold : CB Y_TM_byTold 2 := ⟨TB_of (in_t9 51 rfl) rfl, TB_of (in_t1 9 rfl) rfl, by decide, by decide, by decide, by decide +kernel⟩
theorem cv_TM_byTold : CVt Y_TM_byTold := ⟨TB_of (in_t9 50 rfl) rfl, TB_of (in_p8 9 rfl) rfl⟩
theorem cb_TM_choice : CB Y_TM_choice 1 := ⟨TB_of (in_t9 55 rfl) rfl, TB_of (in_t1 9 rfl) rfl, by decide, by decide, by decide, by decide +kernel⟩
theorem cv_TM_choice : CVt Y_TM_choice := ⟨TB_of (in_t9 53 rfl) rfl, TB_of (in_t9 54 rfl) rfl⟩
theorem cb_TM_party : CB Y_TM_party 2 := ⟨TB_of (in_t9 59 rfl) rfl, TB_of (in_t1 9 rfl) rfl, by decide, by decide, by decide, by decide +kernel⟩
theorem cv_TM_party : CVt Y_TM_party := ⟨TB_of (in_t9 57 rfl) rfl, TB_of (in_t9 58 rfl) rfl⟩
theorem cb_TM_lives : CB Y_TM_lives 1 := ⟨TB_of (in_t9 63 rfl) rfl, TB_of (in_t1 9 rfl) rfl, by decide, by decide, by decide, by decide +kernel⟩
theorem cv_TM_lives : CVt Y_TM_lives := ⟨TB_of (in_t9 61 rfl) rfl, TB_of (in_t9 62 rfl) rfl⟩
theorem cb_TM_livesBy : CB Y_TM_livesBy 1 := ⟨TB_of (in_t9 67 rfl) rfl, TB_of (in_t1 9 rfl) rfl, by decide, by decide, by decide, by decide +kernel⟩
theorem cv_TM_livesBy : CVt Y_TM_livesBy := ⟨TB_of (in_t9 66 rfl) rfl, TB_of (in_p8 10 rfl) rfl⟩
theorem cb_TM_most : CB Y_TM_most 0 := ⟨TB_of (in_t9 71 rfl) rfl, TB_of (in_t1 9 rfl) rfl, by decide, by decide, by decide, by decide +kernel⟩
theorem cv_TM_most : CVt Y_TM_most := ⟨TB_of (in_t9 69 rfl) rfl, TB_of (in_t9 70 rfl) rfl⟩
theorem cb_TM_fewest : CB Y_TM_fewest 1 := ⟨TB_of (in_t9 75 rfl) rfl, TB_of (in_t1 9 rfl) rfl, by decide, by decide, by decide, by decide +kernel⟩
theorem cv_TM_fewest : CVt Y_TM_fewest := ⟨TB_of (in_t9 73 rfl) rfl, TB_of (in_t9 74 rfl) rfl⟩
theorem cb_TM_doAllLive : CB Y_TM_doAllLive 1 := ⟨TB_of (in_t9 79 rfl) rfl, TB_of (in_t1 9 rfl) rfl, by decide, by decide, by decide, by decide +kernel⟩
theorem cv_TM_doAllLive : CVt Y_TM_doAllLive := ⟨TB_of (in_t9 78 rfl) rfl, TB_of (in_p8 11 rfl) rfl⟩
theorem cb_TM_decimal : CB Y_TM_decimal 3 := ⟨TB_of (in_t9 83 rfl) rfl, TB_of (in_t1 9 rfl) rfl, by decide, by decide, by decide, by decide +kernel⟩
theorem cv_TM_decimal : CVt Y_TM_decimal := ⟨TB_of (in_t9 81 rfl) rfl, TB_of (in_t9 82 rfl) rfl⟩
theorem cb_TM_isPart : CB Y_TM_isPart 2 := ⟨TB_of (in_t9 86 rfl) rfl, TB_of (in_t1 9 rfl) rfl, by decide, by decide, by decide, by decide +kernel⟩
theorem cs_TM_isPart : CSt Y_TM_isPart := TB_of (in_t9 85 rfl) rfl
theorem cb_TM_leftBehind : CB Y_TM_leftBehind 3 := ⟨TB_of (in_t9 89 rfl) rfl, TB_of (in_t1 9 rfl) rfl, by decide, by decide, by decide, by decide +kernel⟩
theorem cs_TM_leftBehind : CSt Y_TM_leftBehind := TB_of (in_t9 88 rfl) rfl
theorem cb_TM_decimals : CB Y_TM_decimals 3 := ⟨TB_of (in_t9 93 rfl) rfl, TB_of (in_t1 9 rfl) rfl, by decide, by decide, by decide, by decide +kernel⟩
theorem cv_TM_decimals : CVt Y_TM_decimals := ⟨TB_of (in_t9 91 rfl) rfl, TB_of (in_t9 92 rfl) rfl⟩
theorem cb_TM_village : CB Y_TM_village 2 := ⟨TB_of (in_t9 97 rfl) rfl, TB_of (in_t1 9 rfl) rfl, by decide, by decide, by decide, by decide +kernel⟩
theorem cv_TM_village : CVt Y_TM_village := ⟨TB_of (in_t9 95 rfl) rfl, TB_of (in_t9 96 rfl) rfl⟩
theorem cb_TM_window : CB Y_TM_window 2 := ⟨TB_of (in_t9 101 rfl) rfl, TB_of (in_t1 9 rfl) rfl, by decide, by decide, by decide, by decide +kernel⟩
theorem cv_TM_window : CVt Y_TM_window := ⟨TB_of (in_t9 99 rfl) rfl, TB_of (in_t9 100 rfl) rfl⟩
theorem cb_TM_windowOf : CB Y_TM_windowOf 2 := ⟨TB_of (in_t9 105 rfl) rfl, TB_of (in_t1 9 rfl) rfl, by decide, by decide, by decide, by decide +kernel⟩
theorem cv_TM_windowOf : CVt Y_TM_windowOf := ⟨TB_of (in_t9 104 rfl) rfl, TB_of (in_p8 12 rfl) rfl⟩
theorem cb_TM_busiest : CB Y_TM_busiest 1 := ⟨TB_of (in_t9 109 rfl) rfl, TB_of (in_t1 9 rfl) rfl, by decide, by decide, by decide, by decide +kernel⟩
theorem cv_TM_busiest : CVt Y_TM_busiest := ⟨TB_of (in_t9 107 rfl) rfl, TB_of (in_t9 108 rfl) rfl⟩
theorem cb_TM_said : CB Y_TM_said 2 := ⟨TB_of (in_t9 113 rfl) rfl, TB_of (in_t1 9 rfl) rfl, by decide, by decide, by decide, by decide +kernel⟩
theorem cv_TM_said : CVt Y_TM_said := ⟨TB_of (in_t9 111 rfl) rfl, TB_of (in_t9 112 rfl) rfl⟩
theorem cb_TM_whose : CB Y_TM_whose 0 := ⟨TB_of (in_t9 117 rfl) rfl, TB_of (in_t1 9 rfl) rfl, by decide, by decide, by decide, by decide +kernel⟩
theorem cv_TM_whose : CVt Y_TM_whose := ⟨TB_of (in_t9 115 rfl) rfl, TB_of (in_t9 116 rfl) rfl⟩
theorem cb_TM_image : CB Y_TM_image 0 := ⟨TB_of (in_t9 121 rfl) rfl, TB_of (in_t1 9 rfl) rfl, by decide, by decide, by decide, by decide +kernel⟩
theorem cv_TM_image : CVt Y_TM_image := ⟨TB_of (in_t9 119 rfl) rfl, TB_of (in_t9 120 rfl) rfl⟩
theorem cb_TM_back : CB Y_TM_back 0 := ⟨TB_of (in_t9 125 rfl) rfl, TB_of (in_t1 9 rfl) rfl, by decide, by decide, by decide, by decide +kernel⟩
theorem cv_TM_back : CVt Y_TM_back := ⟨TB_of (in_t9 123 rfl) rfl, TB_of (in_t9 124 rfl) rfl⟩
theorem cb_TM_about : CB Y_TM_about 1 := ⟨TB_of (in_t9 129 rfl) rfl, TB_of (in_t1 9 rfl) rfl, by decide, by decide, by decide, by decide +kernel⟩
theorem cv_TM_about : CVt Y_TM_about := ⟨TB_of (in_t9 127 rfl) rfl, TB_of (in_t9 128 rfl) rfl⟩
def TBn : List Cond := [.methodLinkNest "TruePoll$Crowd" 11 ⟨"TruePoll$Moment", "<init>", "()V"⟩ "TruePoll", .methodLinkNest "TruePoll" 21 ⟨"TruePoll$Moment", "<init>", "()V"⟩ "TruePoll", .methodLinkNest "TruePoll" 46 ⟨"TruePoll$Outlook", "<init>", "()V"⟩ "TruePoll", .methodLinkNest "TruePoll" 53 ⟨"TruePoll$Tape", "<init>", "()V"⟩ "TruePoll", .methodLinkNest "TruePoll$Crowd" 99 ⟨"TruePoll", "put", "([III)V"⟩ "TruePoll", .methodLinkNest "TruePoll$Crowd" 107 ⟨"TruePoll", "at", "([II)I"⟩ "TruePoll", .methodLinkNest "TruePoll$Tape" 28 ⟨"TruePoll", "put", "([III)V"⟩ "TruePoll", .methodLinkNest "TruePoll$Tape" 41 ⟨"TruePoll", "at", "([II)I"⟩ "TruePoll", .methodLinkNest "TruePoll$Reader" 95 ⟨"TruePoll", "at", "([II)I"⟩ "TruePoll", .methodLinkNest "TruePoll$Reader" 119 ⟨"TruePoll", "put", "([III)V"⟩ "TruePoll", .methodLinkNest "TruePoll$Asker" 66 ⟨"TruePoll", "at", "([II)I"⟩ "TruePoll", .methodLinkNest "TruePoll$Asker" 93 ⟨"TruePoll", "within", "(JJJ)J"⟩ "TruePoll", .methodLinkNest "TruePoll$Asker" 117 ⟨"TruePoll", "put", "([III)V"⟩ "TruePoll", .methodLinkNest "TruePoll$Rounds" 52 ⟨"TruePoll", "at", "([II)I"⟩ "TruePoll", .methodLinkNest "TruePoll$Rounds" 58 ⟨"TruePoll", "within", "(JJJ)J"⟩ "TruePoll", .methodLinkNest "TruePoll$Rounds" 62 ⟨"TruePoll", "put", "([III)V"⟩ "TruePoll", .methodLinkNest "TruePoll$Moment" 55 ⟨"TruePoll", "put", "([III)V"⟩ "TruePoll", .methodLinkNest "TruePoll$Moment" 51 ⟨"TruePoll", "at", "([II)I"⟩ "TruePoll", .methodLinkNest "TruePoll$Outlook" 21 ⟨"TruePoll", "at", "([II)I"⟩ "TruePoll", .methodLinkNest "TruePoll$Outlook" 80 ⟨"TruePoll", "put", "([III)V"⟩ "TruePoll"]
theorem TBn_in : ∀ w ∈ TBn, w ∈ lw_tbl := List.forall_mem_cons.mpr ⟨(in_t1 37 rfl), List.forall_mem_cons.mpr ⟨(in_t1 157 rfl), List.forall_mem_cons.mpr ⟨(in_t1 201 rfl), List.forall_mem_cons.mpr ⟨(in_t1 222 rfl), List.forall_mem_cons.mpr ⟨(in_t2 124 rfl), List.forall_mem_cons.mpr ⟨(in_t2 139 rfl), List.forall_mem_cons.mpr ⟨(in_t2 150 rfl), List.forall_mem_cons.mpr ⟨(in_t2 171 rfl), List.forall_mem_cons.mpr ⟨(in_t3 75 rfl), List.forall_mem_cons.mpr ⟨(in_t3 87 rfl), List.forall_mem_cons.mpr ⟨(in_t4 47 rfl), List.forall_mem_cons.mpr ⟨(in_t4 69 rfl), List.forall_mem_cons.mpr ⟨(in_t4 74 rfl), List.forall_mem_cons.mpr ⟨(in_t4 103 rfl), List.forall_mem_cons.mpr ⟨(in_t4 105 rfl), List.forall_mem_cons.mpr ⟨(in_t4 106 rfl), List.forall_mem_cons.mpr ⟨(in_t4 112 rfl), List.forall_mem_cons.mpr ⟨(in_t4 126 rfl), List.forall_mem_cons.mpr ⟨(in_t4 233 rfl), List.forall_mem_cons.mpr ⟨(in_t6 17 rfl), fun _ h => absurd h List.not_mem_nil⟩⟩⟩⟩⟩⟩⟩⟩⟩⟩⟩⟩⟩⟩⟩⟩⟩⟩⟩⟩
theorem nl_Cr_11 : Cond.methodLinkNest "TruePoll$Crowd" 11 ⟨"TruePoll$Moment", "<init>", "()V"⟩ "TruePoll" ∈ TBn := List.mem_of_getElem? (i := 0) rfl
theorem nl_TP_21 : Cond.methodLinkNest "TruePoll" 21 ⟨"TruePoll$Moment", "<init>", "()V"⟩ "TruePoll" ∈ TBn := List.mem_of_getElem? (i := 1) rfl
theorem nl_TP_46 : Cond.methodLinkNest "TruePoll" 46 ⟨"TruePoll$Outlook", "<init>", "()V"⟩ "TruePoll" ∈ TBn := List.mem_of_getElem? (i := 2) rfl
theorem nl_TP_53 : Cond.methodLinkNest "TruePoll" 53 ⟨"TruePoll$Tape", "<init>", "()V"⟩ "TruePoll" ∈ TBn := List.mem_of_getElem? (i := 3) rfl
theorem nl_Cr_99 : Cond.methodLinkNest "TruePoll$Crowd" 99 ⟨"TruePoll", "put", "([III)V"⟩ "TruePoll" ∈ TBn := List.mem_of_getElem? (i := 4) rfl
theorem nl_Cr_107 : Cond.methodLinkNest "TruePoll$Crowd" 107 ⟨"TruePoll", "at", "([II)I"⟩ "TruePoll" ∈ TBn := List.mem_of_getElem? (i := 5) rfl
theorem nl_Ta_28 : Cond.methodLinkNest "TruePoll$Tape" 28 ⟨"TruePoll", "put", "([III)V"⟩ "TruePoll" ∈ TBn := List.mem_of_getElem? (i := 6) rfl
theorem nl_Ta_41 : Cond.methodLinkNest "TruePoll$Tape" 41 ⟨"TruePoll", "at", "([II)I"⟩ "TruePoll" ∈ TBn := List.mem_of_getElem? (i := 7) rfl
theorem nl_Re_95 : Cond.methodLinkNest "TruePoll$Reader" 95 ⟨"TruePoll", "at", "([II)I"⟩ "TruePoll" ∈ TBn := List.mem_of_getElem? (i := 8) rfl
theorem nl_Re_119 : Cond.methodLinkNest "TruePoll$Reader" 119 ⟨"TruePoll", "put", "([III)V"⟩ "TruePoll" ∈ TBn := List.mem_of_getElem? (i := 9) rfl
theorem nl_As_66 : Cond.methodLinkNest "TruePoll$Asker" 66 ⟨"TruePoll", "at", "([II)I"⟩ "TruePoll" ∈ TBn := List.mem_of_getElem? (i := 10) rfl
theorem nl_As_93 : Cond.methodLinkNest "TruePoll$Asker" 93 ⟨"TruePoll", "within", "(JJJ)J"⟩ "TruePoll" ∈ TBn := List.mem_of_getElem? (i := 11) rfl
theorem nl_As_117 : Cond.methodLinkNest "TruePoll$Asker" 117 ⟨"TruePoll", "put", "([III)V"⟩ "TruePoll" ∈ TBn := List.mem_of_getElem? (i := 12) rfl
theorem nl_Ro_52 : Cond.methodLinkNest "TruePoll$Rounds" 52 ⟨"TruePoll", "at", "([II)I"⟩ "TruePoll" ∈ TBn := List.mem_of_getElem? (i := 13) rfl
theorem nl_Ro_58 : Cond.methodLinkNest "TruePoll$Rounds" 58 ⟨"TruePoll", "within", "(JJJ)J"⟩ "TruePoll" ∈ TBn := List.mem_of_getElem? (i := 14) rfl
theorem nl_Ro_62 : Cond.methodLinkNest "TruePoll$Rounds" 62 ⟨"TruePoll", "put", "([III)V"⟩ "TruePoll" ∈ TBn := List.mem_of_getElem? (i := 15) rfl
theorem nl_Mo_55 : Cond.methodLinkNest "TruePoll$Moment" 55 ⟨"TruePoll", "put", "([III)V"⟩ "TruePoll" ∈ TBn := List.mem_of_getElem? (i := 16) rfl
theorem nl_Mo_51 : Cond.methodLinkNest "TruePoll$Moment" 51 ⟨"TruePoll", "at", "([II)I"⟩ "TruePoll" ∈ TBn := List.mem_of_getElem? (i := 17) rfl
theorem nl_Ou_21 : Cond.methodLinkNest "TruePoll$Outlook" 21 ⟨"TruePoll", "at", "([II)I"⟩ "TruePoll" ∈ TBn := List.mem_of_getElem? (i := 18) rfl
theorem nl_Ou_80 : Cond.methodLinkNest "TruePoll$Outlook" 80 ⟨"TruePoll", "put", "([III)V"⟩ "TruePoll" ∈ TBn := List.mem_of_getElem? (i := 19) rfl
theorem ml_La_9 : Cond.methodLink "TruePollLaw" 9 ⟨"TruePoll", "<init>", "()V"⟩ ∈ TB := TB_of (in_t1 23 rfl) rfl
theorem ml_TP_1 : Cond.methodLink "TruePoll" 1 ⟨"java/lang/Object", "<init>", "()V"⟩ ∈ TB := TB_of (in_t1 26 rfl) rfl
theorem ml_TP_9 : Cond.methodLink "TruePoll" 9 ⟨"TruePoll$Crowd", "<init>", "()V"⟩ ∈ TB := TB_of (in_t1 31 rfl) rfl
theorem ml_Cr_3 : Cond.methodLink "TruePoll$Crowd" 3 ⟨"java/lang/Object", "<init>", "()V"⟩ ∈ TB := TB_of (in_t1 34 rfl) rfl
theorem ml_Mo_3 : Cond.methodLink "TruePoll$Moment" 3 ⟨"java/lang/Object", "<init>", "()V"⟩ ∈ TB := TB_of (in_t1 40 rfl) rfl
theorem ml_TP_28 : Cond.methodLink "TruePoll" 28 ⟨"TruePoll$Asker", "<init>", "(LTruePoll$Crowd;)V"⟩ ∈ TB := TB_of (in_t1 160 rfl) rfl
theorem ml_As_3 : Cond.methodLink "TruePoll$Asker" 3 ⟨"java/lang/Object", "<init>", "()V"⟩ ∈ TB := TB_of (in_t1 163 rfl) rfl
theorem ml_TP_37 : Cond.methodLink "TruePoll" 37 ⟨"TruePoll$Rounds", "<init>", "(LTruePoll$Crowd;LTruePoll$Asker;)V"⟩ ∈ TB := TB_of (in_t1 185 rfl) rfl
theorem ml_Ro_3 : Cond.methodLink "TruePoll$Rounds" 3 ⟨"java/lang/Object", "<init>", "()V"⟩ ∈ TB := TB_of (in_t1 188 rfl) rfl
theorem ml_Ou_3 : Cond.methodLink "TruePoll$Outlook" 3 ⟨"java/lang/Object", "<init>", "()V"⟩ ∈ TB := TB_of (in_t1 204 rfl) rfl
theorem ml_Ta_3 : Cond.methodLink "TruePoll$Tape" 3 ⟨"java/lang/Object", "<init>", "()V"⟩ ∈ TB := TB_of (in_t1 225 rfl) rfl
theorem ml_TP_60 : Cond.methodLink "TruePoll" 60 ⟨"TruePoll$Reader", "<init>", "(LTruePoll$Tape;)V"⟩ ∈ TB := TB_of (in_t2 14 rfl) rfl
theorem ml_Re_3 : Cond.methodLink "TruePoll$Reader" 3 ⟨"java/lang/Object", "<init>", "()V"⟩ ∈ TB := TB_of (in_t2 17 rfl) rfl
theorem ml_La_13 : Cond.methodLink "TruePollLaw" 13 ⟨"TruePoll", "person", "(II)I"⟩ ∈ TB := TB_of (in_t2 116 rfl) rfl
theorem ml_TP_85 : Cond.methodLink "TruePoll" 85 ⟨"TruePoll$Crowd", "addPerson", "(II)I"⟩ ∈ TB := TB_of (in_t2 120 rfl) rfl
theorem ml_La_18 : Cond.methodLink "TruePollLaw" 18 ⟨"TruePoll", "hear", "(II)Z"⟩ ∈ TB := TB_of (in_t2 127 rfl) rfl
theorem ml_TP_89 : Cond.methodLink "TruePoll" 89 ⟨"TruePoll$Crowd", "turnEar", "(II)Z"⟩ ∈ TB := TB_of (in_t2 131 rfl) rfl
theorem ml_Cr_103 : Cond.methodLink "TruePoll$Crowd" 103 ⟨"TruePoll$Moment", "hasPerson", "(I)Z"⟩ ∈ TB := TB_of (in_t2 135 rfl) rfl
theorem ml_La_23 : Cond.methodLink "TruePollLaw" 23 ⟨"TruePoll", "feed", "(IIIII)I"⟩ ∈ TB := TB_of (in_t2 142 rfl) rfl
theorem ml_TP_96 : Cond.methodLink "TruePoll" 96 ⟨"TruePoll$Tape", "addFour", "(I)V"⟩ ∈ TB := TB_of (in_t2 146 rfl) rfl
theorem ml_La_28 : Cond.methodLink "TruePollLaw" 28 ⟨"TruePoll", "end", "(I)I"⟩ ∈ TB := TB_of (in_t2 151 rfl) rfl
theorem ml_La_33 : Cond.methodLink "TruePollLaw" 33 ⟨"TruePoll", "text", "()I"⟩ ∈ TB := TB_of (in_t2 155 rfl) rfl
theorem ml_TP_103 : Cond.methodLink "TruePoll" 103 ⟨"TruePoll$Reader", "readAll", "()LTruePoll$Text;"⟩ ∈ TB := TB_of (in_t2 159 rfl) rfl
theorem ml_Re_50 : Cond.methodLink "TruePoll$Reader" 50 ⟨"TruePoll$Tape", "cutTokens", "()V"⟩ ∈ TB := TB_of (in_t2 163 rfl) rfl
theorem ml_Ta_35 : Cond.methodLink "TruePoll$Tape" 35 ⟨"TruePoll$Tape", "skipBlanks", "()V"⟩ ∈ TB := TB_of (in_t2 167 rfl) rfl
theorem ml_Ta_51 : Cond.methodLink "TruePoll$Tape" 51 ⟨"TruePoll$Tape", "isBlank", "(I)Z"⟩ ∈ TB := TB_of (in_t2 172 rfl) rfl
theorem ml_Ta_45 : Cond.methodLink "TruePoll$Tape" 45 ⟨"TruePoll$Tape", "readToken", "(I)I"⟩ ∈ TB := TB_of (in_t2 175 rfl) rfl
theorem ml_Ta_55 : Cond.methodLink "TruePoll$Tape" 55 ⟨"TruePoll$Tape", "isLetter", "(I)Z"⟩ ∈ TB := TB_of (in_t2 179 rfl) rfl
theorem ml_Ta_58 : Cond.methodLink "TruePoll$Tape" 58 ⟨"TruePoll$Tape", "readWord", "()I"⟩ ∈ TB := TB_of (in_t2 182 rfl) rfl
theorem ml_Ta_72 : Cond.methodLink "TruePoll$Tape" 72 ⟨"TruePoll$Tape", "isWord", "(II)Z"⟩ ∈ TB := TB_of (in_t2 186 rfl) rfl
theorem ml_Ta_78 : Cond.methodLink "TruePoll$Tape" 78 ⟨"java/lang/String", "length", "()I"⟩ ∈ TB := TB_of (in_t2 191 rfl) rfl
theorem ml_JS_335 : Cond.methodLink "java/lang/String" 335 ⟨"java/lang/String", "coder", "()B"⟩ ∈ TB := TB_of (in_t2 195 rfl) rfl
theorem ml_Ta_83 : Cond.methodLink "TruePoll$Tape" 83 ⟨"java/lang/String", "charAt", "(I)C"⟩ ∈ TB := TB_of (in_t2 201 rfl) rfl
theorem ml_JS_492 : Cond.methodLink "java/lang/String" 492 ⟨"java/lang/String", "isLatin1", "()Z"⟩ ∈ TB := TB_of (in_t2 205 rfl) rfl
theorem ml_JS_495 : Cond.methodLink "java/lang/String" 495 ⟨"java/lang/StringLatin1", "charAt", "([BI)C"⟩ ∈ TB := TB_of (in_t2 209 rfl) rfl
theorem ml_JL_9 : Cond.methodLink "java/lang/StringLatin1" 9 ⟨"java/lang/String", "checkIndex", "(II)V"⟩ ∈ TB := TB_of (in_t2 212 rfl) rfl
theorem ml_JS_1059 : Cond.methodLink "java/lang/String" 1059 ⟨"jdk/internal/util/Preconditions", "checkIndex", "(IILjava/util/function/BiFunction;)I"⟩ ∈ TB := TB_of (in_t2 217 rfl) rfl
theorem ml_JS_498 : Cond.methodLink "java/lang/String" 498 ⟨"java/lang/StringUTF16", "charAt", "([BI)C"⟩ ∈ TB := TB_of (in_t2 220 rfl) rfl
theorem ml_Ta_62 : Cond.methodLink "TruePoll$Tape" 62 ⟨"TruePoll$Tape", "isDigit", "(I)Z"⟩ ∈ TB := TB_of (in_t2 239 rfl) rfl
theorem ml_Ta_65 : Cond.methodLink "TruePoll$Tape" 65 ⟨"TruePoll$Tape", "readNumber", "()I"⟩ ∈ TB := TB_of (in_t3 2 rfl) rfl
theorem ml_Ta_87 : Cond.methodLink "TruePoll$Tape" 87 ⟨"java/lang/Math", "min", "(II)I"⟩ ∈ TB := TB_of (in_t3 6 rfl) rfl
theorem ml_Ta_68 : Cond.methodLink "TruePoll$Tape" 68 ⟨"TruePoll$Tape", "readMark", "(C)I"⟩ ∈ TB := TB_of (in_t3 9 rfl) rfl
theorem ml_Ta_95 : Cond.methodLink "TruePoll$Tape" 95 ⟨"java/lang/String", "indexOf", "(I)I"⟩ ∈ TB := TB_of (in_t3 14 rfl) rfl
theorem ml_JS_633 : Cond.methodLink "java/lang/String" 633 ⟨"java/lang/String", "indexOf", "(II)I"⟩ ∈ TB := TB_of (in_t3 18 rfl) rfl
theorem ml_JS_505 : Cond.methodLink "java/lang/String" 505 ⟨"java/lang/String", "length", "()I"⟩ ∈ TB := TB_of (in_t3 22 rfl) rfl
theorem ml_JS_637 : Cond.methodLink "java/lang/String" 637 ⟨"java/lang/StringLatin1", "indexOf", "([BIII)I"⟩ ∈ TB := TB_of (in_t3 23 rfl) rfl
theorem ml_JL_88 : Cond.methodLink "java/lang/StringLatin1" 88 ⟨"java/lang/StringLatin1", "canEncode", "(I)Z"⟩ ∈ TB := TB_of (in_t3 26 rfl) rfl
theorem ml_JL_92 : Cond.methodLink "java/lang/StringLatin1" 92 ⟨"java/lang/Math", "max", "(II)I"⟩ ∈ TB := TB_of (in_t3 29 rfl) rfl
theorem ml_JL_38 : Cond.methodLink "java/lang/StringLatin1" 38 ⟨"java/lang/Math", "min", "(II)I"⟩ ∈ TB := TB_of (in_t3 32 rfl) rfl
theorem ml_JL_95 : Cond.methodLink "java/lang/StringLatin1" 95 ⟨"java/lang/StringLatin1", "indexOfChar", "([BIII)I"⟩ ∈ TB := TB_of (in_t3 33 rfl) rfl
theorem ml_JS_640 : Cond.methodLink "java/lang/String" 640 ⟨"java/lang/StringUTF16", "indexOf", "([BIII)I"⟩ ∈ TB := TB_of (in_t3 36 rfl) rfl
theorem ml_JS_1062 : Cond.methodLink "java/lang/String" 1062 ⟨"jdk/internal/util/Preconditions", "checkFromToIndex", "(IIILjava/util/function/BiFunction;)I"⟩ ∈ TB := TB_of (in_t3 51 rfl) rfl
theorem ml_Re_58 : Cond.methodLink "TruePoll$Reader" 58 ⟨"TruePoll$Reader", "advance", "()V"⟩ ∈ TB := TB_of (in_t3 71 rfl) rfl
theorem ml_Re_66 : Cond.methodLink "TruePoll$Reader" 66 ⟨"TruePoll$Reader", "readClause", "()V"⟩ ∈ TB := TB_of (in_t3 76 rfl) rfl
theorem ml_Re_112 : Cond.methodLink "TruePoll$Reader" 112 ⟨"TruePoll$Sign", "beginsClause", "(I)Z"⟩ ∈ TB := TB_of (in_t3 80 rfl) rfl
theorem ml_Re_108 : Cond.methodLink "TruePoll$Reader" 108 ⟨"TruePoll$Reader", "fail", "(I)V"⟩ ∈ TB := TB_of (in_t3 83 rfl) rfl
theorem ml_Re_123 : Cond.methodLink "TruePoll$Reader" 123 ⟨"TruePoll$Reader", "readRest", "(I)V"⟩ ∈ TB := TB_of (in_t3 88 rfl) rfl
theorem ml_Re_129 : Cond.methodLink "TruePoll$Reader" 129 ⟨"TruePoll$Reader", "readSum", "(I)V"⟩ ∈ TB := TB_of (in_t3 92 rfl) rfl
theorem ml_Re_135 : Cond.methodLink "TruePoll$Reader" 135 ⟨"TruePoll$Reader", "readProduct", "(I)V"⟩ ∈ TB := TB_of (in_t3 96 rfl) rfl
theorem ml_Re_146 : Cond.methodLink "TruePoll$Reader" 146 ⟨"TruePoll$Reader", "readOne", "(I)V"⟩ ∈ TB := TB_of (in_t3 100 rfl) rfl
theorem ml_Re_152 : Cond.methodLink "TruePoll$Reader" 152 ⟨"TruePoll$Sign", "opensOne", "(I)Z"⟩ ∈ TB := TB_of (in_t3 104 rfl) rfl
theorem ml_Re_155 : Cond.methodLink "TruePoll$Reader" 155 ⟨"TruePoll$Reader", "readPlain", "()V"⟩ ∈ TB := TB_of (in_t3 107 rfl) rfl
theorem ml_Re_161 : Cond.methodLink "TruePoll$Reader" 161 ⟨"TruePoll$Sign", "isName", "(I)Z"⟩ ∈ TB := TB_of (in_t3 111 rfl) rfl
theorem ml_Re_142 : Cond.methodLink "TruePoll$Reader" 142 ⟨"TruePoll$Reader", "write", "(II)V"⟩ ∈ TB := TB_of (in_t3 114 rfl) rfl
theorem ml_Re_126 : Cond.methodLink "TruePoll$Reader" 126 ⟨"TruePoll$Reader", "take", "(I)V"⟩ ∈ TB := TB_of (in_t3 118 rfl) rfl
theorem ml_Re_158 : Cond.methodLink "TruePoll$Reader" 158 ⟨"TruePoll$Reader", "readIf", "(I)V"⟩ ∈ TB := TB_of (in_t3 122 rfl) rfl
theorem ml_Re_164 : Cond.methodLink "TruePoll$Reader" 164 ⟨"TruePoll$Reader", "readEither", "(I)V"⟩ ∈ TB := TB_of (in_t3 126 rfl) rfl
theorem ml_Re_167 : Cond.methodLink "TruePoll$Reader" 167 ⟨"TruePoll$Reader", "readBoth", "(I)V"⟩ ∈ TB := TB_of (in_t3 130 rfl) rfl
theorem ml_Re_170 : Cond.methodLink "TruePoll$Reader" 170 ⟨"TruePoll$Reader", "readAsk", "(I)V"⟩ ∈ TB := TB_of (in_t3 134 rfl) rfl
theorem ml_Re_173 : Cond.methodLink "TruePoll$Reader" 173 ⟨"TruePoll$Reader", "readComparison", "(I)V"⟩ ∈ TB := TB_of (in_t3 138 rfl) rfl
theorem ml_Re_176 : Cond.methodLink "TruePoll$Reader" 176 ⟨"TruePoll$Sign", "isComparing", "(I)Z"⟩ ∈ TB := TB_of (in_t3 142 rfl) rfl
theorem ml_Re_149 : Cond.methodLink "TruePoll$Reader" 149 ⟨"TruePoll$Reader", "isMultiplying", "()Z"⟩ ∈ TB := TB_of (in_t3 145 rfl) rfl
theorem ml_Re_138 : Cond.methodLink "TruePoll$Reader" 138 ⟨"TruePoll$Reader", "isAdding", "()Z"⟩ ∈ TB := TB_of (in_t3 149 rfl) rfl
theorem ml_Re_132 : Cond.methodLink "TruePoll$Reader" 132 ⟨"TruePoll$Reader", "readNumber", "([III)V"⟩ ∈ TB := TB_of (in_t3 153 rfl) rfl
theorem ml_Re_69 : Cond.methodLink "TruePoll$Reader" 69 ⟨"TruePoll$Reader", "made", "()LTruePoll$Text;"⟩ ∈ TB := TB_of (in_t3 157 rfl) rfl
theorem ml_Re_75 : Cond.methodLink "TruePoll$Reader" 75 ⟨"java/util/Arrays", "copyOf", "([II)[I"⟩ ∈ TB := TB_of (in_t3 163 rfl) rfl
theorem ml_JA_316 : Cond.methodLink "java/util/Arrays" 316 ⟨"[I", "clone", "()Ljava/lang/Object;"⟩ ∈ TB := TB_of (in_t3 166 rfl) rfl
theorem ml_JA_304 : Cond.methodLink "java/util/Arrays" 304 ⟨"java/lang/Math", "min", "(II)I"⟩ ∈ TB := TB_of (in_t3 173 rfl) rfl
theorem ml_JA_150 : Cond.methodLink "java/util/Arrays" 150 ⟨"java/lang/System", "arraycopy", "(Ljava/lang/Object;ILjava/lang/Object;II)V"⟩ ∈ TB := TB_of (in_t3 174 rfl) rfl
theorem ml_Re_81 : Cond.methodLink "TruePoll$Reader" 81 ⟨"TruePoll$Text", "<init>", "([I[I[I[I[I)V"⟩ ∈ TB := TB_of (in_t3 177 rfl) rfl
theorem ml_Tx_3 : Cond.methodLink "TruePoll$Text" 3 ⟨"java/lang/Object", "<init>", "()V"⟩ ∈ TB := TB_of (in_t3 180 rfl) rfl
theorem ml_TP_113 : Cond.methodLink "TruePoll" 113 ⟨"TruePoll$Crowd", "addText", "(LTruePoll$Text;)I"⟩ ∈ TB := TB_of (in_t3 222 rfl) rfl
theorem ml_La_38 : Cond.methodLink "TruePollLaw" 38 ⟨"TruePoll", "fault", "(I)I"⟩ ∈ TB := TB_of (in_t3 226 rfl) rfl
theorem ml_La_42 : Cond.methodLink "TruePollLaw" 42 ⟨"TruePoll", "by", "(I)Z"⟩ ∈ TB := TB_of (in_t3 230 rfl) rfl
theorem ml_TP_117 : Cond.methodLink "TruePoll" 117 ⟨"TruePoll$Crowd", "textAt", "(I)LTruePoll$Text;"⟩ ∈ TB := TB_of (in_t3 234 rfl) rfl
theorem ml_La_47 : Cond.methodLink "TruePollLaw" 47 ⟨"TruePoll", "tell", "(I)I"⟩ ∈ TB := TB_of (in_t3 238 rfl) rfl
theorem ml_TP_124 : Cond.methodLink "TruePoll" 124 ⟨"TruePoll$Rounds", "tellByHand", "(I)Z"⟩ ∈ TB := TB_of (in_t4 2 rfl) rfl
theorem ml_Ro_100 : Cond.methodLink "TruePoll$Rounds" 100 ⟨"TruePoll$Moment", "canTell", "(I)Z"⟩ ∈ TB := TB_of (in_t4 6 rfl) rfl
theorem ml_Mo_43 : Cond.methodLink "TruePoll$Moment" 43 ⟨"TruePoll$Moment", "canPass", "()Z"⟩ ∈ TB := TB_of (in_t4 10 rfl) rfl
theorem ml_Ro_97 : Cond.methodLink "TruePoll$Rounds" 97 ⟨"TruePoll$Crowd", "keepStep", "()V"⟩ ∈ TB := TB_of (in_t4 14 rfl) rfl
theorem ml_Cr_115 : Cond.methodLink "TruePoll$Crowd" 115 ⟨"TruePoll$Crowd", "stepAt", "(I)LTruePoll$Moment;"⟩ ∈ TB := TB_of (in_t4 18 rfl) rfl
theorem ml_Cr_61 : Cond.methodLink "TruePoll$Crowd" 61 ⟨"TruePoll$Crowd", "copyStep", "(LTruePoll$Moment;LTruePoll$Moment;)V"⟩ ∈ TB := TB_of (in_t4 22 rfl) rfl
theorem ml_Cr_57 : Cond.methodLink "TruePoll$Crowd" 57 ⟨"TruePoll$Moment", "copyFrom", "(LTruePoll$Moment;)V"⟩ ∈ TB := TB_of (in_t4 25 rfl) rfl
theorem ml_Mo_22 : Cond.methodLink "TruePoll$Moment" 22 ⟨"java/lang/System", "arraycopy", "(Ljava/lang/Object;ILjava/lang/Object;II)V"⟩ ∈ TB := TB_of (in_t4 29 rfl) rfl
theorem ml_Ro_89 : Cond.methodLink "TruePoll$Rounds" 89 ⟨"TruePoll$Rounds", "pass", "(LTruePoll$Moment;I)V"⟩ ∈ TB := TB_of (in_t4 30 rfl) rfl
theorem ml_Ro_23 : Cond.methodLink "TruePoll$Rounds" 23 ⟨"TruePoll$Crowd", "rulingText", "()LTruePoll$Text;"⟩ ∈ TB := TB_of (in_t4 34 rfl) rfl
theorem ml_Cr_111 : Cond.methodLink "TruePoll$Crowd" 111 ⟨"TruePoll$Crowd", "textAt", "(I)LTruePoll$Text;"⟩ ∈ TB := TB_of (in_t4 38 rfl) rfl
theorem ml_Ro_35 : Cond.methodLink "TruePoll$Rounds" 35 ⟨"TruePoll$Asker", "saysYes", "(LTruePoll$Moment;LTruePoll$Text;II)Z"⟩ ∈ TB := TB_of (in_t4 39 rfl) rfl
theorem ml_As_52 : Cond.methodLink "TruePoll$Asker" 52 ⟨"TruePoll$Asker", "saysBySort", "()Z"⟩ ∈ TB := TB_of (in_t4 43 rfl) rfl
theorem ml_As_73 : Cond.methodLink "TruePoll$Asker" 73 ⟨"java/lang/Math", "abs", "(I)I"⟩ ∈ TB := TB_of (in_t4 48 rfl) rfl
theorem ml_As_59 : Cond.methodLink "TruePoll$Asker" 59 ⟨"TruePoll$Asker", "worth", "(LTruePoll$Text;II)I"⟩ ∈ TB := TB_of (in_t4 51 rfl) rfl
theorem ml_As_105 : Cond.methodLink "TruePoll$Asker" 105 ⟨"TruePoll$Sign", "joinsTwo", "(I)Z"⟩ ∈ TB := TB_of (in_t4 55 rfl) rfl
theorem ml_As_109 : Cond.methodLink "TruePoll$Asker" 109 ⟨"TruePoll$Asker", "joined", "(IJJ)J"⟩ ∈ TB := TB_of (in_t4 58 rfl) rfl
theorem ml_As_145 : Cond.methodLink "TruePoll$Asker" 145 ⟨"java/lang/Math", "min", "(JJ)J"⟩ ∈ TB := TB_of (in_t4 61 rfl) rfl
theorem ml_As_149 : Cond.methodLink "TruePoll$Asker" 149 ⟨"java/lang/Math", "max", "(JJ)J"⟩ ∈ TB := TB_of (in_t4 64 rfl) rfl
theorem ml_TP_374 : Cond.methodLink "TruePoll" 374 ⟨"java/lang/Math", "min", "(JJ)J"⟩ ∈ TB := TB_of (in_t4 72 rfl) rfl
theorem ml_TP_380 : Cond.methodLink "TruePoll" 380 ⟨"java/lang/Math", "max", "(JJ)J"⟩ ∈ TB := TB_of (in_t4 73 rfl) rfl
theorem ml_As_121 : Cond.methodLink "TruePoll$Asker" 121 ⟨"TruePoll$Sign", "changesOne", "(I)Z"⟩ ∈ TB := TB_of (in_t4 75 rfl) rfl
theorem ml_As_124 : Cond.methodLink "TruePoll$Asker" 124 ⟨"TruePoll$Asker", "changed", "(II)I"⟩ ∈ TB := TB_of (in_t4 78 rfl) rfl
theorem ml_As_128 : Cond.methodLink "TruePoll$Asker" 128 ⟨"TruePoll$Asker", "named", "(I)I"⟩ ∈ TB := TB_of (in_t4 82 rfl) rfl
theorem ml_As_140 : Cond.methodLink "TruePoll$Asker" 140 ⟨"java/lang/Integer", "bitCount", "(I)I"⟩ ∈ TB := TB_of (in_t4 86 rfl) rfl
theorem ml_Ro_41 : Cond.methodLink "TruePoll$Rounds" 41 ⟨"TruePoll$Moment", "drawX", "()I"⟩ ∈ TB := TB_of (in_t4 92 rfl) rfl
theorem ml_Ro_45 : Cond.methodLink "TruePoll$Rounds" 45 ⟨"TruePoll$Asker", "swayOf", "(LTruePoll$Moment;III)I"⟩ ∈ TB := TB_of (in_t4 96 rfl) rfl
theorem ml_As_79 : Cond.methodLink "TruePoll$Asker" 79 ⟨"TruePoll$Crowd", "rulingText", "()LTruePoll$Text;"⟩ ∈ TB := TB_of (in_t4 100 rfl) rfl
theorem ml_Ro_69 : Cond.methodLink "TruePoll$Rounds" 69 ⟨"java/lang/Integer", "bitCount", "(I)I"⟩ ∈ TB := TB_of (in_t4 107 rfl) rfl
theorem ml_Ro_78 : Cond.methodLink "TruePoll$Rounds" 78 ⟨"TruePoll$Moment", "writeDown", "(I)V"⟩ ∈ TB := TB_of (in_t4 108 rfl) rfl
theorem ml_La_51 : Cond.methodLink "TruePollLaw" 51 ⟨"TruePoll", "nudge", "(II)Z"⟩ ∈ TB := TB_of (in_t4 113 rfl) rfl
theorem ml_TP_134 : Cond.methodLink "TruePoll" 134 ⟨"TruePoll$Rounds", "nudgeByHand", "(II)Z"⟩ ∈ TB := TB_of (in_t4 117 rfl) rfl
theorem ml_Ro_104 : Cond.methodLink "TruePoll$Rounds" 104 ⟨"TruePoll$Moment", "canNudge", "(II)Z"⟩ ∈ TB := TB_of (in_t4 121 rfl) rfl
theorem ml_Mo_47 : Cond.methodLink "TruePoll$Moment" 47 ⟨"TruePoll$Moment", "hasPerson", "(I)Z"⟩ ∈ TB := TB_of (in_t4 125 rfl) rfl
theorem ml_Ro_108 : Cond.methodLink "TruePoll$Rounds" 108 ⟨"TruePoll$Rounds", "shift", "(II)V"⟩ ∈ TB := TB_of (in_t4 127 rfl) rfl
theorem ml_La_55 : Cond.methodLink "TruePollLaw" 55 ⟨"TruePoll", "day", "(I)I"⟩ ∈ TB := TB_of (in_t4 131 rfl) rfl
theorem ml_TP_140 : Cond.methodLink "TruePoll" 140 ⟨"TruePoll$Rounds", "passByHand", "(I)Z"⟩ ∈ TB := TB_of (in_t4 135 rfl) rfl
theorem ml_Ro_85 : Cond.methodLink "TruePoll$Rounds" 85 ⟨"TruePoll$Moment", "canPass", "()Z"⟩ ∈ TB := TB_of (in_t4 139 rfl) rfl
theorem ml_La_59 : Cond.methodLink "TruePollLaw" 59 ⟨"TruePoll", "played", "(I)I"⟩ ∈ TB := TB_of (in_t4 140 rfl) rfl
theorem ml_TP_148 : Cond.methodLink "TruePoll" 148 ⟨"TruePoll$Rounds", "playClause", "(LTruePoll$Text;I)Z"⟩ ∈ TB := TB_of (in_t4 144 rfl) rfl
theorem ml_Ro_123 : Cond.methodLink "TruePoll$Rounds" 123 ⟨"TruePoll$Crowd", "addPerson", "(II)I"⟩ ∈ TB := TB_of (in_t4 148 rfl) rfl
theorem ml_Ro_127 : Cond.methodLink "TruePoll$Rounds" 127 ⟨"TruePoll$Crowd", "turnEar", "(II)Z"⟩ ∈ TB := TB_of (in_t4 149 rfl) rfl
theorem ml_Ro_130 : Cond.methodLink "TruePoll$Rounds" 130 ⟨"TruePoll$Rounds", "tellByHand", "(I)Z"⟩ ∈ TB := TB_of (in_t4 150 rfl) rfl
theorem ml_Ro_133 : Cond.methodLink "TruePoll$Rounds" 133 ⟨"TruePoll$Rounds", "nudgeByHand", "(II)Z"⟩ ∈ TB := TB_of (in_t4 151 rfl) rfl
theorem ml_Ro_136 : Cond.methodLink "TruePoll$Rounds" 136 ⟨"TruePoll$Rounds", "passByHand", "(I)Z"⟩ ∈ TB := TB_of (in_t4 152 rfl) rfl
theorem ml_La_63 : Cond.methodLink "TruePollLaw" 63 ⟨"TruePoll", "years", "(II)I"⟩ ∈ TB := TB_of (in_t4 153 rfl) rfl
theorem ml_TP_152 : Cond.methodLink "TruePoll" 152 ⟨"TruePoll$Rounds", "passYears", "(II)V"⟩ ∈ TB := TB_of (in_t4 157 rfl) rfl
theorem ml_Ro_142 : Cond.methodLink "TruePoll$Rounds" 142 ⟨"TruePoll$Rounds", "passYear", "(LTruePoll$Moment;)V"⟩ ∈ TB := TB_of (in_t4 161 rfl) rfl
theorem ml_La_67 : Cond.methodLink "TruePollLaw" 67 ⟨"TruePoll", "undo", "()I"⟩ ∈ TB := TB_of (in_t4 165 rfl) rfl
theorem ml_TP_156 : Cond.methodLink "TruePoll" 156 ⟨"TruePoll$Crowd", "takeStepBack", "()Z"⟩ ∈ TB := TB_of (in_t4 169 rfl) rfl
theorem ml_La_71 : Cond.methodLink "TruePollLaw" 71 ⟨"TruePoll", "of", "(II)I"⟩ ∈ TB := TB_of (in_t4 173 rfl) rfl
theorem ml_TP_163 : Cond.methodLink "TruePoll" 163 ⟨"TruePoll$Moment", "hasPerson", "(I)Z"⟩ ∈ TB := TB_of (in_t4 177 rfl) rfl
theorem ml_TP_169 : Cond.methodLink "TruePoll" 169 ⟨"TruePoll", "at", "([II)I"⟩ ∈ TB := TB_of (in_t4 178 rfl) rfl
theorem ml_TP_182 : Cond.methodLink "TruePoll" 182 ⟨"TruePoll$Asker", "swayOf", "(LTruePoll$Moment;III)I"⟩ ∈ TB := TB_of (in_t4 179 rfl) rfl
theorem ml_La_75 : Cond.methodLink "TruePollLaw" 75 ⟨"TruePoll", "says", "(II)Z"⟩ ∈ TB := TB_of (in_t4 180 rfl) rfl
theorem ml_TP_186 : Cond.methodLink "TruePoll" 186 ⟨"TruePoll$Crowd", "rulingText", "()LTruePoll$Text;"⟩ ∈ TB := TB_of (in_t4 184 rfl) rfl
theorem ml_TP_189 : Cond.methodLink "TruePoll" 189 ⟨"TruePoll$Asker", "saysYes", "(LTruePoll$Moment;LTruePoll$Text;II)Z"⟩ ∈ TB := TB_of (in_t4 185 rfl) rfl
theorem ml_La_79 : Cond.methodLink "TruePollLaw" 79 ⟨"TruePoll", "is", "(I)I"⟩ ∈ TB := TB_of (in_t4 186 rfl) rfl
theorem ml_TP_196 : Cond.methodLink "TruePoll" 196 ⟨"TruePoll$Moment", "allLeans", "()I"⟩ ∈ TB := TB_of (in_t4 190 rfl) rfl
theorem ml_La_83 : Cond.methodLink "TruePollLaw" 83 ⟨"TruePoll", "book", "(II)I"⟩ ∈ TB := TB_of (in_t4 194 rfl) rfl
theorem ml_TP_203 : Cond.methodLink "TruePoll" 203 ⟨"TruePoll$Moment", "bookAt", "(II)I"⟩ ∈ TB := TB_of (in_t4 198 rfl) rfl
theorem ml_La_87 : Cond.methodLink "TruePollLaw" 87 ⟨"TruePoll", "foretold", "(II)I"⟩ ∈ TB := TB_of (in_t4 202 rfl) rfl
theorem ml_TP_206 : Cond.methodLink "TruePoll" 206 ⟨"TruePoll$Moment", "copyFrom", "(LTruePoll$Moment;)V"⟩ ∈ TB := TB_of (in_t4 206 rfl) rfl
theorem ml_TP_210 : Cond.methodLink "TruePoll" 210 ⟨"TruePoll$Rounds", "passSome", "(LTruePoll$Moment;I)V"⟩ ∈ TB := TB_of (in_t4 207 rfl) rfl
theorem ml_La_91 : Cond.methodLink "TruePollLaw" 91 ⟨"TruePoll", "comes", "(I)I"⟩ ∈ TB := TB_of (in_t4 211 rfl) rfl
theorem ml_TP_214 : Cond.methodLink "TruePoll" 214 ⟨"TruePoll", "isFigure", "(I)Z"⟩ ∈ TB := TB_of (in_t4 215 rfl) rfl
theorem ml_TP_217 : Cond.methodLink "TruePoll" 217 ⟨"TruePoll", "look", "()LTruePoll$Outlook;"⟩ ∈ TB := TB_of (in_t4 219 rfl) rfl
theorem ml_TP_387 : Cond.methodLink "TruePoll" 387 ⟨"TruePoll$Asker", "yesBits", "(LTruePoll$Moment;LTruePoll$Text;I)I"⟩ ∈ TB := TB_of (in_t4 223 rfl) rfl
theorem ml_As_34 : Cond.methodLink "TruePoll$Asker" 34 ⟨"TruePoll$Asker", "saysYes", "(LTruePoll$Moment;LTruePoll$Text;II)Z"⟩ ∈ TB := TB_of (in_t4 227 rfl) rfl
theorem ml_TP_351 : Cond.methodLink "TruePoll" 351 ⟨"TruePoll", "put", "([III)V"⟩ ∈ TB := TB_of (in_t4 228 rfl) rfl
theorem ml_TP_221 : Cond.methodLink "TruePoll" 221 ⟨"TruePoll$Outlook", "comesOf", "(I)I"⟩ ∈ TB := TB_of (in_t4 229 rfl) rfl
theorem ml_Ou_25 : Cond.methodLink "TruePoll$Outlook" 25 ⟨"java/lang/Integer", "bitCount", "(I)I"⟩ ∈ TB := TB_of (in_t4 234 rfl) rfl
theorem ml_La_95 : Cond.methodLink "TruePollLaw" 95 ⟨"TruePoll", "trues", "()I"⟩ ∈ TB := TB_of (in_t4 235 rfl) rfl
theorem ml_TP_225 : Cond.methodLink "TruePoll" 225 ⟨"TruePoll$Outlook", "trueBits", "()I"⟩ ∈ TB := TB_of (in_t4 239 rfl) rfl
theorem ml_Ou_35 : Cond.methodLink "TruePoll$Outlook" 35 ⟨"TruePoll$Outlook", "comesOf", "(I)I"⟩ ∈ TB := TB_of (in_t5 3 rfl) rfl
theorem ml_La_99 : Cond.methodLink "TruePollLaw" 99 ⟨"TruePoll", "firm", "()I"⟩ ∈ TB := TB_of (in_t5 4 rfl) rfl
theorem ml_TP_228 : Cond.methodLink "TruePoll" 228 ⟨"TruePoll$Outlook", "firmBits", "()I"⟩ ∈ TB := TB_of (in_t5 8 rfl) rfl
theorem ml_La_103 : Cond.methodLink "TruePollLaw" 103 ⟨"TruePoll", "ends", "(IZ)I"⟩ ∈ TB := TB_of (in_t5 12 rfl) rfl
theorem ml_TP_231 : Cond.methodLink "TruePoll" 231 ⟨"TruePoll$Outlook", "ringSize", "(I)I"⟩ ∈ TB := TB_of (in_t5 16 rfl) rfl
theorem ml_Ou_41 : Cond.methodLink "TruePoll$Outlook" 41 ⟨"TruePoll$Outlook", "someOfRing", "(I)I"⟩ ∈ TB := TB_of (in_t5 20 rfl) rfl
theorem ml_Ou_38 : Cond.methodLink "TruePoll$Outlook" 38 ⟨"TruePoll$Outlook", "ringThrough", "(I)I"⟩ ∈ TB := TB_of (in_t5 24 rfl) rfl
theorem ml_TP_234 : Cond.methodLink "TruePoll" 234 ⟨"TruePoll$Outlook", "ringLowest", "(I)I"⟩ ∈ TB := TB_of (in_t5 28 rfl) rfl
theorem ml_Ou_44 : Cond.methodLink "TruePoll$Outlook" 44 ⟨"java/lang/Math", "min", "(II)I"⟩ ∈ TB := TB_of (in_t5 32 rfl) rfl
theorem ml_La_108 : Cond.methodLink "TruePollLaw" 108 ⟨"TruePoll", "till", "(I)I"⟩ ∈ TB := TB_of (in_t5 33 rfl) rfl
theorem ml_TP_237 : Cond.methodLink "TruePoll" 237 ⟨"TruePoll$Outlook", "tillRing", "(I)I"⟩ ∈ TB := TB_of (in_t5 37 rfl) rfl
theorem ml_La_112 : Cond.methodLink "TruePollLaw" 112 ⟨"TruePoll", "leads", "(I)I"⟩ ∈ TB := TB_of (in_t5 41 rfl) rfl
theorem ml_TP_240 : Cond.methodLink "TruePoll" 240 ⟨"TruePoll$Outlook", "leadBits", "(I)I"⟩ ∈ TB := TB_of (in_t5 45 rfl) rfl
theorem ml_La_116 : Cond.methodLink "TruePollLaw" 116 ⟨"TruePoll", "rings", "()I"⟩ ∈ TB := TB_of (in_t5 49 rfl) rfl
theorem ml_TP_243 : Cond.methodLink "TruePoll" 243 ⟨"TruePoll$Outlook", "ringCount", "()I"⟩ ∈ TB := TB_of (in_t5 53 rfl) rfl
theorem ml_Ou_50 : Cond.methodLink "TruePoll$Outlook" 50 ⟨"TruePoll$Outlook", "ringLowest", "(I)I"⟩ ∈ TB := TB_of (in_t5 57 rfl) rfl
theorem ml_La_120 : Cond.methodLink "TruePollLaw" 120 ⟨"TruePoll", "nearest", "()I"⟩ ∈ TB := TB_of (in_t5 58 rfl) rfl
theorem ml_TP_246 : Cond.methodLink "TruePoll" 246 ⟨"TruePoll$Outlook", "nearestFigure", "()I"⟩ ∈ TB := TB_of (in_t5 62 rfl) rfl
theorem ml_Ou_53 : Cond.methodLink "TruePoll$Outlook" 53 ⟨"java/lang/Math", "abs", "(I)I"⟩ ∈ TB := TB_of (in_t5 66 rfl) rfl
theorem ml_La_124 : Cond.methodLink "TruePollLaw" 124 ⟨"TruePoll", "path", "(III)I"⟩ ∈ TB := TB_of (in_t5 67 rfl) rfl
theorem ml_TP_249 : Cond.methodLink "TruePoll" 249 ⟨"TruePoll$Outlook", "fewestTellings", "(III)I"⟩ ∈ TB := TB_of (in_t5 71 rfl) rfl
theorem ml_Ou_56 : Cond.methodLink "TruePoll$Outlook" 56 ⟨"TruePoll$Outlook", "comeFrom", "(II)I"⟩ ∈ TB := TB_of (in_t5 75 rfl) rfl
theorem ml_Ou_59 : Cond.methodLink "TruePoll$Outlook" 59 ⟨"java/lang/Math", "max", "(II)I"⟩ ∈ TB := TB_of (in_t5 79 rfl) rfl
theorem ml_La_129 : Cond.methodLink "TruePollLaw" 129 ⟨"TruePoll", "win", "(IZ)I"⟩ ∈ TB := TB_of (in_t5 80 rfl) rfl
theorem ml_TP_253 : Cond.methodLink "TruePoll" 253 ⟨"TruePoll$Outlook", "winners", "(I)I"⟩ ∈ TB := TB_of (in_t5 84 rfl) rfl
theorem ml_Ou_62 : Cond.methodLink "TruePoll$Outlook" 62 ⟨"TruePoll$Outlook", "yesTold", "(I)I"⟩ ∈ TB := TB_of (in_t5 88 rfl) rfl
theorem ml_TP_256 : Cond.methodLink "TruePoll" 256 ⟨"java/lang/Integer", "bitCount", "(I)I"⟩ ∈ TB := TB_of (in_t5 92 rfl) rfl
theorem ml_La_133 : Cond.methodLink "TruePollLaw" 133 ⟨"TruePoll", "two", "(III)I"⟩ ∈ TB := TB_of (in_t5 93 rfl) rfl
theorem ml_TP_261 : Cond.methodLink "TruePoll" 261 ⟨"TruePoll$Outlook", "yesOfTwo", "(IIZ)I"⟩ ∈ TB := TB_of (in_t5 97 rfl) rfl
theorem ml_TP_265 : Cond.methodLink "TruePoll" 265 ⟨"TruePoll$Outlook", "trueSplits", "(II)I"⟩ ∈ TB := TB_of (in_t5 101 rfl) rfl
theorem ml_Ou_65 : Cond.methodLink "TruePoll$Outlook" 65 ⟨"TruePoll$Outlook", "isTrueSplit", "(III)Z"⟩ ∈ TB := TB_of (in_t5 105 rfl) rfl
theorem ml_La_137 : Cond.methodLink "TruePollLaw" 137 ⟨"TruePoll", "split", "(II)I"⟩ ∈ TB := TB_of (in_t5 109 rfl) rfl
theorem ml_TP_268 : Cond.methodLink "TruePoll" 268 ⟨"TruePoll$Outlook", "lowestSplit", "(II)I"⟩ ∈ TB := TB_of (in_t5 113 rfl) rfl
theorem ml_La_141 : Cond.methodLink "TruePollLaw" 141 ⟨"TruePoll", "mind", "(II)I"⟩ ∈ TB := TB_of (in_t5 117 rfl) rfl
theorem ml_TP_271 : Cond.methodLink "TruePoll" 271 ⟨"TruePoll$Outlook", "yesTold", "(I)I"⟩ ∈ TB := TB_of (in_t5 121 rfl) rfl
theorem ml_La_145 : Cond.methodLink "TruePollLaw" 145 ⟨"TruePoll", "unasked", "(Z)I"⟩ ∈ TB := TB_of (in_t5 122 rfl) rfl
theorem ml_TP_274 : Cond.methodLink "TruePoll" 274 ⟨"TruePoll$Outlook", "yesByAny", "()I"⟩ ∈ TB := TB_of (in_t5 126 rfl) rfl
theorem ml_TP_277 : Cond.methodLink "TruePoll" 277 ⟨"TruePoll$Outlook", "yesByAll", "()I"⟩ ∈ TB := TB_of (in_t5 130 rfl) rfl
theorem ml_La_150 : Cond.methodLink "TruePollLaw" 150 ⟨"TruePoll", "alike", "(II)I"⟩ ∈ TB := TB_of (in_t5 134 rfl) rfl
theorem ml_TP_280 : Cond.methodLink "TruePoll" 280 ⟨"TruePoll$Outlook", "alikeFigures", "(II)I"⟩ ∈ TB := TB_of (in_t5 138 rfl) rfl
theorem ml_La_154 : Cond.methodLink "TruePollLaw" 154 ⟨"TruePoll", "pair", "(Z)I"⟩ ∈ TB := TB_of (in_t5 142 rfl) rfl
theorem ml_TP_283 : Cond.methodLink "TruePoll" 283 ⟨"TruePoll$Outlook", "mostAlike", "(Z)I"⟩ ∈ TB := TB_of (in_t5 146 rfl) rfl
theorem ml_Ou_69 : Cond.methodLink "TruePoll$Outlook" 69 ⟨"TruePoll$Outlook", "alikeFigures", "(II)I"⟩ ∈ TB := TB_of (in_t5 150 rfl) rfl
theorem ml_La_158 : Cond.methodLink "TruePollLaw" 158 ⟨"TruePoll", "move", "(II)I"⟩ ∈ TB := TB_of (in_t5 151 rfl) rfl
theorem ml_TP_287 : Cond.methodLink "TruePoll" 287 ⟨"TruePoll", "nearestLean", "(II)I"⟩ ∈ TB := TB_of (in_t5 155 rfl) rfl
theorem ml_TP_391 : Cond.methodLink "TruePoll" 391 ⟨"java/lang/Math", "abs", "(I)I"⟩ ∈ TB := TB_of (in_t5 159 rfl) rfl
theorem ml_La_162 : Cond.methodLink "TruePollLaw" 162 ⟨"TruePoll", "cheapest", "(I)I"⟩ ∈ TB := TB_of (in_t5 160 rfl) rfl
theorem ml_TP_290 : Cond.methodLink "TruePoll" 290 ⟨"TruePoll", "cheapestMoves", "(I)I"⟩ ∈ TB := TB_of (in_t5 164 rfl) rfl
theorem ml_TP_394 : Cond.methodLink "TruePoll" 394 ⟨"TruePoll", "fillCosts", "(II)V"⟩ ∈ TB := TB_of (in_t5 168 rfl) rfl
theorem ml_La_166 : Cond.methodLink "TruePollLaw" 166 ⟨"TruePoll", "sure", "(IIZ)J"⟩ ∈ TB := TB_of (in_t5 172 rfl) rfl
theorem ml_TP_295 : Cond.methodLink "TruePoll" 295 ⟨"TruePoll", "waysFor", "(II)J"⟩ ∈ TB := TB_of (in_t5 177 rfl) rfl
theorem ml_TP_307 : Cond.methodLink "TruePoll" 307 ⟨"TruePoll", "yesAsNow", "()I"⟩ ∈ TB := TB_of (in_t5 181 rfl) rfl
theorem ml_TP_397 : Cond.methodLink "TruePoll" 397 ⟨"java/util/Arrays", "fill", "([JJ)V"⟩ ∈ TB := TB_of (in_t5 185 rfl) rfl
theorem ml_TP_299 : Cond.methodLink "TruePoll" 299 ⟨"TruePoll", "allWays", "()J"⟩ ∈ TB := TB_of (in_t5 188 rfl) rfl
theorem ml_TP_303 : Cond.methodLink "TruePoll" 303 ⟨"TruePoll", "inLowestTerms", "(JJZ)J"⟩ ∈ TB := TB_of (in_t5 193 rfl) rfl
theorem ml_La_171 : Cond.methodLink "TruePollLaw" 171 ⟨"TruePoll", "mean", "(IZ)J"⟩ ∈ TB := TB_of (in_t5 196 rfl) rfl
theorem ml_La_176 : Cond.methodLink "TruePollLaw" 176 ⟨"TruePoll", "reach", "(I)I"⟩ ∈ TB := TB_of (in_t5 200 rfl) rfl
theorem ml_TP_315 : Cond.methodLink "TruePoll" 315 ⟨"TruePoll$Crowd", "heardBy", "(I)I"⟩ ∈ TB := TB_of (in_t5 204 rfl) rfl
theorem ml_La_180 : Cond.methodLink "TruePollLaw" 180 ⟨"TruePoll", "circles", "()I"⟩ ∈ TB := TB_of (in_t5 208 rfl) rfl
theorem ml_TP_318 : Cond.methodLink "TruePoll" 318 ⟨"TruePoll$Crowd", "circleCount", "()I"⟩ ∈ TB := TB_of (in_t5 212 rfl) rfl
theorem ml_Cr_119 : Cond.methodLink "TruePoll$Crowd" 119 ⟨"TruePoll$Crowd", "isLowestOfCircle", "(I)Z"⟩ ∈ TB := TB_of (in_t5 216 rfl) rfl
theorem ml_Cr_122 : Cond.methodLink "TruePoll$Crowd" 122 ⟨"TruePoll$Crowd", "heardBy", "(I)I"⟩ ∈ TB := TB_of (in_t5 220 rfl) rfl
theorem ml_La_184 : Cond.methodLink "TruePollLaw" 184 ⟨"TruePoll", "loud", "()I"⟩ ∈ TB := TB_of (in_t5 221 rfl) rfl
theorem ml_TP_321 : Cond.methodLink "TruePoll" 321 ⟨"TruePoll$Crowd", "loudest", "()I"⟩ ∈ TB := TB_of (in_t5 225 rfl) rfl
theorem ml_Cr_126 : Cond.methodLink "TruePoll$Crowd" 126 ⟨"TruePoll$Crowd", "earsFor", "(I)I"⟩ ∈ TB := TB_of (in_t5 229 rfl) rfl
theorem ml_La_188 : Cond.methodLink "TruePollLaw" 188 ⟨"TruePoll", "part", "()I"⟩ ∈ TB := TB_of (in_t5 233 rfl) rfl
theorem ml_TP_324 : Cond.methodLink "TruePoll" 324 ⟨"TruePoll", "unlikeCounts", "(I)I"⟩ ∈ TB := TB_of (in_t5 237 rfl) rfl
theorem ml_La_192 : Cond.methodLink "TruePollLaw" 192 ⟨"TruePoll", "game", "(I)I"⟩ ∈ TB := TB_of (in_t6 1 rfl) rfl
theorem ml_TP_327 : Cond.methodLink "TruePoll" 327 ⟨"TruePoll$Outlook", "gameEnd", "(II)I"⟩ ∈ TB := TB_of (in_t6 5 rfl) rfl
theorem ml_Ou_72 : Cond.methodLink "TruePoll$Outlook" 72 ⟨"TruePoll$Outlook", "playBackTo", "(II)V"⟩ ∈ TB := TB_of (in_t6 9 rfl) rfl
theorem ml_Ou_76 : Cond.methodLink "TruePoll$Outlook" 76 ⟨"TruePoll$Outlook", "bestLast", "(IZ)I"⟩ ∈ TB := TB_of (in_t6 13 rfl) rfl
theorem ml_Ou_84 : Cond.methodLink "TruePoll$Outlook" 84 ⟨"java/lang/System", "arraycopy", "(Ljava/lang/Object;ILjava/lang/Object;II)V"⟩ ∈ TB := TB_of (in_t6 18 rfl) rfl
theorem ml_La_196 : Cond.methodLink "TruePollLaw" 196 ⟨"TruePoll", "choice", "(I)I"⟩ ∈ TB := TB_of (in_t6 19 rfl) rfl
theorem ml_TP_330 : Cond.methodLink "TruePoll" 330 ⟨"TruePoll$Outlook", "gameStart", "(II)I"⟩ ∈ TB := TB_of (in_t6 23 rfl) rfl
theorem ml_La_200 : Cond.methodLink "TruePollLaw" 200 ⟨"TruePoll", "party", "(II)I"⟩ ∈ TB := TB_of (in_t6 27 rfl) rfl
theorem ml_TP_336 : Cond.methodLink "TruePoll" 336 ⟨"TruePoll$Crowd", "addParty", "(II)Z"⟩ ∈ TB := TB_of (in_t6 31 rfl) rfl
theorem ml_La_204 : Cond.methodLink "TruePollLaw" 204 ⟨"TruePoll", "lives", "(I)I"⟩ ∈ TB := TB_of (in_t6 35 rfl) rfl
theorem ml_TP_339 : Cond.methodLink "TruePoll" 339 ⟨"TruePoll$Crowd", "partiesBy", "(I)I"⟩ ∈ TB := TB_of (in_t6 39 rfl) rfl
theorem ml_La_208 : Cond.methodLink "TruePollLaw" 208 ⟨"TruePoll", "most", "()I"⟩ ∈ TB := TB_of (in_t6 43 rfl) rfl
theorem ml_La_212 : Cond.methodLink "TruePollLaw" 212 ⟨"TruePoll", "fewest", "(Z)I"⟩ ∈ TB := TB_of (in_t6 47 rfl) rfl
theorem ml_La_216 : Cond.methodLink "TruePollLaw" 216 ⟨"TruePoll", "decimal", "(III)I"⟩ ∈ TB := TB_of (in_t6 51 rfl) rfl
theorem ml_TP_342 : Cond.methodLink "TruePoll" 342 ⟨"TruePoll", "isPart", "(II)Z"⟩ ∈ TB := TB_of (in_t6 55 rfl) rfl
theorem ml_La_220 : Cond.methodLink "TruePollLaw" 220 ⟨"TruePoll", "decimals", "(IIZ)I"⟩ ∈ TB := TB_of (in_t6 58 rfl) rfl
theorem ml_TP_345 : Cond.methodLink "TruePoll" 345 ⟨"java/util/Arrays", "fill", "([II)V"⟩ ∈ TB := TB_of (in_t6 62 rfl) rfl
theorem ml_La_225 : Cond.methodLink "TruePollLaw" 225 ⟨"TruePoll", "village", "(II)Z"⟩ ∈ TB := TB_of (in_t6 65 rfl) rfl
theorem ml_La_229 : Cond.methodLink "TruePollLaw" 229 ⟨"TruePoll", "window", "(II)I"⟩ ∈ TB := TB_of (in_t6 69 rfl) rfl
theorem ml_TP_358 : Cond.methodLink "TruePoll" 358 ⟨"TruePoll$Crowd", "villagesFrom", "(II)I"⟩ ∈ TB := TB_of (in_t6 73 rfl) rfl
theorem ml_La_233 : Cond.methodLink "TruePollLaw" 233 ⟨"TruePoll", "busiest", "(I)I"⟩ ∈ TB := TB_of (in_t6 77 rfl) rfl
theorem ml_La_237 : Cond.methodLink "TruePollLaw" 237 ⟨"TruePoll", "said", "(II)I"⟩ ∈ TB := TB_of (in_t6 81 rfl) rfl
theorem ml_TP_364 : Cond.methodLink "TruePoll" 364 ⟨"TruePoll$Crowd", "addSaid", "(II)Z"⟩ ∈ TB := TB_of (in_t6 85 rfl) rfl
theorem ml_La_241 : Cond.methodLink "TruePollLaw" 241 ⟨"TruePoll", "whose", "()I"⟩ ∈ TB := TB_of (in_t6 89 rfl) rfl
theorem ml_TP_367 : Cond.methodLink "TruePoll" 367 ⟨"TruePoll", "accountsForSaid", "(LTruePoll$Text;)Z"⟩ ∈ TB := TB_of (in_t6 93 rfl) rfl
theorem ml_La_245 : Cond.methodLink "TruePollLaw" 245 ⟨"TruePoll", "honest", "()I"⟩ ∈ TB := TB_of (in_t6 97 rfl) rfl
theorem ml_La_249 : Cond.methodLink "TruePollLaw" 249 ⟨"TruePoll", "changes", "()I"⟩ ∈ TB := TB_of (in_t6 101 rfl) rfl
theorem ml_La_253 : Cond.methodLink "TruePollLaw" 253 ⟨"TruePoll", "ledger", "(I)I"⟩ ∈ TB := TB_of (in_t6 105 rfl) rfl
theorem ml_La_257 : Cond.methodLink "TruePollLaw" 257 ⟨"TruePoll", "image", "()I"⟩ ∈ TB := TB_of (in_t6 109 rfl) rfl
theorem ml_TP_371 : Cond.methodLink "TruePoll" 371 ⟨"TruePoll$Crowd", "copyAll", "(LTruePoll$Crowd;)V"⟩ ∈ TB := TB_of (in_t6 113 rfl) rfl
theorem ml_Cr_71 : Cond.methodLink "TruePoll$Crowd" 71 ⟨"TruePoll$Crowd", "copyPeople", "(LTruePoll$Crowd;)V"⟩ ∈ TB := TB_of (in_t6 117 rfl) rfl
theorem ml_Cr_81 : Cond.methodLink "TruePoll$Crowd" 81 ⟨"java/lang/System", "arraycopy", "(Ljava/lang/Object;ILjava/lang/Object;II)V"⟩ ∈ TB := TB_of (in_t6 121 rfl) rfl
theorem ml_Cr_78 : Cond.methodLink "TruePoll$Crowd" 78 ⟨"TruePoll$Crowd", "copyTold", "(LTruePoll$Crowd;)V"⟩ ∈ TB := TB_of (in_t6 122 rfl) rfl
theorem ml_La_261 : Cond.methodLink "TruePollLaw" 261 ⟨"TruePoll", "back", "()I"⟩ ∈ TB := TB_of (in_t6 126 rfl) rfl
theorem ml_La_265 : Cond.methodLink "TruePollLaw" 265 ⟨"TruePoll", "about", "(I)I"⟩ ∈ TB := TB_of (in_t6 130 rfl) rfl
theorem ml_La_12 : Cond.methodLink "TruePollLaw" 12 ⟨"TruePollModel", "<init>", "()V"⟩ ∈ TB := TB_of (in_t6 136 rfl) rfl
theorem ml_TM_1 : Cond.methodLink "TruePollModel" 1 ⟨"java/lang/Object", "<init>", "()V"⟩ ∈ TB := TB_of (in_t6 139 rfl) rfl
theorem ml_TM_65 : Cond.methodLink "TruePollModel" 65 ⟨"TruePollModel", "copy", "([I[I)V"⟩ ∈ TB := TB_of (in_t6 140 rfl) rfl
theorem ml_La_17 : Cond.methodLink "TruePollLaw" 17 ⟨"TruePollModel", "person", "(II)I"⟩ ∈ TB := TB_of (in_t6 235 rfl) rfl
theorem ml_TM_69 : Cond.methodLink "TruePollModel" 69 ⟨"TruePollModel", "isIn", "(III)Z"⟩ ∈ TB := TB_of (in_t6 239 rfl) rfl
theorem ml_La_22 : Cond.methodLink "TruePollLaw" 22 ⟨"TruePollModel", "hear", "(II)Z"⟩ ∈ TB := TB_of (in_t7 2 rfl) rfl
theorem ml_TM_73 : Cond.methodLink "TruePollModel" 73 ⟨"TruePollModel", "isPerson", "(I)Z"⟩ ∈ TB := TB_of (in_t7 6 rfl) rfl
theorem ml_La_27 : Cond.methodLink "TruePollLaw" 27 ⟨"TruePollModel", "feed", "(IIIII)I"⟩ ∈ TB := TB_of (in_t7 10 rfl) rfl
theorem ml_TM_80 : Cond.methodLink "TruePollModel" 80 ⟨"TruePollModel", "four", "(I)V"⟩ ∈ TB := TB_of (in_t7 14 rfl) rfl
theorem ml_La_32 : Cond.methodLink "TruePollLaw" 32 ⟨"TruePollModel", "end", "(I)I"⟩ ∈ TB := TB_of (in_t7 18 rfl) rfl
theorem ml_La_37 : Cond.methodLink "TruePollLaw" 37 ⟨"TruePollModel", "text", "()I"⟩ ∈ TB := TB_of (in_t7 22 rfl) rfl
theorem ml_TM_240 : Cond.methodLink "TruePollModel" 240 ⟨"TruePollModel", "readText", "()I"⟩ ∈ TB := TB_of (in_t7 26 rfl) rfl
theorem ml_TM_165 : Cond.methodLink "TruePollModel" 165 ⟨"TruePollModel", "nextToken", "()V"⟩ ∈ TB := TB_of (in_t7 30 rfl) rfl
theorem ml_TM_87 : Cond.methodLink "TruePollModel" 87 ⟨"TruePollModel", "byteAt", "(I)I"⟩ ∈ TB := TB_of (in_t7 34 rfl) rfl
theorem ml_TM_97 : Cond.methodLink "TruePollModel" 97 ⟨"TruePollModel", "isFigure", "(I)Z"⟩ ∈ TB := TB_of (in_t7 38 rfl) rfl
theorem ml_TM_104 : Cond.methodLink "TruePollModel" 104 ⟨"TruePollModel", "isLetterByte", "(I)Z"⟩ ∈ TB := TB_of (in_t7 42 rfl) rfl
theorem ml_TM_113 : Cond.methodLink "TruePollModel" 113 ⟨"TruePollModel", "isSign", "(I)Z"⟩ ∈ TB := TB_of (in_t7 46 rfl) rfl
theorem ml_TM_237 : Cond.methodLink "TruePollModel" 237 ⟨"TruePollModel", "clause", "()I"⟩ ∈ TB := TB_of (in_t7 49 rfl) rfl
theorem ml_TM_223 : Cond.methodLink "TruePollModel" 223 ⟨"TruePollModel", "sortOf", "()I"⟩ ∈ TB := TB_of (in_t7 53 rfl) rfl
theorem ml_TM_124 : Cond.methodLink "TruePollModel" 124 ⟨"TruePollModel", "w4", "(IIII)J"⟩ ∈ TB := TB_of (in_t7 57 rfl) rfl
theorem ml_TM_120 : Cond.methodLink "TruePollModel" 120 ⟨"TruePollModel", "w3", "(III)J"⟩ ∈ TB := TB_of (in_t7 60 rfl) rfl
theorem ml_TM_116 : Cond.methodLink "TruePollModel" 116 ⟨"TruePollModel", "w2", "(II)J"⟩ ∈ TB := TB_of (in_t7 63 rfl) rfl
theorem ml_TM_183 : Cond.methodLink "TruePollModel" 183 ⟨"TruePollModel", "isWord", "(J)Z"⟩ ∈ TB := TB_of (in_t7 66 rfl) rfl
theorem ml_TM_128 : Cond.methodLink "TruePollModel" 128 ⟨"TruePollModel", "w5", "(IIIII)J"⟩ ∈ TB := TB_of (in_t7 70 rfl) rfl
theorem ml_TM_138 : Cond.methodLink "TruePollModel" 138 ⟨"TruePollModel", "w6", "(IIIIII)J"⟩ ∈ TB := TB_of (in_t7 73 rfl) rfl
theorem ml_TM_229 : Cond.methodLink "TruePollModel" 229 ⟨"TruePollModel", "has", "(II)Z"⟩ ∈ TB := TB_of (in_t7 76 rfl) rfl
theorem ml_TM_233 : Cond.methodLink "TruePollModel" 233 ⟨"TruePollModel", "body", "(II)I"⟩ ∈ TB := TB_of (in_t7 79 rfl) rfl
theorem ml_TM_216 : Cond.methodLink "TruePollModel" 216 ⟨"TruePollModel", "twoNumbers", "(IIJI)I"⟩ ∈ TB := TB_of (in_t7 83 rfl) rfl
theorem ml_TM_212 : Cond.methodLink "TruePollModel" 212 ⟨"TruePollModel", "figure", "(III)I"⟩ ∈ TB := TB_of (in_t7 87 rfl) rfl
theorem ml_TM_220 : Cond.methodLink "TruePollModel" 220 ⟨"TruePollModel", "lawClause", "(I)I"⟩ ∈ TB := TB_of (in_t7 91 rfl) rfl
theorem ml_TM_209 : Cond.methodLink "TruePollModel" 209 ⟨"TruePollModel", "summed", "()I"⟩ ∈ TB := TB_of (in_t7 95 rfl) rfl
theorem ml_TM_203 : Cond.methodLink "TruePollModel" 203 ⟨"TruePollModel", "behindOne", "()Z"⟩ ∈ TB := TB_of (in_t7 99 rfl) rfl
theorem ml_TM_197 : Cond.methodLink "TruePollModel" 197 ⟨"TruePollModel", "betweenOf", "()I"⟩ ∈ TB := TB_of (in_t7 103 rfl) rfl
theorem ml_TM_162 : Cond.methodLink "TruePollModel" 162 ⟨"TruePollModel", "openNow", "()I"⟩ ∈ TB := TB_of (in_t7 107 rfl) rfl
theorem ml_TM_158 : Cond.methodLink "TruePollModel" 158 ⟨"TruePollModel", "openAt", "()I"⟩ ∈ TB := TB_of (in_t7 111 rfl) rfl
theorem ml_TM_191 : Cond.methodLink "TruePollModel" 191 ⟨"TruePollModel", "isCompared", "()Z"⟩ ∈ TB := TB_of (in_t7 115 rfl) rfl
theorem ml_TM_148 : Cond.methodLink "TruePollModel" 148 ⟨"TruePollModel", "rank", "(I)I"⟩ ∈ TB := TB_of (in_t7 119 rfl) rfl
theorem ml_TM_194 : Cond.methodLink "TruePollModel" 194 ⟨"TruePollModel", "compareOf", "()I"⟩ ∈ TB := TB_of (in_t7 122 rfl) rfl
theorem ml_TM_177 : Cond.methodLink "TruePollModel" 177 ⟨"TruePollModel", "settle", "(I)V"⟩ ∈ TB := TB_of (in_t7 126 rfl) rfl
theorem ml_TM_151 : Cond.methodLink "TruePollModel" 151 ⟨"TruePollModel", "emit", "(II)V"⟩ ∈ TB := TB_of (in_t7 130 rfl) rfl
theorem ml_TM_200 : Cond.methodLink "TruePollModel" 200 ⟨"TruePollModel", "partOf", "(I)I"⟩ ∈ TB := TB_of (in_t7 134 rfl) rfl
theorem ml_TM_206 : Cond.methodLink "TruePollModel" 206 ⟨"TruePollModel", "beginOne", "()I"⟩ ∈ TB := TB_of (in_t7 138 rfl) rfl
theorem ml_TM_168 : Cond.methodLink "TruePollModel" 168 ⟨"TruePollModel", "nameOf", "()I"⟩ ∈ TB := TB_of (in_t7 142 rfl) rfl
theorem ml_TM_171 : Cond.methodLink "TruePollModel" 171 ⟨"TruePollModel", "isOf", "(I)Z"⟩ ∈ TB := TB_of (in_t7 146 rfl) rfl
theorem ml_TM_180 : Cond.methodLink "TruePollModel" 180 ⟨"TruePollModel", "opened", "(I)I"⟩ ∈ TB := TB_of (in_t7 150 rfl) rfl
theorem ml_TM_187 : Cond.methodLink "TruePollModel" 187 ⟨"TruePollModel", "isAskAhead", "()Z"⟩ ∈ TB := TB_of (in_t7 154 rfl) rfl
theorem ml_La_41 : Cond.methodLink "TruePollLaw" 41 ⟨"TruePollModel", "fault", "(I)I"⟩ ∈ TB := TB_of (in_t7 158 rfl) rfl
theorem ml_La_46 : Cond.methodLink "TruePollLaw" 46 ⟨"TruePollModel", "by", "(I)Z"⟩ ∈ TB := TB_of (in_t7 162 rfl) rfl
theorem ml_La_70 : Cond.methodLink "TruePollLaw" 70 ⟨"TruePollModel", "undo", "()I"⟩ ∈ TB := TB_of (in_t7 166 rfl) rfl
theorem ml_La_50 : Cond.methodLink "TruePollLaw" 50 ⟨"TruePollModel", "tell", "(I)I"⟩ ∈ TB := TB_of (in_t7 170 rfl) rfl
theorem ml_TM_311 : Cond.methodLink "TruePollModel" 311 ⟨"TruePollModel", "canBeTold", "(I)Z"⟩ ∈ TB := TB_of (in_t7 174 rfl) rfl
theorem ml_TM_314 : Cond.methodLink "TruePollModel" 314 ⟨"TruePollModel", "keep", "()V"⟩ ∈ TB := TB_of (in_t7 178 rfl) rfl
theorem ml_TM_317 : Cond.methodLink "TruePollModel" 317 ⟨"TruePollModel", "pass", "(I)V"⟩ ∈ TB := TB_of (in_t7 182 rfl) rfl
theorem ml_TM_299 : Cond.methodLink "TruePollModel" 299 ⟨"TruePollModel", "isYes", "(II)Z"⟩ ∈ TB := TB_of (in_t7 186 rfl) rfl
theorem ml_TM_283 : Cond.methodLink "TruePollModel" 283 ⟨"TruePollModel", "isYesBy", "(III)Z"⟩ ∈ TB := TB_of (in_t7 190 rfl) rfl
theorem ml_TM_270 : Cond.methodLink "TruePollModel" 270 ⟨"TruePollModel", "clauseOf", "(II)I"⟩ ∈ TB := TB_of (in_t7 194 rfl) rfl
theorem ml_TM_273 : Cond.methodLink "TruePollModel" 273 ⟨"TruePollModel", "name", "(III)V"⟩ ∈ TB := TB_of (in_t7 198 rfl) rfl
theorem ml_TM_267 : Cond.methodLink "TruePollModel" 267 ⟨"TruePollModel", "bits", "(I)I"⟩ ∈ TB := TB_of (in_t7 202 rfl) rfl
theorem ml_TM_277 : Cond.methodLink "TruePollModel" 277 ⟨"TruePollModel", "isYesBySort", "(II)Z"⟩ ∈ TB := TB_of (in_t7 205 rfl) rfl
theorem ml_TM_280 : Cond.methodLink "TruePollModel" 280 ⟨"TruePollModel", "summedUp", "(II)J"⟩ ∈ TB := TB_of (in_t7 209 rfl) rfl
theorem ml_TM_251 : Cond.methodLink "TruePollModel" 251 ⟨"TruePollModel", "ofOne", "(IJ)J"⟩ ∈ TB := TB_of (in_t7 213 rfl) rfl
theorem ml_TM_255 : Cond.methodLink "TruePollModel" 255 ⟨"TruePollModel", "twoBy", "(IJJ)J"⟩ ∈ TB := TB_of (in_t7 217 rfl) rfl
theorem ml_TM_247 : Cond.methodLink "TruePollModel" 247 ⟨"TruePollModel", "clip", "(J)J"⟩ ∈ TB := TB_of (in_t7 220 rfl) rfl
theorem ml_TM_259 : Cond.methodLink "TruePollModel" 259 ⟨"TruePollModel", "isAsked", "(IJJ)Z"⟩ ∈ TB := TB_of (in_t7 225 rfl) rfl
theorem ml_TM_263 : Cond.methodLink "TruePollModel" 263 ⟨"TruePollModel", "joined", "(IZZ)Z"⟩ ∈ TB := TB_of (in_t7 228 rfl) rfl
theorem ml_TM_302 : Cond.methodLink "TruePollModel" 302 ⟨"TruePollModel", "drawnBy", "(I)I"⟩ ∈ TB := TB_of (in_t7 231 rfl) rfl
theorem ml_TM_290 : Cond.methodLink "TruePollModel" 290 ⟨"TruePollModel", "anew", "()V"⟩ ∈ TB := TB_of (in_t7 235 rfl) rfl
theorem ml_TM_305 : Cond.methodLink "TruePollModel" 305 ⟨"TruePollModel", "swaysOf", "(III)I"⟩ ∈ TB := TB_of (in_t8 2 rfl) rfl
theorem ml_TM_286 : Cond.methodLink "TruePollModel" 286 ⟨"TruePollModel", "held", "(JII)I"⟩ ∈ TB := TB_of (in_t8 6 rfl) rfl
theorem ml_TM_308 : Cond.methodLink "TruePollModel" 308 ⟨"TruePollModel", "write", "(II)V"⟩ ∈ TB := TB_of (in_t8 9 rfl) rfl
theorem ml_La_54 : Cond.methodLink "TruePollLaw" 54 ⟨"TruePollModel", "nudge", "(II)Z"⟩ ∈ TB := TB_of (in_t8 13 rfl) rfl
theorem ml_TM_320 : Cond.methodLink "TruePollModel" 320 ⟨"TruePollModel", "canNudge", "(II)Z"⟩ ∈ TB := TB_of (in_t8 17 rfl) rfl
theorem ml_La_58 : Cond.methodLink "TruePollLaw" 58 ⟨"TruePollModel", "day", "(I)I"⟩ ∈ TB := TB_of (in_t8 21 rfl) rfl
theorem ml_TM_326 : Cond.methodLink "TruePollModel" 326 ⟨"TruePollModel", "arePassed", "(I)Z"⟩ ∈ TB := TB_of (in_t8 25 rfl) rfl
theorem ml_TM_323 : Cond.methodLink "TruePollModel" 323 ⟨"TruePollModel", "tell", "(I)I"⟩ ∈ TB := TB_of (in_t8 29 rfl) rfl
theorem ml_La_62 : Cond.methodLink "TruePollLaw" 62 ⟨"TruePollModel", "played", "(I)I"⟩ ∈ TB := TB_of (in_t8 30 rfl) rfl
theorem ml_TM_338 : Cond.methodLink "TruePollModel" 338 ⟨"TruePollModel", "isPlayed", "(I)Z"⟩ ∈ TB := TB_of (in_t8 34 rfl) rfl
theorem ml_TM_329 : Cond.methodLink "TruePollModel" 329 ⟨"TruePollModel", "person", "(II)I"⟩ ∈ TB := TB_of (in_t8 38 rfl) rfl
theorem ml_TM_332 : Cond.methodLink "TruePollModel" 332 ⟨"TruePollModel", "hear", "(II)Z"⟩ ∈ TB := TB_of (in_t8 39 rfl) rfl
theorem ml_TM_335 : Cond.methodLink "TruePollModel" 335 ⟨"TruePollModel", "nudge", "(II)Z"⟩ ∈ TB := TB_of (in_t8 40 rfl) rfl
theorem ml_La_66 : Cond.methodLink "TruePollLaw" 66 ⟨"TruePollModel", "years", "(II)I"⟩ ∈ TB := TB_of (in_t8 41 rfl) rfl
theorem ml_TM_341 : Cond.methodLink "TruePollModel" 341 ⟨"TruePollModel", "happens", "(I)V"⟩ ∈ TB := TB_of (in_t8 45 rfl) rfl
theorem ml_La_74 : Cond.methodLink "TruePollLaw" 74 ⟨"TruePollModel", "of", "(II)I"⟩ ∈ TB := TB_of (in_t8 49 rfl) rfl
theorem ml_La_78 : Cond.methodLink "TruePollLaw" 78 ⟨"TruePollModel", "says", "(II)Z"⟩ ∈ TB := TB_of (in_t8 53 rfl) rfl
theorem ml_La_82 : Cond.methodLink "TruePollLaw" 82 ⟨"TruePollModel", "is", "(I)I"⟩ ∈ TB := TB_of (in_t8 57 rfl) rfl
theorem ml_La_86 : Cond.methodLink "TruePollLaw" 86 ⟨"TruePollModel", "book", "(II)I"⟩ ∈ TB := TB_of (in_t8 61 rfl) rfl
theorem ml_TM_344 : Cond.methodLink "TruePollModel" 344 ⟨"TruePollModel", "lineOf", "(II)I"⟩ ∈ TB := TB_of (in_t8 65 rfl) rfl
theorem ml_La_256 : Cond.methodLink "TruePollLaw" 256 ⟨"TruePollModel", "ledger", "(I)I"⟩ ∈ TB := TB_of (in_t8 69 rfl) rfl
theorem ml_La_252 : Cond.methodLink "TruePollLaw" 252 ⟨"TruePollModel", "changes", "()I"⟩ ∈ TB := TB_of (in_t8 73 rfl) rfl
theorem ml_La_90 : Cond.methodLink "TruePollLaw" 90 ⟨"TruePollModel", "foretold", "(II)I"⟩ ∈ TB := TB_of (in_t8 77 rfl) rfl
theorem ml_La_94 : Cond.methodLink "TruePollLaw" 94 ⟨"TruePollModel", "comes", "(I)I"⟩ ∈ TB := TB_of (in_t8 81 rfl) rfl
theorem ml_TM_350 : Cond.methodLink "TruePollModel" 350 ⟨"TruePollModel", "comesOf", "(I)I"⟩ ∈ TB := TB_of (in_t8 85 rfl) rfl
theorem ml_TM_347 : Cond.methodLink "TruePollModel" 347 ⟨"TruePollModel", "yesTo", "(I)I"⟩ ∈ TB := TB_of (in_t8 89 rfl) rfl
theorem ml_La_98 : Cond.methodLink "TruePollLaw" 98 ⟨"TruePollModel", "trues", "()I"⟩ ∈ TB := TB_of (in_t8 93 rfl) rfl
theorem ml_La_102 : Cond.methodLink "TruePollLaw" 102 ⟨"TruePollModel", "firm", "()I"⟩ ∈ TB := TB_of (in_t8 97 rfl) rfl
theorem ml_TM_353 : Cond.methodLink "TruePollModel" 353 ⟨"TruePollModel", "isFirm", "(I)Z"⟩ ∈ TB := TB_of (in_t8 101 rfl) rfl
theorem ml_La_107 : Cond.methodLink "TruePollLaw" 107 ⟨"TruePollModel", "ends", "(IZ)I"⟩ ∈ TB := TB_of (in_t8 105 rfl) rfl
theorem ml_TM_362 : Cond.methodLink "TruePollModel" 362 ⟨"TruePollModel", "layNext", "()V"⟩ ∈ TB := TB_of (in_t8 109 rfl) rfl
theorem ml_TM_365 : Cond.methodLink "TruePollModel" 365 ⟨"TruePollModel", "tillRing", "(I)I"⟩ ∈ TB := TB_of (in_t8 113 rfl) rfl
theorem ml_TM_356 : Cond.methodLink "TruePollModel" 356 ⟨"TruePollModel", "behind", "(II)I"⟩ ∈ TB := TB_of (in_t8 117 rfl) rfl
theorem ml_TM_359 : Cond.methodLink "TruePollModel" 359 ⟨"TruePollModel", "ringOf", "(I)I"⟩ ∈ TB := TB_of (in_t8 121 rfl) rfl
theorem ml_TM_368 : Cond.methodLink "TruePollModel" 368 ⟨"TruePollModel", "lowestOfRing", "(I)I"⟩ ∈ TB := TB_of (in_t8 125 rfl) rfl
theorem ml_La_111 : Cond.methodLink "TruePollLaw" 111 ⟨"TruePollModel", "till", "(I)I"⟩ ∈ TB := TB_of (in_t8 129 rfl) rfl
theorem ml_La_115 : Cond.methodLink "TruePollLaw" 115 ⟨"TruePollModel", "leads", "(I)I"⟩ ∈ TB := TB_of (in_t8 133 rfl) rfl
theorem ml_La_119 : Cond.methodLink "TruePollLaw" 119 ⟨"TruePollModel", "rings", "()I"⟩ ∈ TB := TB_of (in_t8 137 rfl) rfl
theorem ml_La_123 : Cond.methodLink "TruePollLaw" 123 ⟨"TruePollModel", "nearest", "()I"⟩ ∈ TB := TB_of (in_t8 141 rfl) rfl
theorem ml_TM_371 : Cond.methodLink "TruePollModel" 371 ⟨"TruePollModel", "apartBy", "(II)I"⟩ ∈ TB := TB_of (in_t8 145 rfl) rfl
theorem ml_La_128 : Cond.methodLink "TruePollLaw" 128 ⟨"TruePollModel", "path", "(III)I"⟩ ∈ TB := TB_of (in_t8 148 rfl) rfl
theorem ml_La_132 : Cond.methodLink "TruePollLaw" 132 ⟨"TruePollModel", "win", "(IZ)I"⟩ ∈ TB := TB_of (in_t8 152 rfl) rfl
theorem ml_TM_374 : Cond.methodLink "TruePollModel" 374 ⟨"TruePollModel", "everyone", "()I"⟩ ∈ TB := TB_of (in_t8 156 rfl) rfl
theorem ml_La_136 : Cond.methodLink "TruePollLaw" 136 ⟨"TruePollModel", "two", "(III)I"⟩ ∈ TB := TB_of (in_t8 160 rfl) rfl
theorem ml_TM_378 : Cond.methodLink "TruePollModel" 378 ⟨"TruePollModel", "areTrue", "(IIIII)Z"⟩ ∈ TB := TB_of (in_t8 165 rfl) rfl
theorem ml_La_140 : Cond.methodLink "TruePollLaw" 140 ⟨"TruePollModel", "split", "(II)I"⟩ ∈ TB := TB_of (in_t8 168 rfl) rfl
theorem ml_La_144 : Cond.methodLink "TruePollLaw" 144 ⟨"TruePollModel", "mind", "(II)I"⟩ ∈ TB := TB_of (in_t8 172 rfl) rfl
theorem ml_La_149 : Cond.methodLink "TruePollLaw" 149 ⟨"TruePollModel", "unasked", "(Z)I"⟩ ∈ TB := TB_of (in_t8 176 rfl) rfl
theorem ml_TM_382 : Cond.methodLink "TruePollModel" 382 ⟨"TruePollModel", "yesToAny", "()I"⟩ ∈ TB := TB_of (in_t8 180 rfl) rfl
theorem ml_TM_385 : Cond.methodLink "TruePollModel" 385 ⟨"TruePollModel", "yesToAll", "()I"⟩ ∈ TB := TB_of (in_t8 184 rfl) rfl
theorem ml_La_248 : Cond.methodLink "TruePollLaw" 248 ⟨"TruePollModel", "honest", "()I"⟩ ∈ TB := TB_of (in_t8 188 rfl) rfl
theorem ml_La_153 : Cond.methodLink "TruePollLaw" 153 ⟨"TruePollModel", "alike", "(II)I"⟩ ∈ TB := TB_of (in_t8 192 rfl) rfl
theorem ml_TM_388 : Cond.methodLink "TruePollModel" 388 ⟨"TruePollModel", "alikeOf", "(II)I"⟩ ∈ TB := TB_of (in_t8 196 rfl) rfl
theorem ml_La_157 : Cond.methodLink "TruePollLaw" 157 ⟨"TruePollModel", "pair", "(Z)I"⟩ ∈ TB := TB_of (in_t8 200 rfl) rfl
theorem ml_La_161 : Cond.methodLink "TruePollLaw" 161 ⟨"TruePollModel", "move", "(II)I"⟩ ∈ TB := TB_of (in_t8 204 rfl) rfl
theorem ml_TM_394 : Cond.methodLink "TruePollModel" 394 ⟨"TruePollModel", "moveOf", "(II)I"⟩ ∈ TB := TB_of (in_t8 208 rfl) rfl
theorem ml_TM_391 : Cond.methodLink "TruePollModel" 391 ⟨"TruePollModel", "saysByLean", "(III)Z"⟩ ∈ TB := TB_of (in_t8 212 rfl) rfl
theorem ml_La_165 : Cond.methodLink "TruePollLaw" 165 ⟨"TruePollModel", "cheapest", "(I)I"⟩ ∈ TB := TB_of (in_t8 216 rfl) rfl
theorem ml_TM_397 : Cond.methodLink "TruePollModel" 397 ⟨"TruePollModel", "layPrices", "(IZ)I"⟩ ∈ TB := TB_of (in_t8 220 rfl) rfl
theorem ml_La_170 : Cond.methodLink "TruePollLaw" 170 ⟨"TruePollModel", "sure", "(IIZ)J"⟩ ∈ TB := TB_of (in_t8 224 rfl) rfl
theorem ml_TM_407 : Cond.methodLink "TruePollModel" 407 ⟨"TruePollModel", "tenths", "(III)I"⟩ ∈ TB := TB_of (in_t8 229 rfl) rfl
theorem ml_TM_412 : Cond.methodLink "TruePollModel" 412 ⟨"TruePollModel", "part0", "(JJZ)J"⟩ ∈ TB := TB_of (in_t8 234 rfl) rfl
theorem ml_TM_401 : Cond.methodLink "TruePollModel" 401 ⟨"TruePollModel", "divisor", "(JJ)J"⟩ ∈ TB := TB_of (in_t8 237 rfl) rfl
theorem ml_La_175 : Cond.methodLink "TruePollLaw" 175 ⟨"TruePollModel", "mean", "(IZ)J"⟩ ∈ TB := TB_of (in_t9 0 rfl) rfl
theorem ml_La_179 : Cond.methodLink "TruePollLaw" 179 ⟨"TruePollModel", "reach", "(I)I"⟩ ∈ TB := TB_of (in_t9 4 rfl) rfl
theorem ml_TM_416 : Cond.methodLink "TruePollModel" 416 ⟨"TruePollModel", "heardBy", "(I)I"⟩ ∈ TB := TB_of (in_t9 8 rfl) rfl
theorem ml_La_183 : Cond.methodLink "TruePollLaw" 183 ⟨"TruePollModel", "circles", "()I"⟩ ∈ TB := TB_of (in_t9 12 rfl) rfl
theorem ml_La_187 : Cond.methodLink "TruePollLaw" 187 ⟨"TruePollModel", "loud", "()I"⟩ ∈ TB := TB_of (in_t9 16 rfl) rfl
theorem ml_TM_419 : Cond.methodLink "TruePollModel" 419 ⟨"TruePollModel", "hearers", "(I)I"⟩ ∈ TB := TB_of (in_t9 20 rfl) rfl
theorem ml_La_191 : Cond.methodLink "TruePollLaw" 191 ⟨"TruePollModel", "part", "()I"⟩ ∈ TB := TB_of (in_t9 24 rfl) rfl
theorem ml_TM_425 : Cond.methodLink "TruePollModel" 425 ⟨"TruePollModel", "unlikeBy", "(I)I"⟩ ∈ TB := TB_of (in_t9 28 rfl) rfl
theorem ml_TM_422 : Cond.methodLink "TruePollModel" 422 ⟨"TruePollModel", "countBy", "(II)I"⟩ ∈ TB := TB_of (in_t9 32 rfl) rfl
theorem ml_La_195 : Cond.methodLink "TruePollLaw" 195 ⟨"TruePollModel", "game", "(I)I"⟩ ∈ TB := TB_of (in_t9 36 rfl) rfl
theorem ml_TM_434 : Cond.methodLink "TruePollModel" 434 ⟨"TruePollModel", "layGames", "(I)V"⟩ ∈ TB := TB_of (in_t9 40 rfl) rfl
theorem ml_TM_428 : Cond.methodLink "TruePollModel" 428 ⟨"TruePollModel", "canTell", "(II)Z"⟩ ∈ TB := TB_of (in_t9 44 rfl) rfl
theorem ml_TM_431 : Cond.methodLink "TruePollModel" 431 ⟨"TruePollModel", "byTold", "(II)I"⟩ ∈ TB := TB_of (in_t9 48 rfl) rfl
theorem ml_La_199 : Cond.methodLink "TruePollLaw" 199 ⟨"TruePollModel", "choice", "(I)I"⟩ ∈ TB := TB_of (in_t9 52 rfl) rfl
theorem ml_La_203 : Cond.methodLink "TruePollLaw" 203 ⟨"TruePollModel", "party", "(II)I"⟩ ∈ TB := TB_of (in_t9 56 rfl) rfl
theorem ml_La_207 : Cond.methodLink "TruePollLaw" 207 ⟨"TruePollModel", "lives", "(I)I"⟩ ∈ TB := TB_of (in_t9 60 rfl) rfl
theorem ml_TM_437 : Cond.methodLink "TruePollModel" 437 ⟨"TruePollModel", "livesBy", "(I)I"⟩ ∈ TB := TB_of (in_t9 64 rfl) rfl
theorem ml_La_211 : Cond.methodLink "TruePollLaw" 211 ⟨"TruePollModel", "most", "()I"⟩ ∈ TB := TB_of (in_t9 68 rfl) rfl
theorem ml_La_215 : Cond.methodLink "TruePollLaw" 215 ⟨"TruePollModel", "fewest", "(Z)I"⟩ ∈ TB := TB_of (in_t9 72 rfl) rfl
theorem ml_TM_440 : Cond.methodLink "TruePollModel" 440 ⟨"TruePollModel", "doAllLive", "(I)Z"⟩ ∈ TB := TB_of (in_t9 76 rfl) rfl
theorem ml_La_219 : Cond.methodLink "TruePollLaw" 219 ⟨"TruePollModel", "decimal", "(III)I"⟩ ∈ TB := TB_of (in_t9 80 rfl) rfl
theorem ml_TM_443 : Cond.methodLink "TruePollModel" 443 ⟨"TruePollModel", "isPart", "(II)Z"⟩ ∈ TB := TB_of (in_t9 84 rfl) rfl
theorem ml_TM_446 : Cond.methodLink "TruePollModel" 446 ⟨"TruePollModel", "leftBehind", "(III)I"⟩ ∈ TB := TB_of (in_t9 87 rfl) rfl
theorem ml_La_224 : Cond.methodLink "TruePollLaw" 224 ⟨"TruePollModel", "decimals", "(IIZ)I"⟩ ∈ TB := TB_of (in_t9 90 rfl) rfl
theorem ml_La_228 : Cond.methodLink "TruePollLaw" 228 ⟨"TruePollModel", "village", "(II)Z"⟩ ∈ TB := TB_of (in_t9 94 rfl) rfl
theorem ml_La_232 : Cond.methodLink "TruePollLaw" 232 ⟨"TruePollModel", "window", "(II)I"⟩ ∈ TB := TB_of (in_t9 98 rfl) rfl
theorem ml_TM_449 : Cond.methodLink "TruePollModel" 449 ⟨"TruePollModel", "windowOf", "(II)I"⟩ ∈ TB := TB_of (in_t9 102 rfl) rfl
theorem ml_La_236 : Cond.methodLink "TruePollLaw" 236 ⟨"TruePollModel", "busiest", "(I)I"⟩ ∈ TB := TB_of (in_t9 106 rfl) rfl
theorem ml_La_240 : Cond.methodLink "TruePollLaw" 240 ⟨"TruePollModel", "said", "(II)I"⟩ ∈ TB := TB_of (in_t9 110 rfl) rfl
theorem ml_La_244 : Cond.methodLink "TruePollLaw" 244 ⟨"TruePollModel", "whose", "()I"⟩ ∈ TB := TB_of (in_t9 114 rfl) rfl
theorem ml_La_260 : Cond.methodLink "TruePollLaw" 260 ⟨"TruePollModel", "image", "()I"⟩ ∈ TB := TB_of (in_t9 118 rfl) rfl
theorem ml_La_264 : Cond.methodLink "TruePollLaw" 264 ⟨"TruePollModel", "back", "()I"⟩ ∈ TB := TB_of (in_t9 122 rfl) rfl
theorem ml_La_268 : Cond.methodLink "TruePollLaw" 268 ⟨"TruePollModel", "about", "(I)I"⟩ ∈ TB := TB_of (in_t9 126 rfl) rfl
theorem fl_Mo_9 : Cond.fieldLink "TruePoll$Moment" 9 "TruePoll$Moment" "leans" "[I" ∈ TB := TB_of (in_t1 41 rfl) rfl
theorem fl_Ro_49 : Cond.fieldLink "TruePoll$Rounds" 49 "TruePoll$Moment" "leans" "[I" ∈ TB := TB_of (in_t1 42 rfl) rfl
theorem fl_As_63 : Cond.fieldLink "TruePoll$Asker" 63 "TruePoll$Moment" "leans" "[I" ∈ TB := TB_of (in_t1 43 rfl) rfl
theorem fl_Cr_96 : Cond.fieldLink "TruePoll$Crowd" 96 "TruePoll$Moment" "leans" "[I" ∈ TB := TB_of (in_t1 44 rfl) rfl
theorem fl_TP_166 : Cond.fieldLink "TruePoll" 166 "TruePoll$Moment" "leans" "[I" ∈ TB := TB_of (in_t1 45 rfl) rfl
theorem fl_Mo_15 : Cond.fieldLink "TruePoll$Moment" 15 "TruePoll$Moment" "lines" "[I" ∈ TB := TB_of (in_t1 46 rfl) rfl
theorem fl_As_28 : Cond.fieldLink "TruePoll$Asker" 28 "TruePoll$Moment" "people" "I" ∈ TB := TB_of (in_t1 47 rfl) rfl
theorem fl_Ro_29 : Cond.fieldLink "TruePoll$Rounds" 29 "TruePoll$Moment" "people" "I" ∈ TB := TB_of (in_t1 48 rfl) rfl
theorem fl_Mo_28 : Cond.fieldLink "TruePoll$Moment" 28 "TruePoll$Moment" "people" "I" ∈ TB := TB_of (in_t1 49 rfl) rfl
theorem fl_Cr_93 : Cond.fieldLink "TruePoll$Crowd" 93 "TruePoll$Moment" "people" "I" ∈ TB := TB_of (in_t1 50 rfl) rfl
theorem fl_TP_310 : Cond.fieldLink "TruePoll" 310 "TruePoll$Moment" "people" "I" ∈ TB := TB_of (in_t1 51 rfl) rfl
theorem fl_Mo_31 : Cond.fieldLink "TruePoll$Moment" 31 "TruePoll$Moment" "answers" "I" ∈ TB := TB_of (in_t1 52 rfl) rfl
theorem fl_Ro_66 : Cond.fieldLink "TruePoll$Rounds" 66 "TruePoll$Moment" "answers" "I" ∈ TB := TB_of (in_t1 53 rfl) rfl
theorem fl_As_137 : Cond.fieldLink "TruePoll$Asker" 137 "TruePoll$Moment" "answers" "I" ∈ TB := TB_of (in_t1 54 rfl) rfl
theorem fl_TP_179 : Cond.fieldLink "TruePoll" 179 "TruePoll$Moment" "answers" "I" ∈ TB := TB_of (in_t1 55 rfl) rfl
theorem fl_Mo_34 : Cond.fieldLink "TruePoll$Moment" 34 "TruePoll$Moment" "figure" "I" ∈ TB := TB_of (in_t1 56 rfl) rfl
theorem fl_Ro_75 : Cond.fieldLink "TruePoll$Rounds" 75 "TruePoll$Moment" "figure" "I" ∈ TB := TB_of (in_t1 57 rfl) rfl
theorem fl_TP_131 : Cond.fieldLink "TruePoll" 131 "TruePoll$Moment" "figure" "I" ∈ TB := TB_of (in_t1 58 rfl) rfl
theorem fl_Mo_37 : Cond.fieldLink "TruePoll$Moment" 37 "TruePoll$Moment" "round" "I" ∈ TB := TB_of (in_t1 59 rfl) rfl
theorem fl_Ro_82 : Cond.fieldLink "TruePoll$Rounds" 82 "TruePoll$Moment" "round" "I" ∈ TB := TB_of (in_t1 60 rfl) rfl
theorem fl_As_131 : Cond.fieldLink "TruePoll$Asker" 131 "TruePoll$Moment" "round" "I" ∈ TB := TB_of (in_t1 61 rfl) rfl
theorem fl_TP_137 : Cond.fieldLink "TruePoll" 137 "TruePoll$Moment" "round" "I" ∈ TB := TB_of (in_t1 62 rfl) rfl
theorem fl_Mo_18 : Cond.fieldLink "TruePoll$Moment" 18 "TruePoll$Moment" "x" "I" ∈ TB := TB_of (in_t1 63 rfl) rfl
theorem fl_Ro_139 : Cond.fieldLink "TruePoll$Rounds" 139 "TruePoll$Moment" "x" "I" ∈ TB := TB_of (in_t1 64 rfl) rfl
theorem fl_TP_193 : Cond.fieldLink "TruePoll" 193 "TruePoll$Moment" "x" "I" ∈ TB := TB_of (in_t1 65 rfl) rfl
theorem fl_Mo_40 : Cond.fieldLink "TruePoll$Moment" 40 "TruePoll$Moment" "written" "I" ∈ TB := TB_of (in_t1 66 rfl) rfl
theorem fl_TP_200 : Cond.fieldLink "TruePoll" 200 "TruePoll$Moment" "written" "I" ∈ TB := TB_of (in_t1 67 rfl) rfl
theorem fl_Cr_12 : Cond.fieldLink "TruePoll$Crowd" 12 "TruePoll$Crowd" "now" "LTruePoll$Moment;" ∈ TB := TB_of (in_t1 89 rfl) rfl
theorem fl_As_19 : Cond.fieldLink "TruePoll$Asker" 19 "TruePoll$Crowd" "now" "LTruePoll$Moment;" ∈ TB := TB_of (in_t1 90 rfl) rfl
theorem fl_Ro_93 : Cond.fieldLink "TruePoll$Rounds" 93 "TruePoll$Crowd" "now" "LTruePoll$Moment;" ∈ TB := TB_of (in_t1 91 rfl) rfl
theorem fl_TP_128 : Cond.fieldLink "TruePoll" 128 "TruePoll$Crowd" "now" "LTruePoll$Moment;" ∈ TB := TB_of (in_t1 92 rfl) rfl
theorem fl_Cr_18 : Cond.fieldLink "TruePoll$Crowd" 18 "TruePoll$Crowd" "sorts" "[I" ∈ TB := TB_of (in_t1 93 rfl) rfl
theorem fl_As_70 : Cond.fieldLink "TruePoll$Asker" 70 "TruePoll$Crowd" "sorts" "[I" ∈ TB := TB_of (in_t1 94 rfl) rfl
theorem fl_TP_173 : Cond.fieldLink "TruePoll" 173 "TruePoll$Crowd" "sorts" "[I" ∈ TB := TB_of (in_t1 95 rfl) rfl
theorem fl_Cr_22 : Cond.fieldLink "TruePoll$Crowd" 22 "TruePoll$Crowd" "toldLeans" "[I" ∈ TB := TB_of (in_t1 96 rfl) rfl
theorem fl_Cr_25 : Cond.fieldLink "TruePoll$Crowd" 25 "TruePoll$Crowd" "hears" "[I" ∈ TB := TB_of (in_t1 97 rfl) rfl
theorem fl_As_134 : Cond.fieldLink "TruePoll$Asker" 134 "TruePoll$Crowd" "hears" "[I" ∈ TB := TB_of (in_t1 98 rfl) rfl
theorem fl_TP_176 : Cond.fieldLink "TruePoll" 176 "TruePoll$Crowd" "hears" "[I" ∈ TB := TB_of (in_t1 99 rfl) rfl
theorem fl_Cr_28 : Cond.fieldLink "TruePoll$Crowd" 28 "TruePoll$Crowd" "before" "[LTruePoll$Moment;" ∈ TB := TB_of (in_t1 100 rfl) rfl
theorem fl_Cr_65 : Cond.fieldLink "TruePoll$Crowd" 65 "TruePoll$Crowd" "firstStep" "I" ∈ TB := TB_of (in_t1 101 rfl) rfl
theorem fl_Cr_68 : Cond.fieldLink "TruePoll$Crowd" 68 "TruePoll$Crowd" "steps" "I" ∈ TB := TB_of (in_t1 102 rfl) rfl
theorem fl_TP_160 : Cond.fieldLink "TruePoll" 160 "TruePoll$Crowd" "steps" "I" ∈ TB := TB_of (in_t1 103 rfl) rfl
theorem fl_Cr_34 : Cond.fieldLink "TruePoll$Crowd" 34 "TruePoll$Crowd" "texts" "[LTruePoll$Text;" ∈ TB := TB_of (in_t1 104 rfl) rfl
theorem fl_Cr_75 : Cond.fieldLink "TruePoll$Crowd" 75 "TruePoll$Crowd" "textCount" "I" ∈ TB := TB_of (in_t1 105 rfl) rfl
theorem fl_TP_100 : Cond.fieldLink "TruePoll" 100 "TruePoll$Crowd" "textCount" "I" ∈ TB := TB_of (in_t1 106 rfl) rfl
theorem fl_Cr_38 : Cond.fieldLink "TruePoll$Crowd" 38 "TruePoll$Crowd" "ruling" "I" ∈ TB := TB_of (in_t1 107 rfl) rfl
theorem fl_TP_121 : Cond.fieldLink "TruePoll" 121 "TruePoll$Crowd" "ruling" "I" ∈ TB := TB_of (in_t1 108 rfl) rfl
theorem fl_Cr_42 : Cond.fieldLink "TruePoll$Crowd" 42 "TruePoll$Crowd" "partyLows" "[I" ∈ TB := TB_of (in_t1 109 rfl) rfl
theorem fl_Cr_45 : Cond.fieldLink "TruePoll$Crowd" 45 "TruePoll$Crowd" "partyHighs" "[I" ∈ TB := TB_of (in_t1 110 rfl) rfl
theorem fl_Cr_87 : Cond.fieldLink "TruePoll$Crowd" 87 "TruePoll$Crowd" "parties" "I" ∈ TB := TB_of (in_t1 111 rfl) rfl
theorem fl_TP_333 : Cond.fieldLink "TruePoll" 333 "TruePoll$Crowd" "parties" "I" ∈ TB := TB_of (in_t1 112 rfl) rfl
theorem fl_Cr_48 : Cond.fieldLink "TruePoll$Crowd" 48 "TruePoll$Crowd" "saidFigures" "[I" ∈ TB := TB_of (in_t1 113 rfl) rfl
theorem fl_TP_400 : Cond.fieldLink "TruePoll" 400 "TruePoll$Crowd" "saidFigures" "[I" ∈ TB := TB_of (in_t1 114 rfl) rfl
theorem fl_Cr_51 : Cond.fieldLink "TruePoll$Crowd" 51 "TruePoll$Crowd" "saidCounts" "[I" ∈ TB := TB_of (in_t1 115 rfl) rfl
theorem fl_TP_403 : Cond.fieldLink "TruePoll" 403 "TruePoll$Crowd" "saidCounts" "[I" ∈ TB := TB_of (in_t1 116 rfl) rfl
theorem fl_Cr_90 : Cond.fieldLink "TruePoll$Crowd" 90 "TruePoll$Crowd" "saids" "I" ∈ TB := TB_of (in_t1 117 rfl) rfl
theorem fl_TP_361 : Cond.fieldLink "TruePoll" 361 "TruePoll$Crowd" "saids" "I" ∈ TB := TB_of (in_t1 118 rfl) rfl
theorem fl_Cr_54 : Cond.fieldLink "TruePoll$Crowd" 54 "TruePoll$Crowd" "villages" "[I" ∈ TB := TB_of (in_t1 119 rfl) rfl
theorem fl_TP_355 : Cond.fieldLink "TruePoll" 355 "TruePoll$Crowd" "villages" "[I" ∈ TB := TB_of (in_t1 120 rfl) rfl
theorem fl_As_15 : Cond.fieldLink "TruePoll$Asker" 15 "TruePoll$Asker" "crowd" "LTruePoll$Crowd;" ∈ TB := TB_of (in_t1 164 rfl) rfl
theorem fl_As_9 : Cond.fieldLink "TruePoll$Asker" 9 "TruePoll$Asker" "waiting" "[I" ∈ TB := TB_of (in_t1 165 rfl) rfl
theorem fl_As_25 : Cond.fieldLink "TruePoll$Asker" 25 "TruePoll$Asker" "moment" "LTruePoll$Moment;" ∈ TB := TB_of (in_t1 166 rfl) rfl
theorem fl_As_38 : Cond.fieldLink "TruePoll$Asker" 38 "TruePoll$Asker" "person" "I" ∈ TB := TB_of (in_t1 167 rfl) rfl
theorem fl_As_41 : Cond.fieldLink "TruePoll$Asker" 41 "TruePoll$Asker" "figure" "I" ∈ TB := TB_of (in_t1 168 rfl) rfl
theorem fl_As_44 : Cond.fieldLink "TruePoll$Asker" 44 "TruePoll$Asker" "yes" "I" ∈ TB := TB_of (in_t1 169 rfl) rfl
theorem fl_Ro_15 : Cond.fieldLink "TruePoll$Rounds" 15 "TruePoll$Rounds" "crowd" "LTruePoll$Crowd;" ∈ TB := TB_of (in_t1 189 rfl) rfl
theorem fl_Ro_19 : Cond.fieldLink "TruePoll$Rounds" 19 "TruePoll$Rounds" "asker" "LTruePoll$Asker;" ∈ TB := TB_of (in_t1 190 rfl) rfl
theorem fl_Ro_9 : Cond.fieldLink "TruePoll$Rounds" 9 "TruePoll$Rounds" "fresh" "[I" ∈ TB := TB_of (in_t1 191 rfl) rfl
theorem fl_Ou_9 : Cond.fieldLink "TruePoll$Outlook" 9 "TruePoll$Outlook" "yes" "[I" ∈ TB := TB_of (in_t1 205 rfl) rfl
theorem fl_TP_384 : Cond.fieldLink "TruePoll" 384 "TruePoll$Outlook" "yes" "[I" ∈ TB := TB_of (in_t1 206 rfl) rfl
theorem fl_Ou_15 : Cond.fieldLink "TruePoll$Outlook" 15 "TruePoll$Outlook" "lasts" "[I" ∈ TB := TB_of (in_t1 207 rfl) rfl
theorem fl_Ou_18 : Cond.fieldLink "TruePoll$Outlook" 18 "TruePoll$Outlook" "fresh" "[I" ∈ TB := TB_of (in_t1 208 rfl) rfl
theorem fl_Ou_31 : Cond.fieldLink "TruePoll$Outlook" 31 "TruePoll$Outlook" "people" "I" ∈ TB := TB_of (in_t1 209 rfl) rfl
theorem fl_TP_383 : Cond.fieldLink "TruePoll" 383 "TruePoll$Outlook" "people" "I" ∈ TB := TB_of (in_t1 210 rfl) rfl
theorem fl_Ta_9 : Cond.fieldLink "TruePoll$Tape" 9 "TruePoll$Tape" "bytes" "[I" ∈ TB := TB_of (in_t1 226 rfl) rfl
theorem fl_Ta_24 : Cond.fieldLink "TruePoll$Tape" 24 "TruePoll$Tape" "size" "I" ∈ TB := TB_of (in_t1 227 rfl) rfl
theorem fl_TP_93 : Cond.fieldLink "TruePoll" 93 "TruePoll$Tape" "size" "I" ∈ TB := TB_of (in_t1 228 rfl) rfl
theorem fl_Ta_15 : Cond.fieldLink "TruePoll$Tape" 15 "TruePoll$Tape" "signs" "[I" ∈ TB := TB_of (in_t1 229 rfl) rfl
theorem fl_Re_94 : Cond.fieldLink "TruePoll$Reader" 94 "TruePoll$Tape" "signs" "[I" ∈ TB := TB_of (in_t1 230 rfl) rfl
theorem fl_Ta_18 : Cond.fieldLink "TruePoll$Tape" 18 "TruePoll$Tape" "starts" "[I" ∈ TB := TB_of (in_t1 231 rfl) rfl
theorem fl_Re_105 : Cond.fieldLink "TruePoll$Reader" 105 "TruePoll$Tape" "starts" "[I" ∈ TB := TB_of (in_t1 232 rfl) rfl
theorem fl_Ta_21 : Cond.fieldLink "TruePoll$Tape" 21 "TruePoll$Tape" "values" "[I" ∈ TB := TB_of (in_t1 233 rfl) rfl
theorem fl_Re_99 : Cond.fieldLink "TruePoll$Reader" 99 "TruePoll$Tape" "values" "[I" ∈ TB := TB_of (in_t1 234 rfl) rfl
theorem fl_Ta_32 : Cond.fieldLink "TruePoll$Tape" 32 "TruePoll$Tape" "next" "I" ∈ TB := TB_of (in_t1 235 rfl) rfl
theorem fl_Ta_38 : Cond.fieldLink "TruePoll$Tape" 38 "TruePoll$Tape" "value" "I" ∈ TB := TB_of (in_t1 236 rfl) rfl
theorem fl_Re_27 : Cond.fieldLink "TruePoll$Reader" 27 "TruePoll$Reader" "tape" "LTruePoll$Tape;" ∈ TB := TB_of (in_t2 18 rfl) rfl
theorem fl_Re_9 : Cond.fieldLink "TruePoll$Reader" 9 "TruePoll$Reader" "kinds" "[I" ∈ TB := TB_of (in_t2 19 rfl) rfl
theorem fl_Re_15 : Cond.fieldLink "TruePoll$Reader" 15 "TruePoll$Reader" "firsts" "[I" ∈ TB := TB_of (in_t2 20 rfl) rfl
theorem fl_Re_18 : Cond.fieldLink "TruePoll$Reader" 18 "TruePoll$Reader" "seconds" "[I" ∈ TB := TB_of (in_t2 21 rfl) rfl
theorem fl_Re_21 : Cond.fieldLink "TruePoll$Reader" 21 "TruePoll$Reader" "signs" "[I" ∈ TB := TB_of (in_t2 22 rfl) rfl
theorem fl_Re_24 : Cond.fieldLink "TruePoll$Reader" 24 "TruePoll$Reader" "mores" "[I" ∈ TB := TB_of (in_t2 23 rfl) rfl
theorem fl_Re_31 : Cond.fieldLink "TruePoll$Reader" 31 "TruePoll$Reader" "clauses" "I" ∈ TB := TB_of (in_t2 24 rfl) rfl
theorem fl_Re_35 : Cond.fieldLink "TruePoll$Reader" 35 "TruePoll$Reader" "size" "I" ∈ TB := TB_of (in_t2 25 rfl) rfl
theorem fl_Re_38 : Cond.fieldLink "TruePoll$Reader" 38 "TruePoll$Reader" "saysFrom" "I" ∈ TB := TB_of (in_t2 26 rfl) rfl
theorem fl_Re_85 : Cond.fieldLink "TruePoll$Reader" 85 "TruePoll$Reader" "saysTo" "I" ∈ TB := TB_of (in_t2 27 rfl) rfl
theorem fl_Re_41 : Cond.fieldLink "TruePoll$Reader" 41 "TruePoll$Reader" "swaysFrom" "I" ∈ TB := TB_of (in_t2 28 rfl) rfl
theorem fl_Re_90 : Cond.fieldLink "TruePoll$Reader" 90 "TruePoll$Reader" "swaysTo" "I" ∈ TB := TB_of (in_t2 29 rfl) rfl
theorem fl_Re_116 : Cond.fieldLink "TruePoll$Reader" 116 "TruePoll$Reader" "law" "I" ∈ TB := TB_of (in_t2 30 rfl) rfl
theorem fl_Re_55 : Cond.fieldLink "TruePoll$Reader" 55 "TruePoll$Reader" "next" "I" ∈ TB := TB_of (in_t2 31 rfl) rfl
theorem fl_Re_61 : Cond.fieldLink "TruePoll$Reader" 61 "TruePoll$Reader" "sign" "I" ∈ TB := TB_of (in_t2 32 rfl) rfl
theorem fl_Re_102 : Cond.fieldLink "TruePoll$Reader" 102 "TruePoll$Reader" "value" "I" ∈ TB := TB_of (in_t2 33 rfl) rfl
theorem fl_Re_44 : Cond.fieldLink "TruePoll$Reader" 44 "TruePoll$Reader" "fault" "I" ∈ TB := TB_of (in_t2 34 rfl) rfl
theorem fl_TP_107 : Cond.fieldLink "TruePoll" 107 "TruePoll$Reader" "fault" "I" ∈ TB := TB_of (in_t2 35 rfl) rfl
theorem fl_Re_47 : Cond.fieldLink "TruePoll$Reader" 47 "TruePoll$Reader" "place" "I" ∈ TB := TB_of (in_t2 36 rfl) rfl
theorem fl_TP_110 : Cond.fieldLink "TruePoll" 110 "TruePoll$Reader" "place" "I" ∈ TB := TB_of (in_t2 37 rfl) rfl
theorem fl_TP_10 : Cond.fieldLink "TruePoll" 10 "TruePoll" "crowd" "LTruePoll$Crowd;" ∈ TB := TB_of (in_t2 75 rfl) rfl
theorem fl_TP_16 : Cond.fieldLink "TruePoll" 16 "TruePoll" "kept" "LTruePoll$Crowd;" ∈ TB := TB_of (in_t2 76 rfl) rfl
theorem fl_TP_22 : Cond.fieldLink "TruePoll" 22 "TruePoll" "trial" "LTruePoll$Moment;" ∈ TB := TB_of (in_t2 77 rfl) rfl
theorem fl_TP_31 : Cond.fieldLink "TruePoll" 31 "TruePoll" "asker" "LTruePoll$Asker;" ∈ TB := TB_of (in_t2 78 rfl) rfl
theorem fl_TP_40 : Cond.fieldLink "TruePoll" 40 "TruePoll" "rounds" "LTruePoll$Rounds;" ∈ TB := TB_of (in_t2 79 rfl) rfl
theorem fl_TP_47 : Cond.fieldLink "TruePoll" 47 "TruePoll" "outlook" "LTruePoll$Outlook;" ∈ TB := TB_of (in_t2 80 rfl) rfl
theorem fl_TP_54 : Cond.fieldLink "TruePoll" 54 "TruePoll" "tape" "LTruePoll$Tape;" ∈ TB := TB_of (in_t2 81 rfl) rfl
theorem fl_TP_63 : Cond.fieldLink "TruePoll" 63 "TruePoll" "reader" "LTruePoll$Reader;" ∈ TB := TB_of (in_t2 82 rfl) rfl
theorem fl_TP_67 : Cond.fieldLink "TruePoll" 67 "TruePoll" "ways" "[J" ∈ TB := TB_of (in_t2 83 rfl) rfl
theorem fl_TP_71 : Cond.fieldLink "TruePoll" 71 "TruePoll" "costs" "[I" ∈ TB := TB_of (in_t2 84 rfl) rfl
theorem fl_TP_75 : Cond.fieldLink "TruePoll" 75 "TruePoll" "seen" "[I" ∈ TB := TB_of (in_t2 85 rfl) rfl
theorem fl_TP_78 : Cond.fieldLink "TruePoll" 78 "TruePoll" "faultKind" "I" ∈ TB := TB_of (in_t2 86 rfl) rfl
theorem fl_TP_82 : Cond.fieldLink "TruePoll" 82 "TruePoll" "faultPlace" "I" ∈ TB := TB_of (in_t2 87 rfl) rfl
theorem fl_JS_38 : Cond.fieldLink "java/lang/String" 38 "java/lang/String" "COMPACT_STRINGS" "Z" ∈ TB := TB_of (in_t2 199 rfl) rfl
theorem fl_JS_1053 : Cond.fieldLink "java/lang/String" 1053 "jdk/internal/util/Preconditions" "SIOOBE_FORMATTER" "Ljava/util/function/BiFunction;" ∈ TB := TB_of (in_t2 215 rfl) rfl
theorem fl_Tx_18 : Cond.fieldLink "TruePoll$Text" 18 "TruePoll$Text" "kinds" "[I" ∈ TB := TB_of (in_t3 181 rfl) rfl
theorem fl_Ro_120 : Cond.fieldLink "TruePoll$Rounds" 120 "TruePoll$Text" "kinds" "[I" ∈ TB := TB_of (in_t3 182 rfl) rfl
theorem fl_TP_143 : Cond.fieldLink "TruePoll" 143 "TruePoll$Text" "kinds" "[I" ∈ TB := TB_of (in_t3 183 rfl) rfl
theorem fl_Tx_22 : Cond.fieldLink "TruePoll$Text" 22 "TruePoll$Text" "firsts" "[I" ∈ TB := TB_of (in_t3 184 rfl) rfl
theorem fl_Ro_112 : Cond.fieldLink "TruePoll$Rounds" 112 "TruePoll$Text" "firsts" "[I" ∈ TB := TB_of (in_t3 185 rfl) rfl
theorem fl_Tx_25 : Cond.fieldLink "TruePoll$Text" 25 "TruePoll$Text" "seconds" "[I" ∈ TB := TB_of (in_t3 186 rfl) rfl
theorem fl_Ro_117 : Cond.fieldLink "TruePoll$Rounds" 117 "TruePoll$Text" "seconds" "[I" ∈ TB := TB_of (in_t3 187 rfl) rfl
theorem fl_Tx_28 : Cond.fieldLink "TruePoll$Text" 28 "TruePoll$Text" "signs" "[I" ∈ TB := TB_of (in_t3 188 rfl) rfl
theorem fl_As_97 : Cond.fieldLink "TruePoll$Asker" 97 "TruePoll$Text" "signs" "[I" ∈ TB := TB_of (in_t3 189 rfl) rfl
theorem fl_Tx_31 : Cond.fieldLink "TruePoll$Text" 31 "TruePoll$Text" "mores" "[I" ∈ TB := TB_of (in_t3 190 rfl) rfl
theorem fl_As_100 : Cond.fieldLink "TruePoll$Asker" 100 "TruePoll$Text" "mores" "[I" ∈ TB := TB_of (in_t3 191 rfl) rfl
theorem fl_Tx_9 : Cond.fieldLink "TruePoll$Text" 9 "TruePoll$Text" "saysFrom" "I" ∈ TB := TB_of (in_t3 192 rfl) rfl
theorem fl_As_47 : Cond.fieldLink "TruePoll$Asker" 47 "TruePoll$Text" "saysFrom" "I" ∈ TB := TB_of (in_t3 193 rfl) rfl
theorem fl_Re_84 : Cond.fieldLink "TruePoll$Reader" 84 "TruePoll$Text" "saysFrom" "I" ∈ TB := TB_of (in_t3 194 rfl) rfl
theorem fl_As_56 : Cond.fieldLink "TruePoll$Asker" 56 "TruePoll$Text" "saysTo" "I" ∈ TB := TB_of (in_t3 195 rfl) rfl
theorem fl_Re_88 : Cond.fieldLink "TruePoll$Reader" 88 "TruePoll$Text" "saysTo" "I" ∈ TB := TB_of (in_t3 196 rfl) rfl
theorem fl_Tx_15 : Cond.fieldLink "TruePoll$Text" 15 "TruePoll$Text" "swaysFrom" "I" ∈ TB := TB_of (in_t3 197 rfl) rfl
theorem fl_Re_89 : Cond.fieldLink "TruePoll$Reader" 89 "TruePoll$Text" "swaysFrom" "I" ∈ TB := TB_of (in_t3 198 rfl) rfl
theorem fl_As_83 : Cond.fieldLink "TruePoll$Asker" 83 "TruePoll$Text" "swaysFrom" "I" ∈ TB := TB_of (in_t3 199 rfl) rfl
theorem fl_Re_93 : Cond.fieldLink "TruePoll$Reader" 93 "TruePoll$Text" "swaysTo" "I" ∈ TB := TB_of (in_t3 200 rfl) rfl
theorem fl_As_86 : Cond.fieldLink "TruePoll$Asker" 86 "TruePoll$Text" "swaysTo" "I" ∈ TB := TB_of (in_t3 201 rfl) rfl
theorem fl_TM_7 : Cond.fieldLink "TruePollModel" 7 "TruePollModel" "a" "[I" ∈ TB := TB_of (in_t6 143 rfl) rfl
theorem fl_TM_13 : Cond.fieldLink "TruePollModel" 13 "TruePollModel" "image" "[I" ∈ TB := TB_of (in_t6 144 rfl) rfl
theorem fl_TM_16 : Cond.fieldLink "TruePollModel" 16 "TruePollModel" "texts" "[I" ∈ TB := TB_of (in_t6 145 rfl) rfl
theorem fl_TM_19 : Cond.fieldLink "TruePollModel" 19 "TruePollModel" "tape" "[I" ∈ TB := TB_of (in_t6 146 rfl) rfl
theorem fl_TM_77 : Cond.fieldLink "TruePollModel" 77 "TruePollModel" "taped" "I" ∈ TB := TB_of (in_t6 147 rfl) rfl
theorem fl_TM_22 : Cond.fieldLink "TruePollModel" 22 "TruePollModel" "fault" "I" ∈ TB := TB_of (in_t6 148 rfl) rfl
theorem fl_TM_26 : Cond.fieldLink "TruePollModel" 26 "TruePollModel" "faultPlace" "I" ∈ TB := TB_of (in_t6 149 rfl) rfl
theorem fl_TM_84 : Cond.fieldLink "TruePollModel" 84 "TruePollModel" "at" "I" ∈ TB := TB_of (in_t6 150 rfl) rfl
theorem fl_TM_91 : Cond.fieldLink "TruePollModel" 91 "TruePollModel" "place" "I" ∈ TB := TB_of (in_t6 151 rfl) rfl
theorem fl_TM_94 : Cond.fieldLink "TruePollModel" 94 "TruePollModel" "token" "I" ∈ TB := TB_of (in_t6 152 rfl) rfl
theorem fl_TM_100 : Cond.fieldLink "TruePollModel" 100 "TruePollModel" "number" "I" ∈ TB := TB_of (in_t6 153 rfl) rfl
theorem fl_TM_107 : Cond.fieldLink "TruePollModel" 107 "TruePollModel" "word" "J" ∈ TB := TB_of (in_t6 154 rfl) rfl
theorem fl_TM_132 : Cond.fieldLink "TruePollModel" 132 "TruePollModel" "text0" "I" ∈ TB := TB_of (in_t6 155 rfl) rfl
theorem fl_TM_135 : Cond.fieldLink "TruePollModel" 135 "TruePollModel" "written" "I" ∈ TB := TB_of (in_t6 156 rfl) rfl
theorem fl_TM_142 : Cond.fieldLink "TruePollModel" 142 "TruePollModel" "sort0" "I" ∈ TB := TB_of (in_t6 157 rfl) rfl
theorem fl_TM_29 : Cond.fieldLink "TruePollModel" 29 "TruePollModel" "pile" "[I" ∈ TB := TB_of (in_t6 158 rfl) rfl
theorem fl_TM_145 : Cond.fieldLink "TruePollModel" 145 "TruePollModel" "piled" "I" ∈ TB := TB_of (in_t6 159 rfl) rfl
theorem fl_TM_155 : Cond.fieldLink "TruePollModel" 155 "TruePollModel" "opens" "I" ∈ TB := TB_of (in_t6 160 rfl) rfl
theorem fl_TM_174 : Cond.fieldLink "TruePollModel" 174 "TruePollModel" "isWhole" "Z" ∈ TB := TB_of (in_t6 161 rfl) rfl
theorem fl_TM_226 : Cond.fieldLink "TruePollModel" 226 "TruePollModel" "once" "I" ∈ TB := TB_of (in_t6 162 rfl) rfl
theorem fl_TM_32 : Cond.fieldLink "TruePollModel" 32 "TruePollModel" "named" "[I" ∈ TB := TB_of (in_t6 163 rfl) rfl
theorem fl_TM_35 : Cond.fieldLink "TruePollModel" 35 "TruePollModel" "values" "[J" ∈ TB := TB_of (in_t6 164 rfl) rfl
theorem fl_TM_39 : Cond.fieldLink "TruePollModel" 39 "TruePollModel" "truth" "[Z" ∈ TB := TB_of (in_t6 165 rfl) rfl
theorem fl_TM_43 : Cond.fieldLink "TruePollModel" 43 "TruePollModel" "isWritten" "Z" ∈ TB := TB_of (in_t6 166 rfl) rfl
theorem fl_TM_47 : Cond.fieldLink "TruePollModel" 47 "TruePollModel" "swayed" "[I" ∈ TB := TB_of (in_t6 167 rfl) rfl
theorem fl_TM_50 : Cond.fieldLink "TruePollModel" 50 "TruePollModel" "aside" "[I" ∈ TB := TB_of (in_t6 168 rfl) rfl
theorem fl_TM_53 : Cond.fieldLink "TruePollModel" 53 "TruePollModel" "next" "[I" ∈ TB := TB_of (in_t6 169 rfl) rfl
theorem fl_TM_56 : Cond.fieldLink "TruePollModel" 56 "TruePollModel" "prices" "[I" ∈ TB := TB_of (in_t6 170 rfl) rfl
theorem fl_TM_59 : Cond.fieldLink "TruePollModel" 59 "TruePollModel" "rows" "[J" ∈ TB := TB_of (in_t6 171 rfl) rfl
theorem fl_TM_62 : Cond.fieldLink "TruePollModel" 62 "TruePollModel" "games" "[I" ∈ TB := TB_of (in_t6 172 rfl) rfl
theorem fl_JS_9 : Cond.fieldLink "java/lang/String" 9 "java/lang/String" "value" "[B" ∈ TB := TB_of (in_t9 130 rfl) rfl
theorem fl_JS_15 : Cond.fieldLink "java/lang/String" 15 "java/lang/String" "coder" "B" ∈ TB := TB_of (in_t9 131 rfl) rfl
theorem kl_La_7 : Cond.classLink "TruePollLaw" 7 "TruePoll" ∈ TB := TB_of (in_t1 21 rfl) rfl
theorem kl_TP_7 : Cond.classLink "TruePoll" 7 "TruePoll$Crowd" ∈ TB := TB_of (in_t1 29 rfl) rfl
theorem kl_Cr_9 : Cond.classLink "TruePoll$Crowd" 9 "TruePoll$Moment" ∈ TB := TB_of (in_t1 35 rfl) rfl
theorem kl_Cr_32 : Cond.classLink "TruePoll$Crowd" 32 "TruePoll$Text" ∈ TB := TB_of (in_t1 87 rfl) rfl
theorem kl_TP_19 : Cond.classLink "TruePoll" 19 "TruePoll$Moment" ∈ TB := TB_of (in_t1 156 rfl) rfl
theorem kl_TP_26 : Cond.classLink "TruePoll" 26 "TruePoll$Asker" ∈ TB := TB_of (in_t1 158 rfl) rfl
theorem kl_TP_35 : Cond.classLink "TruePoll" 35 "TruePoll$Rounds" ∈ TB := TB_of (in_t1 183 rfl) rfl
theorem kl_TP_44 : Cond.classLink "TruePoll" 44 "TruePoll$Outlook" ∈ TB := TB_of (in_t1 199 rfl) rfl
theorem kl_TP_51 : Cond.classLink "TruePoll" 51 "TruePoll$Tape" ∈ TB := TB_of (in_t1 220 rfl) rfl
theorem kl_TP_58 : Cond.classLink "TruePoll" 58 "TruePoll$Reader" ∈ TB := TB_of (in_t2 12 rfl) rfl
theorem kl_Re_73 : Cond.classLink "TruePoll$Reader" 73 "TruePoll$Text" ∈ TB := TB_of (in_t3 161 rfl) rfl
theorem kl_JA_317 : Cond.classLink "java/util/Arrays" 317 "[I" ∈ TB := TB_of (in_t3 172 rfl) rfl
theorem kl_La_10 : Cond.classLink "TruePollLaw" 10 "TruePollModel" ∈ TB := TB_of (in_t6 134 rfl) rfl
theorem in_TP : Cond.instantiable "TruePoll" 13 ∈ TB := TB_of (in_t1 22 rfl) rfl
theorem in_Cr : Cond.instantiable "TruePoll$Crowd" 17 ∈ TB := TB_of (in_t1 30 rfl) rfl
theorem in_Mo : Cond.instantiable "TruePoll$Moment" 8 ∈ TB := TB_of (in_t1 36 rfl) rfl
theorem in_As : Cond.instantiable "TruePoll$Asker" 6 ∈ TB := TB_of (in_t1 159 rfl) rfl
theorem in_Ro : Cond.instantiable "TruePoll$Rounds" 3 ∈ TB := TB_of (in_t1 184 rfl) rfl
theorem in_Ou : Cond.instantiable "TruePoll$Outlook" 4 ∈ TB := TB_of (in_t1 200 rfl) rfl
theorem in_Ta : Cond.instantiable "TruePoll$Tape" 7 ∈ TB := TB_of (in_t1 221 rfl) rfl
theorem in_Re : Cond.instantiable "TruePoll$Reader" 18 ∈ TB := TB_of (in_t2 13 rfl) rfl
theorem in_Tx : Cond.instantiable "TruePoll$Text" 9 ∈ TB := TB_of (in_t3 162 rfl) rfl
theorem kc_As_113 : Cond.constantLong "TruePoll$Asker" 113 (-1000000) ∈ TB := TB_of (in_t4 67 rfl) rfl
theorem kc_As_115 : Cond.constantLong "TruePoll$Asker" 115 (1000000) ∈ TB := TB_of (in_t4 68 rfl) rfl
theorem kc_JI_265 : Cond.constant "java/lang/Integer" 265 (1431655765) ∈ TB := TB_of (in_t4 89 rfl) rfl
theorem kc_JI_266 : Cond.constant "java/lang/Integer" 266 (858993459) ∈ TB := TB_of (in_t4 90 rfl) rfl
theorem kc_JI_267 : Cond.constant "java/lang/Integer" 267 (252645135) ∈ TB := TB_of (in_t4 91 rfl) rfl
theorem kc_As_89 : Cond.constantLong "TruePoll$Asker" 89 (-2) ∈ TB := TB_of (in_t4 101 rfl) rfl
theorem kc_As_91 : Cond.constantLong "TruePoll$Asker" 91 (2) ∈ TB := TB_of (in_t4 102 rfl) rfl
theorem kc_Ro_56 : Cond.constantLong "TruePoll$Rounds" 56 (9) ∈ TB := TB_of (in_t4 104 rfl) rfl
theorem kc_TP_293 : Cond.constantLong "TruePoll" 293 (-1) ∈ TB := TB_of (in_t5 176 rfl) rfl
theorem kc_TP_313 : Cond.constantLong "TruePoll" 313 (10) ∈ TB := TB_of (in_t5 192 rfl) rfl
theorem in_TM : Cond.instantiable "TruePollModel" 30 ∈ TB := TB_of (in_t6 135 rfl) rfl
theorem kc_TM_103 : Cond.constant "TruePollModel" 103 (99999) ∈ TB := TB_of (in_t7 41 rfl) rfl
theorem kc_TM_111 : Cond.constantLong "TruePollModel" 111 (1152921504606846976) ∈ TB := TB_of (in_t7 45 rfl) rfl
theorem kc_TM_243 : Cond.constantLong "TruePollModel" 243 (1000000) ∈ TB := TB_of (in_t7 223 rfl) rfl
theorem kc_TM_245 : Cond.constantLong "TruePollModel" 245 (-1000000) ∈ TB := TB_of (in_t7 224 rfl) rfl
theorem kc_TM_293 : Cond.constantLong "TruePollModel" 293 (709) ∈ TB := TB_of (in_t7 239 rfl) rfl
theorem kc_TM_295 : Cond.constantLong "TruePollModel" 295 (577) ∈ TB := TB_of (in_t8 0 rfl) rfl
theorem kc_TM_297 : Cond.constantLong "TruePollModel" 297 (31033) ∈ TB := TB_of (in_t8 1 rfl) rfl
theorem kc_TM_377 : Cond.constant "TruePollModel" 377 (1000000) ∈ TB := TB_of (in_t8 164 rfl) rfl
theorem kc_TM_405 : Cond.constantLong "TruePollModel" 405 (-1) ∈ TB := TB_of (in_t8 228 rfl) rfl
theorem kc_TM_410 : Cond.constantLong "TruePollModel" 410 (10) ∈ TB := TB_of (in_t8 233 rfl) rfl
theorem it_La : Cond.initialized "TruePollLaw" ∈ TB := TB_of (in_t1 0 rfl) rfl
theorem it_TP : Cond.initialized "TruePoll" ∈ TB := TB_of (in_t1 1 rfl) rfl
theorem it_Cr : Cond.initialized "TruePoll$Crowd" ∈ TB := TB_of (in_t1 2 rfl) rfl
theorem it_Mo : Cond.initialized "TruePoll$Moment" ∈ TB := TB_of (in_t1 3 rfl) rfl
theorem it_As : Cond.initialized "TruePoll$Asker" ∈ TB := TB_of (in_t1 4 rfl) rfl
theorem it_Ro : Cond.initialized "TruePoll$Rounds" ∈ TB := TB_of (in_t1 5 rfl) rfl
theorem it_Ou : Cond.initialized "TruePoll$Outlook" ∈ TB := TB_of (in_t1 6 rfl) rfl
theorem it_Ta : Cond.initialized "TruePoll$Tape" ∈ TB := TB_of (in_t1 7 rfl) rfl
theorem it_Re : Cond.initialized "TruePoll$Reader" ∈ TB := TB_of (in_t1 8 rfl) rfl
theorem it_TM : Cond.initialized "TruePollModel" ∈ TB := TB_of (in_t1 9 rfl) rfl
theorem it_JS : Cond.initialized "java/lang/String" ∈ TB := TB_of (in_t1 10 rfl) rfl
theorem it_JL : Cond.initialized "java/lang/StringLatin1" ∈ TB := TB_of (in_t1 11 rfl) rfl
theorem it_JP : Cond.initialized "jdk/internal/util/Preconditions" ∈ TB := TB_of (in_t1 12 rfl) rfl
theorem it_JM : Cond.initialized "java/lang/Math" ∈ TB := TB_of (in_t1 14 rfl) rfl
theorem it_Sg : Cond.initialized "TruePoll$Sign" ∈ TB := TB_of (in_t1 16 rfl) rfl
theorem it_Tx : Cond.initialized "TruePoll$Text" ∈ TB := TB_of (in_t1 17 rfl) rfl
theorem it_JA : Cond.initialized "java/util/Arrays" ∈ TB := TB_of (in_t1 18 rfl) rfl
theorem it_JI : Cond.initialized "java/lang/Integer" ∈ TB := TB_of (in_t1 20 rfl) rfl
