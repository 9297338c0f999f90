/-- a private method of a class that the tables say can be made, by its rows of tables_1 -/
def lw_okq (q : MethodName × Nat) : Prop := (q.1.cls ≠ "java/lang/invoke/MethodHandle" ∧ q.1.cls ≠ "java/lang/invoke/VarHandle") ∧ Cond.instantiable q.1.cls q.2 ∈ tables_1 ∧ Cond.privateMethod q.1 ∈ tables_1 ∧ Cond.instanceMethod q.1 ∈ tables_1
theorem lw_p0 : lw_okq (⟨"WrongHole$Text", "passDigits", "()V"⟩, 8) := ⟨⟨by decide +kernel, by decide +kernel⟩, List.mem_of_getElem? (i := 31) (by decide +kernel), List.mem_of_getElem? (i := 373) (by decide +kernel), List.mem_of_getElem? (i := 374) (by decide +kernel)⟩
theorem lw_p1 : lw_okq (⟨"WrongHole$Text", "passLetters", "()V"⟩, 8) := ⟨⟨by decide +kernel, by decide +kernel⟩, List.mem_of_getElem? (i := 31) (by decide +kernel), List.mem_of_getElem? (i := 378) (by decide +kernel), List.mem_of_getElem? (i := 379) (by decide +kernel)⟩
theorem lw_p2 : lw_okq (⟨"WrongHole$Text", "joinSame", "()V"⟩, 8) := ⟨⟨by decide +kernel, by decide +kernel⟩, List.mem_of_getElem? (i := 31) (by decide +kernel), List.mem_of_getElem? (i := 382) (by decide +kernel), List.mem_of_getElem? (i := 383) (by decide +kernel)⟩
theorem lw_p3 : lw_okq (⟨"WrongHole$RuleReader", "readSum", "(LWrongHole$Text;)V"⟩, 4) := ⟨⟨by decide +kernel, by decide +kernel⟩, List.mem_of_getElem? (i := 68) (by decide +kernel), List.mem_of_getElem? (i := 558) (by decide +kernel), List.mem_of_getElem? (i := 559) (by decide +kernel)⟩
theorem lw_p4 : lw_okq (⟨"WrongHole$RuleReader", "readValue", "(LWrongHole$Text;)V"⟩, 4) := ⟨⟨by decide +kernel, by decide +kernel⟩, List.mem_of_getElem? (i := 68) (by decide +kernel), List.mem_of_getElem? (i := 562) (by decide +kernel), List.mem_of_getElem? (i := 563) (by decide +kernel)⟩
theorem lw_p5 : lw_okq (⟨"WrongHole$RuleReader", "countPart", "(LWrongHole$Text;)V"⟩, 4) := ⟨⟨by decide +kernel, by decide +kernel⟩, List.mem_of_getElem? (i := 68) (by decide +kernel), List.mem_of_getElem? (i := 568) (by decide +kernel), List.mem_of_getElem? (i := 569) (by decide +kernel)⟩
theorem lw_p6 : lw_okq (⟨"WrongHole$RuleReader", "emit", "(II)V"⟩, 4) := ⟨⟨by decide +kernel, by decide +kernel⟩, List.mem_of_getElem? (i := 68) (by decide +kernel), List.mem_of_getElem? (i := 572) (by decide +kernel), List.mem_of_getElem? (i := 573) (by decide +kernel)⟩
theorem lw_p7 : lw_okq (⟨"WrongHole$RuleReader", "emitWaiting", "(I)V"⟩, 4) := ⟨⟨by decide +kernel, by decide +kernel⟩, List.mem_of_getElem? (i := 68) (by decide +kernel), List.mem_of_getElem? (i := 579) (by decide +kernel), List.mem_of_getElem? (i := 580) (by decide +kernel)⟩
theorem lw_p8 : lw_okq (⟨"WrongHole$RuleReader", "readTest", "(LWrongHole$Text;I)V"⟩, 4) := ⟨⟨by decide +kernel, by decide +kernel⟩, List.mem_of_getElem? (i := 68) (by decide +kernel), List.mem_of_getElem? (i := 589) (by decide +kernel), List.mem_of_getElem? (i := 590) (by decide +kernel)⟩
theorem lw_p9 : lw_okq (⟨"WrongHole$RuleReader", "readFact", "(LWrongHole$Text;I)V"⟩, 4) := ⟨⟨by decide +kernel, by decide +kernel⟩, List.mem_of_getElem? (i := 68) (by decide +kernel), List.mem_of_getElem? (i := 593) (by decide +kernel), List.mem_of_getElem? (i := 594) (by decide +kernel)⟩
theorem lw_p10 : lw_okq (⟨"WrongHole$RuleReader", "takeComparison", "(LWrongHole$Text;)I"⟩, 4) := ⟨⟨by decide +kernel, by decide +kernel⟩, List.mem_of_getElem? (i := 68) (by decide +kernel), List.mem_of_getElem? (i := 599) (by decide +kernel), List.mem_of_getElem? (i := 600) (by decide +kernel)⟩
theorem lw_p11 : lw_okq (⟨"WrongHole", "doByHand", "(I)I"⟩, 12) := ⟨⟨by decide +kernel, by decide +kernel⟩, List.mem_of_getElem? (i := 23) (by decide +kernel), List.mem_of_getElem? (i := 722) (by decide +kernel), List.mem_of_getElem? (i := 723) (by decide +kernel)⟩
theorem lw_p12 : lw_okq (⟨"WrongHole", "bestBy", "(LWrongHole$Rule;LWrongHole$Lift;)I"⟩, 12) := ⟨⟨by decide +kernel, by decide +kernel⟩, List.mem_of_getElem? (i := 23) (by decide +kernel), List.mem_of_getElem? (i := 778) (by decide +kernel), List.mem_of_getElem? (i := 779) (by decide +kernel)⟩
theorem lw_p13 : lw_okq (⟨"WrongHole$Acts", "add", "(III)V"⟩, 3) := ⟨⟨by decide +kernel, by decide +kernel⟩, List.mem_of_getElem? (i := 157) (by decide +kernel), List.mem_of_getElem? (i := 793) (by decide +kernel), List.mem_of_getElem? (i := 794) (by decide +kernel)⟩
theorem lw_p14 : lw_okq (⟨"WrongHole", "tellOf", "(ILWrongHole$Lift;)V"⟩, 12) := ⟨⟨by decide +kernel, by decide +kernel⟩, List.mem_of_getElem? (i := 23) (by decide +kernel), List.mem_of_getElem? (i := 798) (by decide +kernel), List.mem_of_getElem? (i := 799) (by decide +kernel)⟩
theorem lw_p15 : lw_okq (⟨"WrongHole$Rule", "reckon", "(II[I)J"⟩, 3) := ⟨⟨by decide +kernel, by decide +kernel⟩, List.mem_of_getElem? (i := 605) (by decide +kernel), List.mem_of_getElem? (i := 812) (by decide +kernel), List.mem_of_getElem? (i := 813) (by decide +kernel)⟩
def lw_privs_1 : List (MethodName × Nat) := [(⟨"WrongHole$Text", "passDigits", "()V"⟩, 8), (⟨"WrongHole$Text", "passLetters", "()V"⟩, 8), (⟨"WrongHole$Text", "joinSame", "()V"⟩, 8), (⟨"WrongHole$RuleReader", "readSum", "(LWrongHole$Text;)V"⟩, 4), (⟨"WrongHole$RuleReader", "readValue", "(LWrongHole$Text;)V"⟩, 4), (⟨"WrongHole$RuleReader", "countPart", "(LWrongHole$Text;)V"⟩, 4), (⟨"WrongHole$RuleReader", "emit", "(II)V"⟩, 4), (⟨"WrongHole$RuleReader", "emitWaiting", "(I)V"⟩, 4), (⟨"WrongHole$RuleReader", "readTest", "(LWrongHole$Text;I)V"⟩, 4), (⟨"WrongHole$RuleReader", "readFact", "(LWrongHole$Text;I)V"⟩, 4), (⟨"WrongHole$RuleReader", "takeComparison", "(LWrongHole$Text;)I"⟩, 4), (⟨"WrongHole", "doByHand", "(I)I"⟩, 12), (⟨"WrongHole", "bestBy", "(LWrongHole$Rule;LWrongHole$Lift;)I"⟩, 12), (⟨"WrongHole$Acts", "add", "(III)V"⟩, 3), (⟨"WrongHole", "tellOf", "(ILWrongHole$Lift;)V"⟩, 12), (⟨"WrongHole$Rule", "reckon", "(II[I)J"⟩, 3)]
theorem lw_r1 : ∀ q ∈ lw_privs_1, lw_okq q := List.forall_mem_cons.mpr ⟨lw_p0, List.forall_mem_cons.mpr ⟨lw_p1, List.forall_mem_cons.mpr ⟨lw_p2, List.forall_mem_cons.mpr ⟨lw_p3, List.forall_mem_cons.mpr ⟨lw_p4, List.forall_mem_cons.mpr ⟨lw_p5, List.forall_mem_cons.mpr ⟨lw_p6, List.forall_mem_cons.mpr ⟨lw_p7, List.forall_mem_cons.mpr ⟨lw_p8, List.forall_mem_cons.mpr ⟨lw_p9, List.forall_mem_cons.mpr ⟨lw_p10, List.forall_mem_cons.mpr ⟨lw_p11, List.forall_mem_cons.mpr ⟨lw_p12, List.forall_mem_cons.mpr ⟨lw_p13, List.forall_mem_cons.mpr ⟨lw_p14, List.forall_mem_cons.mpr ⟨lw_p15, fun _ h => absurd h List.not_mem_nil⟩⟩⟩⟩⟩⟩⟩⟩⟩⟩⟩⟩⟩⟩⟩⟩
theorem lw_p16 : lw_okq (⟨"WrongHole", "pathsHome", "(LWrongHole$Lift;)LWrongHole$Paths;"⟩, 12) := ⟨⟨by decide +kernel, by decide +kernel⟩, List.mem_of_getElem? (i := 23) (by decide +kernel), List.mem_of_getElem? (i := 847) (by decide +kernel), List.mem_of_getElem? (i := 848) (by decide +kernel)⟩
theorem lw_p17 : lw_okq (⟨"WrongHole$Paths", "prepare", "(LWrongHole$Lift;)V"⟩, 19) := ⟨⟨by decide +kernel, by decide +kernel⟩, List.mem_of_getElem? (i := 851) (by decide +kernel), List.mem_of_getElem? (i := 922) (by decide +kernel), List.mem_of_getElem? (i := 923) (by decide +kernel)⟩
theorem lw_p18 : lw_okq (⟨"WrongHole$Paths", "numberRows", "(LWrongHole$Lift;)V"⟩, 19) := ⟨⟨by decide +kernel, by decide +kernel⟩, List.mem_of_getElem? (i := 851) (by decide +kernel), List.mem_of_getElem? (i := 926) (by decide +kernel), List.mem_of_getElem? (i := 927) (by decide +kernel)⟩
theorem lw_p19 : lw_okq (⟨"WrongHole$Paths", "spreadFrom", "(I)V"⟩, 19) := ⟨⟨by decide +kernel, by decide +kernel⟩, List.mem_of_getElem? (i := 851) (by decide +kernel), List.mem_of_getElem? (i := 935) (by decide +kernel), List.mem_of_getElem? (i := 936) (by decide +kernel)⟩
theorem lw_p20 : lw_okq (⟨"WrongHole$Paths", "placeOf", "(I)I"⟩, 19) := ⟨⟨by decide +kernel, by decide +kernel⟩, List.mem_of_getElem? (i := 851) (by decide +kernel), List.mem_of_getElem? (i := 939) (by decide +kernel), List.mem_of_getElem? (i := 940) (by decide +kernel)⟩
theorem lw_p21 : lw_okq (⟨"WrongHole$Paths", "link", "(III)V"⟩, 19) := ⟨⟨by decide +kernel, by decide +kernel⟩, List.mem_of_getElem? (i := 851) (by decide +kernel), List.mem_of_getElem? (i := 943) (by decide +kernel), List.mem_of_getElem? (i := 944) (by decide +kernel)⟩
theorem lw_p22 : lw_okq (⟨"WrongHole$Paths", "unlink", "(I)V"⟩, 19) := ⟨⟨by decide +kernel, by decide +kernel⟩, List.mem_of_getElem? (i := 851) (by decide +kernel), List.mem_of_getElem? (i := 947) (by decide +kernel), List.mem_of_getElem? (i := 948) (by decide +kernel)⟩
theorem lw_p23 : lw_okq (⟨"WrongHole$Paths", "weigh", "(II)V"⟩, 19) := ⟨⟨by decide +kernel, by decide +kernel⟩, List.mem_of_getElem? (i := 851) (by decide +kernel), List.mem_of_getElem? (i := 951) (by decide +kernel), List.mem_of_getElem? (i := 952) (by decide +kernel)⟩
theorem lw_p24 : lw_okq (⟨"WrongHole$Paths", "goOn", "(II)V"⟩, 19) := ⟨⟨by decide +kernel, by decide +kernel⟩, List.mem_of_getElem? (i := 851) (by decide +kernel), List.mem_of_getElem? (i := 961) (by decide +kernel), List.mem_of_getElem? (i := 962) (by decide +kernel)⟩
theorem lw_p25 : lw_okq (⟨"WrongHole$Paths", "offer", "(III)V"⟩, 19) := ⟨⟨by decide +kernel, by decide +kernel⟩, List.mem_of_getElem? (i := 851) (by decide +kernel), List.mem_of_getElem? (i := 970) (by decide +kernel), List.mem_of_getElem? (i := 971) (by decide +kernel)⟩
theorem lw_p26 : lw_okq (⟨"WrongHole$Paths", "goBack", "(II)V"⟩, 19) := ⟨⟨by decide +kernel, by decide +kernel⟩, List.mem_of_getElem? (i := 851) (by decide +kernel), List.mem_of_getElem? (i := 974) (by decide +kernel), List.mem_of_getElem? (i := 975) (by decide +kernel)⟩
theorem lw_p27 : lw_okq (⟨"WrongHole$Folds", "tally", "(I)I"⟩, 6) := ⟨⟨by decide +kernel, by decide +kernel⟩, List.mem_of_getElem? (i := 178) (by decide +kernel), List.mem_of_getElem? (i := 1043) (by decide +kernel), List.mem_of_getElem? (i := 1044) (by decide +kernel)⟩
theorem lw_p28 : lw_okq (⟨"WrongHole$Folds", "tallyAt", "(III)I"⟩, 6) := ⟨⟨by decide +kernel, by decide +kernel⟩, List.mem_of_getElem? (i := 178) (by decide +kernel), List.mem_of_getElem? (i := 1047) (by decide +kernel), List.mem_of_getElem? (i := 1048) (by decide +kernel)⟩
theorem lw_p29 : lw_okq (⟨"WrongHole", "roundsAmong", "(I)I"⟩, 12) := ⟨⟨by decide +kernel, by decide +kernel⟩, List.mem_of_getElem? (i := 23) (by decide +kernel), List.mem_of_getElem? (i := 1068) (by decide +kernel), List.mem_of_getElem? (i := 1069) (by decide +kernel)⟩
theorem lw_p30 : lw_okq (⟨"WrongHole", "emptySeats", "()I"⟩, 12) := ⟨⟨by decide +kernel, by decide +kernel⟩, List.mem_of_getElem? (i := 23) (by decide +kernel), List.mem_of_getElem? (i := 1089) (by decide +kernel), List.mem_of_getElem? (i := 1090) (by decide +kernel)⟩
theorem lw_p31 : lw_okq (⟨"WrongHoleModel", "four", "(I)V"⟩, 33) := ⟨⟨by decide +kernel, by decide +kernel⟩, List.mem_of_getElem? (i := 1106) (by decide +kernel), List.mem_of_getElem? (i := 1218) (by decide +kernel), List.mem_of_getElem? (i := 1219) (by decide +kernel)⟩
def lw_privs_2 : List (MethodName × Nat) := [(⟨"WrongHole", "pathsHome", "(LWrongHole$Lift;)LWrongHole$Paths;"⟩, 12), (⟨"WrongHole$Paths", "prepare", "(LWrongHole$Lift;)V"⟩, 19), (⟨"WrongHole$Paths", "numberRows", "(LWrongHole$Lift;)V"⟩, 19), (⟨"WrongHole$Paths", "spreadFrom", "(I)V"⟩, 19), (⟨"WrongHole$Paths", "placeOf", "(I)I"⟩, 19), (⟨"WrongHole$Paths", "link", "(III)V"⟩, 19), (⟨"WrongHole$Paths", "unlink", "(I)V"⟩, 19), (⟨"WrongHole$Paths", "weigh", "(II)V"⟩, 19), (⟨"WrongHole$Paths", "goOn", "(II)V"⟩, 19), (⟨"WrongHole$Paths", "offer", "(III)V"⟩, 19), (⟨"WrongHole$Paths", "goBack", "(II)V"⟩, 19), (⟨"WrongHole$Folds", "tally", "(I)I"⟩, 6), (⟨"WrongHole$Folds", "tallyAt", "(III)I"⟩, 6), (⟨"WrongHole", "roundsAmong", "(I)I"⟩, 12), (⟨"WrongHole", "emptySeats", "()I"⟩, 12), (⟨"WrongHoleModel", "four", "(I)V"⟩, 33)]
theorem lw_r2 : ∀ q ∈ lw_privs_2, lw_okq q := List.forall_mem_cons.mpr ⟨lw_p16, List.forall_mem_cons.mpr ⟨lw_p17, List.forall_mem_cons.mpr ⟨lw_p18, List.forall_mem_cons.mpr ⟨lw_p19, List.forall_mem_cons.mpr ⟨lw_p20, List.forall_mem_cons.mpr ⟨lw_p21, List.forall_mem_cons.mpr ⟨lw_p22, List.forall_mem_cons.mpr ⟨lw_p23, List.forall_mem_cons.mpr ⟨lw_p24, List.forall_mem_cons.mpr ⟨lw_p25, List.forall_mem_cons.mpr ⟨lw_p26, List.forall_mem_cons.mpr ⟨lw_p27, List.forall_mem_cons.mpr ⟨lw_p28, List.forall_mem_cons.mpr ⟨lw_p29, List.forall_mem_cons.mpr ⟨lw_p30, List.forall_mem_cons.mpr ⟨lw_p31, fun _ h => absurd h List.not_mem_nil⟩⟩⟩⟩⟩⟩⟩⟩⟩⟩⟩⟩⟩⟩⟩⟩
theorem lw_p32 : lw_okq (⟨"WrongHoleModel", "readsAll", "()Z"⟩, 33) := ⟨⟨by decide +kernel, by decide +kernel⟩, List.mem_of_getElem? (i := 1106) (by decide +kernel), List.mem_of_getElem? (i := 1230) (by decide +kernel), List.mem_of_getElem? (i := 1231) (by decide +kernel)⟩
theorem lw_p33 : lw_okq (⟨"WrongHoleModel", "clauseHere", "()Z"⟩, 33) := ⟨⟨by decide +kernel, by decide +kernel⟩, List.mem_of_getElem? (i := 1106) (by decide +kernel), List.mem_of_getElem? (i := 1234) (by decide +kernel), List.mem_of_getElem? (i := 1235) (by decide +kernel)⟩
theorem lw_p34 : lw_okq (⟨"WrongHoleModel", "see", "()I"⟩, 33) := ⟨⟨by decide +kernel, by decide +kernel⟩, List.mem_of_getElem? (i := 1106) (by decide +kernel), List.mem_of_getElem? (i := 1238) (by decide +kernel), List.mem_of_getElem? (i := 1239) (by decide +kernel)⟩
theorem lw_p35 : lw_okq (⟨"WrongHoleModel", "isLiftWord", "()Z"⟩, 33) := ⟨⟨by decide +kernel, by decide +kernel⟩, List.mem_of_getElem? (i := 1106) (by decide +kernel), List.mem_of_getElem? (i := 1242) (by decide +kernel), List.mem_of_getElem? (i := 1243) (by decide +kernel)⟩
theorem lw_p36 : lw_okq (⟨"WrongHoleModel", "isWord", "(J)Z"⟩, 33) := ⟨⟨by decide +kernel, by decide +kernel⟩, List.mem_of_getElem? (i := 1106) (by decide +kernel), List.mem_of_getElem? (i := 1247) (by decide +kernel), List.mem_of_getElem? (i := 1248) (by decide +kernel)⟩
theorem lw_p37 : lw_okq (⟨"WrongHoleModel", "isLetter", "(I)Z"⟩, 33) := ⟨⟨by decide +kernel, by decide +kernel⟩, List.mem_of_getElem? (i := 1106) (by decide +kernel), List.mem_of_getElem? (i := 1251) (by decide +kernel), List.mem_of_getElem? (i := 1252) (by decide +kernel)⟩
theorem lw_p38 : lw_okq (⟨"WrongHoleModel", "fails", "(II)Z"⟩, 33) := ⟨⟨by decide +kernel, by decide +kernel⟩, List.mem_of_getElem? (i := 1106) (by decide +kernel), List.mem_of_getElem? (i := 1268) (by decide +kernel), List.mem_of_getElem? (i := 1269) (by decide +kernel)⟩
theorem lw_p39 : lw_okq (⟨"WrongHoleModel", "liftLineHere", "(I)Z"⟩, 33) := ⟨⟨by decide +kernel, by decide +kernel⟩, List.mem_of_getElem? (i := 1106) (by decide +kernel), List.mem_of_getElem? (i := 1272) (by decide +kernel), List.mem_of_getElem? (i := 1273) (by decide +kernel)⟩
theorem lw_p40 : lw_okq (⟨"WrongHoleModel", "isRowHere", "(I)Z"⟩, 33) := ⟨⟨by decide +kernel, by decide +kernel⟩, List.mem_of_getElem? (i := 1106) (by decide +kernel), List.mem_of_getElem? (i := 1276) (by decide +kernel), List.mem_of_getElem? (i := 1277) (by decide +kernel)⟩
theorem lw_p41 : lw_okq (⟨"WrongHoleModel", "passWord", "()V"⟩, 33) := ⟨⟨by decide +kernel, by decide +kernel⟩, List.mem_of_getElem? (i := 1106) (by decide +kernel), List.mem_of_getElem? (i := 1280) (by decide +kernel), List.mem_of_getElem? (i := 1281) (by decide +kernel)⟩
theorem lw_p42 : lw_okq (⟨"WrongHoleModel", "cellHere", "(III)Z"⟩, 33) := ⟨⟨by decide +kernel, by decide +kernel⟩, List.mem_of_getElem? (i := 1106) (by decide +kernel), List.mem_of_getElem? (i := 1284) (by decide +kernel), List.mem_of_getElem? (i := 1285) (by decide +kernel)⟩
theorem lw_p43 : lw_okq (⟨"WrongHoleModel", "numberHere", "(II)Z"⟩, 33) := ⟨⟨by decide +kernel, by decide +kernel⟩, List.mem_of_getElem? (i := 1106) (by decide +kernel), List.mem_of_getElem? (i := 1288) (by decide +kernel), List.mem_of_getElem? (i := 1289) (by decide +kernel)⟩
theorem lw_p44 : lw_okq (⟨"WrongHoleModel", "isDigit", "(I)Z"⟩, 33) := ⟨⟨by decide +kernel, by decide +kernel⟩, List.mem_of_getElem? (i := 1106) (by decide +kernel), List.mem_of_getElem? (i := 1292) (by decide +kernel), List.mem_of_getElem? (i := 1293) (by decide +kernel)⟩
theorem lw_p45 : lw_okq (⟨"WrongHoleModel", "isGoneHere", "()Z"⟩, 33) := ⟨⟨by decide +kernel, by decide +kernel⟩, List.mem_of_getElem? (i := 1106) (by decide +kernel), List.mem_of_getElem? (i := 1299) (by decide +kernel), List.mem_of_getElem? (i := 1300) (by decide +kernel)⟩
theorem lw_p46 : lw_okq (⟨"WrongHoleModel", "buttonHere", "(Z)Z"⟩, 33) := ⟨⟨by decide +kernel, by decide +kernel⟩, List.mem_of_getElem? (i := 1106) (by decide +kernel), List.mem_of_getElem? (i := 1303) (by decide +kernel), List.mem_of_getElem? (i := 1304) (by decide +kernel)⟩
theorem lw_p47 : lw_okq (⟨"WrongHoleModel", "isSewnHere", "()Z"⟩, 33) := ⟨⟨by decide +kernel, by decide +kernel⟩, List.mem_of_getElem? (i := 1106) (by decide +kernel), List.mem_of_getElem? (i := 1307) (by decide +kernel), List.mem_of_getElem? (i := 1308) (by decide +kernel)⟩
def lw_privs_3 : List (MethodName × Nat) := [(⟨"WrongHoleModel", "readsAll", "()Z"⟩, 33), (⟨"WrongHoleModel", "clauseHere", "()Z"⟩, 33), (⟨"WrongHoleModel", "see", "()I"⟩, 33), (⟨"WrongHoleModel", "isLiftWord", "()Z"⟩, 33), (⟨"WrongHoleModel", "isWord", "(J)Z"⟩, 33), (⟨"WrongHoleModel", "isLetter", "(I)Z"⟩, 33), (⟨"WrongHoleModel", "fails", "(II)Z"⟩, 33), (⟨"WrongHoleModel", "liftLineHere", "(I)Z"⟩, 33), (⟨"WrongHoleModel", "isRowHere", "(I)Z"⟩, 33), (⟨"WrongHoleModel", "passWord", "()V"⟩, 33), (⟨"WrongHoleModel", "cellHere", "(III)Z"⟩, 33), (⟨"WrongHoleModel", "numberHere", "(II)Z"⟩, 33), (⟨"WrongHoleModel", "isDigit", "(I)Z"⟩, 33), (⟨"WrongHoleModel", "isGoneHere", "()Z"⟩, 33), (⟨"WrongHoleModel", "buttonHere", "(Z)Z"⟩, 33), (⟨"WrongHoleModel", "isSewnHere", "()Z"⟩, 33)]
theorem lw_r3 : ∀ q ∈ lw_privs_3, lw_okq q := List.forall_mem_cons.mpr ⟨lw_p32, List.forall_mem_cons.mpr ⟨lw_p33, List.forall_mem_cons.mpr ⟨lw_p34, List.forall_mem_cons.mpr ⟨lw_p35, List.forall_mem_cons.mpr ⟨lw_p36, List.forall_mem_cons.mpr ⟨lw_p37, List.forall_mem_cons.mpr ⟨lw_p38, List.forall_mem_cons.mpr ⟨lw_p39, List.forall_mem_cons.mpr ⟨lw_p40, List.forall_mem_cons.mpr ⟨lw_p41, List.forall_mem_cons.mpr ⟨lw_p42, List.forall_mem_cons.mpr ⟨lw_p43, List.forall_mem_cons.mpr ⟨lw_p44, List.forall_mem_cons.mpr ⟨lw_p45, List.forall_mem_cons.mpr ⟨lw_p46, List.forall_mem_cons.mpr ⟨lw_p47, fun _ h => absurd h List.not_mem_nil⟩⟩⟩⟩⟩⟩⟩⟩⟩⟩⟩⟩⟩⟩⟩⟩
theorem lw_p48 : lw_okq (⟨"WrongHoleModel", "holeHere", "()Z"⟩, 33) := ⟨⟨by decide +kernel, by decide +kernel⟩, List.mem_of_getElem? (i := 1106) (by decide +kernel), List.mem_of_getElem? (i := 1311) (by decide +kernel), List.mem_of_getElem? (i := 1312) (by decide +kernel)⟩
theorem lw_p49 : lw_okq (⟨"WrongHoleModel", "readIn", "(I)I"⟩, 33) := ⟨⟨by decide +kernel, by decide +kernel⟩, List.mem_of_getElem? (i := 1106) (by decide +kernel), List.mem_of_getElem? (i := 1315) (by decide +kernel), List.mem_of_getElem? (i := 1316) (by decide +kernel)⟩
theorem lw_p50 : lw_okq (⟨"WrongHoleModel", "isSortHere", "()Z"⟩, 33) := ⟨⟨by decide +kernel, by decide +kernel⟩, List.mem_of_getElem? (i := 1106) (by decide +kernel), List.mem_of_getElem? (i := 1319) (by decide +kernel), List.mem_of_getElem? (i := 1320) (by decide +kernel)⟩
theorem lw_p51 : lw_okq (⟨"WrongHoleModel", "isTakesHere", "()Z"⟩, 33) := ⟨⟨by decide +kernel, by decide +kernel⟩, List.mem_of_getElem? (i := 1106) (by decide +kernel), List.mem_of_getElem? (i := 1323) (by decide +kernel), List.mem_of_getElem? (i := 1324) (by decide +kernel)⟩
theorem lw_p52 : lw_okq (⟨"WrongHoleModel", "isInHere", "()Z"⟩, 33) := ⟨⟨by decide +kernel, by decide +kernel⟩, List.mem_of_getElem? (i := 1106) (by decide +kernel), List.mem_of_getElem? (i := 1327) (by decide +kernel), List.mem_of_getElem? (i := 1328) (by decide +kernel)⟩
theorem lw_p53 : lw_okq (⟨"WrongHoleModel", "canBeRead", "(II)Z"⟩, 33) := ⟨⟨by decide +kernel, by decide +kernel⟩, List.mem_of_getElem? (i := 1106) (by decide +kernel), List.mem_of_getElem? (i := 1331) (by decide +kernel), List.mem_of_getElem? (i := 1332) (by decide +kernel)⟩
theorem lw_p54 : lw_okq (⟨"WrongHoleModel", "isOfButtonHere", "(III)Z"⟩, 33) := ⟨⟨by decide +kernel, by decide +kernel⟩, List.mem_of_getElem? (i := 1106) (by decide +kernel), List.mem_of_getElem? (i := 1335) (by decide +kernel), List.mem_of_getElem? (i := 1336) (by decide +kernel)⟩
theorem lw_p55 : lw_okq (⟨"WrongHoleModel", "isTieHere", "(I)Z"⟩, 33) := ⟨⟨by decide +kernel, by decide +kernel⟩, List.mem_of_getElem? (i := 1106) (by decide +kernel), List.mem_of_getElem? (i := 1339) (by decide +kernel), List.mem_of_getElem? (i := 1340) (by decide +kernel)⟩
theorem lw_p56 : lw_okq (⟨"WrongHoleModel", "isBesideHere", "(I)Z"⟩, 33) := ⟨⟨by decide +kernel, by decide +kernel⟩, List.mem_of_getElem? (i := 1106) (by decide +kernel), List.mem_of_getElem? (i := 1343) (by decide +kernel), List.mem_of_getElem? (i := 1344) (by decide +kernel)⟩
theorem lw_p57 : lw_okq (⟨"WrongHoleModel", "isNeverHere", "()Z"⟩, 33) := ⟨⟨by decide +kernel, by decide +kernel⟩, List.mem_of_getElem? (i := 1106) (by decide +kernel), List.mem_of_getElem? (i := 1347) (by decide +kernel), List.mem_of_getElem? (i := 1348) (by decide +kernel)⟩
theorem lw_p58 : lw_okq (⟨"WrongHoleModel", "isEyeHere", "(I)Z"⟩, 33) := ⟨⟨by decide +kernel, by decide +kernel⟩, List.mem_of_getElem? (i := 1106) (by decide +kernel), List.mem_of_getElem? (i := 1351) (by decide +kernel), List.mem_of_getElem? (i := 1352) (by decide +kernel)⟩
theorem lw_p59 : lw_okq (⟨"WrongHoleModel", "isActHere", "()Z"⟩, 33) := ⟨⟨by decide +kernel, by decide +kernel⟩, List.mem_of_getElem? (i := 1106) (by decide +kernel), List.mem_of_getElem? (i := 1355) (by decide +kernel), List.mem_of_getElem? (i := 1356) (by decide +kernel)⟩
theorem lw_p60 : lw_okq (⟨"WrongHoleModel", "sum", "()Z"⟩, 33) := ⟨⟨by decide +kernel, by decide +kernel⟩, List.mem_of_getElem? (i := 1106) (by decide +kernel), List.mem_of_getElem? (i := 1359) (by decide +kernel), List.mem_of_getElem? (i := 1360) (by decide +kernel)⟩
theorem lw_p61 : lw_okq (⟨"WrongHoleModel", "term", "()Z"⟩, 33) := ⟨⟨by decide +kernel, by decide +kernel⟩, List.mem_of_getElem? (i := 1106) (by decide +kernel), List.mem_of_getElem? (i := 1363) (by decide +kernel), List.mem_of_getElem? (i := 1364) (by decide +kernel)⟩
theorem lw_p62 : lw_okq (⟨"WrongHoleModel", "value", "()Z"⟩, 33) := ⟨⟨by decide +kernel, by decide +kernel⟩, List.mem_of_getElem? (i := 1106) (by decide +kernel), List.mem_of_getElem? (i := 1367) (by decide +kernel), List.mem_of_getElem? (i := 1368) (by decide +kernel)⟩
theorem lw_p63 : lw_okq (⟨"WrongHoleModel", "makes", "(I)Z"⟩, 33) := ⟨⟨by decide +kernel, by decide +kernel⟩, List.mem_of_getElem? (i := 1106) (by decide +kernel), List.mem_of_getElem? (i := 1372) (by decide +kernel), List.mem_of_getElem? (i := 1373) (by decide +kernel)⟩
def lw_privs_4 : List (MethodName × Nat) := [(⟨"WrongHoleModel", "holeHere", "()Z"⟩, 33), (⟨"WrongHoleModel", "readIn", "(I)I"⟩, 33), (⟨"WrongHoleModel", "isSortHere", "()Z"⟩, 33), (⟨"WrongHoleModel", "isTakesHere", "()Z"⟩, 33), (⟨"WrongHoleModel", "isInHere", "()Z"⟩, 33), (⟨"WrongHoleModel", "canBeRead", "(II)Z"⟩, 33), (⟨"WrongHoleModel", "isOfButtonHere", "(III)Z"⟩, 33), (⟨"WrongHoleModel", "isTieHere", "(I)Z"⟩, 33), (⟨"WrongHoleModel", "isBesideHere", "(I)Z"⟩, 33), (⟨"WrongHoleModel", "isNeverHere", "()Z"⟩, 33), (⟨"WrongHoleModel", "isEyeHere", "(I)Z"⟩, 33), (⟨"WrongHoleModel", "isActHere", "()Z"⟩, 33), (⟨"WrongHoleModel", "sum", "()Z"⟩, 33), (⟨"WrongHoleModel", "term", "()Z"⟩, 33), (⟨"WrongHoleModel", "value", "()Z"⟩, 33), (⟨"WrongHoleModel", "makes", "(I)Z"⟩, 33)]
theorem lw_r4 : ∀ q ∈ lw_privs_4, lw_okq q := List.forall_mem_cons.mpr ⟨lw_p48, List.forall_mem_cons.mpr ⟨lw_p49, List.forall_mem_cons.mpr ⟨lw_p50, List.forall_mem_cons.mpr ⟨lw_p51, List.forall_mem_cons.mpr ⟨lw_p52, List.forall_mem_cons.mpr ⟨lw_p53, List.forall_mem_cons.mpr ⟨lw_p54, List.forall_mem_cons.mpr ⟨lw_p55, List.forall_mem_cons.mpr ⟨lw_p56, List.forall_mem_cons.mpr ⟨lw_p57, List.forall_mem_cons.mpr ⟨lw_p58, List.forall_mem_cons.mpr ⟨lw_p59, List.forall_mem_cons.mpr ⟨lw_p60, List.forall_mem_cons.mpr ⟨lw_p61, List.forall_mem_cons.mpr ⟨lw_p62, List.forall_mem_cons.mpr ⟨lw_p63, fun _ h => absurd h List.not_mem_nil⟩⟩⟩⟩⟩⟩⟩⟩⟩⟩⟩⟩⟩⟩⟩⟩
theorem lw_p64 : lw_okq (⟨"WrongHoleModel", "puts", "(II)V"⟩, 33) := ⟨⟨by decide +kernel, by decide +kernel⟩, List.mem_of_getElem? (i := 1106) (by decide +kernel), List.mem_of_getElem? (i := 1376) (by decide +kernel), List.mem_of_getElem? (i := 1377) (by decide +kernel)⟩
theorem lw_p65 : lw_okq (⟨"WrongHoleModel", "wordHere", "()I"⟩, 33) := ⟨⟨by decide +kernel, by decide +kernel⟩, List.mem_of_getElem? (i := 1106) (by decide +kernel), List.mem_of_getElem? (i := 1380) (by decide +kernel), List.mem_of_getElem? (i := 1381) (by decide +kernel)⟩
theorem lw_p66 : lw_okq (⟨"WrongHoleModel", "takesWord", "(J)Z"⟩, 33) := ⟨⟨by decide +kernel, by decide +kernel⟩, List.mem_of_getElem? (i := 1106) (by decide +kernel), List.mem_of_getElem? (i := 1396) (by decide +kernel), List.mem_of_getElem? (i := 1397) (by decide +kernel)⟩
theorem lw_p67 : lw_okq (⟨"WrongHoleModel", "tested", "()Z"⟩, 33) := ⟨⟨by decide +kernel, by decide +kernel⟩, List.mem_of_getElem? (i := 1106) (by decide +kernel), List.mem_of_getElem? (i := 1400) (by decide +kernel), List.mem_of_getElem? (i := 1401) (by decide +kernel)⟩
theorem lw_p68 : lw_okq (⟨"WrongHoleModel", "fact", "()Z"⟩, 33) := ⟨⟨by decide +kernel, by decide +kernel⟩, List.mem_of_getElem? (i := 1106) (by decide +kernel), List.mem_of_getElem? (i := 1404) (by decide +kernel), List.mem_of_getElem? (i := 1405) (by decide +kernel)⟩
theorem lw_p69 : lw_okq (⟨"WrongHoleModel", "opens", "(I)Z"⟩, 33) := ⟨⟨by decide +kernel, by decide +kernel⟩, List.mem_of_getElem? (i := 1106) (by decide +kernel), List.mem_of_getElem? (i := 1409) (by decide +kernel), List.mem_of_getElem? (i := 1410) (by decide +kernel)⟩
theorem lw_p70 : lw_okq (⟨"WrongHoleModel", "compare", "()Z"⟩, 33) := ⟨⟨by decide +kernel, by decide +kernel⟩, List.mem_of_getElem? (i := 1106) (by decide +kernel), List.mem_of_getElem? (i := 1413) (by decide +kernel), List.mem_of_getElem? (i := 1414) (by decide +kernel)⟩
theorem lw_p71 : lw_okq (⟨"WrongHoleModel", "closes", "()V"⟩, 33) := ⟨⟨by decide +kernel, by decide +kernel⟩, List.mem_of_getElem? (i := 1106) (by decide +kernel), List.mem_of_getElem? (i := 1417) (by decide +kernel), List.mem_of_getElem? (i := 1418) (by decide +kernel)⟩
theorem lw_p72 : lw_okq (⟨"WrongHoleModel", "settles", "(I)V"⟩, 33) := ⟨⟨by decide +kernel, by decide +kernel⟩, List.mem_of_getElem? (i := 1106) (by decide +kernel), List.mem_of_getElem? (i := 1421) (by decide +kernel), List.mem_of_getElem? (i := 1422) (by decide +kernel)⟩
theorem lw_p73 : lw_okq (⟨"WrongHoleModel", "isInside", "()Z"⟩, 33) := ⟨⟨by decide +kernel, by decide +kernel⟩, List.mem_of_getElem? (i := 1106) (by decide +kernel), List.mem_of_getElem? (i := 1428) (by decide +kernel), List.mem_of_getElem? (i := 1429) (by decide +kernel)⟩
theorem lw_p74 : lw_okq (⟨"WrongHoleModel", "isButton", "(I)Z"⟩, 33) := ⟨⟨by decide +kernel, by decide +kernel⟩, List.mem_of_getElem? (i := 1106) (by decide +kernel), List.mem_of_getElem? (i := 1442) (by decide +kernel), List.mem_of_getElem? (i := 1443) (by decide +kernel)⟩
theorem lw_p75 : lw_okq (⟨"WrongHoleModel", "buttonOf", "(II)I"⟩, 33) := ⟨⟨by decide +kernel, by decide +kernel⟩, List.mem_of_getElem? (i := 1106) (by decide +kernel), List.mem_of_getElem? (i := 1447) (by decide +kernel), List.mem_of_getElem? (i := 1448) (by decide +kernel)⟩
theorem lw_p76 : lw_okq (⟨"WrongHoleModel", "tieOf", "(I)I"⟩, 33) := ⟨⟨by decide +kernel, by decide +kernel⟩, List.mem_of_getElem? (i := 1106) (by decide +kernel), List.mem_of_getElem? (i := 1451) (by decide +kernel), List.mem_of_getElem? (i := 1452) (by decide +kernel)⟩
theorem lw_p77 : lw_okq (⟨"WrongHoleModel", "seenOf", "(II)I"⟩, 33) := ⟨⟨by decide +kernel, by decide +kernel⟩, List.mem_of_getElem? (i := 1106) (by decide +kernel), List.mem_of_getElem? (i := 1455) (by decide +kernel), List.mem_of_getElem? (i := 1456) (by decide +kernel)⟩
theorem lw_p78 : lw_okq (⟨"WrongHoleModel", "canBeRight", "(I)Z"⟩, 33) := ⟨⟨by decide +kernel, by decide +kernel⟩, List.mem_of_getElem? (i := 1106) (by decide +kernel), List.mem_of_getElem? (i := 1459) (by decide +kernel), List.mem_of_getElem? (i := 1460) (by decide +kernel)⟩
theorem lw_p79 : lw_okq (⟨"WrongHoleModel", "fits", "(II)Z"⟩, 33) := ⟨⟨by decide +kernel, by decide +kernel⟩, List.mem_of_getElem? (i := 1106) (by decide +kernel), List.mem_of_getElem? (i := 1463) (by decide +kernel), List.mem_of_getElem? (i := 1464) (by decide +kernel)⟩
def lw_privs_5 : List (MethodName × Nat) := [(⟨"WrongHoleModel", "puts", "(II)V"⟩, 33), (⟨"WrongHoleModel", "wordHere", "()I"⟩, 33), (⟨"WrongHoleModel", "takesWord", "(J)Z"⟩, 33), (⟨"WrongHoleModel", "tested", "()Z"⟩, 33), (⟨"WrongHoleModel", "fact", "()Z"⟩, 33), (⟨"WrongHoleModel", "opens", "(I)Z"⟩, 33), (⟨"WrongHoleModel", "compare", "()Z"⟩, 33), (⟨"WrongHoleModel", "closes", "()V"⟩, 33), (⟨"WrongHoleModel", "settles", "(I)V"⟩, 33), (⟨"WrongHoleModel", "isInside", "()Z"⟩, 33), (⟨"WrongHoleModel", "isButton", "(I)Z"⟩, 33), (⟨"WrongHoleModel", "buttonOf", "(II)I"⟩, 33), (⟨"WrongHoleModel", "tieOf", "(I)I"⟩, 33), (⟨"WrongHoleModel", "seenOf", "(II)I"⟩, 33), (⟨"WrongHoleModel", "canBeRight", "(I)Z"⟩, 33), (⟨"WrongHoleModel", "fits", "(II)Z"⟩, 33)]
theorem lw_r5 : ∀ q ∈ lw_privs_5, lw_okq q := List.forall_mem_cons.mpr ⟨lw_p64, List.forall_mem_cons.mpr ⟨lw_p65, List.forall_mem_cons.mpr ⟨lw_p66, List.forall_mem_cons.mpr ⟨lw_p67, List.forall_mem_cons.mpr ⟨lw_p68, List.forall_mem_cons.mpr ⟨lw_p69, List.forall_mem_cons.mpr ⟨lw_p70, List.forall_mem_cons.mpr ⟨lw_p71, List.forall_mem_cons.mpr ⟨lw_p72, List.forall_mem_cons.mpr ⟨lw_p73, List.forall_mem_cons.mpr ⟨lw_p74, List.forall_mem_cons.mpr ⟨lw_p75, List.forall_mem_cons.mpr ⟨lw_p76, List.forall_mem_cons.mpr ⟨lw_p77, List.forall_mem_cons.mpr ⟨lw_p78, List.forall_mem_cons.mpr ⟨lw_p79, fun _ h => absurd h List.not_mem_nil⟩⟩⟩⟩⟩⟩⟩⟩⟩⟩⟩⟩⟩⟩⟩⟩
theorem lw_p80 : lw_okq (⟨"WrongHoleModel", "holeOf", "(II)I"⟩, 33) := ⟨⟨by decide +kernel, by decide +kernel⟩, List.mem_of_getElem? (i := 1106) (by decide +kernel), List.mem_of_getElem? (i := 1467) (by decide +kernel), List.mem_of_getElem? (i := 1468) (by decide +kernel)⟩
theorem lw_p81 : lw_okq (⟨"WrongHoleModel", "isHole", "(I)Z"⟩, 33) := ⟨⟨by decide +kernel, by decide +kernel⟩, List.mem_of_getElem? (i := 1106) (by decide +kernel), List.mem_of_getElem? (i := 1475) (by decide +kernel), List.mem_of_getElem? (i := 1476) (by decide +kernel)⟩
theorem lw_p82 : lw_okq (⟨"WrongHoleModel", "isLift", "()Z"⟩, 33) := ⟨⟨by decide +kernel, by decide +kernel⟩, List.mem_of_getElem? (i := 1106) (by decide +kernel), List.mem_of_getElem? (i := 1484) (by decide +kernel), List.mem_of_getElem? (i := 1485) (by decide +kernel)⟩
theorem lw_p83 : lw_okq (⟨"WrongHoleModel", "situationNow", "()I"⟩, 33) := ⟨⟨by decide +kernel, by decide +kernel⟩, List.mem_of_getElem? (i := 1106) (by decide +kernel), List.mem_of_getElem? (i := 1489) (by decide +kernel), List.mem_of_getElem? (i := 1490) (by decide +kernel)⟩
theorem lw_p84 : lw_okq (⟨"WrongHoleModel", "openIn", "(I)I"⟩, 33) := ⟨⟨by decide +kernel, by decide +kernel⟩, List.mem_of_getElem? (i := 1106) (by decide +kernel), List.mem_of_getElem? (i := 1493) (by decide +kernel), List.mem_of_getElem? (i := 1494) (by decide +kernel)⟩
theorem lw_p85 : lw_okq (⟨"WrongHoleModel", "wrongIn", "(I)I"⟩, 33) := ⟨⟨by decide +kernel, by decide +kernel⟩, List.mem_of_getElem? (i := 1106) (by decide +kernel), List.mem_of_getElem? (i := 1503) (by decide +kernel), List.mem_of_getElem? (i := 1504) (by decide +kernel)⟩
theorem lw_p86 : lw_okq (⟨"WrongHoleModel", "rightIn", "(I)I"⟩, 33) := ⟨⟨by decide +kernel, by decide +kernel⟩, List.mem_of_getElem? (i := 1106) (by decide +kernel), List.mem_of_getElem? (i := 1507) (by decide +kernel), List.mem_of_getElem? (i := 1508) (by decide +kernel)⟩
theorem lw_p87 : lw_okq (⟨"WrongHoleModel", "runIn", "(I)I"⟩, 33) := ⟨⟨by decide +kernel, by decide +kernel⟩, List.mem_of_getElem? (i := 1106) (by decide +kernel), List.mem_of_getElem? (i := 1523) (by decide +kernel), List.mem_of_getElem? (i := 1524) (by decide +kernel)⟩
theorem lw_p88 : lw_okq (⟨"WrongHoleModel", "isLawful", "(I)Z"⟩, 33) := ⟨⟨by decide +kernel, by decide +kernel⟩, List.mem_of_getElem? (i := 1106) (by decide +kernel), List.mem_of_getElem? (i := 1527) (by decide +kernel), List.mem_of_getElem? (i := 1528) (by decide +kernel)⟩
theorem lw_p89 : lw_okq (⟨"WrongHoleModel", "isGoal", "(I)Z"⟩, 33) := ⟨⟨by decide +kernel, by decide +kernel⟩, List.mem_of_getElem? (i := 1106) (by decide +kernel), List.mem_of_getElem? (i := 1531) (by decide +kernel), List.mem_of_getElem? (i := 1532) (by decide +kernel)⟩
theorem lw_p90 : lw_okq (⟨"WrongHoleModel", "goal", "()I"⟩, 33) := ⟨⟨by decide +kernel, by decide +kernel⟩, List.mem_of_getElem? (i := 1106) (by decide +kernel), List.mem_of_getElem? (i := 1535) (by decide +kernel), List.mem_of_getElem? (i := 1536) (by decide +kernel)⟩
theorem lw_p91 : lw_okq (⟨"WrongHoleModel", "shownIn", "(II)I"⟩, 33) := ⟨⟨by decide +kernel, by decide +kernel⟩, List.mem_of_getElem? (i := 1106) (by decide +kernel), List.mem_of_getElem? (i := 1544) (by decide +kernel), List.mem_of_getElem? (i := 1545) (by decide +kernel)⟩
theorem lw_p92 : lw_okq (⟨"WrongHoleModel", "mayNow", "(I)Z"⟩, 33) := ⟨⟨by decide +kernel, by decide +kernel⟩, List.mem_of_getElem? (i := 1106) (by decide +kernel), List.mem_of_getElem? (i := 1556) (by decide +kernel), List.mem_of_getElem? (i := 1557) (by decide +kernel)⟩
theorem lw_p93 : lw_okq (⟨"WrongHoleModel", "behindLawful", "(II)I"⟩, 33) := ⟨⟨by decide +kernel, by decide +kernel⟩, List.mem_of_getElem? (i := 1106) (by decide +kernel), List.mem_of_getElem? (i := 1560) (by decide +kernel), List.mem_of_getElem? (i := 1561) (by decide +kernel)⟩
theorem lw_p94 : lw_okq (⟨"WrongHoleModel", "behind", "(II)I"⟩, 33) := ⟨⟨by decide +kernel, by decide +kernel⟩, List.mem_of_getElem? (i := 1106) (by decide +kernel), List.mem_of_getElem? (i := 1564) (by decide +kernel), List.mem_of_getElem? (i := 1565) (by decide +kernel)⟩
theorem lw_p95 : lw_okq (⟨"WrongHoleModel", "canJoin", "(III)Z"⟩, 33) := ⟨⟨by decide +kernel, by decide +kernel⟩, List.mem_of_getElem? (i := 1106) (by decide +kernel), List.mem_of_getElem? (i := 1571) (by decide +kernel), List.mem_of_getElem? (i := 1572) (by decide +kernel)⟩
def lw_privs_6 : List (MethodName × Nat) := [(⟨"WrongHoleModel", "holeOf", "(II)I"⟩, 33), (⟨"WrongHoleModel", "isHole", "(I)Z"⟩, 33), (⟨"WrongHoleModel", "isLift", "()Z"⟩, 33), (⟨"WrongHoleModel", "situationNow", "()I"⟩, 33), (⟨"WrongHoleModel", "openIn", "(I)I"⟩, 33), (⟨"WrongHoleModel", "wrongIn", "(I)I"⟩, 33), (⟨"WrongHoleModel", "rightIn", "(I)I"⟩, 33), (⟨"WrongHoleModel", "runIn", "(I)I"⟩, 33), (⟨"WrongHoleModel", "isLawful", "(I)Z"⟩, 33), (⟨"WrongHoleModel", "isGoal", "(I)Z"⟩, 33), (⟨"WrongHoleModel", "goal", "()I"⟩, 33), (⟨"WrongHoleModel", "shownIn", "(II)I"⟩, 33), (⟨"WrongHoleModel", "mayNow", "(I)Z"⟩, 33), (⟨"WrongHoleModel", "behindLawful", "(II)I"⟩, 33), (⟨"WrongHoleModel", "behind", "(II)I"⟩, 33), (⟨"WrongHoleModel", "canJoin", "(III)Z"⟩, 33)]
theorem lw_r6 : ∀ q ∈ lw_privs_6, lw_okq q := List.forall_mem_cons.mpr ⟨lw_p80, List.forall_mem_cons.mpr ⟨lw_p81, List.forall_mem_cons.mpr ⟨lw_p82, List.forall_mem_cons.mpr ⟨lw_p83, List.forall_mem_cons.mpr ⟨lw_p84, List.forall_mem_cons.mpr ⟨lw_p85, List.forall_mem_cons.mpr ⟨lw_p86, List.forall_mem_cons.mpr ⟨lw_p87, List.forall_mem_cons.mpr ⟨lw_p88, List.forall_mem_cons.mpr ⟨lw_p89, List.forall_mem_cons.mpr ⟨lw_p90, List.forall_mem_cons.mpr ⟨lw_p91, List.forall_mem_cons.mpr ⟨lw_p92, List.forall_mem_cons.mpr ⟨lw_p93, List.forall_mem_cons.mpr ⟨lw_p94, List.forall_mem_cons.mpr ⟨lw_p95, fun _ h => absurd h List.not_mem_nil⟩⟩⟩⟩⟩⟩⟩⟩⟩⟩⟩⟩⟩⟩⟩⟩
theorem lw_p96 : lw_okq (⟨"WrongHoleModel", "timeOf", "(I)I"⟩, 33) := ⟨⟨by decide +kernel, by decide +kernel⟩, List.mem_of_getElem? (i := 1106) (by decide +kernel), List.mem_of_getElem? (i := 1578) (by decide +kernel), List.mem_of_getElem? (i := 1579) (by decide +kernel)⟩
theorem lw_p97 : lw_okq (⟨"WrongHoleModel", "keepsAct", "()V"⟩, 33) := ⟨⟨by decide +kernel, by decide +kernel⟩, List.mem_of_getElem? (i := 1106) (by decide +kernel), List.mem_of_getElem? (i := 1582) (by decide +kernel), List.mem_of_getElem? (i := 1583) (by decide +kernel)⟩
theorem lw_p98 : lw_okq (⟨"WrongHoleModel", "does", "(I)V"⟩, 33) := ⟨⟨by decide +kernel, by decide +kernel⟩, List.mem_of_getElem? (i := 1106) (by decide +kernel), List.mem_of_getElem? (i := 1586) (by decide +kernel), List.mem_of_getElem? (i := 1587) (by decide +kernel)⟩
theorem lw_p99 : lw_okq (⟨"WrongHoleModel", "isRule", "(I)Z"⟩, 33) := ⟨⟨by decide +kernel, by decide +kernel⟩, List.mem_of_getElem? (i := 1106) (by decide +kernel), List.mem_of_getElem? (i := 1603) (by decide +kernel), List.mem_of_getElem? (i := 1604) (by decide +kernel)⟩
theorem lw_p100 : lw_okq (⟨"WrongHoleModel", "actBy", "(I)I"⟩, 33) := ⟨⟨by decide +kernel, by decide +kernel⟩, List.mem_of_getElem? (i := 1106) (by decide +kernel), List.mem_of_getElem? (i := 1608) (by decide +kernel), List.mem_of_getElem? (i := 1609) (by decide +kernel)⟩
theorem lw_p101 : lw_okq (⟨"WrongHoleModel", "words", "(II)V"⟩, 33) := ⟨⟨by decide +kernel, by decide +kernel⟩, List.mem_of_getElem? (i := 1106) (by decide +kernel), List.mem_of_getElem? (i := 1612) (by decide +kernel), List.mem_of_getElem? (i := 1613) (by decide +kernel)⟩
theorem lw_p102 : lw_okq (⟨"WrongHoleModel", "summedBy", "(I)J"⟩, 33) := ⟨⟨by decide +kernel, by decide +kernel⟩, List.mem_of_getElem? (i := 1106) (by decide +kernel), List.mem_of_getElem? (i := 1616) (by decide +kernel), List.mem_of_getElem? (i := 1617) (by decide +kernel)⟩
theorem lw_p103 : lw_okq (⟨"WrongHoleModel", "reckons", "(III)J"⟩, 33) := ⟨⟨by decide +kernel, by decide +kernel⟩, List.mem_of_getElem? (i := 1106) (by decide +kernel), List.mem_of_getElem? (i := 1620) (by decide +kernel), List.mem_of_getElem? (i := 1621) (by decide +kernel)⟩
theorem lw_p104 : lw_okq (⟨"WrongHoleModel", "push", "(J)V"⟩, 33) := ⟨⟨by decide +kernel, by decide +kernel⟩, List.mem_of_getElem? (i := 1106) (by decide +kernel), List.mem_of_getElem? (i := 1624) (by decide +kernel), List.mem_of_getElem? (i := 1625) (by decide +kernel)⟩
theorem lw_p105 : lw_okq (⟨"WrongHoleModel", "pop", "()J"⟩, 33) := ⟨⟨by decide +kernel, by decide +kernel⟩, List.mem_of_getElem? (i := 1106) (by decide +kernel), List.mem_of_getElem? (i := 1628) (by decide +kernel), List.mem_of_getElem? (i := 1629) (by decide +kernel)⟩
theorem lw_p106 : lw_okq (⟨"WrongHoleModel", "mayMany", "(I)I"⟩, 33) := ⟨⟨by decide +kernel, by decide +kernel⟩, List.mem_of_getElem? (i := 1106) (by decide +kernel), List.mem_of_getElem? (i := 1639) (by decide +kernel), List.mem_of_getElem? (i := 1640) (by decide +kernel)⟩
theorem lw_p107 : lw_okq (⟨"WrongHoleModel", "mayAt", "(II)I"⟩, 33) := ⟨⟨by decide +kernel, by decide +kernel⟩, List.mem_of_getElem? (i := 1106) (by decide +kernel), List.mem_of_getElem? (i := 1643) (by decide +kernel), List.mem_of_getElem? (i := 1644) (by decide +kernel)⟩
theorem lw_p108 : lw_okq (⟨"WrongHoleModel", "partOf", "(III)I"⟩, 33) := ⟨⟨by decide +kernel, by decide +kernel⟩, List.mem_of_getElem? (i := 1106) (by decide +kernel), List.mem_of_getElem? (i := 1651) (by decide +kernel), List.mem_of_getElem? (i := 1652) (by decide +kernel)⟩
theorem lw_p109 : lw_okq (⟨"WrongHoleModel", "countsActs", "()V"⟩, 33) := ⟨⟨by decide +kernel, by decide +kernel⟩, List.mem_of_getElem? (i := 1106) (by decide +kernel), List.mem_of_getElem? (i := 1659) (by decide +kernel), List.mem_of_getElem? (i := 1660) (by decide +kernel)⟩
theorem lw_p110 : lw_okq (⟨"WrongHoleModel", "clears", "()V"⟩, 33) := ⟨⟨by decide +kernel, by decide +kernel⟩, List.mem_of_getElem? (i := 1106) (by decide +kernel), List.mem_of_getElem? (i := 1663) (by decide +kernel), List.mem_of_getElem? (i := 1664) (by decide +kernel)⟩
theorem lw_p111 : lw_okq (⟨"WrongHoleModel", "comes", "(II)V"⟩, 33) := ⟨⟨by decide +kernel, by decide +kernel⟩, List.mem_of_getElem? (i := 1106) (by decide +kernel), List.mem_of_getElem? (i := 1667) (by decide +kernel), List.mem_of_getElem? (i := 1668) (by decide +kernel)⟩
def lw_privs_7 : List (MethodName × Nat) := [(⟨"WrongHoleModel", "timeOf", "(I)I"⟩, 33), (⟨"WrongHoleModel", "keepsAct", "()V"⟩, 33), (⟨"WrongHoleModel", "does", "(I)V"⟩, 33), (⟨"WrongHoleModel", "isRule", "(I)Z"⟩, 33), (⟨"WrongHoleModel", "actBy", "(I)I"⟩, 33), (⟨"WrongHoleModel", "words", "(II)V"⟩, 33), (⟨"WrongHoleModel", "summedBy", "(I)J"⟩, 33), (⟨"WrongHoleModel", "reckons", "(III)J"⟩, 33), (⟨"WrongHoleModel", "push", "(J)V"⟩, 33), (⟨"WrongHoleModel", "pop", "()J"⟩, 33), (⟨"WrongHoleModel", "mayMany", "(I)I"⟩, 33), (⟨"WrongHoleModel", "mayAt", "(II)I"⟩, 33), (⟨"WrongHoleModel", "partOf", "(III)I"⟩, 33), (⟨"WrongHoleModel", "countsActs", "()V"⟩, 33), (⟨"WrongHoleModel", "clears", "()V"⟩, 33), (⟨"WrongHoleModel", "comes", "(II)V"⟩, 33)]
theorem lw_r7 : ∀ q ∈ lw_privs_7, lw_okq q := List.forall_mem_cons.mpr ⟨lw_p96, List.forall_mem_cons.mpr ⟨lw_p97, List.forall_mem_cons.mpr ⟨lw_p98, List.forall_mem_cons.mpr ⟨lw_p99, List.forall_mem_cons.mpr ⟨lw_p100, List.forall_mem_cons.mpr ⟨lw_p101, List.forall_mem_cons.mpr ⟨lw_p102, List.forall_mem_cons.mpr ⟨lw_p103, List.forall_mem_cons.mpr ⟨lw_p104, List.forall_mem_cons.mpr ⟨lw_p105, List.forall_mem_cons.mpr ⟨lw_p106, List.forall_mem_cons.mpr ⟨lw_p107, List.forall_mem_cons.mpr ⟨lw_p108, List.forall_mem_cons.mpr ⟨lw_p109, List.forall_mem_cons.mpr ⟨lw_p110, List.forall_mem_cons.mpr ⟨lw_p111, fun _ h => absurd h List.not_mem_nil⟩⟩⟩⟩⟩⟩⟩⟩⟩⟩⟩⟩⟩⟩⟩⟩
theorem lw_p112 : lw_okq (⟨"WrongHoleModel", "nextWaiting", "()I"⟩, 33) := ⟨⟨by decide +kernel, by decide +kernel⟩, List.mem_of_getElem? (i := 1106) (by decide +kernel), List.mem_of_getElem? (i := 1671) (by decide +kernel), List.mem_of_getElem? (i := 1672) (by decide +kernel)⟩
theorem lw_p113 : lw_okq (⟨"WrongHoleModel", "countsBack", "()V"⟩, 33) := ⟨⟨by decide +kernel, by decide +kernel⟩, List.mem_of_getElem? (i := 1106) (by decide +kernel), List.mem_of_getElem? (i := 1679) (by decide +kernel), List.mem_of_getElem? (i := 1680) (by decide +kernel)⟩
theorem lw_p114 : lw_okq (⟨"WrongHoleModel", "isSituation", "(I)Z"⟩, 33) := ⟨⟨by decide +kernel, by decide +kernel⟩, List.mem_of_getElem? (i := 1106) (by decide +kernel), List.mem_of_getElem? (i := 1683) (by decide +kernel), List.mem_of_getElem? (i := 1684) (by decide +kernel)⟩
theorem lw_p115 : lw_okq (⟨"WrongHoleModel", "stepFrom", "(I)I"⟩, 33) := ⟨⟨by decide +kernel, by decide +kernel⟩, List.mem_of_getElem? (i := 1106) (by decide +kernel), List.mem_of_getElem? (i := 1691) (by decide +kernel), List.mem_of_getElem? (i := 1692) (by decide +kernel)⟩
theorem lw_p116 : lw_okq (⟨"WrongHoleModel", "countsSeconds", "(I)V"⟩, 33) := ⟨⟨by decide +kernel, by decide +kernel⟩, List.mem_of_getElem? (i := 1106) (by decide +kernel), List.mem_of_getElem? (i := 1700) (by decide +kernel), List.mem_of_getElem? (i := 1701) (by decide +kernel)⟩
theorem lw_p117 : lw_okq (⟨"WrongHoleModel", "worthIn", "(I)I"⟩, 33) := ⟨⟨by decide +kernel, by decide +kernel⟩, List.mem_of_getElem? (i := 1106) (by decide +kernel), List.mem_of_getElem? (i := 1704) (by decide +kernel), List.mem_of_getElem? (i := 1705) (by decide +kernel)⟩
theorem lw_p118 : lw_okq (⟨"WrongHoleModel", "isWay", "(I)Z"⟩, 33) := ⟨⟨by decide +kernel, by decide +kernel⟩, List.mem_of_getElem? (i := 1106) (by decide +kernel), List.mem_of_getElem? (i := 1733) (by decide +kernel), List.mem_of_getElem? (i := 1734) (by decide +kernel)⟩
theorem lw_p119 : lw_okq (⟨"WrongHoleModel", "isSo", "(II)Z"⟩, 33) := ⟨⟨by decide +kernel, by decide +kernel⟩, List.mem_of_getElem? (i := 1106) (by decide +kernel), List.mem_of_getElem? (i := 1737) (by decide +kernel), List.mem_of_getElem? (i := 1738) (by decide +kernel)⟩
theorem lw_p120 : lw_okq (⟨"WrongHoleModel", "isRound", "(I)Z"⟩, 33) := ⟨⟨by decide +kernel, by decide +kernel⟩, List.mem_of_getElem? (i := 1106) (by decide +kernel), List.mem_of_getElem? (i := 1751) (by decide +kernel), List.mem_of_getElem? (i := 1752) (by decide +kernel)⟩
theorem lw_p121 : lw_okq (⟨"WrongHoleModel", "draw", "(I)I"⟩, 33) := ⟨⟨by decide +kernel, by decide +kernel⟩, List.mem_of_getElem? (i := 1106) (by decide +kernel), List.mem_of_getElem? (i := 1764) (by decide +kernel), List.mem_of_getElem? (i := 1765) (by decide +kernel)⟩
def lw_privs_8 : List (MethodName × Nat) := [(⟨"WrongHoleModel", "nextWaiting", "()I"⟩, 33), (⟨"WrongHoleModel", "countsBack", "()V"⟩, 33), (⟨"WrongHoleModel", "isSituation", "(I)Z"⟩, 33), (⟨"WrongHoleModel", "stepFrom", "(I)I"⟩, 33), (⟨"WrongHoleModel", "countsSeconds", "(I)V"⟩, 33), (⟨"WrongHoleModel", "worthIn", "(I)I"⟩, 33), (⟨"WrongHoleModel", "isWay", "(I)Z"⟩, 33), (⟨"WrongHoleModel", "isSo", "(II)Z"⟩, 33), (⟨"WrongHoleModel", "isRound", "(I)Z"⟩, 33), (⟨"WrongHoleModel", "draw", "(I)I"⟩, 33)]
theorem lw_r8 : ∀ q ∈ lw_privs_8, lw_okq q := List.forall_mem_cons.mpr ⟨lw_p112, List.forall_mem_cons.mpr ⟨lw_p113, List.forall_mem_cons.mpr ⟨lw_p114, List.forall_mem_cons.mpr ⟨lw_p115, List.forall_mem_cons.mpr ⟨lw_p116, List.forall_mem_cons.mpr ⟨lw_p117, List.forall_mem_cons.mpr ⟨lw_p118, List.forall_mem_cons.mpr ⟨lw_p119, List.forall_mem_cons.mpr ⟨lw_p120, List.forall_mem_cons.mpr ⟨lw_p121, fun _ h => absurd h List.not_mem_nil⟩⟩⟩⟩⟩⟩⟩⟩⟩⟩
def lw_privs : List (MethodName × Nat) := lw_privs_1 ++ (lw_privs_2 ++ (lw_privs_3 ++ (lw_privs_4 ++ (lw_privs_5 ++ (lw_privs_6 ++ (lw_privs_7 ++ (lw_privs_8)))))))
def lw_tbl : List Cond := k2_sels lw_privs ++ tables_1
theorem lw_privs_ok : ∀ q ∈ lw_privs, lw_okq q := by
  show ∀ q ∈ lw_privs_1 ++ (lw_privs_2 ++ (lw_privs_3 ++ (lw_privs_4 ++ (lw_privs_5 ++ (lw_privs_6 ++ (lw_privs_7 ++ (lw_privs_8))))))), lw_okq q
  exact List.forall_mem_append.mpr ⟨lw_r1, List.forall_mem_append.mpr ⟨lw_r2, List.forall_mem_append.mpr ⟨lw_r3, List.forall_mem_append.mpr ⟨lw_r4, List.forall_mem_append.mpr ⟨lw_r5, List.forall_mem_append.mpr ⟨lw_r6, List.forall_mem_append.mpr ⟨lw_r7, lw_r8⟩⟩⟩⟩⟩⟩⟩

def RX0 : String := "WrongHole$Acts"
def TX0 : u_T := fun k => match k with
  | 0 => ("WrongHole$Acts", "spots", "[I", true)
  | 1 => ("WrongHole$Acts", "codes", "[I", true)
  | _ => ("WrongHole$Acts", "size", "I", false)
def tyX0 : Nat → FieldType := fun k => match k with
  | 0 => .array .int
  | 1 => .array .int
  | _ => .int
theorem nmX0 : ∀ a, a < 3 → ∀ b, b < 3 → a ≠ b → (TX0 a).2.1 ≠ (TX0 b).2.1 := by decide +kernel
theorem tyX0_ok : ∀ k, k < 3 → parseFieldDescriptor (TX0 k).2.2.1 = some (tyX0 k) := by decide +kernel
abbrev cX0_init : ByteArray := prog_2_method_1_code
def yX0_init : MethodName := ⟨RX0, "<init>", "()V"⟩
abbrev cX0_survey : ByteArray := prog_2_method_2_code
def yX0_survey : MethodName := ⟨RX0, "survey", "(LWrongHole$Lift;I)V"⟩
abbrev cX0_gather : ByteArray := prog_2_method_3_code
def yX0_gather : MethodName := ⟨RX0, "gather", "(LWrongHole$Lift;I)V"⟩
abbrev cX0_add : ByteArray := prog_2_method_4_code
def yX0_add : MethodName := ⟨RX0, "add", "(III)V"⟩
def RX1 : String := "WrongHole$Folds"
def TX1 : u_T := fun k => match k with
  | 0 => ("WrongHole$Folds", "possible", "[I", true)
  | 1 => ("WrongHole$Folds", "tallies", "[I", true)
  | 2 => ("WrongHole$Folds", "buttons", "I", false)
  | 3 => ("WrongHole$Folds", "holes", "I", false)
  | 4 => ("WrongHole$Folds", "mustBeIn", "I", false)
  | _ => ("WrongHole$Folds", "mustBeHeld", "I", false)
def tyX1 : Nat → FieldType := fun k => match k with
  | 0 => .array .int
  | 1 => .array .int
  | 2 => .int
  | 3 => .int
  | 4 => .int
  | _ => .int
theorem nmX1 : ∀ a, a < 6 → ∀ b, b < 6 → a ≠ b → (TX1 a).2.1 ≠ (TX1 b).2.1 := by decide +kernel
theorem tyX1_ok : ∀ k, k < 6 → parseFieldDescriptor (TX1 k).2.2.1 = some (tyX1 k) := by decide +kernel
abbrev cX1_init : ByteArray := prog_3_method_1_code
def yX1_init : MethodName := ⟨RX1, "<init>", "()V"⟩
abbrev cX1_canBeTold : ByteArray := prog_3_method_2_code
def yX1_canBeTold : MethodName := ⟨RX1, "canBeTold", "(LWrongHole$Lift;III)Z"⟩
abbrev cX1_smooth : ByteArray := prog_3_method_3_code
def yX1_smooth : MethodName := ⟨RX1, "smooth", "(LWrongHole$Lift;)V"⟩
abbrev cX1_fold : ByteArray := prog_3_method_4_code
def yX1_fold : MethodName := ⟨RX1, "fold", "(III)V"⟩
abbrev cX1_howMany : ByteArray := prog_3_method_5_code
def yX1_howMany : MethodName := ⟨RX1, "howMany", "()I"⟩
abbrev cX1_inAll : ByteArray := prog_3_method_6_code
def yX1_inAll : MethodName := ⟨RX1, "inAll", "()I"⟩
abbrev cX1_inNone : ByteArray := prog_3_method_7_code
def yX1_inNone : MethodName := ⟨RX1, "inNone", "()I"⟩
abbrev cX1_tally : ByteArray := prog_3_method_8_code
def yX1_tally : MethodName := ⟨RX1, "tally", "(I)I"⟩
abbrev cX1_tallyAt : ByteArray := prog_3_method_9_code
def yX1_tallyAt : MethodName := ⟨RX1, "tallyAt", "(III)I"⟩
def RX2 : String := "WrongHole$Lift"
def TX2 : u_T := fun k => match k with
  | 0 => ("WrongHole$Lift", "buttons", "I", false)
  | 1 => ("WrongHole$Lift", "holes", "I", false)
  | 2 => ("WrongHole$Lift", "gone", "I", false)
  | 3 => ("WrongHole$Lift", "sewn", "I", false)
  | 4 => ("WrongHole$Lift", "never", "I", false)
  | 5 => ("WrongHole$Lift", "beside", "I", false)
  | 6 => ("WrongHole$Lift", "tied", "I", false)
  | 7 => ("WrongHole$Lift", "tieSeconds", "I", false)
  | 8 => ("WrongHole$Lift", "eyes", "I", false)
  | 9 => ("WrongHole$Lift", "key", "I", false)
  | 10 => ("WrongHole$Lift", "able", "I", false)
  | 11 => ("WrongHole$Lift", "sorts", "[I", true)
  | 12 => ("WrongHole$Lift", "takes", "[I", true)
  | 13 => ("WrongHole$Lift", "undos", "[I", true)
  | 14 => ("WrongHole$Lift", "dos", "[I", true)
  | 15 => ("WrongHole$Lift", "worths", "[I", true)
  | 16 => ("WrongHole$Lift", "fitting", "[I", true)
  | 17 => ("WrongHole$Lift", "eyeBits", "[I", true)
  | _ => ("WrongHole$Lift", "eyeSeconds", "[I", true)
def tyX2 : Nat → FieldType := fun k => match k with
  | 0 => .int
  | 1 => .int
  | 2 => .int
  | 3 => .int
  | 4 => .int
  | 5 => .int
  | 6 => .int
  | 7 => .int
  | 8 => .int
  | 9 => .int
  | 10 => .int
  | 11 => .array .int
  | 12 => .array .int
  | 13 => .array .int
  | 14 => .array .int
  | 15 => .array .int
  | 16 => .array .int
  | 17 => .array .int
  | _ => .array .int
theorem nmX2 : ∀ a, a < 19 → ∀ b, b < 19 → a ≠ b → (TX2 a).2.1 ≠ (TX2 b).2.1 := by decide +kernel
theorem tyX2_ok : ∀ k, k < 19 → parseFieldDescriptor (TX2 k).2.2.1 = some (tyX2 k) := by decide +kernel
abbrev cX2_init : ByteArray := prog_4_method_1_code
def yX2_init : MethodName := ⟨RX2, "<init>", "()V"⟩
abbrev cX2_finish : ByteArray := prog_4_method_2_code
def yX2_finish : MethodName := ⟨RX2, "finish", "()V"⟩
abbrev cX2_hasButton : ByteArray := prog_4_method_3_code
def yX2_hasButton : MethodName := ⟨RX2, "hasButton", "(I)Z"⟩
abbrev cX2_hasHole : ByteArray := prog_4_method_4_code
def yX2_hasHole : MethodName := ⟨RX2, "hasHole", "(I)Z"⟩
abbrev cX2_suits : ByteArray := prog_4_method_5_code
def yX2_suits : MethodName := ⟨RX2, "suits", "(II)Z"⟩
abbrev cX2_canBe : ByteArray := prog_4_method_6_code
def yX2_canBe : MethodName := ⟨RX2, "canBe", "(III)Z"⟩
abbrev cX2_mayUndo : ByteArray := prog_4_method_7_code
def yX2_mayUndo : MethodName := ⟨RX2, "mayUndo", "(II)Z"⟩
abbrev cX2_mayDo : ByteArray := prog_4_method_8_code
def yX2_mayDo : MethodName := ⟨RX2, "mayDo", "(III)Z"⟩
abbrev cX2_longestOpen : ByteArray := prog_4_method_9_code
def yX2_longestOpen : MethodName := ⟨RX2, "longestOpen", "(I)I"⟩
abbrev cX2_lawful : ByteArray := prog_4_method_10_code
def yX2_lawful : MethodName := ⟨RX2, "lawful", "(I)Z"⟩
abbrev cX2_reached : ByteArray := prog_4_method_11_code
def yX2_reached : MethodName := ⟨RX2, "reached", "(I)Z"⟩
abbrev cX2_undoing : ByteArray := prog_4_method_12_code
def yX2_undoing : MethodName := ⟨RX2, "undoing", "(I)I"⟩
abbrev cX2_doing : ByteArray := prog_4_method_13_code
def yX2_doing : MethodName := ⟨RX2, "doing", "(I)I"⟩
abbrev cX2_secondsOf : ByteArray := prog_4_method_14_code
def yX2_secondsOf : MethodName := ⟨RX2, "secondsOf", "(I)I"⟩
abbrev cX2_eyesOn : ByteArray := prog_4_method_15_code
def yX2_eyesOn : MethodName := ⟨RX2, "eyesOn", "(II)I"⟩
abbrev cX2_shownTo : ByteArray := prog_4_method_16_code
def yX2_shownTo : MethodName := ⟨RX2, "shownTo", "(II)I"⟩
abbrev cX2_worthOf : ByteArray := prog_4_method_17_code
def yX2_worthOf : MethodName := ⟨RX2, "worthOf", "(I)I"⟩
abbrev cX2_mustUndo : ByteArray := prog_4_method_18_code
def yX2_mustUndo : MethodName := ⟨RX2, "mustUndo", "(I)I"⟩
def RX3 : String := "WrongHole$LiftReader"
def TX3 : u_T := fun k => match k with
  | _ => ("", "", "", false)
def tyX3 : Nat → FieldType := fun k => match k with
  | _ => .int
theorem nmX3 : ∀ a, a < 0 → ∀ b, b < 0 → a ≠ b → (TX3 a).2.1 ≠ (TX3 b).2.1 := by decide +kernel
theorem tyX3_ok : ∀ k, k < 0 → parseFieldDescriptor (TX3 k).2.2.1 = some (tyX3 k) := by decide +kernel
abbrev cX3_readLift : ByteArray := prog_5_method_2_code
def yX3_readLift : MethodName := ⟨RX3, "readLift", "(LWrongHole$Text;)LWrongHole$Lift;"⟩
abbrev cX3_isTooMany : ByteArray := prog_5_method_3_code
def yX3_isTooMany : MethodName := ⟨RX3, "isTooMany", "(LWrongHole$Lift;II)Z"⟩
abbrev cX3_readTold : ByteArray := prog_5_method_4_code
def yX3_readTold : MethodName := ⟨RX3, "readTold", "(LWrongHole$Text;LWrongHole$Lift;I)V"⟩
abbrev cX3_bitOf : ByteArray := prog_5_method_5_code
def yX3_bitOf : MethodName := ⟨RX3, "bitOf", "(I)I"⟩
abbrev cX3_takeButton : ByteArray := prog_5_method_6_code
def yX3_takeButton : MethodName := ⟨RX3, "takeButton", "(LWrongHole$Text;LWrongHole$Lift;)I"⟩
abbrev cX3_takeOpenButton : ByteArray := prog_5_method_7_code
def yX3_takeOpenButton : MethodName := ⟨RX3, "takeOpenButton", "(LWrongHole$Text;LWrongHole$Lift;)I"⟩
abbrev cX3_takeEmptyHole : ByteArray := prog_5_method_8_code
def yX3_takeEmptyHole : MethodName := ⟨RX3, "takeEmptyHole", "(LWrongHole$Text;LWrongHole$Lift;)I"⟩
abbrev cX3_put : ByteArray := prog_5_method_9_code
def yX3_put : MethodName := ⟨RX3, "put", "(LWrongHole$Text;[IIII)V"⟩
abbrev cX3_readRow : ByteArray := prog_5_method_10_code
def yX3_readRow : MethodName := ⟨RX3, "readRow", "(LWrongHole$Text;LWrongHole$Lift;)V"⟩
abbrev cX3_readIn : ByteArray := prog_5_method_11_code
def yX3_readIn : MethodName := ⟨RX3, "readIn", "(LWrongHole$Text;LWrongHole$Lift;)V"⟩
abbrev cX3_readTie : ByteArray := prog_5_method_12_code
def yX3_readTie : MethodName := ⟨RX3, "readTie", "(LWrongHole$Text;LWrongHole$Lift;)V"⟩
abbrev cX3_readEye : ByteArray := prog_5_method_13_code
def yX3_readEye : MethodName := ⟨RX3, "readEye", "(LWrongHole$Text;LWrongHole$Lift;)V"⟩
def RX4 : String := "WrongHole$Past"
def TX4 : u_T := fun k => match k with
  | 0 => ("WrongHole$Past", "keys", "[I", true)
  | 1 => ("WrongHole$Past", "clocks", "[I", true)
  | 2 => ("WrongHole$Past", "next", "I", false)
  | _ => ("WrongHole$Past", "size", "I", false)
def tyX4 : Nat → FieldType := fun k => match k with
  | 0 => .array .int
  | 1 => .array .int
  | 2 => .int
  | _ => .int
theorem nmX4 : ∀ a, a < 4 → ∀ b, b < 4 → a ≠ b → (TX4 a).2.1 ≠ (TX4 b).2.1 := by decide +kernel
theorem tyX4_ok : ∀ k, k < 4 → parseFieldDescriptor (TX4 k).2.2.1 = some (tyX4 k) := by decide +kernel
abbrev cX4_init : ByteArray := prog_6_method_1_code
def yX4_init : MethodName := ⟨RX4, "<init>", "()V"⟩
abbrev cX4_keep : ByteArray := prog_6_method_2_code
def yX4_keep : MethodName := ⟨RX4, "keep", "(II)V"⟩
abbrev cX4_lastKey : ByteArray := prog_6_method_3_code
def yX4_lastKey : MethodName := ⟨RX4, "lastKey", "()I"⟩
abbrev cX4_lastClock : ByteArray := prog_6_method_4_code
def yX4_lastClock : MethodName := ⟨RX4, "lastClock", "()I"⟩
abbrev cX4_drop : ByteArray := prog_6_method_5_code
def yX4_drop : MethodName := ⟨RX4, "drop", "()V"⟩
abbrev cX4_forget : ByteArray := prog_6_method_6_code
def yX4_forget : MethodName := ⟨RX4, "forget", "()V"⟩
def RX5 : String := "WrongHole$Paths"
def TX5 : u_T := fun k => match k with
  | 0 => ("WrongHole$Paths", "acts", "LWrongHole$Acts;", true)
  | 1 => ("WrongHole$Paths", "offsets", "[I", true)
  | 2 => ("WrongHole$Paths", "ranks", "[I", true)
  | 3 => ("WrongHole$Paths", "alike", "[I", true)
  | 4 => ("WrongHole$Paths", "firsts", "[I", true)
  | 5 => ("WrongHole$Paths", "seconds", "[I", false)
  | 6 => ("WrongHole$Paths", "keys", "[I", false)
  | 7 => ("WrongHole$Paths", "nexts", "[I", false)
  | 8 => ("WrongHole$Paths", "befores", "[I", false)
  | 9 => ("WrongHole$Paths", "size", "I", false)
  | 10 => ("WrongHole$Paths", "waiting", "I", false)
  | 11 => ("WrongHole$Paths", "lift", "LWrongHole$Lift;", false)
  | 12 => ("WrongHole$Paths", "outward", "Z", false)
  | 13 => ("WrongHole$Paths", "origin", "I", false)
  | 14 => ("WrongHole$Paths", "clock", "I", false)
  | 15 => ("WrongHole$Paths", "limit", "I", false)
  | 16 => ("WrongHole$Paths", "mostWorth", "I", false)
  | 17 => ("WrongHole$Paths", "leastShown", "I", false)
  | _ => ("WrongHole$Paths", "fewestSeconds", "I", false)
def tyX5 : Nat → FieldType := fun k => match k with
  | 0 => .object "WrongHole$Acts"
  | 1 => .array .int
  | 2 => .array .int
  | 3 => .array .int
  | 4 => .array .int
  | 5 => .array .int
  | 6 => .array .int
  | 7 => .array .int
  | 8 => .array .int
  | 9 => .int
  | 10 => .int
  | 11 => .object "WrongHole$Lift"
  | 12 => .boolean
  | 13 => .int
  | 14 => .int
  | 15 => .int
  | 16 => .int
  | 17 => .int
  | _ => .int
theorem nmX5 : ∀ a, a < 19 → ∀ b, b < 19 → a ≠ b → (TX5 a).2.1 ≠ (TX5 b).2.1 := by decide +kernel
theorem tyX5_ok : ∀ k, k < 19 → parseFieldDescriptor (TX5 k).2.2.1 = some (tyX5 k) := by decide +kernel
abbrev cX5_init : ByteArray := prog_7_method_1_code
def yX5_init : MethodName := ⟨RX5, "<init>", "(LWrongHole$Acts;)V"⟩
abbrev cX5_leadHome : ByteArray := prog_7_method_2_code
def yX5_leadHome : MethodName := ⟨RX5, "leadHome", "(LWrongHole$Lift;)V"⟩
abbrev cX5_leadOut : ByteArray := prog_7_method_3_code
def yX5_leadOut : MethodName := ⟨RX5, "leadOut", "(LWrongHole$Lift;III)V"⟩
abbrev cX5_secondsFrom : ByteArray := prog_7_method_4_code
def yX5_secondsFrom : MethodName := ⟨RX5, "secondsFrom", "(I)I"⟩
abbrev cX5_firstAct : ByteArray := prog_7_method_5_code
def yX5_firstAct : MethodName := ⟨RX5, "firstAct", "(I)I"⟩
abbrev cX5_prepare : ByteArray := prog_7_method_6_code
def yX5_prepare : MethodName := ⟨RX5, "prepare", "(LWrongHole$Lift;)V"⟩
abbrev cX5_numberRows : ByteArray := prog_7_method_7_code
def yX5_numberRows : MethodName := ⟨RX5, "numberRows", "(LWrongHole$Lift;)V"⟩
abbrev cX5_placeOf : ByteArray := prog_7_method_8_code
def yX5_placeOf : MethodName := ⟨RX5, "placeOf", "(I)I"⟩
abbrev cX5_link : ByteArray := prog_7_method_9_code
def yX5_link : MethodName := ⟨RX5, "link", "(III)V"⟩
abbrev cX5_unlink : ByteArray := prog_7_method_10_code
def yX5_unlink : MethodName := ⟨RX5, "unlink", "(I)V"⟩
abbrev cX5_spreadFrom : ByteArray := prog_7_method_11_code
def yX5_spreadFrom : MethodName := ⟨RX5, "spreadFrom", "(I)V"⟩
abbrev cX5_weigh : ByteArray := prog_7_method_12_code
def yX5_weigh : MethodName := ⟨RX5, "weigh", "(II)V"⟩
abbrev cX5_goOn : ByteArray := prog_7_method_13_code
def yX5_goOn : MethodName := ⟨RX5, "goOn", "(II)V"⟩
abbrev cX5_goBack : ByteArray := prog_7_method_14_code
def yX5_goBack : MethodName := ⟨RX5, "goBack", "(II)V"⟩
abbrev cX5_offer : ByteArray := prog_7_method_15_code
def yX5_offer : MethodName := ⟨RX5, "offer", "(III)V"⟩
def RX6 : String := "WrongHole$Rows"
def TX6 : u_T := fun k => match k with
  | _ => ("", "", "", false)
def tyX6 : Nat → FieldType := fun k => match k with
  | _ => .int
theorem nmX6 : ∀ a, a < 0 → ∀ b, b < 0 → a ≠ b → (TX6 a).2.1 ≠ (TX6 b).2.1 := by decide +kernel
theorem tyX6_ok : ∀ k, k < 0 → parseFieldDescriptor (TX6 k).2.2.1 = some (tyX6 k) := by decide +kernel
abbrev cX6_keyOf : ByteArray := prog_8_method_2_code
def yX6_keyOf : MethodName := ⟨RX6, "keyOf", "(II)I"⟩
abbrev cX6_in : ByteArray := prog_8_method_3_code
def yX6_in : MethodName := ⟨RX6, "in", "(I)I"⟩
abbrev cX6_held : ByteArray := prog_8_method_4_code
def yX6_held : MethodName := ⟨RX6, "held", "(I)I"⟩
abbrev cX6_below : ByteArray := prog_8_method_5_code
def yX6_below : MethodName := ⟨RX6, "below", "(I)I"⟩
abbrev cX6_staysRising : ByteArray := prog_8_method_6_code
def yX6_staysRising : MethodName := ⟨RX6, "staysRising", "(III)Z"⟩
abbrev cX6_right : ByteArray := prog_8_method_7_code
def yX6_right : MethodName := ⟨RX6, "right", "(I)I"⟩
abbrev cX6_wrong : ByteArray := prog_8_method_8_code
def yX6_wrong : MethodName := ⟨RX6, "wrong", "(I)I"⟩
abbrev cX6_holeOf : ByteArray := prog_8_method_9_code
def yX6_holeOf : MethodName := ⟨RX6, "holeOf", "(II)I"⟩
abbrev cX6_buttonIn : ByteArray := prog_8_method_10_code
def yX6_buttonIn : MethodName := ⟨RX6, "buttonIn", "(II)I"⟩
abbrev cX6_placeOf : ByteArray := prog_8_method_11_code
def yX6_placeOf : MethodName := ⟨RX6, "placeOf", "(II)I"⟩
abbrev cX6_actOf : ByteArray := prog_8_method_12_code
def yX6_actOf : MethodName := ⟨RX6, "actOf", "(III)I"⟩
abbrev cX6_does : ByteArray := prog_8_method_13_code
def yX6_does : MethodName := ⟨RX6, "does", "(I)I"⟩
abbrev cX6_buttonOf : ByteArray := prog_8_method_14_code
def yX6_buttonOf : MethodName := ⟨RX6, "buttonOf", "(I)I"⟩
abbrev cX6_partOf : ByteArray := prog_8_method_15_code
def yX6_partOf : MethodName := ⟨RX6, "partOf", "(II)I"⟩
abbrev cX6_behind : ByteArray := prog_8_method_16_code
def yX6_behind : MethodName := ⟨RX6, "behind", "(II)I"⟩
def RX7 : String := "WrongHole$Rule"
def TX7 : u_T := fun k => match k with
  | 0 => ("WrongHole$Rule", "code", "[I", true)
  | 1 => ("WrongHole$Rule", "bounds", "[I", true)
  | _ => ("WrongHole$Rule", "stack", "[J", true)
def tyX7 : Nat → FieldType := fun k => match k with
  | 0 => .array .int
  | 1 => .array .int
  | _ => .array .long
theorem nmX7 : ∀ a, a < 3 → ∀ b, b < 3 → a ≠ b → (TX7 a).2.1 ≠ (TX7 b).2.1 := by decide +kernel
theorem tyX7_ok : ∀ k, k < 3 → parseFieldDescriptor (TX7 k).2.2.1 = some (tyX7 k) := by decide +kernel
abbrev cX7_init : ByteArray := prog_9_method_1_code
def yX7_init : MethodName := ⟨RX7, "<init>", "([I[I)V"⟩
abbrev cX7_sumFor : ByteArray := prog_9_method_2_code
def yX7_sumFor : MethodName := ⟨RX7, "sumFor", "([I)J"⟩
abbrev cX7_reckon : ByteArray := prog_9_method_3_code
def yX7_reckon : MethodName := ⟨RX7, "reckon", "(II[I)J"⟩
abbrev cX7_wordAt : ByteArray := prog_9_method_4_code
def yX7_wordAt : MethodName := ⟨RX7, "wordAt", "([II)I"⟩
abbrev cX7_join : ByteArray := prog_9_method_5_code
def yX7_join : MethodName := ⟨RX7, "join", "(IJJ)J"⟩
def RX8 : String := "WrongHole$RuleReader"
def TX8 : u_T := fun k => match k with
  | 0 => ("WrongHole$RuleReader", "code", "[I", true)
  | 1 => ("WrongHole$RuleReader", "bounds", "[I", true)
  | 2 => ("WrongHole$RuleReader", "size", "I", false)
  | _ => ("WrongHole$RuleReader", "parts", "I", false)
def tyX8 : Nat → FieldType := fun k => match k with
  | 0 => .array .int
  | 1 => .array .int
  | 2 => .int
  | _ => .int
theorem nmX8 : ∀ a, a < 4 → ∀ b, b < 4 → a ≠ b → (TX8 a).2.1 ≠ (TX8 b).2.1 := by decide +kernel
theorem tyX8_ok : ∀ k, k < 4 → parseFieldDescriptor (TX8 k).2.2.1 = some (tyX8 k) := by decide +kernel
abbrev cX8_init : ByteArray := prog_10_method_1_code
def yX8_init : MethodName := ⟨RX8, "<init>", "()V"⟩
abbrev cX8_readRule : ByteArray := prog_10_method_2_code
def yX8_readRule : MethodName := ⟨RX8, "readRule", "(LWrongHole$Text;)LWrongHole$Rule;"⟩
abbrev cX8_emit : ByteArray := prog_10_method_3_code
def yX8_emit : MethodName := ⟨RX8, "emit", "(II)V"⟩
abbrev cX8_countPart : ByteArray := prog_10_method_4_code
def yX8_countPart : MethodName := ⟨RX8, "countPart", "(LWrongHole$Text;)V"⟩
abbrev cX8_readSum : ByteArray := prog_10_method_5_code
def yX8_readSum : MethodName := ⟨RX8, "readSum", "(LWrongHole$Text;)V"⟩
abbrev cX8_emitWaiting : ByteArray := prog_10_method_6_code
def yX8_emitWaiting : MethodName := ⟨RX8, "emitWaiting", "(I)V"⟩
abbrev cX8_readValue : ByteArray := prog_10_method_7_code
def yX8_readValue : MethodName := ⟨RX8, "readValue", "(LWrongHole$Text;)V"⟩
abbrev cX8_readTest : ByteArray := prog_10_method_8_code
def yX8_readTest : MethodName := ⟨RX8, "readTest", "(LWrongHole$Text;I)V"⟩
abbrev cX8_readFact : ByteArray := prog_10_method_9_code
def yX8_readFact : MethodName := ⟨RX8, "readFact", "(LWrongHole$Text;I)V"⟩
abbrev cX8_takeComparison : ByteArray := prog_10_method_10_code
def yX8_takeComparison : MethodName := ⟨RX8, "takeComparison", "(LWrongHole$Text;)I"⟩
abbrev cX8_signKind : ByteArray := prog_10_method_11_code
def yX8_signKind : MethodName := ⟨RX8, "signKind", "(I)I"⟩
def RX9 : String := "WrongHole$Text"
def TX9 : u_T := fun k => match k with
  | 0 => ("WrongHole$Text", "signs", "[C", true)
  | 1 => ("WrongHole$Text", "length", "I", false)
  | 2 => ("WrongHole$Text", "kind", "I", false)
  | 3 => ("WrongHole$Text", "place", "I", false)
  | 4 => ("WrongHole$Text", "behind", "I", false)
  | 5 => ("WrongHole$Text", "value", "I", false)
  | 6 => ("WrongHole$Text", "numberPlace", "I", false)
  | _ => ("WrongHole$Text", "fault", "I", false)
def tyX9 : Nat → FieldType := fun k => match k with
  | 0 => .array .char
  | 1 => .int
  | 2 => .int
  | 3 => .int
  | 4 => .int
  | 5 => .int
  | 6 => .int
  | _ => .int
theorem nmX9 : ∀ a, a < 8 → ∀ b, b < 8 → a ≠ b → (TX9 a).2.1 ≠ (TX9 b).2.1 := by decide +kernel
theorem tyX9_ok : ∀ k, k < 8 → parseFieldDescriptor (TX9 k).2.2.1 = some (tyX9 k) := by decide +kernel
abbrev cX9_init : ByteArray := prog_11_method_1_code
def yX9_init : MethodName := ⟨RX9, "<init>", "()V"⟩
abbrev cX9_hasRoom : ByteArray := prog_11_method_2_code
def yX9_hasRoom : MethodName := ⟨RX9, "hasRoom", "(I)Z"⟩
abbrev cX9_append : ByteArray := prog_11_method_3_code
def yX9_append : MethodName := ⟨RX9, "append", "(I)V"⟩
abbrev cX9_restart : ByteArray := prog_11_method_4_code
def yX9_restart : MethodName := ⟨RX9, "restart", "()V"⟩
abbrev cX9_sound : ByteArray := prog_11_method_5_code
def yX9_sound : MethodName := ⟨RX9, "sound", "()Z"⟩
abbrev cX9_failHere : ByteArray := prog_11_method_6_code
def yX9_failHere : MethodName := ⟨RX9, "failHere", "(I)V"⟩
abbrev cX9_refuseNumber : ByteArray := prog_11_method_7_code
def yX9_refuseNumber : MethodName := ⟨RX9, "refuseNumber", "()V"⟩
abbrev cX9_pass : ByteArray := prog_11_method_8_code
def yX9_pass : MethodName := ⟨RX9, "pass", "()V"⟩
abbrev cX9_passDigits : ByteArray := prog_11_method_9_code
def yX9_passDigits : MethodName := ⟨RX9, "passDigits", "()V"⟩
abbrev cX9_passLetters : ByteArray := prog_11_method_10_code
def yX9_passLetters : MethodName := ⟨RX9, "passLetters", "()V"⟩
abbrev cX9_joinSame : ByteArray := prog_11_method_11_code
def yX9_joinSame : MethodName := ⟨RX9, "joinSame", "()V"⟩
abbrev cX9_takeSign : ByteArray := prog_11_method_12_code
def yX9_takeSign : MethodName := ⟨RX9, "takeSign", "(I)V"⟩
abbrev cX9_whichWord : ByteArray := prog_11_method_13_code
def yX9_whichWord : MethodName := ⟨RX9, "whichWord", "(Ljava/lang/String;)I"⟩
abbrev cX9_takeWord : ByteArray := prog_11_method_14_code
def yX9_takeWord : MethodName := ⟨RX9, "takeWord", "(Ljava/lang/String;)Z"⟩
abbrev cX9_takeNumber : ByteArray := prog_11_method_15_code
def yX9_takeNumber : MethodName := ⟨RX9, "takeNumber", "(II)I"⟩
def RX10 : String := "WrongHole$Worn"
def TX10 : u_T := fun k => match k with
  | 0 => ("WrongHole$Worn", "lift", "LWrongHole$Lift;", false)
  | 1 => ("WrongHole$Worn", "key", "I", false)
  | 2 => ("WrongHole$Worn", "clock", "I", false)
  | 3 => ("WrongHole$Worn", "x", "I", false)
  | 4 => ("WrongHole$Worn", "creases", "I", false)
  | 5 => ("WrongHole$Worn", "creaseSorts", "[I", true)
  | 6 => ("WrongHole$Worn", "creaseButtons", "[I", true)
  | 7 => ("WrongHole$Worn", "creaseHoles", "[I", true)
  | _ => ("WrongHole$Worn", "seats", "[I", true)
def tyX10 : Nat → FieldType := fun k => match k with
  | 0 => .object "WrongHole$Lift"
  | 1 => .int
  | 2 => .int
  | 3 => .int
  | 4 => .int
  | 5 => .array .int
  | 6 => .array .int
  | 7 => .array .int
  | _ => .array .int
theorem nmX10 : ∀ a, a < 9 → ∀ b, b < 9 → a ≠ b → (TX10 a).2.1 ≠ (TX10 b).2.1 := by decide +kernel
theorem tyX10_ok : ∀ k, k < 9 → parseFieldDescriptor (TX10 k).2.2.1 = some (tyX10 k) := by decide +kernel
abbrev cX10_init : ByteArray := prog_12_method_1_code
def yX10_init : MethodName := ⟨RX10, "<init>", "()V"⟩
abbrev cX10_become : ByteArray := prog_12_method_2_code
def yX10_become : MethodName := ⟨RX10, "become", "(LWrongHole$Worn;)V"⟩
def RX11 : String := "WrongHole"
def TX11 : u_T := fun k => match k with
  | 0 => ("WrongHole", "tape", "LWrongHole$Text;", true)
  | 1 => ("WrongHole", "ruleReader", "LWrongHole$RuleReader;", true)
  | 2 => ("WrongHole", "rules", "[LWrongHole$Rule;", true)
  | 3 => ("WrongHole", "ruleCount", "I", false)
  | 4 => ("WrongHole", "now", "LWrongHole$Worn;", true)
  | 5 => ("WrongHole", "images", "[LWrongHole$Worn;", true)
  | 6 => ("WrongHole", "past", "LWrongHole$Past;", true)
  | 7 => ("WrongHole", "acts", "LWrongHole$Acts;", true)
  | 8 => ("WrongHole", "folds", "LWrongHole$Folds;", true)
  | 9 => ("WrongHole", "words", "[I", true)
  | 10 => ("WrongHole", "homeward", "LWrongHole$Paths;", false)
  | _ => ("WrongHole", "outward", "LWrongHole$Paths;", false)
def tyX11 : Nat → FieldType := fun k => match k with
  | 0 => .object "WrongHole$Text"
  | 1 => .object "WrongHole$RuleReader"
  | 2 => .array (.object "WrongHole$Rule")
  | 3 => .int
  | 4 => .object "WrongHole$Worn"
  | 5 => .array (.object "WrongHole$Worn")
  | 6 => .object "WrongHole$Past"
  | 7 => .object "WrongHole$Acts"
  | 8 => .object "WrongHole$Folds"
  | 9 => .array .int
  | 10 => .object "WrongHole$Paths"
  | _ => .object "WrongHole$Paths"
theorem nmX11 : ∀ a, a < 12 → ∀ b, b < 12 → a ≠ b → (TX11 a).2.1 ≠ (TX11 b).2.1 := by decide +kernel
theorem tyX11_ok : ∀ k, k < 12 → parseFieldDescriptor (TX11 k).2.2.1 = some (tyX11 k) := by decide +kernel
abbrev cX11_init : ByteArray := prog_1_method_1_code
def yX11_init : MethodName := ⟨RX11, "<init>", "()V"⟩
abbrev cX11_feed : ByteArray := prog_1_method_2_code
def yX11_feed : MethodName := ⟨RX11, "feed", "(IIIII)I"⟩
abbrev cX11_end : ByteArray := prog_1_method_3_code
def yX11_end : MethodName := ⟨RX11, "end", "(I)I"⟩
abbrev cX11_lift : ByteArray := prog_1_method_4_code
def yX11_lift : MethodName := ⟨RX11, "lift", "()I"⟩
abbrev cX11_rule : ByteArray := prog_1_method_5_code
def yX11_rule : MethodName := ⟨RX11, "rule", "()I"⟩
abbrev cX11_button : ByteArray := prog_1_method_6_code
def yX11_button : MethodName := ⟨RX11, "button", "(II)I"⟩
abbrev cX11_hole : ByteArray := prog_1_method_7_code
def yX11_hole : MethodName := ⟨RX11, "hole", "(II)I"⟩
abbrev cX11_row : ByteArray := prog_1_method_8_code
def yX11_row : MethodName := ⟨RX11, "row", "(I)I"⟩
abbrev cX11_shown : ByteArray := prog_1_method_9_code
def yX11_shown : MethodName := ⟨RX11, "shown", "(I)I"⟩
abbrev cX11_unfasten : ByteArray := prog_1_method_10_code
def yX11_unfasten : MethodName := ⟨RX11, "unfasten", "(I)I"⟩
abbrev cX11_fasten : ByteArray := prog_1_method_11_code
def yX11_fasten : MethodName := ⟨RX11, "fasten", "(II)I"⟩
abbrev cX11_waits : ByteArray := prog_1_method_12_code
def yX11_waits : MethodName := ⟨RX11, "waits", "(I)I"⟩
abbrev cX11_takeBack : ByteArray := prog_1_method_13_code
def yX11_takeBack : MethodName := ⟨RX11, "takeBack", "()I"⟩
abbrev cX11_run : ByteArray := prog_1_method_14_code
def yX11_run : MethodName := ⟨RX11, "run", "(II)I"⟩
abbrev cX11_may : ByteArray := prog_1_method_15_code
def yX11_may : MethodName := ⟨RX11, "may", "()I"⟩
abbrev cX11_act : ByteArray := prog_1_method_16_code
def yX11_act : MethodName := ⟨RX11, "act", "(II)I"⟩
abbrev cX11_fewest : ByteArray := prog_1_method_17_code
def yX11_fewest : MethodName := ⟨RX11, "fewest", "(I)I"⟩
abbrev cX11_soonest : ByteArray := prog_1_method_18_code
def yX11_soonest : MethodName := ⟨RX11, "soonest", "()I"⟩
abbrev cX11_step : ByteArray := prog_1_method_19_code
def yX11_step : MethodName := ⟨RX11, "step", "(II)I"⟩
abbrev cX11_floor : ByteArray := prog_1_method_20_code
def yX11_floor : MethodName := ⟨RX11, "floor", "(II)I"⟩
abbrev cX11_goes : ByteArray := prog_1_method_21_code
def yX11_goes : MethodName := ⟨RX11, "goes", "(I)I"⟩
abbrev cX11_child : ByteArray := prog_1_method_22_code
def yX11_child : MethodName := ⟨RX11, "child", "(III)I"⟩
abbrev cX11_spare : ByteArray := prog_1_method_23_code
def yX11_spare : MethodName := ⟨RX11, "spare", "(II)I"⟩
abbrev cX11_crease : ByteArray := prog_1_method_24_code
def yX11_crease : MethodName := ⟨RX11, "crease", "(III)I"⟩
abbrev cX11_ways : ByteArray := prog_1_method_25_code
def yX11_ways : MethodName := ⟨RX11, "ways", "(I)I"⟩
abbrev cX11_seat : ByteArray := prog_1_method_26_code
def yX11_seat : MethodName := ⟨RX11, "seat", "(II)I"⟩
abbrev cX11_moves : ByteArray := prog_1_method_27_code
def yX11_moves : MethodName := ⟨RX11, "moves", "(I)I"⟩
abbrev cX11_seed : ByteArray := prog_1_method_28_code
def yX11_seed : MethodName := ⟨RX11, "seed", "(I)I"⟩
abbrev cX11_dressed : ByteArray := prog_1_method_29_code
def yX11_dressed : MethodName := ⟨RX11, "dressed", "(III)I"⟩
abbrev cX11_count : ByteArray := prog_1_method_30_code
def yX11_count : MethodName := ⟨RX11, "count", "(I)I"⟩
abbrev cX11_image : ByteArray := prog_1_method_31_code
def yX11_image : MethodName := ⟨RX11, "image", "(I)I"⟩
abbrev cX11_back : ByteArray := prog_1_method_32_code
def yX11_back : MethodName := ⟨RX11, "back", "(I)I"⟩
abbrev cX11_doByHand : ByteArray := prog_1_method_33_code
def yX11_doByHand : MethodName := ⟨RX11, "doByHand", "(I)I"⟩
abbrev cX11_bestBy : ByteArray := prog_1_method_34_code
def yX11_bestBy : MethodName := ⟨RX11, "bestBy", "(LWrongHole$Rule;LWrongHole$Lift;)I"⟩
abbrev cX11_tellOf : ByteArray := prog_1_method_35_code
def yX11_tellOf : MethodName := ⟨RX11, "tellOf", "(ILWrongHole$Lift;)V"⟩
abbrev cX11_pathsHome : ByteArray := prog_1_method_36_code
def yX11_pathsHome : MethodName := ⟨RX11, "pathsHome", "(LWrongHole$Lift;)LWrongHole$Paths;"⟩
abbrev cX11_emptySeats : ByteArray := prog_1_method_37_code
def yX11_emptySeats : MethodName := ⟨RX11, "emptySeats", "()I"⟩
abbrev cX11_roundsAmong : ByteArray := prog_1_method_38_code
def yX11_roundsAmong : MethodName := ⟨RX11, "roundsAmong", "(I)I"⟩
abbrev cX11_drawnFrom : ByteArray := prog_1_method_39_code
def yX11_drawnFrom : MethodName := ⟨RX11, "drawnFrom", "(I)I"⟩
abbrev cX11_commonDivisor : ByteArray := prog_1_method_40_code
def yX11_commonDivisor : MethodName := ⟨RX11, "commonDivisor", "(II)I"⟩
def RX12 : String := "WrongHoleModel"
def TX12 : u_T := fun k => match k with
  | 0 => ("WrongHoleModel", "tape", "[B", true)
  | 1 => ("WrongHoleModel", "taped", "I", false)
  | 2 => ("WrongHoleModel", "rules", "I", false)
  | 3 => ("WrongHoleModel", "sign", "[I", true)
  | 4 => ("WrongHoleModel", "length", "[I", true)
  | 5 => ("WrongHoleModel", "clause", "[I", true)
  | 6 => ("WrongHoleModel", "clauses", "[I", true)
  | 7 => ("WrongHoleModel", "read", "[I", true)
  | 8 => ("WrongHoleModel", "next", "I", false)
  | 9 => ("WrongHoleModel", "wrong", "I", false)
  | 10 => ("WrongHoleModel", "number", "I", false)
  | 11 => ("WrongHoleModel", "text", "I", false)
  | 12 => ("WrongHoleModel", "made", "I", false)
  | 13 => ("WrongHoleModel", "deep", "I", false)
  | 14 => ("WrongHoleModel", "lines", "I", false)
  | 15 => ("WrongHoleModel", "open", "[I", true)
  | 16 => ("WrongHoleModel", "opened", "I", false)
  | 17 => ("WrongHoleModel", "stack", "[J", true)
  | 18 => ("WrongHoleModel", "top", "I", false)
  | 19 => ("WrongHoleModel", "word", "[J", true)
  | 20 => ("WrongHoleModel", "said", "[I", true)
  | 21 => ("WrongHoleModel", "x", "I", false)
  | 22 => ("WrongHoleModel", "wasSaid", "[I", true)
  | 23 => ("WrongHoleModel", "undone", "I", false)
  | 24 => ("WrongHoleModel", "far", "[I", true)
  | 25 => ("WrongHoleModel", "queue", "[I", true)
  | 26 => ("WrongHoleModel", "isWaiting", "[Z", true)
  | 27 => ("WrongHoleModel", "first", "I", false)
  | 28 => ("WrongHoleModel", "waiting", "I", false)
  | 29 => ("WrongHoleModel", "drawX", "J", false)
  | 30 => ("WrongHoleModel", "images", "[I", true)
  | 31 => ("WrongHoleModel", "imageX", "[I", true)
  | _ => ("WrongHoleModel", "isMade", "[Z", true)
def tyX12 : Nat → FieldType := fun k => match k with
  | 0 => .array .byte
  | 1 => .int
  | 2 => .int
  | 3 => .array .int
  | 4 => .array .int
  | 5 => .array .int
  | 6 => .array .int
  | 7 => .array .int
  | 8 => .int
  | 9 => .int
  | 10 => .int
  | 11 => .int
  | 12 => .int
  | 13 => .int
  | 14 => .int
  | 15 => .array .int
  | 16 => .int
  | 17 => .array .long
  | 18 => .int
  | 19 => .array .long
  | 20 => .array .int
  | 21 => .int
  | 22 => .array .int
  | 23 => .int
  | 24 => .array .int
  | 25 => .array .int
  | 26 => .array .boolean
  | 27 => .int
  | 28 => .int
  | 29 => .long
  | 30 => .array .int
  | 31 => .array .int
  | _ => .array .boolean
theorem nmX12 : ∀ a, a < 33 → ∀ b, b < 33 → a ≠ b → (TX12 a).2.1 ≠ (TX12 b).2.1 := by decide +kernel
theorem tyX12_ok : ∀ k, k < 33 → parseFieldDescriptor (TX12 k).2.2.1 = some (tyX12 k) := by decide +kernel
abbrev cX12_init : ByteArray := prog_14_method_1_code
def yX12_init : MethodName := ⟨RX12, "<init>", "()V"⟩
abbrev cX12_in : ByteArray := prog_14_method_2_code
def yX12_in : MethodName := ⟨RX12, "in", "(JJJ)Z"⟩
abbrev cX12_isOf : ByteArray := prog_14_method_3_code
def yX12_isOf : MethodName := ⟨RX12, "isOf", "(II)Z"⟩
abbrev cX12_bits : ByteArray := prog_14_method_4_code
def yX12_bits : MethodName := ⟨RX12, "bits", "(I)I"⟩
abbrev cX12_four : ByteArray := prog_14_method_5_code
def yX12_four : MethodName := ⟨RX12, "four", "(I)V"⟩
abbrev cX12_feed : ByteArray := prog_14_method_6_code
def yX12_feed : MethodName := ⟨RX12, "feed", "(IIIII)I"⟩
abbrev cX12_end : ByteArray := prog_14_method_7_code
def yX12_end : MethodName := ⟨RX12, "end", "(I)I"⟩
abbrev cX12_fails : ByteArray := prog_14_method_8_code
def yX12_fails : MethodName := ⟨RX12, "fails", "(II)Z"⟩
abbrev cX12_see : ByteArray := prog_14_method_9_code
def yX12_see : MethodName := ⟨RX12, "see", "()I"⟩
abbrev cX12_isDigit : ByteArray := prog_14_method_10_code
def yX12_isDigit : MethodName := ⟨RX12, "isDigit", "(I)Z"⟩
abbrev cX12_isLetter : ByteArray := prog_14_method_11_code
def yX12_isLetter : MethodName := ⟨RX12, "isLetter", "(I)Z"⟩
abbrev cX12_isWord : ByteArray := prog_14_method_12_code
def yX12_isWord : MethodName := ⟨RX12, "isWord", "(J)Z"⟩
abbrev cX12_passWord : ByteArray := prog_14_method_13_code
def yX12_passWord : MethodName := ⟨RX12, "passWord", "()V"⟩
abbrev cX12_takesWord : ByteArray := prog_14_method_14_code
def yX12_takesWord : MethodName := ⟨RX12, "takesWord", "(J)Z"⟩
abbrev cX12_numberHere : ByteArray := prog_14_method_15_code
def yX12_numberHere : MethodName := ⟨RX12, "numberHere", "(II)Z"⟩
abbrev cX12_wordHere : ByteArray := prog_14_method_16_code
def yX12_wordHere : MethodName := ⟨RX12, "wordHere", "()I"⟩
abbrev cX12_puts : ByteArray := prog_14_method_17_code
def yX12_puts : MethodName := ⟨RX12, "puts", "(II)V"⟩
abbrev cX12_makes : ByteArray := prog_14_method_18_code
def yX12_makes : MethodName := ⟨RX12, "makes", "(I)Z"⟩
abbrev cX12_opens : ByteArray := prog_14_method_19_code
def yX12_opens : MethodName := ⟨RX12, "opens", "(I)Z"⟩
abbrev cX12_strength : ByteArray := prog_14_method_20_code
def yX12_strength : MethodName := ⟨RX12, "strength", "(I)I"⟩
abbrev cX12_settles : ByteArray := prog_14_method_21_code
def yX12_settles : MethodName := ⟨RX12, "settles", "(I)V"⟩
abbrev cX12_value : ByteArray := prog_14_method_22_code
def yX12_value : MethodName := ⟨RX12, "value", "()Z"⟩
abbrev cX12_term : ByteArray := prog_14_method_23_code
def yX12_term : MethodName := ⟨RX12, "term", "()Z"⟩
abbrev cX12_sum : ByteArray := prog_14_method_24_code
def yX12_sum : MethodName := ⟨RX12, "sum", "()Z"⟩
abbrev cX12_compare : ByteArray := prog_14_method_25_code
def yX12_compare : MethodName := ⟨RX12, "compare", "()Z"⟩
abbrev cX12_fact : ByteArray := prog_14_method_26_code
def yX12_fact : MethodName := ⟨RX12, "fact", "()Z"⟩
abbrev cX12_isInside : ByteArray := prog_14_method_27_code
def yX12_isInside : MethodName := ⟨RX12, "isInside", "()Z"⟩
abbrev cX12_closes : ByteArray := prog_14_method_28_code
def yX12_closes : MethodName := ⟨RX12, "closes", "()V"⟩
abbrev cX12_tested : ByteArray := prog_14_method_29_code
def yX12_tested : MethodName := ⟨RX12, "tested", "()Z"⟩
abbrev cX12_isActHere : ByteArray := prog_14_method_30_code
def yX12_isActHere : MethodName := ⟨RX12, "isActHere", "()Z"⟩
abbrev cX12_cellHere : ByteArray := prog_14_method_31_code
def yX12_cellHere : MethodName := ⟨RX12, "cellHere", "(III)Z"⟩
abbrev cX12_isRowHere : ByteArray := prog_14_method_32_code
def yX12_isRowHere : MethodName := ⟨RX12, "isRowHere", "(I)Z"⟩
abbrev cX12_readIn : ByteArray := prog_14_method_33_code
def yX12_readIn : MethodName := ⟨RX12, "readIn", "(I)I"⟩
abbrev cX12_buttonHere : ByteArray := prog_14_method_34_code
def yX12_buttonHere : MethodName := ⟨RX12, "buttonHere", "(Z)Z"⟩
abbrev cX12_holeHere : ByteArray := prog_14_method_35_code
def yX12_holeHere : MethodName := ⟨RX12, "holeHere", "()Z"⟩
abbrev cX12_isGoneHere : ByteArray := prog_14_method_36_code
def yX12_isGoneHere : MethodName := ⟨RX12, "isGoneHere", "()Z"⟩
abbrev cX12_isSewnHere : ByteArray := prog_14_method_37_code
def yX12_isSewnHere : MethodName := ⟨RX12, "isSewnHere", "()Z"⟩
abbrev cX12_isSortHere : ByteArray := prog_14_method_38_code
def yX12_isSortHere : MethodName := ⟨RX12, "isSortHere", "()Z"⟩
abbrev cX12_isTakesHere : ByteArray := prog_14_method_39_code
def yX12_isTakesHere : MethodName := ⟨RX12, "isTakesHere", "()Z"⟩
abbrev cX12_canBeRead : ByteArray := prog_14_method_40_code
def yX12_canBeRead : MethodName := ⟨RX12, "canBeRead", "(II)Z"⟩
abbrev cX12_isInHere : ByteArray := prog_14_method_41_code
def yX12_isInHere : MethodName := ⟨RX12, "isInHere", "()Z"⟩
abbrev cX12_isOfButtonHere : ByteArray := prog_14_method_42_code
def yX12_isOfButtonHere : MethodName := ⟨RX12, "isOfButtonHere", "(III)Z"⟩
abbrev cX12_isTieHere : ByteArray := prog_14_method_43_code
def yX12_isTieHere : MethodName := ⟨RX12, "isTieHere", "(I)Z"⟩
abbrev cX12_isBesideHere : ByteArray := prog_14_method_44_code
def yX12_isBesideHere : MethodName := ⟨RX12, "isBesideHere", "(I)Z"⟩
abbrev cX12_isNeverHere : ByteArray := prog_14_method_45_code
def yX12_isNeverHere : MethodName := ⟨RX12, "isNeverHere", "()Z"⟩
abbrev cX12_isEyeHere : ByteArray := prog_14_method_46_code
def yX12_isEyeHere : MethodName := ⟨RX12, "isEyeHere", "(I)Z"⟩
abbrev cX12_liftLineHere : ByteArray := prog_14_method_47_code
def yX12_liftLineHere : MethodName := ⟨RX12, "liftLineHere", "(I)Z"⟩
abbrev cX12_isLiftWord : ByteArray := prog_14_method_48_code
def yX12_isLiftWord : MethodName := ⟨RX12, "isLiftWord", "()Z"⟩
abbrev cX12_clauseHere : ByteArray := prog_14_method_49_code
def yX12_clauseHere : MethodName := ⟨RX12, "clauseHere", "()Z"⟩
abbrev cX12_readsAll : ByteArray := prog_14_method_50_code
def yX12_readsAll : MethodName := ⟨RX12, "readsAll", "()Z"⟩
abbrev cX12_rule : ByteArray := prog_14_method_51_code
def yX12_rule : MethodName := ⟨RX12, "rule", "()I"⟩
abbrev cX12_lift : ByteArray := prog_14_method_52_code
def yX12_lift : MethodName := ⟨RX12, "lift", "()I"⟩
abbrev cX12_isRule : ByteArray := prog_14_method_53_code
def yX12_isRule : MethodName := ⟨RX12, "isRule", "(I)Z"⟩
abbrev cX12_push : ByteArray := prog_14_method_54_code
def yX12_push : MethodName := ⟨RX12, "push", "(J)V"⟩
abbrev cX12_pop : ByteArray := prog_14_method_55_code
def yX12_pop : MethodName := ⟨RX12, "pop", "()J"⟩
abbrev cX12_one : ByteArray := prog_14_method_56_code
def yX12_one : MethodName := ⟨RX12, "one", "(IJJ)J"⟩
abbrev cX12_reckons : ByteArray := prog_14_method_57_code
def yX12_reckons : MethodName := ⟨RX12, "reckons", "(III)J"⟩
abbrev cX12_isLift : ByteArray := prog_14_method_58_code
def yX12_isLift : MethodName := ⟨RX12, "isLift", "()Z"⟩
abbrev cX12_isButton : ByteArray := prog_14_method_59_code
def yX12_isButton : MethodName := ⟨RX12, "isButton", "(I)Z"⟩
abbrev cX12_isHole : ByteArray := prog_14_method_60_code
def yX12_isHole : MethodName := ⟨RX12, "isHole", "(I)Z"⟩
abbrev cX12_buttonOf : ByteArray := prog_14_method_61_code
def yX12_buttonOf : MethodName := ⟨RX12, "buttonOf", "(II)I"⟩
abbrev cX12_holeOf : ByteArray := prog_14_method_62_code
def yX12_holeOf : MethodName := ⟨RX12, "holeOf", "(II)I"⟩
abbrev cX12_fits : ByteArray := prog_14_method_63_code
def yX12_fits : MethodName := ⟨RX12, "fits", "(II)Z"⟩
abbrev cX12_canBeRight : ByteArray := prog_14_method_64_code
def yX12_canBeRight : MethodName := ⟨RX12, "canBeRight", "(I)Z"⟩
abbrev cX12_tieOf : ByteArray := prog_14_method_65_code
def yX12_tieOf : MethodName := ⟨RX12, "tieOf", "(I)I"⟩
abbrev cX12_timeOf : ByteArray := prog_14_method_66_code
def yX12_timeOf : MethodName := ⟨RX12, "timeOf", "(I)I"⟩
abbrev cX12_inOf : ByteArray := prog_14_method_67_code
def yX12_inOf : MethodName := ⟨RX12, "inOf", "(I)I"⟩
abbrev cX12_heldOf : ByteArray := prog_14_method_68_code
def yX12_heldOf : MethodName := ⟨RX12, "heldOf", "(I)I"⟩
abbrev cX12_nth : ByteArray := prog_14_method_69_code
def yX12_nth : MethodName := ⟨RX12, "nth", "(II)I"⟩
abbrev cX12_placeIn : ByteArray := prog_14_method_70_code
def yX12_placeIn : MethodName := ⟨RX12, "placeIn", "(II)I"⟩
abbrev cX12_situationNow : ByteArray := prog_14_method_71_code
def yX12_situationNow : MethodName := ⟨RX12, "situationNow", "()I"⟩
abbrev cX12_canJoin : ByteArray := prog_14_method_72_code
def yX12_canJoin : MethodName := ⟨RX12, "canJoin", "(III)Z"⟩
abbrev cX12_joined : ByteArray := prog_14_method_73_code
def yX12_joined : MethodName := ⟨RX12, "joined", "(III)I"⟩
abbrev cX12_parted : ByteArray := prog_14_method_74_code
def yX12_parted : MethodName := ⟨RX12, "parted", "(II)I"⟩
abbrev cX12_openIn : ByteArray := prog_14_method_75_code
def yX12_openIn : MethodName := ⟨RX12, "openIn", "(I)I"⟩
abbrev cX12_runIn : ByteArray := prog_14_method_76_code
def yX12_runIn : MethodName := ⟨RX12, "runIn", "(I)I"⟩
abbrev cX12_isLawful : ByteArray := prog_14_method_77_code
def yX12_isLawful : MethodName := ⟨RX12, "isLawful", "(I)Z"⟩
abbrev cX12_rightIn : ByteArray := prog_14_method_78_code
def yX12_rightIn : MethodName := ⟨RX12, "rightIn", "(I)I"⟩
abbrev cX12_wrongIn : ByteArray := prog_14_method_79_code
def yX12_wrongIn : MethodName := ⟨RX12, "wrongIn", "(I)I"⟩
abbrev cX12_goal : ByteArray := prog_14_method_80_code
def yX12_goal : MethodName := ⟨RX12, "goal", "()I"⟩
abbrev cX12_isGoal : ByteArray := prog_14_method_81_code
def yX12_isGoal : MethodName := ⟨RX12, "isGoal", "(I)Z"⟩
abbrev cX12_behind : ByteArray := prog_14_method_82_code
def yX12_behind : MethodName := ⟨RX12, "behind", "(II)I"⟩
abbrev cX12_behindLawful : ByteArray := prog_14_method_83_code
def yX12_behindLawful : MethodName := ⟨RX12, "behindLawful", "(II)I"⟩
abbrev cX12_seenOf : ByteArray := prog_14_method_84_code
def yX12_seenOf : MethodName := ⟨RX12, "seenOf", "(II)I"⟩
abbrev cX12_shownIn : ByteArray := prog_14_method_85_code
def yX12_shownIn : MethodName := ⟨RX12, "shownIn", "(II)I"⟩
abbrev cX12_button : ByteArray := prog_14_method_86_code
def yX12_button : MethodName := ⟨RX12, "button", "(II)I"⟩
abbrev cX12_hole : ByteArray := prog_14_method_87_code
def yX12_hole : MethodName := ⟨RX12, "hole", "(II)I"⟩
abbrev cX12_row : ByteArray := prog_14_method_88_code
def yX12_row : MethodName := ⟨RX12, "row", "(I)I"⟩
abbrev cX12_shown : ByteArray := prog_14_method_89_code
def yX12_shown : MethodName := ⟨RX12, "shown", "(I)I"⟩
abbrev cX12_keepsAct : ByteArray := prog_14_method_90_code
def yX12_keepsAct : MethodName := ⟨RX12, "keepsAct", "()V"⟩
abbrev cX12_takeBack : ByteArray := prog_14_method_91_code
def yX12_takeBack : MethodName := ⟨RX12, "takeBack", "()I"⟩
abbrev cX12_mayNow : ByteArray := prog_14_method_92_code
def yX12_mayNow : MethodName := ⟨RX12, "mayNow", "(I)Z"⟩
abbrev cX12_does : ByteArray := prog_14_method_93_code
def yX12_does : MethodName := ⟨RX12, "does", "(I)V"⟩
abbrev cX12_unfasten : ByteArray := prog_14_method_94_code
def yX12_unfasten : MethodName := ⟨RX12, "unfasten", "(I)I"⟩
abbrev cX12_fasten : ByteArray := prog_14_method_95_code
def yX12_fasten : MethodName := ⟨RX12, "fasten", "(II)I"⟩
abbrev cX12_waits : ByteArray := prog_14_method_96_code
def yX12_waits : MethodName := ⟨RX12, "waits", "(I)I"⟩
abbrev cX12_words : ByteArray := prog_14_method_97_code
def yX12_words : MethodName := ⟨RX12, "words", "(II)V"⟩
abbrev cX12_summedBy : ByteArray := prog_14_method_98_code
def yX12_summedBy : MethodName := ⟨RX12, "summedBy", "(I)J"⟩
abbrev cX12_actBy : ByteArray := prog_14_method_99_code
def yX12_actBy : MethodName := ⟨RX12, "actBy", "(I)I"⟩
abbrev cX12_run : ByteArray := prog_14_method_100_code
def yX12_run : MethodName := ⟨RX12, "run", "(II)I"⟩
abbrev cX12_mayAt : ByteArray := prog_14_method_101_code
def yX12_mayAt : MethodName := ⟨RX12, "mayAt", "(II)I"⟩
abbrev cX12_mayMany : ByteArray := prog_14_method_102_code
def yX12_mayMany : MethodName := ⟨RX12, "mayMany", "(I)I"⟩
abbrev cX12_may : ByteArray := prog_14_method_103_code
def yX12_may : MethodName := ⟨RX12, "may", "()I"⟩
abbrev cX12_partOf : ByteArray := prog_14_method_104_code
def yX12_partOf : MethodName := ⟨RX12, "partOf", "(III)I"⟩
abbrev cX12_act : ByteArray := prog_14_method_105_code
def yX12_act : MethodName := ⟨RX12, "act", "(II)I"⟩
abbrev cX12_clears : ByteArray := prog_14_method_106_code
def yX12_clears : MethodName := ⟨RX12, "clears", "()V"⟩
abbrev cX12_comes : ByteArray := prog_14_method_107_code
def yX12_comes : MethodName := ⟨RX12, "comes", "(II)V"⟩
abbrev cX12_nextWaiting : ByteArray := prog_14_method_108_code
def yX12_nextWaiting : MethodName := ⟨RX12, "nextWaiting", "()I"⟩
abbrev cX12_countsActs : ByteArray := prog_14_method_109_code
def yX12_countsActs : MethodName := ⟨RX12, "countsActs", "()V"⟩
abbrev cX12_fewest : ByteArray := prog_14_method_110_code
def yX12_fewest : MethodName := ⟨RX12, "fewest", "(I)I"⟩
abbrev cX12_countsSeconds : ByteArray := prog_14_method_111_code
def yX12_countsSeconds : MethodName := ⟨RX12, "countsSeconds", "(I)V"⟩
abbrev cX12_isSituation : ByteArray := prog_14_method_112_code
def yX12_isSituation : MethodName := ⟨RX12, "isSituation", "(I)Z"⟩
abbrev cX12_countsBack : ByteArray := prog_14_method_113_code
def yX12_countsBack : MethodName := ⟨RX12, "countsBack", "()V"⟩
abbrev cX12_soonest : ByteArray := prog_14_method_114_code
def yX12_soonest : MethodName := ⟨RX12, "soonest", "()I"⟩
abbrev cX12_stepFrom : ByteArray := prog_14_method_115_code
def yX12_stepFrom : MethodName := ⟨RX12, "stepFrom", "(I)I"⟩
abbrev cX12_step : ByteArray := prog_14_method_116_code
def yX12_step : MethodName := ⟨RX12, "step", "(II)I"⟩
abbrev cX12_worthIn : ByteArray := prog_14_method_117_code
def yX12_worthIn : MethodName := ⟨RX12, "worthIn", "(I)I"⟩
abbrev cX12_floor : ByteArray := prog_14_method_118_code
def yX12_floor : MethodName := ⟨RX12, "floor", "(II)I"⟩
abbrev cX12_goes : ByteArray := prog_14_method_119_code
def yX12_goes : MethodName := ⟨RX12, "goes", "(I)I"⟩
abbrev cX12_divisor : ByteArray := prog_14_method_120_code
def yX12_divisor : MethodName := ⟨RX12, "divisor", "(II)I"⟩
abbrev cX12_child : ByteArray := prog_14_method_121_code
def yX12_child : MethodName := ⟨RX12, "child", "(III)I"⟩
abbrev cX12_spare : ByteArray := prog_14_method_122_code
def yX12_spare : MethodName := ⟨RX12, "spare", "(II)I"⟩
abbrev cX12_crease : ByteArray := prog_14_method_123_code
def yX12_crease : MethodName := ⟨RX12, "crease", "(III)I"⟩
abbrev cX12_isSo : ByteArray := prog_14_method_124_code
def yX12_isSo : MethodName := ⟨RX12, "isSo", "(II)Z"⟩
abbrev cX12_isWay : ByteArray := prog_14_method_125_code
def yX12_isWay : MethodName := ⟨RX12, "isWay", "(I)Z"⟩
abbrev cX12_ways : ByteArray := prog_14_method_126_code
def yX12_ways : MethodName := ⟨RX12, "ways", "(I)I"⟩
abbrev cX12_seat : ByteArray := prog_14_method_127_code
def yX12_seat : MethodName := ⟨RX12, "seat", "(II)I"⟩
abbrev cX12_isRound : ByteArray := prog_14_method_128_code
def yX12_isRound : MethodName := ⟨RX12, "isRound", "(I)Z"⟩
abbrev cX12_moves : ByteArray := prog_14_method_129_code
def yX12_moves : MethodName := ⟨RX12, "moves", "(I)I"⟩
abbrev cX12_seed : ByteArray := prog_14_method_130_code
def yX12_seed : MethodName := ⟨RX12, "seed", "(I)I"⟩
abbrev cX12_draw : ByteArray := prog_14_method_131_code
def yX12_draw : MethodName := ⟨RX12, "draw", "(I)I"⟩
abbrev cX12_dressed : ByteArray := prog_14_method_132_code
def yX12_dressed : MethodName := ⟨RX12, "dressed", "(III)I"⟩
abbrev cX12_count : ByteArray := prog_14_method_133_code
def yX12_count : MethodName := ⟨RX12, "count", "(I)I"⟩
abbrev cX12_image : ByteArray := prog_14_method_134_code
def yX12_image : MethodName := ⟨RX12, "image", "(I)I"⟩
abbrev cX12_back : ByteArray := prog_14_method_135_code
def yX12_back : MethodName := ⟨RX12, "back", "(I)I"⟩
def RJx145de : String := "java/io/Serializable"
def TJx145de : u_T := fun k => match k with
  | _ => ("", "", "", false)
def tyJx145de : Nat → FieldType := fun k => match k with
  | _ => .int
theorem nmJx145de : ∀ a, a < 0 → ∀ b, b < 0 → a ≠ b → (TJx145de a).2.1 ≠ (TJx145de b).2.1 := by decide +kernel
theorem tyJx145de_ok : ∀ k, k < 0 → parseFieldDescriptor (TJx145de k).2.2.1 = some (tyJx145de k) := by decide +kernel
def RJx9f9b0 : String := "java/lang/CharSequence"
def TJx9f9b0 : u_T := fun k => match k with
  | _ => ("", "", "", false)
def tyJx9f9b0 : Nat → FieldType := fun k => match k with
  | _ => .int
theorem nmJx9f9b0 : ∀ a, a < 0 → ∀ b, b < 0 → a ≠ b → (TJx9f9b0 a).2.1 ≠ (TJx9f9b0 b).2.1 := by decide +kernel
theorem tyJx9f9b0_ok : ∀ k, k < 0 → parseFieldDescriptor (TJx9f9b0 k).2.2.1 = some (tyJx9f9b0 k) := by decide +kernel
def RJx8e188 : String := "java/lang/Cloneable"
def TJx8e188 : u_T := fun k => match k with
  | _ => ("", "", "", false)
def tyJx8e188 : Nat → FieldType := fun k => match k with
  | _ => .int
theorem nmJx8e188 : ∀ a, a < 0 → ∀ b, b < 0 → a ≠ b → (TJx8e188 a).2.1 ≠ (TJx8e188 b).2.1 := by decide +kernel
theorem tyJx8e188_ok : ∀ k, k < 0 → parseFieldDescriptor (TJx8e188 k).2.2.1 = some (tyJx8e188 k) := by decide +kernel
def RJxb160c : String := "java/lang/Comparable"
def TJxb160c : u_T := fun k => match k with
  | _ => ("", "", "", false)
def tyJxb160c : Nat → FieldType := fun k => match k with
  | _ => .int
theorem nmJxb160c : ∀ a, a < 0 → ∀ b, b < 0 → a ≠ b → (TJxb160c a).2.1 ≠ (TJxb160c b).2.1 := by decide +kernel
theorem tyJxb160c_ok : ∀ k, k < 0 → parseFieldDescriptor (TJxb160c k).2.2.1 = some (tyJxb160c k) := by decide +kernel
def RJ6 : String := "java/lang/Integer"
def TJ6 : u_T := fun k => match k with
  | _ => ("", "", "", false)
def tyJ6 : Nat → FieldType := fun k => match k with
  | _ => .int
theorem nmJ6 : ∀ a, a < 0 → ∀ b, b < 0 → a ≠ b → (TJ6 a).2.1 ≠ (TJ6 b).2.1 := by decide +kernel
theorem tyJ6_ok : ∀ k, k < 0 → parseFieldDescriptor (TJ6 k).2.2.1 = some (tyJ6 k) := by decide +kernel
abbrev cJ6_bitCount_0f7a4 : ByteArray := prog_16_method_49_code
def yJ6_bitCount_0f7a4 : MethodName := ⟨RJ6, "bitCount", "(I)I"⟩
def RJ9 : String := "java/lang/Math"
def TJ9 : u_T := fun k => match k with
  | _ => ("", "", "", false)
def tyJ9 : Nat → FieldType := fun k => match k with
  | _ => .int
theorem nmJ9 : ∀ a, a < 0 → ∀ b, b < 0 → a ≠ b → (TJ9 a).2.1 ≠ (TJ9 b).2.1 := by decide +kernel
theorem tyJ9_ok : ∀ k, k < 0 → parseFieldDescriptor (TJ9 k).2.2.1 = some (tyJ9 k) := by decide +kernel
abbrev cJ9_max_7cf53 : ByteArray := prog_17_method_65_code
def yJ9_max_7cf53 : MethodName := ⟨RJ9, "max", "(II)I"⟩
abbrev cJ9_min_7cf53 : ByteArray := prog_17_method_69_code
def yJ9_min_7cf53 : MethodName := ⟨RJ9, "min", "(II)I"⟩
def RJ0 : String := "java/lang/String"
def TJ0 : u_T := fun k => match k with
  | _ => ("", "", "", false)
def tyJ0 : Nat → FieldType := fun k => match k with
  | _ => .int
theorem nmJ0 : ∀ a, a < 0 → ∀ b, b < 0 → a ≠ b → (TJ0 a).2.1 ≠ (TJ0 b).2.1 := by decide +kernel
theorem tyJ0_ok : ∀ k, k < 0 → parseFieldDescriptor (TJ0 k).2.2.1 = some (tyJ0 k) := by decide +kernel
abbrev cJ0_length_8abf5 : ByteArray := prog_18_method_54_code
def yJ0_length_8abf5 : MethodName := ⟨RJ0, "length", "()I"⟩
abbrev cJ0_charAt_5068e : ByteArray := prog_18_method_56_code
def yJ0_charAt_5068e : MethodName := ⟨RJ0, "charAt", "(I)C"⟩
abbrev cJ0_coder_7d493 : ByteArray := prog_18_method_152_code
def yJ0_coder_7d493 : MethodName := ⟨RJ0, "coder", "()B"⟩
abbrev cJ0_isLatin1_aae02 : ByteArray := prog_18_method_154_code
def yJ0_isLatin1_aae02 : MethodName := ⟨RJ0, "isLatin1", "()Z"⟩
abbrev cJ0_checkIndex_df160 : ByteArray := prog_18_method_155_code
def yJ0_checkIndex_df160 : MethodName := ⟨RJ0, "checkIndex", "(II)V"⟩
def RJ1 : String := "java/lang/StringLatin1"
def TJ1 : u_T := fun k => match k with
  | _ => ("", "", "", false)
def tyJ1 : Nat → FieldType := fun k => match k with
  | _ => .int
theorem nmJ1 : ∀ a, a < 0 → ∀ b, b < 0 → a ≠ b → (TJ1 a).2.1 ≠ (TJ1 b).2.1 := by decide +kernel
theorem tyJ1_ok : ∀ k, k < 0 → parseFieldDescriptor (TJ1 k).2.2.1 = some (tyJ1 k) := by decide +kernel
abbrev cJ1_charAt_3b067 : ByteArray := prog_19_method_2_code
def yJ1_charAt_3b067 : MethodName := ⟨RJ1, "charAt", "([BI)C"⟩
def RJ2 : String := "java/lang/StringUTF16"
def TJ2 : u_T := fun k => match k with
  | _ => ("", "", "", false)
def tyJ2 : Nat → FieldType := fun k => match k with
  | _ => .int
theorem nmJ2 : ∀ a, a < 0 → ∀ b, b < 0 → a ≠ b → (TJ2 a).2.1 ≠ (TJ2 b).2.1 := by decide +kernel
theorem tyJ2_ok : ∀ k, k < 0 → parseFieldDescriptor (TJ2 k).2.2.1 = some (tyJ2 k) := by decide +kernel
abbrev cJ2_getChar_3b067 : ByteArray := prog_20_method_5_code
def yJ2_getChar_3b067 : MethodName := ⟨RJ2, "getChar", "([BI)C"⟩
abbrev cJ2_length_9d52b : ByteArray := prog_20_method_6_code
def yJ2_length_9d52b : MethodName := ⟨RJ2, "length", "([B)I"⟩
abbrev cJ2_charAt_3b067 : ByteArray := prog_20_method_83_code
def yJ2_charAt_3b067 : MethodName := ⟨RJ2, "charAt", "([BI)C"⟩
abbrev cJ2_checkIndex_2214a : ByteArray := prog_20_method_91_code
def yJ2_checkIndex_2214a : MethodName := ⟨RJ2, "checkIndex", "(I[B)V"⟩
def RJ10 : String := "java/lang/System"
def TJ10 : u_T := fun k => match k with
  | _ => ("", "", "", false)
def tyJ10 : Nat → FieldType := fun k => match k with
  | _ => .int
theorem nmJ10 : ∀ a, a < 0 → ∀ b, b < 0 → a ≠ b → (TJ10 a).2.1 ≠ (TJ10 b).2.1 := by decide +kernel
theorem tyJ10_ok : ∀ k, k < 0 → parseFieldDescriptor (TJ10 k).2.2.1 = some (tyJ10 k) := by decide +kernel
def RJxfd54e : String := "java/lang/constant/Constable"
def TJxfd54e : u_T := fun k => match k with
  | _ => ("", "", "", false)
def tyJxfd54e : Nat → FieldType := fun k => match k with
  | _ => .int
theorem nmJxfd54e : ∀ a, a < 0 → ∀ b, b < 0 → a ≠ b → (TJxfd54e a).2.1 ≠ (TJxfd54e b).2.1 := by decide +kernel
theorem tyJxfd54e_ok : ∀ k, k < 0 → parseFieldDescriptor (TJxfd54e k).2.2.1 = some (tyJxfd54e k) := by decide +kernel
def RJx3cf43 : String := "java/lang/constant/ConstantDesc"
def TJx3cf43 : u_T := fun k => match k with
  | _ => ("", "", "", false)
def tyJx3cf43 : Nat → FieldType := fun k => match k with
  | _ => .int
theorem nmJx3cf43 : ∀ a, a < 0 → ∀ b, b < 0 → a ≠ b → (TJx3cf43 a).2.1 ≠ (TJx3cf43 b).2.1 := by decide +kernel
theorem tyJx3cf43_ok : ∀ k, k < 0 → parseFieldDescriptor (TJx3cf43 k).2.2.1 = some (tyJx3cf43 k) := by decide +kernel
def RJ7 : String := "java/util/Arrays"
def TJ7 : u_T := fun k => match k with
  | _ => ("", "", "", false)
def tyJ7 : Nat → FieldType := fun k => match k with
  | _ => .int
theorem nmJ7 : ∀ a, a < 0 → ∀ b, b < 0 → a ≠ b → (TJ7 a).2.1 ≠ (TJ7 b).2.1 := by decide +kernel
theorem tyJ7_ok : ∀ k, k < 0 → parseFieldDescriptor (TJ7 k).2.2.1 = some (tyJ7 k) := by decide +kernel
abbrev cJ7_fill_53178 : ByteArray := prog_22_method_103_code
def yJ7_fill_53178 : MethodName := ⟨RJ7, "fill", "([II)V"⟩
abbrev cJ7_copyOf_59c91 : ByteArray := prog_22_method_123_code
def yJ7_copyOf_59c91 : MethodName := ⟨RJ7, "copyOf", "([II)[I"⟩
def RJ3 : String := "jdk/internal/util/Preconditions"
def TJ3 : u_T := fun k => match k with
  | _ => ("", "", "", false)
def tyJ3 : Nat → FieldType := fun k => match k with
  | _ => .int
theorem nmJ3 : ∀ a, a < 0 → ∀ b, b < 0 → a ≠ b → (TJ3 a).2.1 ≠ (TJ3 b).2.1 := by decide +kernel
theorem tyJ3_ok : ∀ k, k < 0 → parseFieldDescriptor (TJ3 k).2.2.1 = some (tyJ3 k) := by decide +kernel
abbrev cJ3_checkIndex_8e157 : ByteArray := prog_23_method_11_code
def yJ3_checkIndex_8e157 : MethodName := ⟨RJ3, "checkIndex", "(IILjava/util/function/BiFunction;)I"⟩
def RL : String := "WrongHoleLaw"
abbrev cL_law : ByteArray := code
def yL_law : MethodName := ⟨RL, "law", "([I)Z"⟩
abbrev vwCl : List vw_C := [(RX0, TX0, 3), (RX1, TX1, 6), (RX2, TX2, 19), (RX4, TX4, 4), (RX5, TX5, 19), (RX7, TX7, 3), (RX8, TX8, 4), (RX9, TX9, 8), (RX10, TX10, 9), (RX11, TX11, 12), (RX12, TX12, 33)]
