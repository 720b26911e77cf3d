section
/-- a private method of a class that the tables say can be made, by its rows of tables_1 -/
def lw_okq (q : MethodName × Nat) : Prop := (q.1.cls ≠ "java/lang/invoke/MethodHandle" ∧ q.1.cls ≠ "java/lang/invoke/VarHandle") ∧ Cond.instantiable q.1.cls q.2 ∈ tables_1 ∧ Cond.privateMethod q.1 ∈ tables_1 ∧ Cond.instanceMethod q.1 ∈ tables_1
theorem lw_p0 : lw_okq (⟨"WireHouse$Lexer", "behindBlanks", "(I)I"⟩, 15) := ⟨⟨by decide +kernel, by decide +kernel⟩, List.mem_of_getElem? (i := 260) (by decide +kernel), List.mem_of_getElem? (i := 778) (by decide +kernel), List.mem_of_getElem? (i := 779) (by decide +kernel)⟩
theorem lw_p1 : lw_okq (⟨"WireHouse$Lexer", "token", "(I)I"⟩, 15) := ⟨⟨by decide +kernel, by decide +kernel⟩, List.mem_of_getElem? (i := 260) (by decide +kernel), List.mem_of_getElem? (i := 783) (by decide +kernel), List.mem_of_getElem? (i := 784) (by decide +kernel)⟩
theorem lw_p2 : lw_okq (⟨"WireHouse$Lexer", "keepToken", "(III)V"⟩, 15) := ⟨⟨by decide +kernel, by decide +kernel⟩, List.mem_of_getElem? (i := 260) (by decide +kernel), List.mem_of_getElem? (i := 787) (by decide +kernel), List.mem_of_getElem? (i := 788) (by decide +kernel)⟩
theorem lw_p3 : lw_okq (⟨"WireHouse$Lexer", "nameEnd", "(I)I"⟩, 15) := ⟨⟨by decide +kernel, by decide +kernel⟩, List.mem_of_getElem? (i := 260) (by decide +kernel), List.mem_of_getElem? (i := 799) (by decide +kernel), List.mem_of_getElem? (i := 800) (by decide +kernel)⟩
theorem lw_p4 : lw_okq (⟨"WireHouse$Lexer", "wordOf", "(II)I"⟩, 15) := ⟨⟨by decide +kernel, by decide +kernel⟩, List.mem_of_getElem? (i := 260) (by decide +kernel), List.mem_of_getElem? (i := 806) (by decide +kernel), List.mem_of_getElem? (i := 807) (by decide +kernel)⟩
theorem lw_p5 : lw_okq (⟨"WireHouse$Lexer", "isWord", "(III)Z"⟩, 15) := ⟨⟨by decide +kernel, by decide +kernel⟩, List.mem_of_getElem? (i := 260) (by decide +kernel), List.mem_of_getElem? (i := 859) (by decide +kernel), List.mem_of_getElem? (i := 860) (by decide +kernel)⟩
theorem lw_p6 : lw_okq (⟨"WireHouse$Lexer", "findFirst", "()V"⟩, 15) := ⟨⟨by decide +kernel, by decide +kernel⟩, List.mem_of_getElem? (i := 260) (by decide +kernel), List.mem_of_getElem? (i := 863) (by decide +kernel), List.mem_of_getElem? (i := 864) (by decide +kernel)⟩
theorem lw_p7 : lw_okq (⟨"WireHouse$Lexer", "numberEnd", "(I)I"⟩, 15) := ⟨⟨by decide +kernel, by decide +kernel⟩, List.mem_of_getElem? (i := 260) (by decide +kernel), List.mem_of_getElem? (i := 868) (by decide +kernel), List.mem_of_getElem? (i := 869) (by decide +kernel)⟩
theorem lw_p8 : lw_okq (⟨"WireHouse$Lexer", "stringEnd", "(I)I"⟩, 15) := ⟨⟨by decide +kernel, by decide +kernel⟩, List.mem_of_getElem? (i := 260) (by decide +kernel), List.mem_of_getElem? (i := 874) (by decide +kernel), List.mem_of_getElem? (i := 875) (by decide +kernel)⟩
theorem lw_p9 : lw_okq (⟨"WireHouse$Lexer", "itemSize", "(I)I"⟩, 15) := ⟨⟨by decide +kernel, by decide +kernel⟩, List.mem_of_getElem? (i := 260) (by decide +kernel), List.mem_of_getElem? (i := 878) (by decide +kernel), List.mem_of_getElem? (i := 879) (by decide +kernel)⟩
theorem lw_p10 : lw_okq (⟨"WireHouse$Lexer", "signEnd", "(II)I"⟩, 15) := ⟨⟨by decide +kernel, by decide +kernel⟩, List.mem_of_getElem? (i := 260) (by decide +kernel), List.mem_of_getElem? (i := 885) (by decide +kernel), List.mem_of_getElem? (i := 886) (by decide +kernel)⟩
theorem lw_p11 : lw_okq (⟨"WireHouse$SchemaReader", "typeItem", "(Z)V"⟩, 12) := ⟨⟨by decide +kernel, by decide +kernel⟩, List.mem_of_getElem? (i := 324) (by decide +kernel), List.mem_of_getElem? (i := 967) (by decide +kernel), List.mem_of_getElem? (i := 968) (by decide +kernel)⟩
theorem lw_p12 : lw_okq (⟨"WireHouse$SchemaReader", "refuse", "()V"⟩, 12) := ⟨⟨by decide +kernel, by decide +kernel⟩, List.mem_of_getElem? (i := 324) (by decide +kernel), List.mem_of_getElem? (i := 972) (by decide +kernel), List.mem_of_getElem? (i := 973) (by decide +kernel)⟩
theorem lw_p13 : lw_okq (⟨"WireHouse$SchemaReader", "fail", "(I)V"⟩, 12) := ⟨⟨by decide +kernel, by decide +kernel⟩, List.mem_of_getElem? (i := 324) (by decide +kernel), List.mem_of_getElem? (i := 976) (by decide +kernel), List.mem_of_getElem? (i := 977) (by decide +kernel)⟩
theorem lw_p14 : lw_okq (⟨"WireHouse$SchemaReader", "isItemTold", "(I)Z"⟩, 12) := ⟨⟨by decide +kernel, by decide +kernel⟩, List.mem_of_getElem? (i := 324) (by decide +kernel), List.mem_of_getElem? (i := 980) (by decide +kernel), List.mem_of_getElem? (i := 981) (by decide +kernel)⟩
theorem lw_p15 : lw_okq (⟨"WireHouse$SchemaReader", "typeNamed", "(I)I"⟩, 12) := ⟨⟨by decide +kernel, by decide +kernel⟩, List.mem_of_getElem? (i := 324) (by decide +kernel), List.mem_of_getElem? (i := 992) (by decide +kernel), List.mem_of_getElem? (i := 993) (by decide +kernel)⟩
def lw_privs_1 : List (MethodName × Nat) := [(⟨"WireHouse$Lexer", "behindBlanks", "(I)I"⟩, 15), (⟨"WireHouse$Lexer", "token", "(I)I"⟩, 15), (⟨"WireHouse$Lexer", "keepToken", "(III)V"⟩, 15), (⟨"WireHouse$Lexer", "nameEnd", "(I)I"⟩, 15), (⟨"WireHouse$Lexer", "wordOf", "(II)I"⟩, 15), (⟨"WireHouse$Lexer", "isWord", "(III)Z"⟩, 15), (⟨"WireHouse$Lexer", "findFirst", "()V"⟩, 15), (⟨"WireHouse$Lexer", "numberEnd", "(I)I"⟩, 15), (⟨"WireHouse$Lexer", "stringEnd", "(I)I"⟩, 15), (⟨"WireHouse$Lexer", "itemSize", "(I)I"⟩, 15), (⟨"WireHouse$Lexer", "signEnd", "(II)I"⟩, 15), (⟨"WireHouse$SchemaReader", "typeItem", "(Z)V"⟩, 12), (⟨"WireHouse$SchemaReader", "refuse", "()V"⟩, 12), (⟨"WireHouse$SchemaReader", "fail", "(I)V"⟩, 12), (⟨"WireHouse$SchemaReader", "isItemTold", "(I)Z"⟩, 12), (⟨"WireHouse$SchemaReader", "typeNamed", "(I)I"⟩, 12)]
theorem lw_r1 : ∀ q ∈ lw_privs_1, lw_okq q := List.forall_mem_cons.mpr ⟨lw_p0, List.forall_mem_cons.mpr ⟨lw_p1, List.forall_mem_cons.mpr ⟨lw_p2, List.forall_mem_cons.mpr ⟨lw_p3, List.forall_mem_cons.mpr ⟨lw_p4, List.forall_mem_cons.mpr ⟨lw_p5, List.forall_mem_cons.mpr ⟨lw_p6, List.forall_mem_cons.mpr ⟨lw_p7, List.forall_mem_cons.mpr ⟨lw_p8, List.forall_mem_cons.mpr ⟨lw_p9, List.forall_mem_cons.mpr ⟨lw_p10, List.forall_mem_cons.mpr ⟨lw_p11, List.forall_mem_cons.mpr ⟨lw_p12, List.forall_mem_cons.mpr ⟨lw_p13, List.forall_mem_cons.mpr ⟨lw_p14, List.forall_mem_cons.mpr ⟨lw_p15, fun _ h => absurd h List.not_mem_nil⟩⟩⟩⟩⟩⟩⟩⟩⟩⟩⟩⟩⟩⟩⟩⟩
theorem lw_p16 : lw_okq (⟨"WireHouse$SchemaReader", "later", "(II)V"⟩, 12) := ⟨⟨by decide +kernel, by decide +kernel⟩, List.mem_of_getElem? (i := 324) (by decide +kernel), List.mem_of_getElem? (i := 996) (by decide +kernel), List.mem_of_getElem? (i := 997) (by decide +kernel)⟩
theorem lw_p17 : lw_okq (⟨"WireHouse$SchemaReader", "expect", "(I)V"⟩, 12) := ⟨⟨by decide +kernel, by decide +kernel⟩, List.mem_of_getElem? (i := 324) (by decide +kernel), List.mem_of_getElem? (i := 1012) (by decide +kernel), List.mem_of_getElem? (i := 1013) (by decide +kernel)⟩
theorem lw_p18 : lw_okq (⟨"WireHouse$SchemaReader", "constant", "(I)V"⟩, 12) := ⟨⟨by decide +kernel, by decide +kernel⟩, List.mem_of_getElem? (i := 324) (by decide +kernel), List.mem_of_getElem? (i := 1016) (by decide +kernel), List.mem_of_getElem? (i := 1017) (by decide +kernel)⟩
theorem lw_p19 : lw_okq (⟨"WireHouse$SchemaReader", "fieldNamed", "(II)I"⟩, 12) := ⟨⟨by decide +kernel, by decide +kernel⟩, List.mem_of_getElem? (i := 324) (by decide +kernel), List.mem_of_getElem? (i := 1025) (by decide +kernel), List.mem_of_getElem? (i := 1026) (by decide +kernel)⟩
theorem lw_p20 : lw_okq (⟨"WireHouse$SchemaReader", "nameField", "(II)V"⟩, 12) := ⟨⟨by decide +kernel, by decide +kernel⟩, List.mem_of_getElem? (i := 324) (by decide +kernel), List.mem_of_getElem? (i := 1033) (by decide +kernel), List.mem_of_getElem? (i := 1034) (by decide +kernel)⟩
theorem lw_p21 : lw_okq (⟨"WireHouse$SchemaReader", "integer", "()V"⟩, 12) := ⟨⟨by decide +kernel, by decide +kernel⟩, List.mem_of_getElem? (i := 324) (by decide +kernel), List.mem_of_getElem? (i := 1041) (by decide +kernel), List.mem_of_getElem? (i := 1042) (by decide +kernel)⟩
theorem lw_p22 : lw_okq (⟨"WireHouse$SchemaReader", "integerAt", "(I)J"⟩, 12) := ⟨⟨by decide +kernel, by decide +kernel⟩, List.mem_of_getElem? (i := 324) (by decide +kernel), List.mem_of_getElem? (i := 1045) (by decide +kernel), List.mem_of_getElem? (i := 1046) (by decide +kernel)⟩
theorem lw_p23 : lw_okq (⟨"WireHouse$SchemaReader", "isConstantTold", "(IIJ)Z"⟩, 12) := ⟨⟨by decide +kernel, by decide +kernel⟩, List.mem_of_getElem? (i := 324) (by decide +kernel), List.mem_of_getElem? (i := 1059) (by decide +kernel), List.mem_of_getElem? (i := 1060) (by decide +kernel)⟩
theorem lw_p24 : lw_okq (⟨"WireHouse$SchemaReader", "onePart", "(I)V"⟩, 12) := ⟨⟨by decide +kernel, by decide +kernel⟩, List.mem_of_getElem? (i := 324) (by decide +kernel), List.mem_of_getElem? (i := 1067) (by decide +kernel), List.mem_of_getElem? (i := 1068) (by decide +kernel)⟩
theorem lw_p25 : lw_okq (⟨"WireHouse$SchemaReader", "isPartTold", "(II)Z"⟩, 12) := ⟨⟨by decide +kernel, by decide +kernel⟩, List.mem_of_getElem? (i := 324) (by decide +kernel), List.mem_of_getElem? (i := 1075) (by decide +kernel), List.mem_of_getElem? (i := 1076) (by decide +kernel)⟩
theorem lw_p26 : lw_okq (⟨"WireHouse$SchemaReader", "fieldPart", "(II)V"⟩, 12) := ⟨⟨by decide +kernel, by decide +kernel⟩, List.mem_of_getElem? (i := 324) (by decide +kernel), List.mem_of_getElem? (i := 1079) (by decide +kernel), List.mem_of_getElem? (i := 1080) (by decide +kernel)⟩
theorem lw_p27 : lw_okq (⟨"WireHouse$SchemaReader", "plainType", "()V"⟩, 12) := ⟨⟨by decide +kernel, by decide +kernel⟩, List.mem_of_getElem? (i := 324) (by decide +kernel), List.mem_of_getElem? (i := 1083) (by decide +kernel), List.mem_of_getElem? (i := 1084) (by decide +kernel)⟩
theorem lw_p28 : lw_okq (⟨"WireHouse$SchemaReader", "fieldName", "(I)I"⟩, 12) := ⟨⟨by decide +kernel, by decide +kernel⟩, List.mem_of_getElem? (i := 324) (by decide +kernel), List.mem_of_getElem? (i := 1087) (by decide +kernel), List.mem_of_getElem? (i := 1088) (by decide +kernel)⟩
theorem lw_p29 : lw_okq (⟨"WireHouse$SchemaReader", "partNumber", "(I)J"⟩, 12) := ⟨⟨by decide +kernel, by decide +kernel⟩, List.mem_of_getElem? (i := 324) (by decide +kernel), List.mem_of_getElem? (i := 1091) (by decide +kernel), List.mem_of_getElem? (i := 1092) (by decide +kernel)⟩
theorem lw_p30 : lw_okq (⟨"WireHouse$SchemaReader", "fieldValue", "()I"⟩, 12) := ⟨⟨by decide +kernel, by decide +kernel⟩, List.mem_of_getElem? (i := 324) (by decide +kernel), List.mem_of_getElem? (i := 1096) (by decide +kernel), List.mem_of_getElem? (i := 1097) (by decide +kernel)⟩
theorem lw_p31 : lw_okq (⟨"WireHouse$SchemaReader", "keepPart", "(I)V"⟩, 12) := ⟨⟨by decide +kernel, by decide +kernel⟩, List.mem_of_getElem? (i := 324) (by decide +kernel), List.mem_of_getElem? (i := 1103) (by decide +kernel), List.mem_of_getElem? (i := 1104) (by decide +kernel)⟩
def lw_privs_2 : List (MethodName × Nat) := [(⟨"WireHouse$SchemaReader", "later", "(II)V"⟩, 12), (⟨"WireHouse$SchemaReader", "expect", "(I)V"⟩, 12), (⟨"WireHouse$SchemaReader", "constant", "(I)V"⟩, 12), (⟨"WireHouse$SchemaReader", "fieldNamed", "(II)I"⟩, 12), (⟨"WireHouse$SchemaReader", "nameField", "(II)V"⟩, 12), (⟨"WireHouse$SchemaReader", "integer", "()V"⟩, 12), (⟨"WireHouse$SchemaReader", "integerAt", "(I)J"⟩, 12), (⟨"WireHouse$SchemaReader", "isConstantTold", "(IIJ)Z"⟩, 12), (⟨"WireHouse$SchemaReader", "onePart", "(I)V"⟩, 12), (⟨"WireHouse$SchemaReader", "isPartTold", "(II)Z"⟩, 12), (⟨"WireHouse$SchemaReader", "fieldPart", "(II)V"⟩, 12), (⟨"WireHouse$SchemaReader", "plainType", "()V"⟩, 12), (⟨"WireHouse$SchemaReader", "fieldName", "(I)I"⟩, 12), (⟨"WireHouse$SchemaReader", "partNumber", "(I)J"⟩, 12), (⟨"WireHouse$SchemaReader", "fieldValue", "()I"⟩, 12), (⟨"WireHouse$SchemaReader", "keepPart", "(I)V"⟩, 12)]
theorem lw_r2 : ∀ q ∈ lw_privs_2, lw_okq q := List.forall_mem_cons.mpr ⟨lw_p16, List.forall_mem_cons.mpr ⟨lw_p17, List.forall_mem_cons.mpr ⟨lw_p18, List.forall_mem_cons.mpr ⟨lw_p19, List.forall_mem_cons.mpr ⟨lw_p20, List.forall_mem_cons.mpr ⟨lw_p21, List.forall_mem_cons.mpr ⟨lw_p22, List.forall_mem_cons.mpr ⟨lw_p23, List.forall_mem_cons.mpr ⟨lw_p24, List.forall_mem_cons.mpr ⟨lw_p25, List.forall_mem_cons.mpr ⟨lw_p26, List.forall_mem_cons.mpr ⟨lw_p27, List.forall_mem_cons.mpr ⟨lw_p28, List.forall_mem_cons.mpr ⟨lw_p29, List.forall_mem_cons.mpr ⟨lw_p30, List.forall_mem_cons.mpr ⟨lw_p31, fun _ h => absurd h List.not_mem_nil⟩⟩⟩⟩⟩⟩⟩⟩⟩⟩⟩⟩⟩⟩⟩⟩
theorem lw_p32 : lw_okq (⟨"WireHouse$SchemaReader", "serviceItem", "()V"⟩, 12) := ⟨⟨by decide +kernel, by decide +kernel⟩, List.mem_of_getElem? (i := 324) (by decide +kernel), List.mem_of_getElem? (i := 1107) (by decide +kernel), List.mem_of_getElem? (i := 1108) (by decide +kernel)⟩
theorem lw_p33 : lw_okq (⟨"WireHouse$SchemaReader", "cellPart", "(I)V"⟩, 12) := ⟨⟨by decide +kernel, by decide +kernel⟩, List.mem_of_getElem? (i := 324) (by decide +kernel), List.mem_of_getElem? (i := 1111) (by decide +kernel), List.mem_of_getElem? (i := 1112) (by decide +kernel)⟩
theorem lw_p34 : lw_okq (⟨"WireHouse$SchemaReader", "isServicePartTold", "(II)Z"⟩, 12) := ⟨⟨by decide +kernel, by decide +kernel⟩, List.mem_of_getElem? (i := 324) (by decide +kernel), List.mem_of_getElem? (i := 1119) (by decide +kernel), List.mem_of_getElem? (i := 1120) (by decide +kernel)⟩
theorem lw_p35 : lw_okq (⟨"WireHouse$SchemaReader", "cellNamed", "(II)I"⟩, 12) := ⟨⟨by decide +kernel, by decide +kernel⟩, List.mem_of_getElem? (i := 324) (by decide +kernel), List.mem_of_getElem? (i := 1127) (by decide +kernel), List.mem_of_getElem? (i := 1128) (by decide +kernel)⟩
theorem lw_p36 : lw_okq (⟨"WireHouse$SchemaReader", "callPart", "(I)V"⟩, 12) := ⟨⟨by decide +kernel, by decide +kernel⟩, List.mem_of_getElem? (i := 324) (by decide +kernel), List.mem_of_getElem? (i := 1131) (by decide +kernel), List.mem_of_getElem? (i := 1132) (by decide +kernel)⟩
theorem lw_p37 : lw_okq (⟨"WireHouse$SchemaReader", "callNumber", "(II)V"⟩, 12) := ⟨⟨by decide +kernel, by decide +kernel⟩, List.mem_of_getElem? (i := 324) (by decide +kernel), List.mem_of_getElem? (i := 1135) (by decide +kernel), List.mem_of_getElem? (i := 1136) (by decide +kernel)⟩
theorem lw_p38 : lw_okq (⟨"WireHouse$SchemaReader", "stepPart", "()V"⟩, 12) := ⟨⟨by decide +kernel, by decide +kernel⟩, List.mem_of_getElem? (i := 324) (by decide +kernel), List.mem_of_getElem? (i := 1146) (by decide +kernel), List.mem_of_getElem? (i := 1147) (by decide +kernel)⟩
theorem lw_p39 : lw_okq (⟨"WireHouse$SchemaReader", "expression", "(I)V"⟩, 12) := ⟨⟨by decide +kernel, by decide +kernel⟩, List.mem_of_getElem? (i := 324) (by decide +kernel), List.mem_of_getElem? (i := 1150) (by decide +kernel), List.mem_of_getElem? (i := 1151) (by decide +kernel)⟩
theorem lw_p40 : lw_okq (⟨"WireHouse$SchemaReader", "sum", "(I)V"⟩, 12) := ⟨⟨by decide +kernel, by decide +kernel⟩, List.mem_of_getElem? (i := 324) (by decide +kernel), List.mem_of_getElem? (i := 1154) (by decide +kernel), List.mem_of_getElem? (i := 1155) (by decide +kernel)⟩
theorem lw_p41 : lw_okq (⟨"WireHouse$SchemaReader", "product", "(I)V"⟩, 12) := ⟨⟨by decide +kernel, by decide +kernel⟩, List.mem_of_getElem? (i := 324) (by decide +kernel), List.mem_of_getElem? (i := 1158) (by decide +kernel), List.mem_of_getElem? (i := 1159) (by decide +kernel)⟩
theorem lw_p42 : lw_okq (⟨"WireHouse$SchemaReader", "unary", "(I)V"⟩, 12) := ⟨⟨by decide +kernel, by decide +kernel⟩, List.mem_of_getElem? (i := 324) (by decide +kernel), List.mem_of_getElem? (i := 1162) (by decide +kernel), List.mem_of_getElem? (i := 1163) (by decide +kernel)⟩
theorem lw_p43 : lw_okq (⟨"WireHouse$SchemaReader", "isNodeFree", "()Z"⟩, 12) := ⟨⟨by decide +kernel, by decide +kernel⟩, List.mem_of_getElem? (i := 324) (by decide +kernel), List.mem_of_getElem? (i := 1166) (by decide +kernel), List.mem_of_getElem? (i := 1167) (by decide +kernel)⟩
theorem lw_p44 : lw_okq (⟨"WireHouse$SchemaReader", "keepNode", "(IJI)V"⟩, 12) := ⟨⟨by decide +kernel, by decide +kernel⟩, List.mem_of_getElem? (i := 324) (by decide +kernel), List.mem_of_getElem? (i := 1170) (by decide +kernel), List.mem_of_getElem? (i := 1171) (by decide +kernel)⟩
theorem lw_p45 : lw_okq (⟨"WireHouse$SchemaReader", "findTypes", "()V"⟩, 12) := ⟨⟨by decide +kernel, by decide +kernel⟩, List.mem_of_getElem? (i := 324) (by decide +kernel), List.mem_of_getElem? (i := 1177) (by decide +kernel), List.mem_of_getElem? (i := 1178) (by decide +kernel)⟩
theorem lw_p46 : lw_okq (⟨"WireHouse$SchemaReader", "findType", "(II)V"⟩, 12) := ⟨⟨by decide +kernel, by decide +kernel⟩, List.mem_of_getElem? (i := 324) (by decide +kernel), List.mem_of_getElem? (i := 1185) (by decide +kernel), List.mem_of_getElem? (i := 1186) (by decide +kernel)⟩
theorem lw_p47 : lw_okq (⟨"WireHouse$SchemaReader", "kindAt", "(I)I"⟩, 12) := ⟨⟨by decide +kernel, by decide +kernel⟩, List.mem_of_getElem? (i := 324) (by decide +kernel), List.mem_of_getElem? (i := 1189) (by decide +kernel), List.mem_of_getElem? (i := 1190) (by decide +kernel)⟩
def lw_privs_3 : List (MethodName × Nat) := [(⟨"WireHouse$SchemaReader", "serviceItem", "()V"⟩, 12), (⟨"WireHouse$SchemaReader", "cellPart", "(I)V"⟩, 12), (⟨"WireHouse$SchemaReader", "isServicePartTold", "(II)Z"⟩, 12), (⟨"WireHouse$SchemaReader", "cellNamed", "(II)I"⟩, 12), (⟨"WireHouse$SchemaReader", "callPart", "(I)V"⟩, 12), (⟨"WireHouse$SchemaReader", "callNumber", "(II)V"⟩, 12), (⟨"WireHouse$SchemaReader", "stepPart", "()V"⟩, 12), (⟨"WireHouse$SchemaReader", "expression", "(I)V"⟩, 12), (⟨"WireHouse$SchemaReader", "sum", "(I)V"⟩, 12), (⟨"WireHouse$SchemaReader", "product", "(I)V"⟩, 12), (⟨"WireHouse$SchemaReader", "unary", "(I)V"⟩, 12), (⟨"WireHouse$SchemaReader", "isNodeFree", "()Z"⟩, 12), (⟨"WireHouse$SchemaReader", "keepNode", "(IJI)V"⟩, 12), (⟨"WireHouse$SchemaReader", "findTypes", "()V"⟩, 12), (⟨"WireHouse$SchemaReader", "findType", "(II)V"⟩, 12), (⟨"WireHouse$SchemaReader", "kindAt", "(I)I"⟩, 12)]
theorem lw_r3 : ∀ q ∈ lw_privs_3, lw_okq q := List.forall_mem_cons.mpr ⟨lw_p32, List.forall_mem_cons.mpr ⟨lw_p33, List.forall_mem_cons.mpr ⟨lw_p34, List.forall_mem_cons.mpr ⟨lw_p35, List.forall_mem_cons.mpr ⟨lw_p36, List.forall_mem_cons.mpr ⟨lw_p37, List.forall_mem_cons.mpr ⟨lw_p38, List.forall_mem_cons.mpr ⟨lw_p39, List.forall_mem_cons.mpr ⟨lw_p40, List.forall_mem_cons.mpr ⟨lw_p41, List.forall_mem_cons.mpr ⟨lw_p42, List.forall_mem_cons.mpr ⟨lw_p43, List.forall_mem_cons.mpr ⟨lw_p44, List.forall_mem_cons.mpr ⟨lw_p45, List.forall_mem_cons.mpr ⟨lw_p46, List.forall_mem_cons.mpr ⟨lw_p47, fun _ h => absurd h List.not_mem_nil⟩⟩⟩⟩⟩⟩⟩⟩⟩⟩⟩⟩⟩⟩⟩⟩
theorem lw_p48 : lw_okq (⟨"WireHouse$SchemaReader", "findDefault", "(II)V"⟩, 12) := ⟨⟨by decide +kernel, by decide +kernel⟩, List.mem_of_getElem? (i := 324) (by decide +kernel), List.mem_of_getElem? (i := 1198) (by decide +kernel), List.mem_of_getElem? (i := 1199) (by decide +kernel)⟩
theorem lw_p49 : lw_okq (⟨"WireHouse$SchemaReader", "defaultString", "(III)Z"⟩, 12) := ⟨⟨by decide +kernel, by decide +kernel⟩, List.mem_of_getElem? (i := 324) (by decide +kernel), List.mem_of_getElem? (i := 1206) (by decide +kernel), List.mem_of_getElem? (i := 1207) (by decide +kernel)⟩
theorem lw_p50 : lw_okq (⟨"WireHouse$Bytes", "signLength", "(II)I"⟩, 3) := ⟨⟨by decide +kernel, by decide +kernel⟩, List.mem_of_getElem? (i := 64) (by decide +kernel), List.mem_of_getElem? (i := 1223) (by decide +kernel), List.mem_of_getElem? (i := 1224) (by decide +kernel)⟩
theorem lw_p51 : lw_okq (⟨"WireHouse$SchemaReader", "findCalls", "()V"⟩, 12) := ⟨⟨by decide +kernel, by decide +kernel⟩, List.mem_of_getElem? (i := 324) (by decide +kernel), List.mem_of_getElem? (i := 1234) (by decide +kernel), List.mem_of_getElem? (i := 1235) (by decide +kernel)⟩
theorem lw_p52 : lw_okq (⟨"WireHouse$SchemaReader", "recordAt", "(I)I"⟩, 12) := ⟨⟨by decide +kernel, by decide +kernel⟩, List.mem_of_getElem? (i := 324) (by decide +kernel), List.mem_of_getElem? (i := 1238) (by decide +kernel), List.mem_of_getElem? (i := 1239) (by decide +kernel)⟩
theorem lw_p53 : lw_okq (⟨"WireHouse$SchemaReader", "findTarget", "(III)V"⟩, 12) := ⟨⟨by decide +kernel, by decide +kernel⟩, List.mem_of_getElem? (i := 324) (by decide +kernel), List.mem_of_getElem? (i := 1242) (by decide +kernel), List.mem_of_getElem? (i := 1243) (by decide +kernel)⟩
theorem lw_p54 : lw_okq (⟨"WireHouse$SchemaReader", "findNodes", "(III)V"⟩, 12) := ⟨⟨by decide +kernel, by decide +kernel⟩, List.mem_of_getElem? (i := 324) (by decide +kernel), List.mem_of_getElem? (i := 1249) (by decide +kernel), List.mem_of_getElem? (i := 1250) (by decide +kernel)⟩
theorem lw_p55 : lw_okq (⟨"WireHouse$Schema", "layField", "(II)V"⟩, 17) := ⟨⟨by decide +kernel, by decide +kernel⟩, List.mem_of_getElem? (i := 149) (by decide +kernel), List.mem_of_getElem? (i := 1265) (by decide +kernel), List.mem_of_getElem? (i := 1266) (by decide +kernel)⟩
theorem lw_p56 : lw_okq (⟨"WireHouse$Schema", "freePlace", "(I)I"⟩, 17) := ⟨⟨by decide +kernel, by decide +kernel⟩, List.mem_of_getElem? (i := 149) (by decide +kernel), List.mem_of_getElem? (i := 1269) (by decide +kernel), List.mem_of_getElem? (i := 1270) (by decide +kernel)⟩
theorem lw_p57 : lw_okq (⟨"WireHouse$Schema", "nextPointer", "(I)I"⟩, 17) := ⟨⟨by decide +kernel, by decide +kernel⟩, List.mem_of_getElem? (i := 149) (by decide +kernel), List.mem_of_getElem? (i := 1279) (by decide +kernel), List.mem_of_getElem? (i := 1280) (by decide +kernel)⟩
theorem lw_p58 : lw_okq (⟨"WireHouse$Schema", "layOne", "(II)V"⟩, 17) := ⟨⟨by decide +kernel, by decide +kernel⟩, List.mem_of_getElem? (i := 149) (by decide +kernel), List.mem_of_getElem? (i := 1283) (by decide +kernel), List.mem_of_getElem? (i := 1284) (by decide +kernel)⟩
theorem lw_p59 : lw_okq (⟨"WireHouse$Schema", "marksInLine", "(JI)J"⟩, 17) := ⟨⟨by decide +kernel, by decide +kernel⟩, List.mem_of_getElem? (i := 149) (by decide +kernel), List.mem_of_getElem? (i := 1354) (by decide +kernel), List.mem_of_getElem? (i := 1355) (by decide +kernel)⟩
theorem lw_p60 : lw_okq (⟨"WireHouse$Schema", "joinLine", "(II)I"⟩, 17) := ⟨⟨by decide +kernel, by decide +kernel⟩, List.mem_of_getElem? (i := 149) (by decide +kernel), List.mem_of_getElem? (i := 1364) (by decide +kernel), List.mem_of_getElem? (i := 1365) (by decide +kernel)⟩
theorem lw_p61 : lw_okq (⟨"WireHouse$Texts", "begin", "(LWireHouse$Schema;LWireHouse$Tree;)V"⟩, 15) := ⟨⟨by decide +kernel, by decide +kernel⟩, List.mem_of_getElem? (i := 371) (by decide +kernel), List.mem_of_getElem? (i := 1384) (by decide +kernel), List.mem_of_getElem? (i := 1385) (by decide +kernel)⟩
theorem lw_p62 : lw_okq (⟨"WireHouse$Texts", "refuse", "()V"⟩, 15) := ⟨⟨by decide +kernel, by decide +kernel⟩, List.mem_of_getElem? (i := 371) (by decide +kernel), List.mem_of_getElem? (i := 1399) (by decide +kernel), List.mem_of_getElem? (i := 1400) (by decide +kernel)⟩
theorem lw_p63 : lw_okq (⟨"WireHouse$Texts", "fail", "(II)V"⟩, 15) := ⟨⟨by decide +kernel, by decide +kernel⟩, List.mem_of_getElem? (i := 371) (by decide +kernel), List.mem_of_getElem? (i := 1411) (by decide +kernel), List.mem_of_getElem? (i := 1412) (by decide +kernel)⟩
def lw_privs_4 : List (MethodName × Nat) := [(⟨"WireHouse$SchemaReader", "findDefault", "(II)V"⟩, 12), (⟨"WireHouse$SchemaReader", "defaultString", "(III)Z"⟩, 12), (⟨"WireHouse$Bytes", "signLength", "(II)I"⟩, 3), (⟨"WireHouse$SchemaReader", "findCalls", "()V"⟩, 12), (⟨"WireHouse$SchemaReader", "recordAt", "(I)I"⟩, 12), (⟨"WireHouse$SchemaReader", "findTarget", "(III)V"⟩, 12), (⟨"WireHouse$SchemaReader", "findNodes", "(III)V"⟩, 12), (⟨"WireHouse$Schema", "layField", "(II)V"⟩, 17), (⟨"WireHouse$Schema", "freePlace", "(I)I"⟩, 17), (⟨"WireHouse$Schema", "nextPointer", "(I)I"⟩, 17), (⟨"WireHouse$Schema", "layOne", "(II)V"⟩, 17), (⟨"WireHouse$Schema", "marksInLine", "(JI)J"⟩, 17), (⟨"WireHouse$Schema", "joinLine", "(II)I"⟩, 17), (⟨"WireHouse$Texts", "begin", "(LWireHouse$Schema;LWireHouse$Tree;)V"⟩, 15), (⟨"WireHouse$Texts", "refuse", "()V"⟩, 15), (⟨"WireHouse$Texts", "fail", "(II)V"⟩, 15)]
theorem lw_r4 : ∀ q ∈ lw_privs_4, lw_okq q := List.forall_mem_cons.mpr ⟨lw_p48, List.forall_mem_cons.mpr ⟨lw_p49, List.forall_mem_cons.mpr ⟨lw_p50, List.forall_mem_cons.mpr ⟨lw_p51, List.forall_mem_cons.mpr ⟨lw_p52, List.forall_mem_cons.mpr ⟨lw_p53, List.forall_mem_cons.mpr ⟨lw_p54, List.forall_mem_cons.mpr ⟨lw_p55, List.forall_mem_cons.mpr ⟨lw_p56, List.forall_mem_cons.mpr ⟨lw_p57, List.forall_mem_cons.mpr ⟨lw_p58, List.forall_mem_cons.mpr ⟨lw_p59, List.forall_mem_cons.mpr ⟨lw_p60, List.forall_mem_cons.mpr ⟨lw_p61, List.forall_mem_cons.mpr ⟨lw_p62, List.forall_mem_cons.mpr ⟨lw_p63, fun _ h => absurd h List.not_mem_nil⟩⟩⟩⟩⟩⟩⟩⟩⟩⟩⟩⟩⟩⟩⟩⟩
theorem lw_p64 : lw_okq (⟨"WireHouse$Texts", "single", "(IIII)V"⟩, 15) := ⟨⟨by decide +kernel, by decide +kernel⟩, List.mem_of_getElem? (i := 371) (by decide +kernel), List.mem_of_getElem? (i := 1416) (by decide +kernel), List.mem_of_getElem? (i := 1417) (by decide +kernel)⟩
theorem lw_p65 : lw_okq (⟨"WireHouse$Texts", "recordText", "(III)V"⟩, 15) := ⟨⟨by decide +kernel, by decide +kernel⟩, List.mem_of_getElem? (i := 371) (by decide +kernel), List.mem_of_getElem? (i := 1423) (by decide +kernel), List.mem_of_getElem? (i := 1424) (by decide +kernel)⟩
theorem lw_p66 : lw_okq (⟨"WireHouse$Texts", "fieldAtToken", "(III)I"⟩, 15) := ⟨⟨by decide +kernel, by decide +kernel⟩, List.mem_of_getElem? (i := 371) (by decide +kernel), List.mem_of_getElem? (i := 1428) (by decide +kernel), List.mem_of_getElem? (i := 1429) (by decide +kernel)⟩
theorem lw_p67 : lw_okq (⟨"WireHouse$Texts", "expect", "(I)V"⟩, 15) := ⟨⟨by decide +kernel, by decide +kernel⟩, List.mem_of_getElem? (i := 371) (by decide +kernel), List.mem_of_getElem? (i := 1437) (by decide +kernel), List.mem_of_getElem? (i := 1438) (by decide +kernel)⟩
theorem lw_p68 : lw_okq (⟨"WireHouse$Tree", "enter", "(II)I"⟩, 12) := ⟨⟨by decide +kernel, by decide +kernel⟩, List.mem_of_getElem? (i := 35) (by decide +kernel), List.mem_of_getElem? (i := 1451) (by decide +kernel), List.mem_of_getElem? (i := 1452) (by decide +kernel)⟩
theorem lw_p69 : lw_okq (⟨"WireHouse$Texts", "whole", "(IIII)V"⟩, 15) := ⟨⟨by decide +kernel, by decide +kernel⟩, List.mem_of_getElem? (i := 371) (by decide +kernel), List.mem_of_getElem? (i := 1464) (by decide +kernel), List.mem_of_getElem? (i := 1465) (by decide +kernel)⟩
theorem lw_p70 : lw_okq (⟨"WireHouse$Texts", "list", "(IIII)V"⟩, 15) := ⟨⟨by decide +kernel, by decide +kernel⟩, List.mem_of_getElem? (i := 371) (by decide +kernel), List.mem_of_getElem? (i := 1468) (by decide +kernel), List.mem_of_getElem? (i := 1469) (by decide +kernel)⟩
theorem lw_p71 : lw_okq (⟨"WireHouse$Texts", "map", "(IIII)V"⟩, 15) := ⟨⟨by decide +kernel, by decide +kernel⟩, List.mem_of_getElem? (i := 371) (by decide +kernel), List.mem_of_getElem? (i := 1480) (by decide +kernel), List.mem_of_getElem? (i := 1481) (by decide +kernel)⟩
theorem lw_p72 : lw_okq (⟨"WireHouse$Tree", "compareKey", "(III)I"⟩, 12) := ⟨⟨by decide +kernel, by decide +kernel⟩, List.mem_of_getElem? (i := 35) (by decide +kernel), List.mem_of_getElem? (i := 1489) (by decide +kernel), List.mem_of_getElem? (i := 1490) (by decide +kernel)⟩
theorem lw_p73 : lw_okq (⟨"WireHouse$Texts", "string", "(II)V"⟩, 15) := ⟨⟨by decide +kernel, by decide +kernel⟩, List.mem_of_getElem? (i := 371) (by decide +kernel), List.mem_of_getElem? (i := 1519) (by decide +kernel), List.mem_of_getElem? (i := 1520) (by decide +kernel)⟩
theorem lw_p74 : lw_okq (⟨"WireHouse$Texts", "constant", "(II)V"⟩, 15) := ⟨⟨by decide +kernel, by decide +kernel⟩, List.mem_of_getElem? (i := 371) (by decide +kernel), List.mem_of_getElem? (i := 1531) (by decide +kernel), List.mem_of_getElem? (i := 1532) (by decide +kernel)⟩
theorem lw_p75 : lw_okq (⟨"WireHouse$Texts", "integer", "(II)V"⟩, 15) := ⟨⟨by decide +kernel, by decide +kernel⟩, List.mem_of_getElem? (i := 371) (by decide +kernel), List.mem_of_getElem? (i := 1537) (by decide +kernel), List.mem_of_getElem? (i := 1538) (by decide +kernel)⟩
theorem lw_p76 : lw_okq (⟨"WireHouse$Texts", "integerValue", "()J"⟩, 15) := ⟨⟨by decide +kernel, by decide +kernel⟩, List.mem_of_getElem? (i := 371) (by decide +kernel), List.mem_of_getElem? (i := 1541) (by decide +kernel), List.mem_of_getElem? (i := 1542) (by decide +kernel)⟩
theorem lw_p77 : lw_okq (⟨"WireHouse$Texts", "finishText", "()V"⟩, 15) := ⟨⟨by decide +kernel, by decide +kernel⟩, List.mem_of_getElem? (i := 371) (by decide +kernel), List.mem_of_getElem? (i := 1547) (by decide +kernel), List.mem_of_getElem? (i := 1548) (by decide +kernel)⟩
theorem lw_p78 : lw_okq (⟨"WireHouse", "finish", "(IIII)I"⟩, 19) := ⟨⟨by decide +kernel, by decide +kernel⟩, List.mem_of_getElem? (i := 22) (by decide +kernel), List.mem_of_getElem? (i := 1551) (by decide +kernel), List.mem_of_getElem? (i := 1552) (by decide +kernel)⟩
theorem lw_p79 : lw_okq (⟨"WireHouse$Tree", "tallyBelow", "(III)V"⟩, 12) := ⟨⟨by decide +kernel, by decide +kernel⟩, List.mem_of_getElem? (i := 35) (by decide +kernel), List.mem_of_getElem? (i := 1559) (by decide +kernel), List.mem_of_getElem? (i := 1560) (by decide +kernel)⟩
def lw_privs_5 : List (MethodName × Nat) := [(⟨"WireHouse$Texts", "single", "(IIII)V"⟩, 15), (⟨"WireHouse$Texts", "recordText", "(III)V"⟩, 15), (⟨"WireHouse$Texts", "fieldAtToken", "(III)I"⟩, 15), (⟨"WireHouse$Texts", "expect", "(I)V"⟩, 15), (⟨"WireHouse$Tree", "enter", "(II)I"⟩, 12), (⟨"WireHouse$Texts", "whole", "(IIII)V"⟩, 15), (⟨"WireHouse$Texts", "list", "(IIII)V"⟩, 15), (⟨"WireHouse$Texts", "map", "(IIII)V"⟩, 15), (⟨"WireHouse$Tree", "compareKey", "(III)I"⟩, 12), (⟨"WireHouse$Texts", "string", "(II)V"⟩, 15), (⟨"WireHouse$Texts", "constant", "(II)V"⟩, 15), (⟨"WireHouse$Texts", "integer", "(II)V"⟩, 15), (⟨"WireHouse$Texts", "integerValue", "()J"⟩, 15), (⟨"WireHouse$Texts", "finishText", "()V"⟩, 15), (⟨"WireHouse", "finish", "(IIII)I"⟩, 19), (⟨"WireHouse$Tree", "tallyBelow", "(III)V"⟩, 12)]
theorem lw_r5 : ∀ q ∈ lw_privs_5, lw_okq q := List.forall_mem_cons.mpr ⟨lw_p64, List.forall_mem_cons.mpr ⟨lw_p65, List.forall_mem_cons.mpr ⟨lw_p66, List.forall_mem_cons.mpr ⟨lw_p67, List.forall_mem_cons.mpr ⟨lw_p68, List.forall_mem_cons.mpr ⟨lw_p69, List.forall_mem_cons.mpr ⟨lw_p70, List.forall_mem_cons.mpr ⟨lw_p71, List.forall_mem_cons.mpr ⟨lw_p72, List.forall_mem_cons.mpr ⟨lw_p73, List.forall_mem_cons.mpr ⟨lw_p74, List.forall_mem_cons.mpr ⟨lw_p75, List.forall_mem_cons.mpr ⟨lw_p76, List.forall_mem_cons.mpr ⟨lw_p77, List.forall_mem_cons.mpr ⟨lw_p78, List.forall_mem_cons.mpr ⟨lw_p79, fun _ h => absurd h List.not_mem_nil⟩⟩⟩⟩⟩⟩⟩⟩⟩⟩⟩⟩⟩⟩⟩⟩
theorem lw_p80 : lw_okq (⟨"WireHouse$Tree", "branch", "(LWireHouse$Tree;III)V"⟩, 12) := ⟨⟨by decide +kernel, by decide +kernel⟩, List.mem_of_getElem? (i := 35) (by decide +kernel), List.mem_of_getElem? (i := 1573) (by decide +kernel), List.mem_of_getElem? (i := 1574) (by decide +kernel)⟩
theorem lw_p81 : lw_okq (⟨"WireHouse", "schemaOf", "(I)LWireHouse$Schema;"⟩, 19) := ⟨⟨by decide +kernel, by decide +kernel⟩, List.mem_of_getElem? (i := 22) (by decide +kernel), List.mem_of_getElem? (i := 1591) (by decide +kernel), List.mem_of_getElem? (i := 1592) (by decide +kernel)⟩
theorem lw_p82 : lw_okq (⟨"WireHouse$Texts", "printRecord", "(III)V"⟩, 15) := ⟨⟨by decide +kernel, by decide +kernel⟩, List.mem_of_getElem? (i := 371) (by decide +kernel), List.mem_of_getElem? (i := 1602) (by decide +kernel), List.mem_of_getElem? (i := 1603) (by decide +kernel)⟩
theorem lw_p83 : lw_okq (⟨"WireHouse$Texts", "printField", "(IIII)V"⟩, 15) := ⟨⟨by decide +kernel, by decide +kernel⟩, List.mem_of_getElem? (i := 371) (by decide +kernel), List.mem_of_getElem? (i := 1612) (by decide +kernel), List.mem_of_getElem? (i := 1613) (by decide +kernel)⟩
theorem lw_p84 : lw_okq (⟨"WireHouse$Texts", "printValue", "(IIII)V"⟩, 15) := ⟨⟨by decide +kernel, by decide +kernel⟩, List.mem_of_getElem? (i := 371) (by decide +kernel), List.mem_of_getElem? (i := 1616) (by decide +kernel), List.mem_of_getElem? (i := 1617) (by decide +kernel)⟩
theorem lw_p85 : lw_okq (⟨"WireHouse$Texts", "printString", "(II)V"⟩, 15) := ⟨⟨by decide +kernel, by decide +kernel⟩, List.mem_of_getElem? (i := 371) (by decide +kernel), List.mem_of_getElem? (i := 1620) (by decide +kernel), List.mem_of_getElem? (i := 1621) (by decide +kernel)⟩
theorem lw_p86 : lw_okq (⟨"WireHouse$Texts", "printHex", "(I)V"⟩, 15) := ⟨⟨by decide +kernel, by decide +kernel⟩, List.mem_of_getElem? (i := 371) (by decide +kernel), List.mem_of_getElem? (i := 1625) (by decide +kernel), List.mem_of_getElem? (i := 1626) (by decide +kernel)⟩
theorem lw_p87 : lw_okq (⟨"WireHouse$Texts", "printWord", "(Ljava/lang/String;)V"⟩, 15) := ⟨⟨by decide +kernel, by decide +kernel⟩, List.mem_of_getElem? (i := 371) (by decide +kernel), List.mem_of_getElem? (i := 1632) (by decide +kernel), List.mem_of_getElem? (i := 1633) (by decide +kernel)⟩
theorem lw_p88 : lw_okq (⟨"WireHouse$Texts", "printNumber", "(JI)V"⟩, 15) := ⟨⟨by decide +kernel, by decide +kernel⟩, List.mem_of_getElem? (i := 371) (by decide +kernel), List.mem_of_getElem? (i := 1643) (by decide +kernel), List.mem_of_getElem? (i := 1644) (by decide +kernel)⟩
theorem lw_p89 : lw_okq (⟨"WireHouse$Texts", "printKey", "(II)V"⟩, 15) := ⟨⟨by decide +kernel, by decide +kernel⟩, List.mem_of_getElem? (i := 371) (by decide +kernel), List.mem_of_getElem? (i := 1650) (by decide +kernel), List.mem_of_getElem? (i := 1651) (by decide +kernel)⟩
theorem lw_p90 : lw_okq (⟨"WireHouse", "copyWire", "(I)I"⟩, 19) := ⟨⟨by decide +kernel, by decide +kernel⟩, List.mem_of_getElem? (i := 22) (by decide +kernel), List.mem_of_getElem? (i := 1655) (by decide +kernel), List.mem_of_getElem? (i := 1656) (by decide +kernel)⟩
theorem lw_p91 : lw_okq (⟨"WireHouse", "isOneRecord", "(II)Z"⟩, 19) := ⟨⟨by decide +kernel, by decide +kernel⟩, List.mem_of_getElem? (i := 22) (by decide +kernel), List.mem_of_getElem? (i := 1679) (by decide +kernel), List.mem_of_getElem? (i := 1680) (by decide +kernel)⟩
theorem lw_p92 : lw_okq (⟨"WireHouse", "giveWire", "(LWireHouse$Schema;LWireHouse$Tree;I)Z"⟩, 19) := ⟨⟨by decide +kernel, by decide +kernel⟩, List.mem_of_getElem? (i := 22) (by decide +kernel), List.mem_of_getElem? (i := 1697) (by decide +kernel), List.mem_of_getElem? (i := 1698) (by decide +kernel)⟩
theorem lw_p93 : lw_okq (⟨"WireHouse$Serial", "begin", "(LWireHouse$Schema;LWireHouse$Tree;LWireHouse$Bytes;)V"⟩, 8) := ⟨⟨by decide +kernel, by decide +kernel⟩, List.mem_of_getElem? (i := 425) (by decide +kernel), List.mem_of_getElem? (i := 1705) (by decide +kernel), List.mem_of_getElem? (i := 1706) (by decide +kernel)⟩
theorem lw_p94 : lw_okq (⟨"WireHouse$Serial", "streamOut", "(III)V"⟩, 8) := ⟨⟨by decide +kernel, by decide +kernel⟩, List.mem_of_getElem? (i := 425) (by decide +kernel), List.mem_of_getElem? (i := 1710) (by decide +kernel), List.mem_of_getElem? (i := 1711) (by decide +kernel)⟩
theorem lw_p95 : lw_okq (⟨"WireHouse$Serial", "entriesOut", "(IIII)V"⟩, 8) := ⟨⟨by decide +kernel, by decide +kernel⟩, List.mem_of_getElem? (i := 425) (by decide +kernel), List.mem_of_getElem? (i := 1726) (by decide +kernel), List.mem_of_getElem? (i := 1727) (by decide +kernel)⟩
def lw_privs_6 : List (MethodName × Nat) := [(⟨"WireHouse$Tree", "branch", "(LWireHouse$Tree;III)V"⟩, 12), (⟨"WireHouse", "schemaOf", "(I)LWireHouse$Schema;"⟩, 19), (⟨"WireHouse$Texts", "printRecord", "(III)V"⟩, 15), (⟨"WireHouse$Texts", "printField", "(IIII)V"⟩, 15), (⟨"WireHouse$Texts", "printValue", "(IIII)V"⟩, 15), (⟨"WireHouse$Texts", "printString", "(II)V"⟩, 15), (⟨"WireHouse$Texts", "printHex", "(I)V"⟩, 15), (⟨"WireHouse$Texts", "printWord", "(Ljava/lang/String;)V"⟩, 15), (⟨"WireHouse$Texts", "printNumber", "(JI)V"⟩, 15), (⟨"WireHouse$Texts", "printKey", "(II)V"⟩, 15), (⟨"WireHouse", "copyWire", "(I)I"⟩, 19), (⟨"WireHouse", "isOneRecord", "(II)Z"⟩, 19), (⟨"WireHouse", "giveWire", "(LWireHouse$Schema;LWireHouse$Tree;I)Z"⟩, 19), (⟨"WireHouse$Serial", "begin", "(LWireHouse$Schema;LWireHouse$Tree;LWireHouse$Bytes;)V"⟩, 8), (⟨"WireHouse$Serial", "streamOut", "(III)V"⟩, 8), (⟨"WireHouse$Serial", "entriesOut", "(IIII)V"⟩, 8)]
theorem lw_r6 : ∀ q ∈ lw_privs_6, lw_okq q := List.forall_mem_cons.mpr ⟨lw_p80, List.forall_mem_cons.mpr ⟨lw_p81, List.forall_mem_cons.mpr ⟨lw_p82, List.forall_mem_cons.mpr ⟨lw_p83, List.forall_mem_cons.mpr ⟨lw_p84, List.forall_mem_cons.mpr ⟨lw_p85, List.forall_mem_cons.mpr ⟨lw_p86, List.forall_mem_cons.mpr ⟨lw_p87, List.forall_mem_cons.mpr ⟨lw_p88, List.forall_mem_cons.mpr ⟨lw_p89, List.forall_mem_cons.mpr ⟨lw_p90, List.forall_mem_cons.mpr ⟨lw_p91, List.forall_mem_cons.mpr ⟨lw_p92, List.forall_mem_cons.mpr ⟨lw_p93, List.forall_mem_cons.mpr ⟨lw_p94, List.forall_mem_cons.mpr ⟨lw_p95, fun _ h => absurd h List.not_mem_nil⟩⟩⟩⟩⟩⟩⟩⟩⟩⟩⟩⟩⟩⟩⟩⟩
theorem lw_p96 : lw_okq (⟨"WireHouse$Serial", "numberOut", "(JI)V"⟩, 8) := ⟨⟨by decide +kernel, by decide +kernel⟩, List.mem_of_getElem? (i := 425) (by decide +kernel), List.mem_of_getElem? (i := 1736) (by decide +kernel), List.mem_of_getElem? (i := 1737) (by decide +kernel)⟩
theorem lw_p97 : lw_okq (⟨"WireHouse$Serial", "keyedOut", "(IJIII)V"⟩, 8) := ⟨⟨by decide +kernel, by decide +kernel⟩, List.mem_of_getElem? (i := 425) (by decide +kernel), List.mem_of_getElem? (i := 1744) (by decide +kernel), List.mem_of_getElem? (i := 1745) (by decide +kernel)⟩
theorem lw_p98 : lw_okq (⟨"WireHouse$Serial", "itemsOut", "(IIII)V"⟩, 8) := ⟨⟨by decide +kernel, by decide +kernel⟩, List.mem_of_getElem? (i := 425) (by decide +kernel), List.mem_of_getElem? (i := 1754) (by decide +kernel), List.mem_of_getElem? (i := 1755) (by decide +kernel)⟩
theorem lw_p99 : lw_okq (⟨"WireHouse$Serial", "linearOut", "(III)V"⟩, 8) := ⟨⟨by decide +kernel, by decide +kernel⟩, List.mem_of_getElem? (i := 425) (by decide +kernel), List.mem_of_getElem? (i := 1762) (by decide +kernel), List.mem_of_getElem? (i := 1763) (by decide +kernel)⟩
theorem lw_p100 : lw_okq (⟨"WireHouse$Serial", "oneOut", "(IIII)V"⟩, 8) := ⟨⟨by decide +kernel, by decide +kernel⟩, List.mem_of_getElem? (i := 425) (by decide +kernel), List.mem_of_getElem? (i := 1771) (by decide +kernel), List.mem_of_getElem? (i := 1772) (by decide +kernel)⟩
theorem lw_p101 : lw_okq (⟨"WireHouse$Serial", "valueOut", "(IIII)V"⟩, 8) := ⟨⟨by decide +kernel, by decide +kernel⟩, List.mem_of_getElem? (i := 425) (by decide +kernel), List.mem_of_getElem? (i := 1776) (by decide +kernel), List.mem_of_getElem? (i := 1777) (by decide +kernel)⟩
theorem lw_p102 : lw_okq (⟨"WireHouse$Serial", "linearNumberOut", "(JII)V"⟩, 8) := ⟨⟨by decide +kernel, by decide +kernel⟩, List.mem_of_getElem? (i := 425) (by decide +kernel), List.mem_of_getElem? (i := 1780) (by decide +kernel), List.mem_of_getElem? (i := 1781) (by decide +kernel)⟩
theorem lw_p103 : lw_okq (⟨"WireHouse$Serial", "stringOut", "(LWireHouse$Bytes;II)V"⟩, 8) := ⟨⟨by decide +kernel, by decide +kernel⟩, List.mem_of_getElem? (i := 425) (by decide +kernel), List.mem_of_getElem? (i := 1785) (by decide +kernel), List.mem_of_getElem? (i := 1786) (by decide +kernel)⟩
theorem lw_p104 : lw_okq (⟨"WireHouse$Serial", "linearItemsOut", "(IIII)V"⟩, 8) := ⟨⟨by decide +kernel, by decide +kernel⟩, List.mem_of_getElem? (i := 425) (by decide +kernel), List.mem_of_getElem? (i := 1790) (by decide +kernel), List.mem_of_getElem? (i := 1791) (by decide +kernel)⟩
theorem lw_p105 : lw_okq (⟨"WireHouse$Serial", "defaultOut", "(II)V"⟩, 8) := ⟨⟨by decide +kernel, by decide +kernel⟩, List.mem_of_getElem? (i := 425) (by decide +kernel), List.mem_of_getElem? (i := 1799) (by decide +kernel), List.mem_of_getElem? (i := 1800) (by decide +kernel)⟩
theorem lw_p106 : lw_okq (⟨"WireHouse$Slotted", "begin", "(LWireHouse$Schema;LWireHouse$Tree;LWireHouse$Bytes;)V"⟩, 14) := ⟨⟨by decide +kernel, by decide +kernel⟩, List.mem_of_getElem? (i := 457) (by decide +kernel), List.mem_of_getElem? (i := 1807) (by decide +kernel), List.mem_of_getElem? (i := 1808) (by decide +kernel)⟩
theorem lw_p107 : lw_okq (⟨"WireHouse$Slotted", "claim", "(J)I"⟩, 14) := ⟨⟨by decide +kernel, by decide +kernel⟩, List.mem_of_getElem? (i := 457) (by decide +kernel), List.mem_of_getElem? (i := 1812) (by decide +kernel), List.mem_of_getElem? (i := 1813) (by decide +kernel)⟩
theorem lw_p108 : lw_okq (⟨"WireHouse$Slotted", "recordOut", "(IIII)V"⟩, 14) := ⟨⟨by decide +kernel, by decide +kernel⟩, List.mem_of_getElem? (i := 457) (by decide +kernel), List.mem_of_getElem? (i := 1818) (by decide +kernel), List.mem_of_getElem? (i := 1819) (by decide +kernel)⟩
theorem lw_p109 : lw_okq (⟨"WireHouse$Slotted", "putBits", "(IIIJ)V"⟩, 14) := ⟨⟨by decide +kernel, by decide +kernel⟩, List.mem_of_getElem? (i := 457) (by decide +kernel), List.mem_of_getElem? (i := 1830) (by decide +kernel), List.mem_of_getElem? (i := 1831) (by decide +kernel)⟩
theorem lw_p110 : lw_okq (⟨"WireHouse$Slotted", "dataOut", "(III)V"⟩, 14) := ⟨⟨by decide +kernel, by decide +kernel⟩, List.mem_of_getElem? (i := 457) (by decide +kernel), List.mem_of_getElem? (i := 1840) (by decide +kernel), List.mem_of_getElem? (i := 1841) (by decide +kernel)⟩
theorem lw_p111 : lw_okq (⟨"WireHouse$Slotted", "pointersOut", "(IIII)V"⟩, 14) := ⟨⟨by decide +kernel, by decide +kernel⟩, List.mem_of_getElem? (i := 457) (by decide +kernel), List.mem_of_getElem? (i := 1852) (by decide +kernel), List.mem_of_getElem? (i := 1853) (by decide +kernel)⟩
def lw_privs_7 : List (MethodName × Nat) := [(⟨"WireHouse$Serial", "numberOut", "(JI)V"⟩, 8), (⟨"WireHouse$Serial", "keyedOut", "(IJIII)V"⟩, 8), (⟨"WireHouse$Serial", "itemsOut", "(IIII)V"⟩, 8), (⟨"WireHouse$Serial", "linearOut", "(III)V"⟩, 8), (⟨"WireHouse$Serial", "oneOut", "(IIII)V"⟩, 8), (⟨"WireHouse$Serial", "valueOut", "(IIII)V"⟩, 8), (⟨"WireHouse$Serial", "linearNumberOut", "(JII)V"⟩, 8), (⟨"WireHouse$Serial", "stringOut", "(LWireHouse$Bytes;II)V"⟩, 8), (⟨"WireHouse$Serial", "linearItemsOut", "(IIII)V"⟩, 8), (⟨"WireHouse$Serial", "defaultOut", "(II)V"⟩, 8), (⟨"WireHouse$Slotted", "begin", "(LWireHouse$Schema;LWireHouse$Tree;LWireHouse$Bytes;)V"⟩, 14), (⟨"WireHouse$Slotted", "claim", "(J)I"⟩, 14), (⟨"WireHouse$Slotted", "recordOut", "(IIII)V"⟩, 14), (⟨"WireHouse$Slotted", "putBits", "(IIIJ)V"⟩, 14), (⟨"WireHouse$Slotted", "dataOut", "(III)V"⟩, 14), (⟨"WireHouse$Slotted", "pointersOut", "(IIII)V"⟩, 14)]
theorem lw_r7 : ∀ q ∈ lw_privs_7, lw_okq q := List.forall_mem_cons.mpr ⟨lw_p96, List.forall_mem_cons.mpr ⟨lw_p97, List.forall_mem_cons.mpr ⟨lw_p98, List.forall_mem_cons.mpr ⟨lw_p99, List.forall_mem_cons.mpr ⟨lw_p100, List.forall_mem_cons.mpr ⟨lw_p101, List.forall_mem_cons.mpr ⟨lw_p102, List.forall_mem_cons.mpr ⟨lw_p103, List.forall_mem_cons.mpr ⟨lw_p104, List.forall_mem_cons.mpr ⟨lw_p105, List.forall_mem_cons.mpr ⟨lw_p106, List.forall_mem_cons.mpr ⟨lw_p107, List.forall_mem_cons.mpr ⟨lw_p108, List.forall_mem_cons.mpr ⟨lw_p109, List.forall_mem_cons.mpr ⟨lw_p110, List.forall_mem_cons.mpr ⟨lw_p111, fun _ h => absurd h List.not_mem_nil⟩⟩⟩⟩⟩⟩⟩⟩⟩⟩⟩⟩⟩⟩⟩⟩
theorem lw_p112 : lw_okq (⟨"WireHouse$Slotted", "objectOut", "(IIIII)V"⟩, 14) := ⟨⟨by decide +kernel, by decide +kernel⟩, List.mem_of_getElem? (i := 457) (by decide +kernel), List.mem_of_getElem? (i := 1856) (by decide +kernel), List.mem_of_getElem? (i := 1857) (by decide +kernel)⟩
theorem lw_p113 : lw_okq (⟨"WireHouse$Slotted", "mapOut", "(IIIII)V"⟩, 14) := ⟨⟨by decide +kernel, by decide +kernel⟩, List.mem_of_getElem? (i := 457) (by decide +kernel), List.mem_of_getElem? (i := 1860) (by decide +kernel), List.mem_of_getElem? (i := 1861) (by decide +kernel)⟩
theorem lw_p114 : lw_okq (⟨"WireHouse$Slotted", "recordListOut", "(IIII)I"⟩, 14) := ⟨⟨by decide +kernel, by decide +kernel⟩, List.mem_of_getElem? (i := 457) (by decide +kernel), List.mem_of_getElem? (i := 1876) (by decide +kernel), List.mem_of_getElem? (i := 1877) (by decide +kernel)⟩
theorem lw_p115 : lw_okq (⟨"WireHouse$Slotted", "stringOut", "(IIII)V"⟩, 14) := ⟨⟨by decide +kernel, by decide +kernel⟩, List.mem_of_getElem? (i := 457) (by decide +kernel), List.mem_of_getElem? (i := 1881) (by decide +kernel), List.mem_of_getElem? (i := 1882) (by decide +kernel)⟩
theorem lw_p116 : lw_okq (⟨"WireHouse$Slotted", "valueOut", "(IIIIZI)V"⟩, 14) := ⟨⟨by decide +kernel, by decide +kernel⟩, List.mem_of_getElem? (i := 457) (by decide +kernel), List.mem_of_getElem? (i := 1894) (by decide +kernel), List.mem_of_getElem? (i := 1895) (by decide +kernel)⟩
theorem lw_p117 : lw_okq (⟨"WireHouse$Slotted", "listOut", "(IIIII)V"⟩, 14) := ⟨⟨by decide +kernel, by decide +kernel⟩, List.mem_of_getElem? (i := 457) (by decide +kernel), List.mem_of_getElem? (i := 1898) (by decide +kernel), List.mem_of_getElem? (i := 1899) (by decide +kernel)⟩
theorem lw_p118 : lw_okq (⟨"WireHouse$Slotted", "recordsOut", "(IIIII)V"⟩, 14) := ⟨⟨by decide +kernel, by decide +kernel⟩, List.mem_of_getElem? (i := 457) (by decide +kernel), List.mem_of_getElem? (i := 1905) (by decide +kernel), List.mem_of_getElem? (i := 1906) (by decide +kernel)⟩
theorem lw_p119 : lw_okq (⟨"WireHouse", "takeWire", "(IIILWireHouse$Bytes;)I"⟩, 19) := ⟨⟨by decide +kernel, by decide +kernel⟩, List.mem_of_getElem? (i := 22) (by decide +kernel), List.mem_of_getElem? (i := 1913) (by decide +kernel), List.mem_of_getElem? (i := 1914) (by decide +kernel)⟩
theorem lw_p120 : lw_okq (⟨"WireHouse$Serial", "streamRecord", "(IIII)V"⟩, 8) := ⟨⟨by decide +kernel, by decide +kernel⟩, List.mem_of_getElem? (i := 425) (by decide +kernel), List.mem_of_getElem? (i := 1922) (by decide +kernel), List.mem_of_getElem? (i := 1923) (by decide +kernel)⟩
theorem lw_p121 : lw_okq (⟨"WireHouse$Serial", "streamKey", "(I)J"⟩, 8) := ⟨⟨by decide +kernel, by decide +kernel⟩, List.mem_of_getElem? (i := 425) (by decide +kernel), List.mem_of_getElem? (i := 1927) (by decide +kernel), List.mem_of_getElem? (i := 1928) (by decide +kernel)⟩
theorem lw_p122 : lw_okq (⟨"WireHouse$Serial", "varint", "(I)J"⟩, 8) := ⟨⟨by decide +kernel, by decide +kernel⟩, List.mem_of_getElem? (i := 425) (by decide +kernel), List.mem_of_getElem? (i := 1931) (by decide +kernel), List.mem_of_getElem? (i := 1932) (by decide +kernel)⟩
theorem lw_p123 : lw_okq (⟨"WireHouse$Serial", "fail", "(II)V"⟩, 8) := ⟨⟨by decide +kernel, by decide +kernel⟩, List.mem_of_getElem? (i := 425) (by decide +kernel), List.mem_of_getElem? (i := 1937) (by decide +kernel), List.mem_of_getElem? (i := 1938) (by decide +kernel)⟩
theorem lw_p124 : lw_okq (⟨"WireHouse$Serial", "isWireOf", "(III)Z"⟩, 8) := ⟨⟨by decide +kernel, by decide +kernel⟩, List.mem_of_getElem? (i := 425) (by decide +kernel), List.mem_of_getElem? (i := 1942) (by decide +kernel), List.mem_of_getElem? (i := 1943) (by decide +kernel)⟩
theorem lw_p125 : lw_okq (⟨"WireHouse$Serial", "skipValue", "(II)V"⟩, 8) := ⟨⟨by decide +kernel, by decide +kernel⟩, List.mem_of_getElem? (i := 425) (by decide +kernel), List.mem_of_getElem? (i := 1946) (by decide +kernel), List.mem_of_getElem? (i := 1947) (by decide +kernel)⟩
theorem lw_p126 : lw_okq (⟨"WireHouse$Serial", "streamLength", "(I)I"⟩, 8) := ⟨⟨by decide +kernel, by decide +kernel⟩, List.mem_of_getElem? (i := 425) (by decide +kernel), List.mem_of_getElem? (i := 1950) (by decide +kernel), List.mem_of_getElem? (i := 1951) (by decide +kernel)⟩
theorem lw_p127 : lw_okq (⟨"WireHouse$Serial", "fewBytes", "(II)J"⟩, 8) := ⟨⟨by decide +kernel, by decide +kernel⟩, List.mem_of_getElem? (i := 425) (by decide +kernel), List.mem_of_getElem? (i := 1954) (by decide +kernel), List.mem_of_getElem? (i := 1955) (by decide +kernel)⟩
def lw_privs_8 : List (MethodName × Nat) := [(⟨"WireHouse$Slotted", "objectOut", "(IIIII)V"⟩, 14), (⟨"WireHouse$Slotted", "mapOut", "(IIIII)V"⟩, 14), (⟨"WireHouse$Slotted", "recordListOut", "(IIII)I"⟩, 14), (⟨"WireHouse$Slotted", "stringOut", "(IIII)V"⟩, 14), (⟨"WireHouse$Slotted", "valueOut", "(IIIIZI)V"⟩, 14), (⟨"WireHouse$Slotted", "listOut", "(IIIII)V"⟩, 14), (⟨"WireHouse$Slotted", "recordsOut", "(IIIII)V"⟩, 14), (⟨"WireHouse", "takeWire", "(IIILWireHouse$Bytes;)I"⟩, 19), (⟨"WireHouse$Serial", "streamRecord", "(IIII)V"⟩, 8), (⟨"WireHouse$Serial", "streamKey", "(I)J"⟩, 8), (⟨"WireHouse$Serial", "varint", "(I)J"⟩, 8), (⟨"WireHouse$Serial", "fail", "(II)V"⟩, 8), (⟨"WireHouse$Serial", "isWireOf", "(III)Z"⟩, 8), (⟨"WireHouse$Serial", "skipValue", "(II)V"⟩, 8), (⟨"WireHouse$Serial", "streamLength", "(I)I"⟩, 8), (⟨"WireHouse$Serial", "fewBytes", "(II)J"⟩, 8)]
theorem lw_r8 : ∀ q ∈ lw_privs_8, lw_okq q := List.forall_mem_cons.mpr ⟨lw_p112, List.forall_mem_cons.mpr ⟨lw_p113, List.forall_mem_cons.mpr ⟨lw_p114, List.forall_mem_cons.mpr ⟨lw_p115, List.forall_mem_cons.mpr ⟨lw_p116, List.forall_mem_cons.mpr ⟨lw_p117, List.forall_mem_cons.mpr ⟨lw_p118, List.forall_mem_cons.mpr ⟨lw_p119, List.forall_mem_cons.mpr ⟨lw_p120, List.forall_mem_cons.mpr ⟨lw_p121, List.forall_mem_cons.mpr ⟨lw_p122, List.forall_mem_cons.mpr ⟨lw_p123, List.forall_mem_cons.mpr ⟨lw_p124, List.forall_mem_cons.mpr ⟨lw_p125, List.forall_mem_cons.mpr ⟨lw_p126, List.forall_mem_cons.mpr ⟨lw_p127, fun _ h => absurd h List.not_mem_nil⟩⟩⟩⟩⟩⟩⟩⟩⟩⟩⟩⟩⟩⟩⟩⟩
theorem lw_p128 : lw_okq (⟨"WireHouse$Serial", "streamEntry", "(IIIIII)V"⟩, 8) := ⟨⟨by decide +kernel, by decide +kernel⟩, List.mem_of_getElem? (i := 425) (by decide +kernel), List.mem_of_getElem? (i := 1966) (by decide +kernel), List.mem_of_getElem? (i := 1967) (by decide +kernel)⟩
theorem lw_p129 : lw_okq (⟨"WireHouse$Serial", "streamValue", "(IIIIII)V"⟩, 8) := ⟨⟨by decide +kernel, by decide +kernel⟩, List.mem_of_getElem? (i := 425) (by decide +kernel), List.mem_of_getElem? (i := 1973) (by decide +kernel), List.mem_of_getElem? (i := 1974) (by decide +kernel)⟩
theorem lw_p130 : lw_okq (⟨"WireHouse$Serial", "streamNumber", "(II)J"⟩, 8) := ⟨⟨by decide +kernel, by decide +kernel⟩, List.mem_of_getElem? (i := 425) (by decide +kernel), List.mem_of_getElem? (i := 1977) (by decide +kernel), List.mem_of_getElem? (i := 1978) (by decide +kernel)⟩
theorem lw_p131 : lw_okq (⟨"WireHouse$Serial", "streamItems", "(IIIIIII)V"⟩, 8) := ⟨⟨by decide +kernel, by decide +kernel⟩, List.mem_of_getElem? (i := 425) (by decide +kernel), List.mem_of_getElem? (i := 1990) (by decide +kernel), List.mem_of_getElem? (i := 1991) (by decide +kernel)⟩
theorem lw_p132 : lw_okq (⟨"WireHouse$Serial", "linearRecord", "(III)V"⟩, 8) := ⟨⟨by decide +kernel, by decide +kernel⟩, List.mem_of_getElem? (i := 425) (by decide +kernel), List.mem_of_getElem? (i := 2000) (by decide +kernel), List.mem_of_getElem? (i := 2001) (by decide +kernel)⟩
theorem lw_p133 : lw_okq (⟨"WireHouse$Serial", "linearOne", "(IIII)V"⟩, 8) := ⟨⟨by decide +kernel, by decide +kernel⟩, List.mem_of_getElem? (i := 425) (by decide +kernel), List.mem_of_getElem? (i := 2004) (by decide +kernel), List.mem_of_getElem? (i := 2005) (by decide +kernel)⟩
theorem lw_p134 : lw_okq (⟨"WireHouse$Serial", "linearBig", "(I)J"⟩, 8) := ⟨⟨by decide +kernel, by decide +kernel⟩, List.mem_of_getElem? (i := 425) (by decide +kernel), List.mem_of_getElem? (i := 2008) (by decide +kernel), List.mem_of_getElem? (i := 2009) (by decide +kernel)⟩
theorem lw_p135 : lw_okq (⟨"WireHouse$Serial", "linearField", "(IIII)V"⟩, 8) := ⟨⟨by decide +kernel, by decide +kernel⟩, List.mem_of_getElem? (i := 425) (by decide +kernel), List.mem_of_getElem? (i := 2016) (by decide +kernel), List.mem_of_getElem? (i := 2017) (by decide +kernel)⟩
theorem lw_p136 : lw_okq (⟨"WireHouse$Serial", "linearValue", "(IIII)V"⟩, 8) := ⟨⟨by decide +kernel, by decide +kernel⟩, List.mem_of_getElem? (i := 425) (by decide +kernel), List.mem_of_getElem? (i := 2020) (by decide +kernel), List.mem_of_getElem? (i := 2021) (by decide +kernel)⟩
theorem lw_p137 : lw_okq (⟨"WireHouse$Serial", "linearString", "(II)V"⟩, 8) := ⟨⟨by decide +kernel, by decide +kernel⟩, List.mem_of_getElem? (i := 425) (by decide +kernel), List.mem_of_getElem? (i := 2024) (by decide +kernel), List.mem_of_getElem? (i := 2025) (by decide +kernel)⟩
theorem lw_p138 : lw_okq (⟨"WireHouse$Serial", "isThere", "()Z"⟩, 8) := ⟨⟨by decide +kernel, by decide +kernel⟩, List.mem_of_getElem? (i := 425) (by decide +kernel), List.mem_of_getElem? (i := 2029) (by decide +kernel), List.mem_of_getElem? (i := 2030) (by decide +kernel)⟩
theorem lw_p139 : lw_okq (⟨"WireHouse$Serial", "linearItems", "(IIII)V"⟩, 8) := ⟨⟨by decide +kernel, by decide +kernel⟩, List.mem_of_getElem? (i := 425) (by decide +kernel), List.mem_of_getElem? (i := 2033) (by decide +kernel), List.mem_of_getElem? (i := 2034) (by decide +kernel)⟩
theorem lw_p140 : lw_okq (⟨"WireHouse$Serial", "linearKey", "(II)I"⟩, 8) := ⟨⟨by decide +kernel, by decide +kernel⟩, List.mem_of_getElem? (i := 425) (by decide +kernel), List.mem_of_getElem? (i := 2037) (by decide +kernel), List.mem_of_getElem? (i := 2038) (by decide +kernel)⟩
theorem lw_p141 : lw_okq (⟨"WireHouse$Slotted", "fail", "(II)V"⟩, 14) := ⟨⟨by decide +kernel, by decide +kernel⟩, List.mem_of_getElem? (i := 457) (by decide +kernel), List.mem_of_getElem? (i := 2050) (by decide +kernel), List.mem_of_getElem? (i := 2051) (by decide +kernel)⟩
theorem lw_p142 : lw_okq (⟨"WireHouse$Slotted", "wordAt", "(J)J"⟩, 14) := ⟨⟨by decide +kernel, by decide +kernel⟩, List.mem_of_getElem? (i := 457) (by decide +kernel), List.mem_of_getElem? (i := 2054) (by decide +kernel), List.mem_of_getElem? (i := 2055) (by decide +kernel)⟩
theorem lw_p143 : lw_okq (⟨"WireHouse$Slotted", "recordIn", "(IIIIII)V"⟩, 14) := ⟨⟨by decide +kernel, by decide +kernel⟩, List.mem_of_getElem? (i := 457) (by decide +kernel), List.mem_of_getElem? (i := 2058) (by decide +kernel), List.mem_of_getElem? (i := 2059) (by decide +kernel)⟩
def lw_privs_9 : List (MethodName × Nat) := [(⟨"WireHouse$Serial", "streamEntry", "(IIIIII)V"⟩, 8), (⟨"WireHouse$Serial", "streamValue", "(IIIIII)V"⟩, 8), (⟨"WireHouse$Serial", "streamNumber", "(II)J"⟩, 8), (⟨"WireHouse$Serial", "streamItems", "(IIIIIII)V"⟩, 8), (⟨"WireHouse$Serial", "linearRecord", "(III)V"⟩, 8), (⟨"WireHouse$Serial", "linearOne", "(IIII)V"⟩, 8), (⟨"WireHouse$Serial", "linearBig", "(I)J"⟩, 8), (⟨"WireHouse$Serial", "linearField", "(IIII)V"⟩, 8), (⟨"WireHouse$Serial", "linearValue", "(IIII)V"⟩, 8), (⟨"WireHouse$Serial", "linearString", "(II)V"⟩, 8), (⟨"WireHouse$Serial", "isThere", "()Z"⟩, 8), (⟨"WireHouse$Serial", "linearItems", "(IIII)V"⟩, 8), (⟨"WireHouse$Serial", "linearKey", "(II)I"⟩, 8), (⟨"WireHouse$Slotted", "fail", "(II)V"⟩, 14), (⟨"WireHouse$Slotted", "wordAt", "(J)J"⟩, 14), (⟨"WireHouse$Slotted", "recordIn", "(IIIIII)V"⟩, 14)]
theorem lw_r9 : ∀ q ∈ lw_privs_9, lw_okq q := List.forall_mem_cons.mpr ⟨lw_p128, List.forall_mem_cons.mpr ⟨lw_p129, List.forall_mem_cons.mpr ⟨lw_p130, List.forall_mem_cons.mpr ⟨lw_p131, List.forall_mem_cons.mpr ⟨lw_p132, List.forall_mem_cons.mpr ⟨lw_p133, List.forall_mem_cons.mpr ⟨lw_p134, List.forall_mem_cons.mpr ⟨lw_p135, List.forall_mem_cons.mpr ⟨lw_p136, List.forall_mem_cons.mpr ⟨lw_p137, List.forall_mem_cons.mpr ⟨lw_p138, List.forall_mem_cons.mpr ⟨lw_p139, List.forall_mem_cons.mpr ⟨lw_p140, List.forall_mem_cons.mpr ⟨lw_p141, List.forall_mem_cons.mpr ⟨lw_p142, List.forall_mem_cons.mpr ⟨lw_p143, fun _ h => absurd h List.not_mem_nil⟩⟩⟩⟩⟩⟩⟩⟩⟩⟩⟩⟩⟩⟩⟩⟩
theorem lw_p144 : lw_okq (⟨"WireHouse$Slotted", "bitsAt", "(IIII)J"⟩, 14) := ⟨⟨by decide +kernel, by decide +kernel⟩, List.mem_of_getElem? (i := 457) (by decide +kernel), List.mem_of_getElem? (i := 2063) (by decide +kernel), List.mem_of_getElem? (i := 2064) (by decide +kernel)⟩
theorem lw_p145 : lw_okq (⟨"WireHouse$Slotted", "isFlagged", "(IIII)Z"⟩, 14) := ⟨⟨by decide +kernel, by decide +kernel⟩, List.mem_of_getElem? (i := 457) (by decide +kernel), List.mem_of_getElem? (i := 2068) (by decide +kernel), List.mem_of_getElem? (i := 2069) (by decide +kernel)⟩
theorem lw_p146 : lw_okq (⟨"WireHouse$Slotted", "numberAt", "(IIII)J"⟩, 14) := ⟨⟨by decide +kernel, by decide +kernel⟩, List.mem_of_getElem? (i := 457) (by decide +kernel), List.mem_of_getElem? (i := 2073) (by decide +kernel), List.mem_of_getElem? (i := 2074) (by decide +kernel)⟩
theorem lw_p147 : lw_okq (⟨"WireHouse$Slotted", "fieldOfPointer", "(IIII)I"⟩, 14) := ⟨⟨by decide +kernel, by decide +kernel⟩, List.mem_of_getElem? (i := 457) (by decide +kernel), List.mem_of_getElem? (i := 2080) (by decide +kernel), List.mem_of_getElem? (i := 2081) (by decide +kernel)⟩
theorem lw_p148 : lw_okq (⟨"WireHouse$Slotted", "pointerIn", "(IIIIII)V"⟩, 14) := ⟨⟨by decide +kernel, by decide +kernel⟩, List.mem_of_getElem? (i := 457) (by decide +kernel), List.mem_of_getElem? (i := 2084) (by decide +kernel), List.mem_of_getElem? (i := 2085) (by decide +kernel)⟩
theorem lw_p149 : lw_okq (⟨"WireHouse$Slotted", "mapIn", "(IIIII)V"⟩, 14) := ⟨⟨by decide +kernel, by decide +kernel⟩, List.mem_of_getElem? (i := 457) (by decide +kernel), List.mem_of_getElem? (i := 2088) (by decide +kernel), List.mem_of_getElem? (i := 2089) (by decide +kernel)⟩
theorem lw_p150 : lw_okq (⟨"WireHouse$Slotted", "leads", "(II)Z"⟩, 14) := ⟨⟨by decide +kernel, by decide +kernel⟩, List.mem_of_getElem? (i := 457) (by decide +kernel), List.mem_of_getElem? (i := 2092) (by decide +kernel), List.mem_of_getElem? (i := 2093) (by decide +kernel)⟩
theorem lw_p151 : lw_okq (⟨"WireHouse$Slotted", "countItems", "(I)V"⟩, 14) := ⟨⟨by decide +kernel, by decide +kernel⟩, List.mem_of_getElem? (i := 457) (by decide +kernel), List.mem_of_getElem? (i := 2100) (by decide +kernel), List.mem_of_getElem? (i := 2101) (by decide +kernel)⟩
theorem lw_p152 : lw_okq (⟨"WireHouse$Slotted", "leadsOn", "(I)Z"⟩, 14) := ⟨⟨by decide +kernel, by decide +kernel⟩, List.mem_of_getElem? (i := 457) (by decide +kernel), List.mem_of_getElem? (i := 2104) (by decide +kernel), List.mem_of_getElem? (i := 2105) (by decide +kernel)⟩
theorem lw_p153 : lw_okq (⟨"WireHouse$Slotted", "keyIn", "(IIIII)V"⟩, 14) := ⟨⟨by decide +kernel, by decide +kernel⟩, List.mem_of_getElem? (i := 457) (by decide +kernel), List.mem_of_getElem? (i := 2108) (by decide +kernel), List.mem_of_getElem? (i := 2109) (by decide +kernel)⟩
theorem lw_p154 : lw_okq (⟨"WireHouse$Slotted", "valueIn", "(IIIIII)V"⟩, 14) := ⟨⟨by decide +kernel, by decide +kernel⟩, List.mem_of_getElem? (i := 457) (by decide +kernel), List.mem_of_getElem? (i := 2113) (by decide +kernel), List.mem_of_getElem? (i := 2114) (by decide +kernel)⟩
theorem lw_p155 : lw_okq (⟨"WireHouse$Slotted", "stringIn", "(III)V"⟩, 14) := ⟨⟨by decide +kernel, by decide +kernel⟩, List.mem_of_getElem? (i := 457) (by decide +kernel), List.mem_of_getElem? (i := 2117) (by decide +kernel), List.mem_of_getElem? (i := 2118) (by decide +kernel)⟩
theorem lw_p156 : lw_okq (⟨"WireHouse$Slotted", "itemIn", "(IIIIIII)V"⟩, 14) := ⟨⟨by decide +kernel, by decide +kernel⟩, List.mem_of_getElem? (i := 457) (by decide +kernel), List.mem_of_getElem? (i := 2125) (by decide +kernel), List.mem_of_getElem? (i := 2126) (by decide +kernel)⟩
theorem lw_p157 : lw_okq (⟨"WireHouse$Slotted", "listIn", "(IIIII)V"⟩, 14) := ⟨⟨by decide +kernel, by decide +kernel⟩, List.mem_of_getElem? (i := 457) (by decide +kernel), List.mem_of_getElem? (i := 2129) (by decide +kernel), List.mem_of_getElem? (i := 2130) (by decide +kernel)⟩
theorem lw_p158 : lw_okq (⟨"WireHouse$Slotted", "recordsIn", "(IIII)V"⟩, 14) := ⟨⟨by decide +kernel, by decide +kernel⟩, List.mem_of_getElem? (i := 457) (by decide +kernel), List.mem_of_getElem? (i := 2133) (by decide +kernel), List.mem_of_getElem? (i := 2134) (by decide +kernel)⟩
theorem lw_p159 : lw_okq (⟨"WireHouse$Texts", "walk", "(Z)V"⟩, 15) := ⟨⟨by decide +kernel, by decide +kernel⟩, List.mem_of_getElem? (i := 371) (by decide +kernel), List.mem_of_getElem? (i := 2146) (by decide +kernel), List.mem_of_getElem? (i := 2147) (by decide +kernel)⟩
def lw_privs_10 : List (MethodName × Nat) := [(⟨"WireHouse$Slotted", "bitsAt", "(IIII)J"⟩, 14), (⟨"WireHouse$Slotted", "isFlagged", "(IIII)Z"⟩, 14), (⟨"WireHouse$Slotted", "numberAt", "(IIII)J"⟩, 14), (⟨"WireHouse$Slotted", "fieldOfPointer", "(IIII)I"⟩, 14), (⟨"WireHouse$Slotted", "pointerIn", "(IIIIII)V"⟩, 14), (⟨"WireHouse$Slotted", "mapIn", "(IIIII)V"⟩, 14), (⟨"WireHouse$Slotted", "leads", "(II)Z"⟩, 14), (⟨"WireHouse$Slotted", "countItems", "(I)V"⟩, 14), (⟨"WireHouse$Slotted", "leadsOn", "(I)Z"⟩, 14), (⟨"WireHouse$Slotted", "keyIn", "(IIIII)V"⟩, 14), (⟨"WireHouse$Slotted", "valueIn", "(IIIIII)V"⟩, 14), (⟨"WireHouse$Slotted", "stringIn", "(III)V"⟩, 14), (⟨"WireHouse$Slotted", "itemIn", "(IIIIIII)V"⟩, 14), (⟨"WireHouse$Slotted", "listIn", "(IIIII)V"⟩, 14), (⟨"WireHouse$Slotted", "recordsIn", "(IIII)V"⟩, 14), (⟨"WireHouse$Texts", "walk", "(Z)V"⟩, 15)]
theorem lw_r10 : ∀ q ∈ lw_privs_10, lw_okq q := List.forall_mem_cons.mpr ⟨lw_p144, List.forall_mem_cons.mpr ⟨lw_p145, List.forall_mem_cons.mpr ⟨lw_p146, List.forall_mem_cons.mpr ⟨lw_p147, List.forall_mem_cons.mpr ⟨lw_p148, List.forall_mem_cons.mpr ⟨lw_p149, List.forall_mem_cons.mpr ⟨lw_p150, List.forall_mem_cons.mpr ⟨lw_p151, List.forall_mem_cons.mpr ⟨lw_p152, List.forall_mem_cons.mpr ⟨lw_p153, List.forall_mem_cons.mpr ⟨lw_p154, List.forall_mem_cons.mpr ⟨lw_p155, List.forall_mem_cons.mpr ⟨lw_p156, List.forall_mem_cons.mpr ⟨lw_p157, List.forall_mem_cons.mpr ⟨lw_p158, List.forall_mem_cons.mpr ⟨lw_p159, fun _ h => absurd h List.not_mem_nil⟩⟩⟩⟩⟩⟩⟩⟩⟩⟩⟩⟩⟩⟩⟩⟩
theorem lw_p160 : lw_okq (⟨"WireHouse$Texts", "pathName", "()V"⟩, 15) := ⟨⟨by decide +kernel, by decide +kernel⟩, List.mem_of_getElem? (i := 371) (by decide +kernel), List.mem_of_getElem? (i := 2150) (by decide +kernel), List.mem_of_getElem? (i := 2151) (by decide +kernel)⟩
theorem lw_p161 : lw_okq (⟨"WireHouse$Texts", "intoRecord", "(Z)V"⟩, 15) := ⟨⟨by decide +kernel, by decide +kernel⟩, List.mem_of_getElem? (i := 371) (by decide +kernel), List.mem_of_getElem? (i := 2155) (by decide +kernel), List.mem_of_getElem? (i := 2156) (by decide +kernel)⟩
theorem lw_p162 : lw_okq (⟨"WireHouse$Texts", "kind", "()I"⟩, 15) := ⟨⟨by decide +kernel, by decide +kernel⟩, List.mem_of_getElem? (i := 371) (by decide +kernel), List.mem_of_getElem? (i := 2159) (by decide +kernel), List.mem_of_getElem? (i := 2160) (by decide +kernel)⟩
theorem lw_p163 : lw_okq (⟨"WireHouse$Texts", "mode", "()I"⟩, 15) := ⟨⟨by decide +kernel, by decide +kernel⟩, List.mem_of_getElem? (i := 371) (by decide +kernel), List.mem_of_getElem? (i := 2163) (by decide +kernel), List.mem_of_getElem? (i := 2164) (by decide +kernel)⟩
theorem lw_p164 : lw_okq (⟨"WireHouse$Texts", "madeNode", "()I"⟩, 15) := ⟨⟨by decide +kernel, by decide +kernel⟩, List.mem_of_getElem? (i := 371) (by decide +kernel), List.mem_of_getElem? (i := 2167) (by decide +kernel), List.mem_of_getElem? (i := 2168) (by decide +kernel)⟩
theorem lw_p165 : lw_okq (⟨"WireHouse$Texts", "intoItems", "(Z)V"⟩, 15) := ⟨⟨by decide +kernel, by decide +kernel⟩, List.mem_of_getElem? (i := 371) (by decide +kernel), List.mem_of_getElem? (i := 2171) (by decide +kernel), List.mem_of_getElem? (i := 2172) (by decide +kernel)⟩
theorem lw_p166 : lw_okq (⟨"WireHouse$Judge", "differBelow", "(IIII)V"⟩, 13) := ⟨⟨by decide +kernel, by decide +kernel⟩, List.mem_of_getElem? (i := 507) (by decide +kernel), List.mem_of_getElem? (i := 2224) (by decide +kernel), List.mem_of_getElem? (i := 2225) (by decide +kernel)⟩
theorem lw_p167 : lw_okq (⟨"WireHouse$Judge", "keepWay", "()V"⟩, 13) := ⟨⟨by decide +kernel, by decide +kernel⟩, List.mem_of_getElem? (i := 507) (by decide +kernel), List.mem_of_getElem? (i := 2239) (by decide +kernel), List.mem_of_getElem? (i := 2240) (by decide +kernel)⟩
theorem lw_p168 : lw_okq (⟨"WireHouse$Judge", "records", "(II)I"⟩, 13) := ⟨⟨by decide +kernel, by decide +kernel⟩, List.mem_of_getElem? (i := 507) (by decide +kernel), List.mem_of_getElem? (i := 2264) (by decide +kernel), List.mem_of_getElem? (i := 2265) (by decide +kernel)⟩
theorem lw_p169 : lw_okq (⟨"WireHouse$Judge", "linearPair", "(II)I"⟩, 13) := ⟨⟨by decide +kernel, by decide +kernel⟩, List.mem_of_getElem? (i := 507) (by decide +kernel), List.mem_of_getElem? (i := 2270) (by decide +kernel), List.mem_of_getElem? (i := 2271) (by decide +kernel)⟩
theorem lw_p170 : lw_okq (⟨"WireHouse$Judge", "linearPart", "(IIII)I"⟩, 13) := ⟨⟨by decide +kernel, by decide +kernel⟩, List.mem_of_getElem? (i := 507) (by decide +kernel), List.mem_of_getElem? (i := 2280) (by decide +kernel), List.mem_of_getElem? (i := 2281) (by decide +kernel)⟩
theorem lw_p171 : lw_okq (⟨"WireHouse$Judge", "fieldKinds", "(IIII)I"⟩, 13) := ⟨⟨by decide +kernel, by decide +kernel⟩, List.mem_of_getElem? (i := 507) (by decide +kernel), List.mem_of_getElem? (i := 2287) (by decide +kernel), List.mem_of_getElem? (i := 2288) (by decide +kernel)⟩
theorem lw_p172 : lw_okq (⟨"WireHouse$Judge", "kinds", "(IIII)I"⟩, 13) := ⟨⟨by decide +kernel, by decide +kernel⟩, List.mem_of_getElem? (i := 507) (by decide +kernel), List.mem_of_getElem? (i := 2291) (by decide +kernel), List.mem_of_getElem? (i := 2292) (by decide +kernel)⟩
theorem lw_p173 : lw_okq (⟨"WireHouse$Judge", "lacksConstant", "(II)Z"⟩, 13) := ⟨⟨by decide +kernel, by decide +kernel⟩, List.mem_of_getElem? (i := 507) (by decide +kernel), List.mem_of_getElem? (i := 2295) (by decide +kernel), List.mem_of_getElem? (i := 2296) (by decide +kernel)⟩
theorem lw_p174 : lw_okq (⟨"WireHouse$Judge", "numberedPair", "(II)I"⟩, 13) := ⟨⟨by decide +kernel, by decide +kernel⟩, List.mem_of_getElem? (i := 507) (by decide +kernel), List.mem_of_getElem? (i := 2315) (by decide +kernel), List.mem_of_getElem? (i := 2316) (by decide +kernel)⟩
theorem lw_p175 : lw_okq (⟨"WireHouse$Judge", "streamField", "(IIII)I"⟩, 13) := ⟨⟨by decide +kernel, by decide +kernel⟩, List.mem_of_getElem? (i := 507) (by decide +kernel), List.mem_of_getElem? (i := 2319) (by decide +kernel), List.mem_of_getElem? (i := 2320) (by decide +kernel)⟩
def lw_privs_11 : List (MethodName × Nat) := [(⟨"WireHouse$Texts", "pathName", "()V"⟩, 15), (⟨"WireHouse$Texts", "intoRecord", "(Z)V"⟩, 15), (⟨"WireHouse$Texts", "kind", "()I"⟩, 15), (⟨"WireHouse$Texts", "mode", "()I"⟩, 15), (⟨"WireHouse$Texts", "madeNode", "()I"⟩, 15), (⟨"WireHouse$Texts", "intoItems", "(Z)V"⟩, 15), (⟨"WireHouse$Judge", "differBelow", "(IIII)V"⟩, 13), (⟨"WireHouse$Judge", "keepWay", "()V"⟩, 13), (⟨"WireHouse$Judge", "records", "(II)I"⟩, 13), (⟨"WireHouse$Judge", "linearPair", "(II)I"⟩, 13), (⟨"WireHouse$Judge", "linearPart", "(IIII)I"⟩, 13), (⟨"WireHouse$Judge", "fieldKinds", "(IIII)I"⟩, 13), (⟨"WireHouse$Judge", "kinds", "(IIII)I"⟩, 13), (⟨"WireHouse$Judge", "lacksConstant", "(II)Z"⟩, 13), (⟨"WireHouse$Judge", "numberedPair", "(II)I"⟩, 13), (⟨"WireHouse$Judge", "streamField", "(IIII)I"⟩, 13)]
theorem lw_r11 : ∀ q ∈ lw_privs_11, lw_okq q := List.forall_mem_cons.mpr ⟨lw_p160, List.forall_mem_cons.mpr ⟨lw_p161, List.forall_mem_cons.mpr ⟨lw_p162, List.forall_mem_cons.mpr ⟨lw_p163, List.forall_mem_cons.mpr ⟨lw_p164, List.forall_mem_cons.mpr ⟨lw_p165, List.forall_mem_cons.mpr ⟨lw_p166, List.forall_mem_cons.mpr ⟨lw_p167, List.forall_mem_cons.mpr ⟨lw_p168, List.forall_mem_cons.mpr ⟨lw_p169, List.forall_mem_cons.mpr ⟨lw_p170, List.forall_mem_cons.mpr ⟨lw_p171, List.forall_mem_cons.mpr ⟨lw_p172, List.forall_mem_cons.mpr ⟨lw_p173, List.forall_mem_cons.mpr ⟨lw_p174, List.forall_mem_cons.mpr ⟨lw_p175, fun _ h => absurd h List.not_mem_nil⟩⟩⟩⟩⟩⟩⟩⟩⟩⟩⟩⟩⟩⟩⟩⟩
theorem lw_p176 : lw_okq (⟨"WireHouse$Judge", "isSameDefault", "(IIII)Z"⟩, 13) := ⟨⟨by decide +kernel, by decide +kernel⟩, List.mem_of_getElem? (i := 507) (by decide +kernel), List.mem_of_getElem? (i := 2324) (by decide +kernel), List.mem_of_getElem? (i := 2325) (by decide +kernel)⟩
theorem lw_p177 : lw_okq (⟨"WireHouse$Judge", "isParted", "(IIII)Z"⟩, 13) := ⟨⟨by decide +kernel, by decide +kernel⟩, List.mem_of_getElem? (i := 507) (by decide +kernel), List.mem_of_getElem? (i := 2329) (by decide +kernel), List.mem_of_getElem? (i := 2330) (by decide +kernel)⟩
theorem lw_p178 : lw_okq (⟨"WireHouse$Judge", "slottedField", "(IIII)I"⟩, 13) := ⟨⟨by decide +kernel, by decide +kernel⟩, List.mem_of_getElem? (i := 507) (by decide +kernel), List.mem_of_getElem? (i := 2333) (by decide +kernel), List.mem_of_getElem? (i := 2334) (by decide +kernel)⟩
theorem lw_p179 : lw_okq (⟨"WireHouse$Judge", "isSamePlace", "(IIII)Z"⟩, 13) := ⟨⟨by decide +kernel, by decide +kernel⟩, List.mem_of_getElem? (i := 507) (by decide +kernel), List.mem_of_getElem? (i := 2337) (by decide +kernel), List.mem_of_getElem? (i := 2338) (by decide +kernel)⟩
theorem lw_p180 : lw_okq (⟨"WireHouse", "clientSchema", "(I)I"⟩, 19) := ⟨⟨by decide +kernel, by decide +kernel⟩, List.mem_of_getElem? (i := 22) (by decide +kernel), List.mem_of_getElem? (i := 2376) (by decide +kernel), List.mem_of_getElem? (i := 2377) (by decide +kernel)⟩
theorem lw_p181 : lw_okq (⟨"WireHouse$Net", "bodyAt", "(I)LWireHouse$Bytes;"⟩, 20) := ⟨⟨by decide +kernel, by decide +kernel⟩, List.mem_of_getElem? (i := 556) (by decide +kernel), List.mem_of_getElem? (i := 2398) (by decide +kernel), List.mem_of_getElem? (i := 2399) (by decide +kernel)⟩
theorem lw_p182 : lw_okq (⟨"WireHouse$Net", "send", "(IIILWireHouse$Bytes;)V"⟩, 20) := ⟨⟨by decide +kernel, by decide +kernel⟩, List.mem_of_getElem? (i := 556) (by decide +kernel), List.mem_of_getElem? (i := 2408) (by decide +kernel), List.mem_of_getElem? (i := 2409) (by decide +kernel)⟩
theorem lw_p183 : lw_okq (⟨"WireHouse$Net", "copyLetter", "(II)V"⟩, 20) := ⟨⟨by decide +kernel, by decide +kernel⟩, List.mem_of_getElem? (i := 556) (by decide +kernel), List.mem_of_getElem? (i := 2435) (by decide +kernel), List.mem_of_getElem? (i := 2436) (by decide +kernel)⟩
theorem lw_p184 : lw_okq (⟨"WireHouse$Net", "pendingSlot", "(II)I"⟩, 20) := ⟨⟨by decide +kernel, by decide +kernel⟩, List.mem_of_getElem? (i := 556) (by decide +kernel), List.mem_of_getElem? (i := 2449) (by decide +kernel), List.mem_of_getElem? (i := 2450) (by decide +kernel)⟩
theorem lw_p185 : lw_okq (⟨"WireHouse$Net", "gather", "(I)Z"⟩, 20) := ⟨⟨by decide +kernel, by decide +kernel⟩, List.mem_of_getElem? (i := 556) (by decide +kernel), List.mem_of_getElem? (i := 2453) (by decide +kernel), List.mem_of_getElem? (i := 2454) (by decide +kernel)⟩
theorem lw_p186 : lw_okq (⟨"WireHouse", "serve", "(LWireHouse$Bytes;)V"⟩, 19) := ⟨⟨by decide +kernel, by decide +kernel⟩, List.mem_of_getElem? (i := 22) (by decide +kernel), List.mem_of_getElem? (i := 2467) (by decide +kernel), List.mem_of_getElem? (i := 2468) (by decide +kernel)⟩
theorem lw_p187 : lw_okq (⟨"WireHouse$Net", "evaluate", "(LWireHouse$Schema;ILWireHouse$Tree;)J"⟩, 20) := ⟨⟨by decide +kernel, by decide +kernel⟩, List.mem_of_getElem? (i := 556) (by decide +kernel), List.mem_of_getElem? (i := 2478) (by decide +kernel), List.mem_of_getElem? (i := 2479) (by decide +kernel)⟩
theorem lw_p188 : lw_okq (⟨"WireHouse$Net", "workOut", "(IJJ)J"⟩, 20) := ⟨⟨by decide +kernel, by decide +kernel⟩, List.mem_of_getElem? (i := 556) (by decide +kernel), List.mem_of_getElem? (i := 2495) (by decide +kernel), List.mem_of_getElem? (i := 2496) (by decide +kernel)⟩
theorem lw_p189 : lw_okq (⟨"WireHouse", "takeAnswer", "(II)Z"⟩, 19) := ⟨⟨by decide +kernel, by decide +kernel⟩, List.mem_of_getElem? (i := 22) (by decide +kernel), List.mem_of_getElem? (i := 2524) (by decide +kernel), List.mem_of_getElem? (i := 2525) (by decide +kernel)⟩
theorem lw_p190 : lw_okq (⟨"WireHouse$Net", "wake", "(III)V"⟩, 20) := ⟨⟨by decide +kernel, by decide +kernel⟩, List.mem_of_getElem? (i := 556) (by decide +kernel), List.mem_of_getElem? (i := 2549) (by decide +kernel), List.mem_of_getElem? (i := 2550) (by decide +kernel)⟩
theorem lw_p191 : lw_okq (⟨"WireHouseModel", "lay", "(I)V"⟩, 311) := ⟨⟨by decide +kernel, by decide +kernel⟩, List.mem_of_getElem? (i := 2588) (by decide +kernel), List.mem_of_getElem? (i := 3538) (by decide +kernel), List.mem_of_getElem? (i := 3539) (by decide +kernel)⟩
def lw_privs_12 : List (MethodName × Nat) := [(⟨"WireHouse$Judge", "isSameDefault", "(IIII)Z"⟩, 13), (⟨"WireHouse$Judge", "isParted", "(IIII)Z"⟩, 13), (⟨"WireHouse$Judge", "slottedField", "(IIII)I"⟩, 13), (⟨"WireHouse$Judge", "isSamePlace", "(IIII)Z"⟩, 13), (⟨"WireHouse", "clientSchema", "(I)I"⟩, 19), (⟨"WireHouse$Net", "bodyAt", "(I)LWireHouse$Bytes;"⟩, 20), (⟨"WireHouse$Net", "send", "(IIILWireHouse$Bytes;)V"⟩, 20), (⟨"WireHouse$Net", "copyLetter", "(II)V"⟩, 20), (⟨"WireHouse$Net", "pendingSlot", "(II)I"⟩, 20), (⟨"WireHouse$Net", "gather", "(I)Z"⟩, 20), (⟨"WireHouse", "serve", "(LWireHouse$Bytes;)V"⟩, 19), (⟨"WireHouse$Net", "evaluate", "(LWireHouse$Schema;ILWireHouse$Tree;)J"⟩, 20), (⟨"WireHouse$Net", "workOut", "(IJJ)J"⟩, 20), (⟨"WireHouse", "takeAnswer", "(II)Z"⟩, 19), (⟨"WireHouse$Net", "wake", "(III)V"⟩, 20), (⟨"WireHouseModel", "lay", "(I)V"⟩, 311)]
theorem lw_r12 : ∀ q ∈ lw_privs_12, lw_okq q := List.forall_mem_cons.mpr ⟨lw_p176, List.forall_mem_cons.mpr ⟨lw_p177, List.forall_mem_cons.mpr ⟨lw_p178, List.forall_mem_cons.mpr ⟨lw_p179, List.forall_mem_cons.mpr ⟨lw_p180, List.forall_mem_cons.mpr ⟨lw_p181, List.forall_mem_cons.mpr ⟨lw_p182, List.forall_mem_cons.mpr ⟨lw_p183, List.forall_mem_cons.mpr ⟨lw_p184, List.forall_mem_cons.mpr ⟨lw_p185, List.forall_mem_cons.mpr ⟨lw_p186, List.forall_mem_cons.mpr ⟨lw_p187, List.forall_mem_cons.mpr ⟨lw_p188, List.forall_mem_cons.mpr ⟨lw_p189, List.forall_mem_cons.mpr ⟨lw_p190, List.forall_mem_cons.mpr ⟨lw_p191, fun _ h => absurd h List.not_mem_nil⟩⟩⟩⟩⟩⟩⟩⟩⟩⟩⟩⟩⟩⟩⟩⟩
theorem lw_p192 : lw_okq (⟨"WireHouseModel", "isRow", "(I)Z"⟩, 311) := ⟨⟨by decide +kernel, by decide +kernel⟩, List.mem_of_getElem? (i := 2588) (by decide +kernel), List.mem_of_getElem? (i := 3550) (by decide +kernel), List.mem_of_getElem? (i := 3551) (by decide +kernel)⟩
theorem lw_p193 : lw_okq (⟨"WireHouseModel", "isSchema", "(I)Z"⟩, 311) := ⟨⟨by decide +kernel, by decide +kernel⟩, List.mem_of_getElem? (i := 2588) (by decide +kernel), List.mem_of_getElem? (i := 3582) (by decide +kernel), List.mem_of_getElem? (i := 3583) (by decide +kernel)⟩
theorem lw_p194 : lw_okq (⟨"WireHouseModel", "take", "()V"⟩, 311) := ⟨⟨by decide +kernel, by decide +kernel⟩, List.mem_of_getElem? (i := 2588) (by decide +kernel), List.mem_of_getElem? (i := 3586) (by decide +kernel), List.mem_of_getElem? (i := 3587) (by decide +kernel)⟩
theorem lw_p195 : lw_okq (⟨"WireHouseModel", "parse", "()Z"⟩, 311) := ⟨⟨by decide +kernel, by decide +kernel⟩, List.mem_of_getElem? (i := 2588) (by decide +kernel), List.mem_of_getElem? (i := 3590) (by decide +kernel), List.mem_of_getElem? (i := 3591) (by decide +kernel)⟩
theorem lw_p196 : lw_okq (⟨"WireHouseModel", "next", "()Z"⟩, 311) := ⟨⟨by decide +kernel, by decide +kernel⟩, List.mem_of_getElem? (i := 2588) (by decide +kernel), List.mem_of_getElem? (i := 3594) (by decide +kernel), List.mem_of_getElem? (i := 3595) (by decide +kernel)⟩
theorem lw_p197 : lw_okq (⟨"WireHouseModel", "isLetter", "(I)Z"⟩, 311) := ⟨⟨by decide +kernel, by decide +kernel⟩, List.mem_of_getElem? (i := 2588) (by decide +kernel), List.mem_of_getElem? (i := 3598) (by decide +kernel), List.mem_of_getElem? (i := 3599) (by decide +kernel)⟩
theorem lw_p198 : lw_okq (⟨"WireHouseModel", "nameToken", "()Z"⟩, 311) := ⟨⟨by decide +kernel, by decide +kernel⟩, List.mem_of_getElem? (i := 2588) (by decide +kernel), List.mem_of_getElem? (i := 3602) (by decide +kernel), List.mem_of_getElem? (i := 3603) (by decide +kernel)⟩
theorem lw_p199 : lw_okq (⟨"WireHouseModel", "isDigit", "(I)Z"⟩, 311) := ⟨⟨by decide +kernel, by decide +kernel⟩, List.mem_of_getElem? (i := 2588) (by decide +kernel), List.mem_of_getElem? (i := 3606) (by decide +kernel), List.mem_of_getElem? (i := 3607) (by decide +kernel)⟩
theorem lw_p200 : lw_okq (⟨"WireHouseModel", "wrong", "(II)Z"⟩, 311) := ⟨⟨by decide +kernel, by decide +kernel⟩, List.mem_of_getElem? (i := 2588) (by decide +kernel), List.mem_of_getElem? (i := 3610) (by decide +kernel), List.mem_of_getElem? (i := 3611) (by decide +kernel)⟩
theorem lw_p201 : lw_okq (⟨"WireHouseModel", "wordOf", "()I"⟩, 311) := ⟨⟨by decide +kernel, by decide +kernel⟩, List.mem_of_getElem? (i := 2588) (by decide +kernel), List.mem_of_getElem? (i := 3614) (by decide +kernel), List.mem_of_getElem? (i := 3615) (by decide +kernel)⟩
theorem lw_p202 : lw_okq (⟨"WireHouseModel", "numberToken", "()Z"⟩, 311) := ⟨⟨by decide +kernel, by decide +kernel⟩, List.mem_of_getElem? (i := 2588) (by decide +kernel), List.mem_of_getElem? (i := 3644) (by decide +kernel), List.mem_of_getElem? (i := 3645) (by decide +kernel)⟩
theorem lw_p203 : lw_okq (⟨"WireHouseModel", "stringToken", "()Z"⟩, 311) := ⟨⟨by decide +kernel, by decide +kernel⟩, List.mem_of_getElem? (i := 2588) (by decide +kernel), List.mem_of_getElem? (i := 3650) (by decide +kernel), List.mem_of_getElem? (i := 3651) (by decide +kernel)⟩
theorem lw_p204 : lw_okq (⟨"WireHouseModel", "at", "(I)I"⟩, 311) := ⟨⟨by decide +kernel, by decide +kernel⟩, List.mem_of_getElem? (i := 2588) (by decide +kernel), List.mem_of_getElem? (i := 3654) (by decide +kernel), List.mem_of_getElem? (i := 3655) (by decide +kernel)⟩
theorem lw_p205 : lw_okq (⟨"WireHouseModel", "hex", "(I)I"⟩, 311) := ⟨⟨by decide +kernel, by decide +kernel⟩, List.mem_of_getElem? (i := 2588) (by decide +kernel), List.mem_of_getElem? (i := 3658) (by decide +kernel), List.mem_of_getElem? (i := 3659) (by decide +kernel)⟩
theorem lw_p206 : lw_okq (⟨"WireHouseModel", "signToken", "(I)Z"⟩, 311) := ⟨⟨by decide +kernel, by decide +kernel⟩, List.mem_of_getElem? (i := 2588) (by decide +kernel), List.mem_of_getElem? (i := 3662) (by decide +kernel), List.mem_of_getElem? (i := 3663) (by decide +kernel)⟩
theorem lw_p207 : lw_okq (⟨"WireHouseModel", "isWord", "(I)Z"⟩, 311) := ⟨⟨by decide +kernel, by decide +kernel⟩, List.mem_of_getElem? (i := 2588) (by decide +kernel), List.mem_of_getElem? (i := 3666) (by decide +kernel), List.mem_of_getElem? (i := 3667) (by decide +kernel)⟩
def lw_privs_13 : List (MethodName × Nat) := [(⟨"WireHouseModel", "isRow", "(I)Z"⟩, 311), (⟨"WireHouseModel", "isSchema", "(I)Z"⟩, 311), (⟨"WireHouseModel", "take", "()V"⟩, 311), (⟨"WireHouseModel", "parse", "()Z"⟩, 311), (⟨"WireHouseModel", "next", "()Z"⟩, 311), (⟨"WireHouseModel", "isLetter", "(I)Z"⟩, 311), (⟨"WireHouseModel", "nameToken", "()Z"⟩, 311), (⟨"WireHouseModel", "isDigit", "(I)Z"⟩, 311), (⟨"WireHouseModel", "wrong", "(II)Z"⟩, 311), (⟨"WireHouseModel", "wordOf", "()I"⟩, 311), (⟨"WireHouseModel", "numberToken", "()Z"⟩, 311), (⟨"WireHouseModel", "stringToken", "()Z"⟩, 311), (⟨"WireHouseModel", "at", "(I)I"⟩, 311), (⟨"WireHouseModel", "hex", "(I)I"⟩, 311), (⟨"WireHouseModel", "signToken", "(I)Z"⟩, 311), (⟨"WireHouseModel", "isWord", "(I)Z"⟩, 311)]
theorem lw_r13 : ∀ q ∈ lw_privs_13, lw_okq q := List.forall_mem_cons.mpr ⟨lw_p192, List.forall_mem_cons.mpr ⟨lw_p193, List.forall_mem_cons.mpr ⟨lw_p194, List.forall_mem_cons.mpr ⟨lw_p195, List.forall_mem_cons.mpr ⟨lw_p196, List.forall_mem_cons.mpr ⟨lw_p197, List.forall_mem_cons.mpr ⟨lw_p198, List.forall_mem_cons.mpr ⟨lw_p199, List.forall_mem_cons.mpr ⟨lw_p200, List.forall_mem_cons.mpr ⟨lw_p201, List.forall_mem_cons.mpr ⟨lw_p202, List.forall_mem_cons.mpr ⟨lw_p203, List.forall_mem_cons.mpr ⟨lw_p204, List.forall_mem_cons.mpr ⟨lw_p205, List.forall_mem_cons.mpr ⟨lw_p206, List.forall_mem_cons.mpr ⟨lw_p207, fun _ h => absurd h List.not_mem_nil⟩⟩⟩⟩⟩⟩⟩⟩⟩⟩⟩⟩⟩⟩⟩⟩
theorem lw_p208 : lw_okq (⟨"WireHouseModel", "enumItem", "()Z"⟩, 311) := ⟨⟨by decide +kernel, by decide +kernel⟩, List.mem_of_getElem? (i := 2588) (by decide +kernel), List.mem_of_getElem? (i := 3670) (by decide +kernel), List.mem_of_getElem? (i := 3671) (by decide +kernel)⟩
theorem lw_p209 : lw_okq (⟨"WireHouseModel", "pass", "()Z"⟩, 311) := ⟨⟨by decide +kernel, by decide +kernel⟩, List.mem_of_getElem? (i := 2588) (by decide +kernel), List.mem_of_getElem? (i := 3674) (by decide +kernel), List.mem_of_getElem? (i := 3675) (by decide +kernel)⟩
theorem lw_p210 : lw_okq (⟨"WireHouseModel", "out", "(I)V"⟩, 311) := ⟨⟨by decide +kernel, by decide +kernel⟩, List.mem_of_getElem? (i := 2588) (by decide +kernel), List.mem_of_getElem? (i := 3678) (by decide +kernel), List.mem_of_getElem? (i := 3679) (by decide +kernel)⟩
theorem lw_p211 : lw_okq (⟨"WireHouseModel", "typeName", "(ZI)Z"⟩, 311) := ⟨⟨by decide +kernel, by decide +kernel⟩, List.mem_of_getElem? (i := 2588) (by decide +kernel), List.mem_of_getElem? (i := 3683) (by decide +kernel), List.mem_of_getElem? (i := 3684) (by decide +kernel)⟩
theorem lw_p212 : lw_okq (⟨"WireHouseModel", "cant", "()Z"⟩, 311) := ⟨⟨by decide +kernel, by decide +kernel⟩, List.mem_of_getElem? (i := 2588) (by decide +kernel), List.mem_of_getElem? (i := 3687) (by decide +kernel), List.mem_of_getElem? (i := 3688) (by decide +kernel)⟩
theorem lw_p213 : lw_okq (⟨"WireHouseModel", "passSign", "(I)Z"⟩, 311) := ⟨⟨by decide +kernel, by decide +kernel⟩, List.mem_of_getElem? (i := 2588) (by decide +kernel), List.mem_of_getElem? (i := 3691) (by decide +kernel), List.mem_of_getElem? (i := 3692) (by decide +kernel)⟩
theorem lw_p214 : lw_okq (⟨"WireHouseModel", "isSign", "(I)Z"⟩, 311) := ⟨⟨by decide +kernel, by decide +kernel⟩, List.mem_of_getElem? (i := 2588) (by decide +kernel), List.mem_of_getElem? (i := 3695) (by decide +kernel), List.mem_of_getElem? (i := 3696) (by decide +kernel)⟩
theorem lw_p215 : lw_okq (⟨"WireHouseModel", "recordItem", "()Z"⟩, 311) := ⟨⟨by decide +kernel, by decide +kernel⟩, List.mem_of_getElem? (i := 2588) (by decide +kernel), List.mem_of_getElem? (i := 3700) (by decide +kernel), List.mem_of_getElem? (i := 3701) (by decide +kernel)⟩
theorem lw_p216 : lw_okq (⟨"WireHouseModel", "onePart", "()Z"⟩, 311) := ⟨⟨by decide +kernel, by decide +kernel⟩, List.mem_of_getElem? (i := 2588) (by decide +kernel), List.mem_of_getElem? (i := 3704) (by decide +kernel), List.mem_of_getElem? (i := 3705) (by decide +kernel)⟩
theorem lw_p217 : lw_okq (⟨"WireHouseModel", "fieldPart", "(I)Z"⟩, 311) := ⟨⟨by decide +kernel, by decide +kernel⟩, List.mem_of_getElem? (i := 2588) (by decide +kernel), List.mem_of_getElem? (i := 3708) (by decide +kernel), List.mem_of_getElem? (i := 3709) (by decide +kernel)⟩
theorem lw_p218 : lw_okq (⟨"WireHouseModel", "simpleType", "()Z"⟩, 311) := ⟨⟨by decide +kernel, by decide +kernel⟩, List.mem_of_getElem? (i := 2588) (by decide +kernel), List.mem_of_getElem? (i := 3712) (by decide +kernel), List.mem_of_getElem? (i := 3713) (by decide +kernel)⟩
theorem lw_p219 : lw_okq (⟨"WireHouseModel", "valuePart", "(I)Z"⟩, 311) := ⟨⟨by decide +kernel, by decide +kernel⟩, List.mem_of_getElem? (i := 2588) (by decide +kernel), List.mem_of_getElem? (i := 3716) (by decide +kernel), List.mem_of_getElem? (i := 3717) (by decide +kernel)⟩
theorem lw_p220 : lw_okq (⟨"WireHouseModel", "keepPart", "()Z"⟩, 311) := ⟨⟨by decide +kernel, by decide +kernel⟩, List.mem_of_getElem? (i := 2588) (by decide +kernel), List.mem_of_getElem? (i := 3720) (by decide +kernel), List.mem_of_getElem? (i := 3721) (by decide +kernel)⟩
theorem lw_p221 : lw_okq (⟨"WireHouseModel", "serviceItem", "()Z"⟩, 311) := ⟨⟨by decide +kernel, by decide +kernel⟩, List.mem_of_getElem? (i := 2588) (by decide +kernel), List.mem_of_getElem? (i := 3724) (by decide +kernel), List.mem_of_getElem? (i := 3725) (by decide +kernel)⟩
theorem lw_p222 : lw_okq (⟨"WireHouseModel", "callPart", "()Z"⟩, 311) := ⟨⟨by decide +kernel, by decide +kernel⟩, List.mem_of_getElem? (i := 2588) (by decide +kernel), List.mem_of_getElem? (i := 3728) (by decide +kernel), List.mem_of_getElem? (i := 3729) (by decide +kernel)⟩
theorem lw_p223 : lw_okq (⟨"WireHouseModel", "callName", "(I)Z"⟩, 311) := ⟨⟨by decide +kernel, by decide +kernel⟩, List.mem_of_getElem? (i := 2588) (by decide +kernel), List.mem_of_getElem? (i := 3732) (by decide +kernel), List.mem_of_getElem? (i := 3733) (by decide +kernel)⟩
def lw_privs_14 : List (MethodName × Nat) := [(⟨"WireHouseModel", "enumItem", "()Z"⟩, 311), (⟨"WireHouseModel", "pass", "()Z"⟩, 311), (⟨"WireHouseModel", "out", "(I)V"⟩, 311), (⟨"WireHouseModel", "typeName", "(ZI)Z"⟩, 311), (⟨"WireHouseModel", "cant", "()Z"⟩, 311), (⟨"WireHouseModel", "passSign", "(I)Z"⟩, 311), (⟨"WireHouseModel", "isSign", "(I)Z"⟩, 311), (⟨"WireHouseModel", "recordItem", "()Z"⟩, 311), (⟨"WireHouseModel", "onePart", "()Z"⟩, 311), (⟨"WireHouseModel", "fieldPart", "(I)Z"⟩, 311), (⟨"WireHouseModel", "simpleType", "()Z"⟩, 311), (⟨"WireHouseModel", "valuePart", "(I)Z"⟩, 311), (⟨"WireHouseModel", "keepPart", "()Z"⟩, 311), (⟨"WireHouseModel", "serviceItem", "()Z"⟩, 311), (⟨"WireHouseModel", "callPart", "()Z"⟩, 311), (⟨"WireHouseModel", "callName", "(I)Z"⟩, 311)]
theorem lw_r14 : ∀ q ∈ lw_privs_14, lw_okq q := List.forall_mem_cons.mpr ⟨lw_p208, List.forall_mem_cons.mpr ⟨lw_p209, List.forall_mem_cons.mpr ⟨lw_p210, List.forall_mem_cons.mpr ⟨lw_p211, List.forall_mem_cons.mpr ⟨lw_p212, List.forall_mem_cons.mpr ⟨lw_p213, List.forall_mem_cons.mpr ⟨lw_p214, List.forall_mem_cons.mpr ⟨lw_p215, List.forall_mem_cons.mpr ⟨lw_p216, List.forall_mem_cons.mpr ⟨lw_p217, List.forall_mem_cons.mpr ⟨lw_p218, List.forall_mem_cons.mpr ⟨lw_p219, List.forall_mem_cons.mpr ⟨lw_p220, List.forall_mem_cons.mpr ⟨lw_p221, List.forall_mem_cons.mpr ⟨lw_p222, List.forall_mem_cons.mpr ⟨lw_p223, fun _ h => absurd h List.not_mem_nil⟩⟩⟩⟩⟩⟩⟩⟩⟩⟩⟩⟩⟩⟩⟩⟩
theorem lw_p224 : lw_okq (⟨"WireHouseModel", "stepPart", "()Z"⟩, 311) := ⟨⟨by decide +kernel, by decide +kernel⟩, List.mem_of_getElem? (i := 2588) (by decide +kernel), List.mem_of_getElem? (i := 3736) (by decide +kernel), List.mem_of_getElem? (i := 3737) (by decide +kernel)⟩
theorem lw_p225 : lw_okq (⟨"WireHouseModel", "expression", "()Z"⟩, 311) := ⟨⟨by decide +kernel, by decide +kernel⟩, List.mem_of_getElem? (i := 2588) (by decide +kernel), List.mem_of_getElem? (i := 3740) (by decide +kernel), List.mem_of_getElem? (i := 3741) (by decide +kernel)⟩
theorem lw_p226 : lw_okq (⟨"WireHouseModel", "count", "()Z"⟩, 311) := ⟨⟨by decide +kernel, by decide +kernel⟩, List.mem_of_getElem? (i := 2588) (by decide +kernel), List.mem_of_getElem? (i := 3744) (by decide +kernel), List.mem_of_getElem? (i := 3745) (by decide +kernel)⟩
theorem lw_p227 : lw_okq (⟨"WireHouseModel", "operand", "()Z"⟩, 311) := ⟨⟨by decide +kernel, by decide +kernel⟩, List.mem_of_getElem? (i := 2588) (by decide +kernel), List.mem_of_getElem? (i := 3748) (by decide +kernel), List.mem_of_getElem? (i := 3749) (by decide +kernel)⟩
theorem lw_p228 : lw_okq (⟨"WireHouseModel", "node", "(IJ)V"⟩, 311) := ⟨⟨by decide +kernel, by decide +kernel⟩, List.mem_of_getElem? (i := 2588) (by decide +kernel), List.mem_of_getElem? (i := 3752) (by decide +kernel), List.mem_of_getElem? (i := 3753) (by decide +kernel)⟩
theorem lw_p229 : lw_okq (⟨"WireHouseModel", "popOne", "()V"⟩, 311) := ⟨⟨by decide +kernel, by decide +kernel⟩, List.mem_of_getElem? (i := 2588) (by decide +kernel), List.mem_of_getElem? (i := 3756) (by decide +kernel), List.mem_of_getElem? (i := 3757) (by decide +kernel)⟩
theorem lw_p230 : lw_okq (⟨"WireHouseModel", "rank", "(I)I"⟩, 311) := ⟨⟨by decide +kernel, by decide +kernel⟩, List.mem_of_getElem? (i := 2588) (by decide +kernel), List.mem_of_getElem? (i := 3760) (by decide +kernel), List.mem_of_getElem? (i := 3761) (by decide +kernel)⟩
theorem lw_p231 : lw_okq (⟨"WireHouseModel", "judgeAll", "()Z"⟩, 311) := ⟨⟨by decide +kernel, by decide +kernel⟩, List.mem_of_getElem? (i := 2588) (by decide +kernel), List.mem_of_getElem? (i := 3764) (by decide +kernel), List.mem_of_getElem? (i := 3765) (by decide +kernel)⟩
theorem lw_p232 : lw_okq (⟨"WireHouseModel", "judgeNames", "()V"⟩, 311) := ⟨⟨by decide +kernel, by decide +kernel⟩, List.mem_of_getElem? (i := 2588) (by decide +kernel), List.mem_of_getElem? (i := 3768) (by decide +kernel), List.mem_of_getElem? (i := 3769) (by decide +kernel)⟩
theorem lw_p233 : lw_okq (⟨"WireHouseModel", "later", "(II)V"⟩, 311) := ⟨⟨by decide +kernel, by decide +kernel⟩, List.mem_of_getElem? (i := 2588) (by decide +kernel), List.mem_of_getElem? (i := 3772) (by decide +kernel), List.mem_of_getElem? (i := 3773) (by decide +kernel)⟩
theorem lw_p234 : lw_okq (⟨"WireHouseModel", "judgeRecord", "(I)V"⟩, 311) := ⟨⟨by decide +kernel, by decide +kernel⟩, List.mem_of_getElem? (i := 2588) (by decide +kernel), List.mem_of_getElem? (i := 3776) (by decide +kernel), List.mem_of_getElem? (i := 3777) (by decide +kernel)⟩
theorem lw_p235 : lw_okq (⟨"WireHouseModel", "judgeField", "(I)V"⟩, 311) := ⟨⟨by decide +kernel, by decide +kernel⟩, List.mem_of_getElem? (i := 2588) (by decide +kernel), List.mem_of_getElem? (i := 3781) (by decide +kernel), List.mem_of_getElem? (i := 3782) (by decide +kernel)⟩
theorem lw_p236 : lw_okq (⟨"WireHouseModel", "findType", "(JJ)I"⟩, 311) := ⟨⟨by decide +kernel, by decide +kernel⟩, List.mem_of_getElem? (i := 2588) (by decide +kernel), List.mem_of_getElem? (i := 3785) (by decide +kernel), List.mem_of_getElem? (i := 3786) (by decide +kernel)⟩
theorem lw_p237 : lw_okq (⟨"WireHouseModel", "judgeValue", "(I)V"⟩, 311) := ⟨⟨by decide +kernel, by decide +kernel⟩, List.mem_of_getElem? (i := 2588) (by decide +kernel), List.mem_of_getElem? (i := 3789) (by decide +kernel), List.mem_of_getElem? (i := 3790) (by decide +kernel)⟩
theorem lw_p238 : lw_okq (⟨"WireHouseModel", "findConstant", "(IJJ)I"⟩, 311) := ⟨⟨by decide +kernel, by decide +kernel⟩, List.mem_of_getElem? (i := 2588) (by decide +kernel), List.mem_of_getElem? (i := 3793) (by decide +kernel), List.mem_of_getElem? (i := 3794) (by decide +kernel)⟩
theorem lw_p239 : lw_okq (⟨"WireHouseModel", "isUtf", "([III)Z"⟩, 311) := ⟨⟨by decide +kernel, by decide +kernel⟩, List.mem_of_getElem? (i := 2588) (by decide +kernel), List.mem_of_getElem? (i := 3797) (by decide +kernel), List.mem_of_getElem? (i := 3798) (by decide +kernel)⟩
def lw_privs_15 : List (MethodName × Nat) := [(⟨"WireHouseModel", "stepPart", "()Z"⟩, 311), (⟨"WireHouseModel", "expression", "()Z"⟩, 311), (⟨"WireHouseModel", "count", "()Z"⟩, 311), (⟨"WireHouseModel", "operand", "()Z"⟩, 311), (⟨"WireHouseModel", "node", "(IJ)V"⟩, 311), (⟨"WireHouseModel", "popOne", "()V"⟩, 311), (⟨"WireHouseModel", "rank", "(I)I"⟩, 311), (⟨"WireHouseModel", "judgeAll", "()Z"⟩, 311), (⟨"WireHouseModel", "judgeNames", "()V"⟩, 311), (⟨"WireHouseModel", "later", "(II)V"⟩, 311), (⟨"WireHouseModel", "judgeRecord", "(I)V"⟩, 311), (⟨"WireHouseModel", "judgeField", "(I)V"⟩, 311), (⟨"WireHouseModel", "findType", "(JJ)I"⟩, 311), (⟨"WireHouseModel", "judgeValue", "(I)V"⟩, 311), (⟨"WireHouseModel", "findConstant", "(IJJ)I"⟩, 311), (⟨"WireHouseModel", "isUtf", "([III)Z"⟩, 311)]
theorem lw_r15 : ∀ q ∈ lw_privs_15, lw_okq q := List.forall_mem_cons.mpr ⟨lw_p224, List.forall_mem_cons.mpr ⟨lw_p225, List.forall_mem_cons.mpr ⟨lw_p226, List.forall_mem_cons.mpr ⟨lw_p227, List.forall_mem_cons.mpr ⟨lw_p228, List.forall_mem_cons.mpr ⟨lw_p229, List.forall_mem_cons.mpr ⟨lw_p230, List.forall_mem_cons.mpr ⟨lw_p231, List.forall_mem_cons.mpr ⟨lw_p232, List.forall_mem_cons.mpr ⟨lw_p233, List.forall_mem_cons.mpr ⟨lw_p234, List.forall_mem_cons.mpr ⟨lw_p235, List.forall_mem_cons.mpr ⟨lw_p236, List.forall_mem_cons.mpr ⟨lw_p237, List.forall_mem_cons.mpr ⟨lw_p238, List.forall_mem_cons.mpr ⟨lw_p239, fun _ h => absurd h List.not_mem_nil⟩⟩⟩⟩⟩⟩⟩⟩⟩⟩⟩⟩⟩⟩⟩⟩
theorem lw_p240 : lw_okq (⟨"WireHouseModel", "fitsKind", "(IJ)Z"⟩, 311) := ⟨⟨by decide +kernel, by decide +kernel⟩, List.mem_of_getElem? (i := 2588) (by decide +kernel), List.mem_of_getElem? (i := 3801) (by decide +kernel), List.mem_of_getElem? (i := 3802) (by decide +kernel)⟩
theorem lw_p241 : lw_okq (⟨"WireHouseModel", "defaultOf", "(I)V"⟩, 311) := ⟨⟨by decide +kernel, by decide +kernel⟩, List.mem_of_getElem? (i := 2588) (by decide +kernel), List.mem_of_getElem? (i := 3810) (by decide +kernel), List.mem_of_getElem? (i := 3811) (by decide +kernel)⟩
theorem lw_p242 : lw_okq (⟨"WireHouseModel", "judgeEnum", "(I)V"⟩, 311) := ⟨⟨by decide +kernel, by decide +kernel⟩, List.mem_of_getElem? (i := 2588) (by decide +kernel), List.mem_of_getElem? (i := 3814) (by decide +kernel), List.mem_of_getElem? (i := 3815) (by decide +kernel)⟩
theorem lw_p243 : lw_okq (⟨"WireHouseModel", "judgeService", "(I)V"⟩, 311) := ⟨⟨by decide +kernel, by decide +kernel⟩, List.mem_of_getElem? (i := 2588) (by decide +kernel), List.mem_of_getElem? (i := 3818) (by decide +kernel), List.mem_of_getElem? (i := 3819) (by decide +kernel)⟩
theorem lw_p244 : lw_okq (⟨"WireHouseModel", "callRecord", "(I)I"⟩, 311) := ⟨⟨by decide +kernel, by decide +kernel⟩, List.mem_of_getElem? (i := 2588) (by decide +kernel), List.mem_of_getElem? (i := 3823) (by decide +kernel), List.mem_of_getElem? (i := 3824) (by decide +kernel)⟩
theorem lw_p245 : lw_okq (⟨"WireHouseModel", "judgeCall", "(II)V"⟩, 311) := ⟨⟨by decide +kernel, by decide +kernel⟩, List.mem_of_getElem? (i := 2588) (by decide +kernel), List.mem_of_getElem? (i := 3827) (by decide +kernel), List.mem_of_getElem? (i := 3828) (by decide +kernel)⟩
theorem lw_p246 : lw_okq (⟨"WireHouseModel", "findCell", "(IJJ)I"⟩, 311) := ⟨⟨by decide +kernel, by decide +kernel⟩, List.mem_of_getElem? (i := 2588) (by decide +kernel), List.mem_of_getElem? (i := 3831) (by decide +kernel), List.mem_of_getElem? (i := 3832) (by decide +kernel)⟩
theorem lw_p247 : lw_okq (⟨"WireHouseModel", "findField", "(IJJ)I"⟩, 311) := ⟨⟨by decide +kernel, by decide +kernel⟩, List.mem_of_getElem? (i := 2588) (by decide +kernel), List.mem_of_getElem? (i := 3835) (by decide +kernel), List.mem_of_getElem? (i := 3836) (by decide +kernel)⟩
theorem lw_p248 : lw_okq (⟨"WireHouseModel", "kindTold", "(I)I"⟩, 311) := ⟨⟨by decide +kernel, by decide +kernel⟩, List.mem_of_getElem? (i := 2588) (by decide +kernel), List.mem_of_getElem? (i := 3839) (by decide +kernel), List.mem_of_getElem? (i := 3840) (by decide +kernel)⟩
theorem lw_p249 : lw_okq (⟨"WireHouseModel", "isNumberKind", "(I)Z"⟩, 311) := ⟨⟨by decide +kernel, by decide +kernel⟩, List.mem_of_getElem? (i := 2588) (by decide +kernel), List.mem_of_getElem? (i := 3843) (by decide +kernel), List.mem_of_getElem? (i := 3844) (by decide +kernel)⟩
theorem lw_p250 : lw_okq (⟨"WireHouseModel", "layout", "(I)V"⟩, 311) := ⟨⟨by decide +kernel, by decide +kernel⟩, List.mem_of_getElem? (i := 2588) (by decide +kernel), List.mem_of_getElem? (i := 3847) (by decide +kernel), List.mem_of_getElem? (i := 3848) (by decide +kernel)⟩
theorem lw_p251 : lw_okq (⟨"WireHouseModel", "layField", "(I)V"⟩, 311) := ⟨⟨by decide +kernel, by decide +kernel⟩, List.mem_of_getElem? (i := 2588) (by decide +kernel), List.mem_of_getElem? (i := 3851) (by decide +kernel), List.mem_of_getElem? (i := 3852) (by decide +kernel)⟩
theorem lw_p252 : lw_okq (⟨"WireHouseModel", "placeOf", "(I)I"⟩, 311) := ⟨⟨by decide +kernel, by decide +kernel⟩, List.mem_of_getElem? (i := 2588) (by decide +kernel), List.mem_of_getElem? (i := 3855) (by decide +kernel), List.mem_of_getElem? (i := 3856) (by decide +kernel)⟩
theorem lw_p253 : lw_okq (⟨"WireHouseModel", "bitsOf", "(I)I"⟩, 311) := ⟨⟨by decide +kernel, by decide +kernel⟩, List.mem_of_getElem? (i := 2588) (by decide +kernel), List.mem_of_getElem? (i := 3859) (by decide +kernel), List.mem_of_getElem? (i := 3860) (by decide +kernel)⟩
theorem lw_p254 : lw_okq (⟨"WireHouseModel", "isLeastOfOne", "(II)Z"⟩, 311) := ⟨⟨by decide +kernel, by decide +kernel⟩, List.mem_of_getElem? (i := 2588) (by decide +kernel), List.mem_of_getElem? (i := 3863) (by decide +kernel), List.mem_of_getElem? (i := 3864) (by decide +kernel)⟩
theorem lw_p255 : lw_okq (⟨"WireHouseModel", "layOne", "(II)V"⟩, 311) := ⟨⟨by decide +kernel, by decide +kernel⟩, List.mem_of_getElem? (i := 2588) (by decide +kernel), List.mem_of_getElem? (i := 3867) (by decide +kernel), List.mem_of_getElem? (i := 3868) (by decide +kernel)⟩
def lw_privs_16 : List (MethodName × Nat) := [(⟨"WireHouseModel", "fitsKind", "(IJ)Z"⟩, 311), (⟨"WireHouseModel", "defaultOf", "(I)V"⟩, 311), (⟨"WireHouseModel", "judgeEnum", "(I)V"⟩, 311), (⟨"WireHouseModel", "judgeService", "(I)V"⟩, 311), (⟨"WireHouseModel", "callRecord", "(I)I"⟩, 311), (⟨"WireHouseModel", "judgeCall", "(II)V"⟩, 311), (⟨"WireHouseModel", "findCell", "(IJJ)I"⟩, 311), (⟨"WireHouseModel", "findField", "(IJJ)I"⟩, 311), (⟨"WireHouseModel", "kindTold", "(I)I"⟩, 311), (⟨"WireHouseModel", "isNumberKind", "(I)Z"⟩, 311), (⟨"WireHouseModel", "layout", "(I)V"⟩, 311), (⟨"WireHouseModel", "layField", "(I)V"⟩, 311), (⟨"WireHouseModel", "placeOf", "(I)I"⟩, 311), (⟨"WireHouseModel", "bitsOf", "(I)I"⟩, 311), (⟨"WireHouseModel", "isLeastOfOne", "(II)Z"⟩, 311), (⟨"WireHouseModel", "layOne", "(II)V"⟩, 311)]
theorem lw_r16 : ∀ q ∈ lw_privs_16, lw_okq q := List.forall_mem_cons.mpr ⟨lw_p240, List.forall_mem_cons.mpr ⟨lw_p241, List.forall_mem_cons.mpr ⟨lw_p242, List.forall_mem_cons.mpr ⟨lw_p243, List.forall_mem_cons.mpr ⟨lw_p244, List.forall_mem_cons.mpr ⟨lw_p245, List.forall_mem_cons.mpr ⟨lw_p246, List.forall_mem_cons.mpr ⟨lw_p247, List.forall_mem_cons.mpr ⟨lw_p248, List.forall_mem_cons.mpr ⟨lw_p249, List.forall_mem_cons.mpr ⟨lw_p250, List.forall_mem_cons.mpr ⟨lw_p251, List.forall_mem_cons.mpr ⟨lw_p252, List.forall_mem_cons.mpr ⟨lw_p253, List.forall_mem_cons.mpr ⟨lw_p254, List.forall_mem_cons.mpr ⟨lw_p255, fun _ h => absurd h List.not_mem_nil⟩⟩⟩⟩⟩⟩⟩⟩⟩⟩⟩⟩⟩⟩⟩⟩
theorem lw_p256 : lw_okq (⟨"WireHouseModel", "keepSchema", "(I)V"⟩, 311) := ⟨⟨by decide +kernel, by decide +kernel⟩, List.mem_of_getElem? (i := 2588) (by decide +kernel), List.mem_of_getElem? (i := 3871) (by decide +kernel), List.mem_of_getElem? (i := 3872) (by decide +kernel)⟩
theorem lw_p257 : lw_okq (⟨"WireHouseModel", "keepField", "(II)V"⟩, 311) := ⟨⟨by decide +kernel, by decide +kernel⟩, List.mem_of_getElem? (i := 2588) (by decide +kernel), List.mem_of_getElem? (i := 3875) (by decide +kernel), List.mem_of_getElem? (i := 3876) (by decide +kernel)⟩
theorem lw_p258 : lw_okq (⟨"WireHouseModel", "keepService", "(II)V"⟩, 311) := ⟨⟨by decide +kernel, by decide +kernel⟩, List.mem_of_getElem? (i := 2588) (by decide +kernel), List.mem_of_getElem? (i := 3879) (by decide +kernel), List.mem_of_getElem? (i := 3880) (by decide +kernel)⟩
theorem lw_p259 : lw_okq (⟨"WireHouseModel", "forgetSchema", "(I)V"⟩, 311) := ⟨⟨by decide +kernel, by decide +kernel⟩, List.mem_of_getElem? (i := 2588) (by decide +kernel), List.mem_of_getElem? (i := 3883) (by decide +kernel), List.mem_of_getElem? (i := 3884) (by decide +kernel)⟩
theorem lw_p260 : lw_okq (⟨"WireHouseModel", "noLetters", "()V"⟩, 311) := ⟨⟨by decide +kernel, by decide +kernel⟩, List.mem_of_getElem? (i := 2588) (by decide +kernel), List.mem_of_getElem? (i := 3887) (by decide +kernel), List.mem_of_getElem? (i := 3888) (by decide +kernel)⟩
theorem lw_p261 : lw_okq (⟨"WireHouseModel", "isType", "(II)Z"⟩, 311) := ⟨⟨by decide +kernel, by decide +kernel⟩, List.mem_of_getElem? (i := 2588) (by decide +kernel), List.mem_of_getElem? (i := 3899) (by decide +kernel), List.mem_of_getElem? (i := 3900) (by decide +kernel)⟩
theorem lw_p262 : lw_okq (⟨"WireHouseModel", "byteOf", "(JJI)I"⟩, 311) := ⟨⟨by decide +kernel, by decide +kernel⟩, List.mem_of_getElem? (i := 2588) (by decide +kernel), List.mem_of_getElem? (i := 3911) (by decide +kernel), List.mem_of_getElem? (i := 3912) (by decide +kernel)⟩
theorem lw_p263 : lw_okq (⟨"WireHouseModel", "serviceMark", "(II)J"⟩, 311) := ⟨⟨by decide +kernel, by decide +kernel⟩, List.mem_of_getElem? (i := 2588) (by decide +kernel), List.mem_of_getElem? (i := 3928) (by decide +kernel), List.mem_of_getElem? (i := 3929) (by decide +kernel)⟩
theorem lw_p264 : lw_okq (⟨"WireHouseModel", "hashText", "(III)V"⟩, 311) := ⟨⟨by decide +kernel, by decide +kernel⟩, List.mem_of_getElem? (i := 2588) (by decide +kernel), List.mem_of_getElem? (i := 3933) (by decide +kernel), List.mem_of_getElem? (i := 3934) (by decide +kernel)⟩
theorem lw_p265 : lw_okq (⟨"WireHouseModel", "lineUp", "(I)V"⟩, 311) := ⟨⟨by decide +kernel, by decide +kernel⟩, List.mem_of_getElem? (i := 2588) (by decide +kernel), List.mem_of_getElem? (i := 3938) (by decide +kernel), List.mem_of_getElem? (i := 3939) (by decide +kernel)⟩
theorem lw_p266 : lw_okq (⟨"WireHouseModel", "hashLine", "(I)V"⟩, 311) := ⟨⟨by decide +kernel, by decide +kernel⟩, List.mem_of_getElem? (i := 2588) (by decide +kernel), List.mem_of_getElem? (i := 3942) (by decide +kernel), List.mem_of_getElem? (i := 3943) (by decide +kernel)⟩
theorem lw_p267 : lw_okq (⟨"WireHouseModel", "isMessage", "(I)Z"⟩, 311) := ⟨⟨by decide +kernel, by decide +kernel⟩, List.mem_of_getElem? (i := 2588) (by decide +kernel), List.mem_of_getElem? (i := 3950) (by decide +kernel), List.mem_of_getElem? (i := 3951) (by decide +kernel)⟩
theorem lw_p268 : lw_okq (⟨"WireHouseModel", "readMessage", "(I)Z"⟩, 311) := ⟨⟨by decide +kernel, by decide +kernel⟩, List.mem_of_getElem? (i := 2588) (by decide +kernel), List.mem_of_getElem? (i := 3954) (by decide +kernel), List.mem_of_getElem? (i := 3955) (by decide +kernel)⟩
theorem lw_p269 : lw_okq (⟨"WireHouseModel", "findTypeOf", "(IJJ)I"⟩, 311) := ⟨⟨by decide +kernel, by decide +kernel⟩, List.mem_of_getElem? (i := 2588) (by decide +kernel), List.mem_of_getElem? (i := 3958) (by decide +kernel), List.mem_of_getElem? (i := 3959) (by decide +kernel)⟩
theorem lw_p270 : lw_okq (⟨"WireHouseModel", "clear", "(III)V"⟩, 311) := ⟨⟨by decide +kernel, by decide +kernel⟩, List.mem_of_getElem? (i := 2588) (by decide +kernel), List.mem_of_getElem? (i := 3962) (by decide +kernel), List.mem_of_getElem? (i := 3963) (by decide +kernel)⟩
theorem lw_p271 : lw_okq (⟨"WireHouseModel", "readRecord", "(I)Z"⟩, 311) := ⟨⟨by decide +kernel, by decide +kernel⟩, List.mem_of_getElem? (i := 2588) (by decide +kernel), List.mem_of_getElem? (i := 3967) (by decide +kernel), List.mem_of_getElem? (i := 3968) (by decide +kernel)⟩
def lw_privs_17 : List (MethodName × Nat) := [(⟨"WireHouseModel", "keepSchema", "(I)V"⟩, 311), (⟨"WireHouseModel", "keepField", "(II)V"⟩, 311), (⟨"WireHouseModel", "keepService", "(II)V"⟩, 311), (⟨"WireHouseModel", "forgetSchema", "(I)V"⟩, 311), (⟨"WireHouseModel", "noLetters", "()V"⟩, 311), (⟨"WireHouseModel", "isType", "(II)Z"⟩, 311), (⟨"WireHouseModel", "byteOf", "(JJI)I"⟩, 311), (⟨"WireHouseModel", "serviceMark", "(II)J"⟩, 311), (⟨"WireHouseModel", "hashText", "(III)V"⟩, 311), (⟨"WireHouseModel", "lineUp", "(I)V"⟩, 311), (⟨"WireHouseModel", "hashLine", "(I)V"⟩, 311), (⟨"WireHouseModel", "isMessage", "(I)Z"⟩, 311), (⟨"WireHouseModel", "readMessage", "(I)Z"⟩, 311), (⟨"WireHouseModel", "findTypeOf", "(IJJ)I"⟩, 311), (⟨"WireHouseModel", "clear", "(III)V"⟩, 311), (⟨"WireHouseModel", "readRecord", "(I)Z"⟩, 311)]
theorem lw_r17 : ∀ q ∈ lw_privs_17, lw_okq q := List.forall_mem_cons.mpr ⟨lw_p256, List.forall_mem_cons.mpr ⟨lw_p257, List.forall_mem_cons.mpr ⟨lw_p258, List.forall_mem_cons.mpr ⟨lw_p259, List.forall_mem_cons.mpr ⟨lw_p260, List.forall_mem_cons.mpr ⟨lw_p261, List.forall_mem_cons.mpr ⟨lw_p262, List.forall_mem_cons.mpr ⟨lw_p263, List.forall_mem_cons.mpr ⟨lw_p264, List.forall_mem_cons.mpr ⟨lw_p265, List.forall_mem_cons.mpr ⟨lw_p266, List.forall_mem_cons.mpr ⟨lw_p267, List.forall_mem_cons.mpr ⟨lw_p268, List.forall_mem_cons.mpr ⟨lw_p269, List.forall_mem_cons.mpr ⟨lw_p270, List.forall_mem_cons.mpr ⟨lw_p271, fun _ h => absurd h List.not_mem_nil⟩⟩⟩⟩⟩⟩⟩⟩⟩⟩⟩⟩⟩⟩⟩⟩
theorem lw_p272 : lw_okq (⟨"WireHouseModel", "noValue", "(I)Z"⟩, 311) := ⟨⟨by decide +kernel, by decide +kernel⟩, List.mem_of_getElem? (i := 2588) (by decide +kernel), List.mem_of_getElem? (i := 3971) (by decide +kernel), List.mem_of_getElem? (i := 3972) (by decide +kernel)⟩
theorem lw_p273 : lw_okq (⟨"WireHouseModel", "open", "(III)Z"⟩, 311) := ⟨⟨by decide +kernel, by decide +kernel⟩, List.mem_of_getElem? (i := 2588) (by decide +kernel), List.mem_of_getElem? (i := 3975) (by decide +kernel), List.mem_of_getElem? (i := 3976) (by decide +kernel)⟩
theorem lw_p274 : lw_okq (⟨"WireHouseModel", "readOpen", "()Z"⟩, 311) := ⟨⟨by decide +kernel, by decide +kernel⟩, List.mem_of_getElem? (i := 2588) (by decide +kernel), List.mem_of_getElem? (i := 3979) (by decide +kernel), List.mem_of_getElem? (i := 3980) (by decide +kernel)⟩
theorem lw_p275 : lw_okq (⟨"WireHouseModel", "behindItem", "()Z"⟩, 311) := ⟨⟨by decide +kernel, by decide +kernel⟩, List.mem_of_getElem? (i := 2588) (by decide +kernel), List.mem_of_getElem? (i := 3983) (by decide +kernel), List.mem_of_getElem? (i := 3984) (by decide +kernel)⟩
theorem lw_p276 : lw_okq (⟨"WireHouseModel", "readPart", "()Z"⟩, 311) := ⟨⟨by decide +kernel, by decide +kernel⟩, List.mem_of_getElem? (i := 2588) (by decide +kernel), List.mem_of_getElem? (i := 3987) (by decide +kernel), List.mem_of_getElem? (i := 3988) (by decide +kernel)⟩
theorem lw_p277 : lw_okq (⟨"WireHouseModel", "recordOf", "(I)I"⟩, 311) := ⟨⟨by decide +kernel, by decide +kernel⟩, List.mem_of_getElem? (i := 2588) (by decide +kernel), List.mem_of_getElem? (i := 3991) (by decide +kernel), List.mem_of_getElem? (i := 3992) (by decide +kernel)⟩
theorem lw_p278 : lw_okq (⟨"WireHouseModel", "slotOf", "(I)I"⟩, 311) := ⟨⟨by decide +kernel, by decide +kernel⟩, List.mem_of_getElem? (i := 2588) (by decide +kernel), List.mem_of_getElem? (i := 3995) (by decide +kernel), List.mem_of_getElem? (i := 3996) (by decide +kernel)⟩
theorem lw_p279 : lw_okq (⟨"WireHouseModel", "typeRecord", "(I)I"⟩, 311) := ⟨⟨by decide +kernel, by decide +kernel⟩, List.mem_of_getElem? (i := 2588) (by decide +kernel), List.mem_of_getElem? (i := 3999) (by decide +kernel), List.mem_of_getElem? (i := 4000) (by decide +kernel)⟩
theorem lw_p280 : lw_okq (⟨"WireHouseModel", "want", "(I)Z"⟩, 311) := ⟨⟨by decide +kernel, by decide +kernel⟩, List.mem_of_getElem? (i := 2588) (by decide +kernel), List.mem_of_getElem? (i := 4003) (by decide +kernel), List.mem_of_getElem? (i := 4004) (by decide +kernel)⟩
theorem lw_p281 : lw_okq (⟨"WireHouseModel", "readValue", "(III)Z"⟩, 311) := ⟨⟨by decide +kernel, by decide +kernel⟩, List.mem_of_getElem? (i := 2588) (by decide +kernel), List.mem_of_getElem? (i := 4007) (by decide +kernel), List.mem_of_getElem? (i := 4008) (by decide +kernel)⟩
theorem lw_p282 : lw_okq (⟨"WireHouseModel", "putKey", "(III)V"⟩, 311) := ⟨⟨by decide +kernel, by decide +kernel⟩, List.mem_of_getElem? (i := 2588) (by decide +kernel), List.mem_of_getElem? (i := 4011) (by decide +kernel), List.mem_of_getElem? (i := 4012) (by decide +kernel)⟩
theorem lw_p283 : lw_okq (⟨"WireHouseModel", "find", "(II)I"⟩, 311) := ⟨⟨by decide +kernel, by decide +kernel⟩, List.mem_of_getElem? (i := 2588) (by decide +kernel), List.mem_of_getElem? (i := 4015) (by decide +kernel), List.mem_of_getElem? (i := 4016) (by decide +kernel)⟩
theorem lw_p284 : lw_okq (⟨"WireHouseModel", "link", "(III)V"⟩, 311) := ⟨⟨by decide +kernel, by decide +kernel⟩, List.mem_of_getElem? (i := 2588) (by decide +kernel), List.mem_of_getElem? (i := 4019) (by decide +kernel), List.mem_of_getElem? (i := 4020) (by decide +kernel)⟩
theorem lw_p285 : lw_okq (⟨"WireHouseModel", "newEntry", "(II)I"⟩, 311) := ⟨⟨by decide +kernel, by decide +kernel⟩, List.mem_of_getElem? (i := 2588) (by decide +kernel), List.mem_of_getElem? (i := 4023) (by decide +kernel), List.mem_of_getElem? (i := 4024) (by decide +kernel)⟩
theorem lw_p286 : lw_okq (⟨"WireHouseModel", "putIn", "(II)V"⟩, 311) := ⟨⟨by decide +kernel, by decide +kernel⟩, List.mem_of_getElem? (i := 2588) (by decide +kernel), List.mem_of_getElem? (i := 4027) (by decide +kernel), List.mem_of_getElem? (i := 4028) (by decide +kernel)⟩
theorem lw_p287 : lw_okq (⟨"WireHouseModel", "enterRecord", "(II)I"⟩, 311) := ⟨⟨by decide +kernel, by decide +kernel⟩, List.mem_of_getElem? (i := 2588) (by decide +kernel), List.mem_of_getElem? (i := 4031) (by decide +kernel), List.mem_of_getElem? (i := 4032) (by decide +kernel)⟩
def lw_privs_18 : List (MethodName × Nat) := [(⟨"WireHouseModel", "noValue", "(I)Z"⟩, 311), (⟨"WireHouseModel", "open", "(III)Z"⟩, 311), (⟨"WireHouseModel", "readOpen", "()Z"⟩, 311), (⟨"WireHouseModel", "behindItem", "()Z"⟩, 311), (⟨"WireHouseModel", "readPart", "()Z"⟩, 311), (⟨"WireHouseModel", "recordOf", "(I)I"⟩, 311), (⟨"WireHouseModel", "slotOf", "(I)I"⟩, 311), (⟨"WireHouseModel", "typeRecord", "(I)I"⟩, 311), (⟨"WireHouseModel", "want", "(I)Z"⟩, 311), (⟨"WireHouseModel", "readValue", "(III)Z"⟩, 311), (⟨"WireHouseModel", "putKey", "(III)V"⟩, 311), (⟨"WireHouseModel", "find", "(II)I"⟩, 311), (⟨"WireHouseModel", "link", "(III)V"⟩, 311), (⟨"WireHouseModel", "newEntry", "(II)I"⟩, 311), (⟨"WireHouseModel", "putIn", "(II)V"⟩, 311), (⟨"WireHouseModel", "enterRecord", "(II)I"⟩, 311)]
theorem lw_r18 : ∀ q ∈ lw_privs_18, lw_okq q := List.forall_mem_cons.mpr ⟨lw_p272, List.forall_mem_cons.mpr ⟨lw_p273, List.forall_mem_cons.mpr ⟨lw_p274, List.forall_mem_cons.mpr ⟨lw_p275, List.forall_mem_cons.mpr ⟨lw_p276, List.forall_mem_cons.mpr ⟨lw_p277, List.forall_mem_cons.mpr ⟨lw_p278, List.forall_mem_cons.mpr ⟨lw_p279, List.forall_mem_cons.mpr ⟨lw_p280, List.forall_mem_cons.mpr ⟨lw_p281, List.forall_mem_cons.mpr ⟨lw_p282, List.forall_mem_cons.mpr ⟨lw_p283, List.forall_mem_cons.mpr ⟨lw_p284, List.forall_mem_cons.mpr ⟨lw_p285, List.forall_mem_cons.mpr ⟨lw_p286, List.forall_mem_cons.mpr ⟨lw_p287, fun _ h => absurd h List.not_mem_nil⟩⟩⟩⟩⟩⟩⟩⟩⟩⟩⟩⟩⟩⟩⟩⟩
theorem lw_p288 : lw_okq (⟨"WireHouseModel", "leaveOthers", "(II)V"⟩, 311) := ⟨⟨by decide +kernel, by decide +kernel⟩, List.mem_of_getElem? (i := 2588) (by decide +kernel), List.mem_of_getElem? (i := 4035) (by decide +kernel), List.mem_of_getElem? (i := 4036) (by decide +kernel)⟩
theorem lw_p289 : lw_okq (⟨"WireHouseModel", "removeField", "(II)V"⟩, 311) := ⟨⟨by decide +kernel, by decide +kernel⟩, List.mem_of_getElem? (i := 2588) (by decide +kernel), List.mem_of_getElem? (i := 4039) (by decide +kernel), List.mem_of_getElem? (i := 4040) (by decide +kernel)⟩
theorem lw_p290 : lw_okq (⟨"WireHouseModel", "takeOut", "(II)V"⟩, 311) := ⟨⟨by decide +kernel, by decide +kernel⟩, List.mem_of_getElem? (i := 2588) (by decide +kernel), List.mem_of_getElem? (i := 4043) (by decide +kernel), List.mem_of_getElem? (i := 4044) (by decide +kernel)⟩
theorem lw_p291 : lw_okq (⟨"WireHouseModel", "items", "(II)I"⟩, 311) := ⟨⟨by decide +kernel, by decide +kernel⟩, List.mem_of_getElem? (i := 2588) (by decide +kernel), List.mem_of_getElem? (i := 4047) (by decide +kernel), List.mem_of_getElem? (i := 4048) (by decide +kernel)⟩
theorem lw_p292 : lw_okq (⟨"WireHouseModel", "uncount", "(I)V"⟩, 311) := ⟨⟨by decide +kernel, by decide +kernel⟩, List.mem_of_getElem? (i := 2588) (by decide +kernel), List.mem_of_getElem? (i := 4051) (by decide +kernel), List.mem_of_getElem? (i := 4052) (by decide +kernel)⟩
theorem lw_p293 : lw_okq (⟨"WireHouseModel", "isRecordEntry", "(I)Z"⟩, 311) := ⟨⟨by decide +kernel, by decide +kernel⟩, List.mem_of_getElem? (i := 2588) (by decide +kernel), List.mem_of_getElem? (i := 4055) (by decide +kernel), List.mem_of_getElem? (i := 4056) (by decide +kernel)⟩
theorem lw_p294 : lw_okq (⟨"WireHouseModel", "readScalar", "(III)Z"⟩, 311) := ⟨⟨by decide +kernel, by decide +kernel⟩, List.mem_of_getElem? (i := 2588) (by decide +kernel), List.mem_of_getElem? (i := 4059) (by decide +kernel), List.mem_of_getElem? (i := 4060) (by decide +kernel)⟩
theorem lw_p295 : lw_okq (⟨"WireHouseModel", "poolByte", "(II)I"⟩, 311) := ⟨⟨by decide +kernel, by decide +kernel⟩, List.mem_of_getElem? (i := 2588) (by decide +kernel), List.mem_of_getElem? (i := 4063) (by decide +kernel), List.mem_of_getElem? (i := 4064) (by decide +kernel)⟩
theorem lw_p296 : lw_okq (⟨"WireHouseModel", "fill", "(IJII)V"⟩, 311) := ⟨⟨by decide +kernel, by decide +kernel⟩, List.mem_of_getElem? (i := 2588) (by decide +kernel), List.mem_of_getElem? (i := 4067) (by decide +kernel), List.mem_of_getElem? (i := 4068) (by decide +kernel)⟩
theorem lw_p297 : lw_okq (⟨"WireHouseModel", "addItem", "(IIJII)I"⟩, 311) := ⟨⟨by decide +kernel, by decide +kernel⟩, List.mem_of_getElem? (i := 2588) (by decide +kernel), List.mem_of_getElem? (i := 4071) (by decide +kernel), List.mem_of_getElem? (i := 4072) (by decide +kernel)⟩
theorem lw_p298 : lw_okq (⟨"WireHouseModel", "setField", "(IIJII)V"⟩, 311) := ⟨⟨by decide +kernel, by decide +kernel⟩, List.mem_of_getElem? (i := 2588) (by decide +kernel), List.mem_of_getElem? (i := 4075) (by decide +kernel), List.mem_of_getElem? (i := 4076) (by decide +kernel)⟩
theorem lw_p299 : lw_okq (⟨"WireHouseModel", "isDefault", "(IIJII)Z"⟩, 311) := ⟨⟨by decide +kernel, by decide +kernel⟩, List.mem_of_getElem? (i := 2588) (by decide +kernel), List.mem_of_getElem? (i := 4079) (by decide +kernel), List.mem_of_getElem? (i := 4080) (by decide +kernel)⟩
theorem lw_p300 : lw_okq (⟨"WireHouseModel", "isTextKind", "(I)Z"⟩, 311) := ⟨⟨by decide +kernel, by decide +kernel⟩, List.mem_of_getElem? (i := 2588) (by decide +kernel), List.mem_of_getElem? (i := 4083) (by decide +kernel), List.mem_of_getElem? (i := 4084) (by decide +kernel)⟩
theorem lw_p301 : lw_okq (⟨"WireHouseModel", "readItem", "(I)Z"⟩, 311) := ⟨⟨by decide +kernel, by decide +kernel⟩, List.mem_of_getElem? (i := 2588) (by decide +kernel), List.mem_of_getElem? (i := 4087) (by decide +kernel), List.mem_of_getElem? (i := 4088) (by decide +kernel)⟩
theorem lw_p302 : lw_okq (⟨"WireHouseModel", "keyPlace", "(IIJII)I"⟩, 311) := ⟨⟨by decide +kernel, by decide +kernel⟩, List.mem_of_getElem? (i := 2588) (by decide +kernel), List.mem_of_getElem? (i := 4091) (by decide +kernel), List.mem_of_getElem? (i := 4092) (by decide +kernel)⟩
theorem lw_p303 : lw_okq (⟨"WireHouseModel", "compareKeys", "(IIJIII)I"⟩, 311) := ⟨⟨by decide +kernel, by decide +kernel⟩, List.mem_of_getElem? (i := 2588) (by decide +kernel), List.mem_of_getElem? (i := 4095) (by decide +kernel), List.mem_of_getElem? (i := 4096) (by decide +kernel)⟩
def lw_privs_19 : List (MethodName × Nat) := [(⟨"WireHouseModel", "leaveOthers", "(II)V"⟩, 311), (⟨"WireHouseModel", "removeField", "(II)V"⟩, 311), (⟨"WireHouseModel", "takeOut", "(II)V"⟩, 311), (⟨"WireHouseModel", "items", "(II)I"⟩, 311), (⟨"WireHouseModel", "uncount", "(I)V"⟩, 311), (⟨"WireHouseModel", "isRecordEntry", "(I)Z"⟩, 311), (⟨"WireHouseModel", "readScalar", "(III)Z"⟩, 311), (⟨"WireHouseModel", "poolByte", "(II)I"⟩, 311), (⟨"WireHouseModel", "fill", "(IJII)V"⟩, 311), (⟨"WireHouseModel", "addItem", "(IIJII)I"⟩, 311), (⟨"WireHouseModel", "setField", "(IIJII)V"⟩, 311), (⟨"WireHouseModel", "isDefault", "(IIJII)Z"⟩, 311), (⟨"WireHouseModel", "isTextKind", "(I)Z"⟩, 311), (⟨"WireHouseModel", "readItem", "(I)Z"⟩, 311), (⟨"WireHouseModel", "keyPlace", "(IIJII)I"⟩, 311), (⟨"WireHouseModel", "compareKeys", "(IIJIII)I"⟩, 311)]
theorem lw_r19 : ∀ q ∈ lw_privs_19, lw_okq q := List.forall_mem_cons.mpr ⟨lw_p288, List.forall_mem_cons.mpr ⟨lw_p289, List.forall_mem_cons.mpr ⟨lw_p290, List.forall_mem_cons.mpr ⟨lw_p291, List.forall_mem_cons.mpr ⟨lw_p292, List.forall_mem_cons.mpr ⟨lw_p293, List.forall_mem_cons.mpr ⟨lw_p294, List.forall_mem_cons.mpr ⟨lw_p295, List.forall_mem_cons.mpr ⟨lw_p296, List.forall_mem_cons.mpr ⟨lw_p297, List.forall_mem_cons.mpr ⟨lw_p298, List.forall_mem_cons.mpr ⟨lw_p299, List.forall_mem_cons.mpr ⟨lw_p300, List.forall_mem_cons.mpr ⟨lw_p301, List.forall_mem_cons.mpr ⟨lw_p302, List.forall_mem_cons.mpr ⟨lw_p303, fun _ h => absurd h List.not_mem_nil⟩⟩⟩⟩⟩⟩⟩⟩⟩⟩⟩⟩⟩⟩⟩⟩
theorem lw_p304 : lw_okq (⟨"WireHouseModel", "keyByte", "(II)I"⟩, 311) := ⟨⟨by decide +kernel, by decide +kernel⟩, List.mem_of_getElem? (i := 2588) (by decide +kernel), List.mem_of_getElem? (i := 4100) (by decide +kernel), List.mem_of_getElem? (i := 4101) (by decide +kernel)⟩
theorem lw_p305 : lw_okq (⟨"WireHouseModel", "isRightEnd", "()Z"⟩, 311) := ⟨⟨by decide +kernel, by decide +kernel⟩, List.mem_of_getElem? (i := 2588) (by decide +kernel), List.mem_of_getElem? (i := 4104) (by decide +kernel), List.mem_of_getElem? (i := 4105) (by decide +kernel)⟩
theorem lw_p306 : lw_okq (⟨"WireHouseModel", "isLarge", "(I)Z"⟩, 311) := ⟨⟨by decide +kernel, by decide +kernel⟩, List.mem_of_getElem? (i := 2588) (by decide +kernel), List.mem_of_getElem? (i := 4108) (by decide +kernel), List.mem_of_getElem? (i := 4109) (by decide +kernel)⟩
theorem lw_p307 : lw_okq (⟨"WireHouseModel", "copyTo", "(II)V"⟩, 311) := ⟨⟨by decide +kernel, by decide +kernel⟩, List.mem_of_getElem? (i := 2588) (by decide +kernel), List.mem_of_getElem? (i := 4112) (by decide +kernel), List.mem_of_getElem? (i := 4113) (by decide +kernel)⟩
theorem lw_p308 : lw_okq (⟨"WireHouseModel", "copyEntry", "(II)I"⟩, 311) := ⟨⟨by decide +kernel, by decide +kernel⟩, List.mem_of_getElem? (i := 2588) (by decide +kernel), List.mem_of_getElem? (i := 4116) (by decide +kernel), List.mem_of_getElem? (i := 4117) (by decide +kernel)⟩
theorem lw_p309 : lw_okq (⟨"WireHouseModel", "bytesOf", "(II)I"⟩, 311) := ⟨⟨by decide +kernel, by decide +kernel⟩, List.mem_of_getElem? (i := 2588) (by decide +kernel), List.mem_of_getElem? (i := 4120) (by decide +kernel), List.mem_of_getElem? (i := 4121) (by decide +kernel)⟩
theorem lw_p310 : lw_okq (⟨"WireHouseModel", "printMessage", "(I)V"⟩, 311) := ⟨⟨by decide +kernel, by decide +kernel⟩, List.mem_of_getElem? (i := 2588) (by decide +kernel), List.mem_of_getElem? (i := 4128) (by decide +kernel), List.mem_of_getElem? (i := 4129) (by decide +kernel)⟩
theorem lw_p311 : lw_okq (⟨"WireHouseModel", "putName", "(JJ)V"⟩, 311) := ⟨⟨by decide +kernel, by decide +kernel⟩, List.mem_of_getElem? (i := 2588) (by decide +kernel), List.mem_of_getElem? (i := 4132) (by decide +kernel), List.mem_of_getElem? (i := 4133) (by decide +kernel)⟩
theorem lw_p312 : lw_okq (⟨"WireHouseModel", "emit", "(I)V"⟩, 311) := ⟨⟨by decide +kernel, by decide +kernel⟩, List.mem_of_getElem? (i := 2588) (by decide +kernel), List.mem_of_getElem? (i := 4136) (by decide +kernel), List.mem_of_getElem? (i := 4137) (by decide +kernel)⟩
theorem lw_p313 : lw_okq (⟨"WireHouseModel", "putScalar", "(IIIJII)V"⟩, 311) := ⟨⟨by decide +kernel, by decide +kernel⟩, List.mem_of_getElem? (i := 2588) (by decide +kernel), List.mem_of_getElem? (i := 4140) (by decide +kernel), List.mem_of_getElem? (i := 4141) (by decide +kernel)⟩
theorem lw_p314 : lw_okq (⟨"WireHouseModel", "putString", "(III)V"⟩, 311) := ⟨⟨by decide +kernel, by decide +kernel⟩, List.mem_of_getElem? (i := 2588) (by decide +kernel), List.mem_of_getElem? (i := 4144) (by decide +kernel), List.mem_of_getElem? (i := 4145) (by decide +kernel)⟩
theorem lw_p315 : lw_okq (⟨"WireHouseModel", "putWord", "(Z)V"⟩, 311) := ⟨⟨by decide +kernel, by decide +kernel⟩, List.mem_of_getElem? (i := 2588) (by decide +kernel), List.mem_of_getElem? (i := 4148) (by decide +kernel), List.mem_of_getElem? (i := 4149) (by decide +kernel)⟩
theorem lw_p316 : lw_okq (⟨"WireHouseModel", "putNumber2", "(J)V"⟩, 311) := ⟨⟨by decide +kernel, by decide +kernel⟩, List.mem_of_getElem? (i := 2588) (by decide +kernel), List.mem_of_getElem? (i := 4153) (by decide +kernel), List.mem_of_getElem? (i := 4154) (by decide +kernel)⟩
theorem lw_p317 : lw_okq (⟨"WireHouseModel", "putNumber", "(J)V"⟩, 311) := ⟨⟨by decide +kernel, by decide +kernel⟩, List.mem_of_getElem? (i := 2588) (by decide +kernel), List.mem_of_getElem? (i := 4159) (by decide +kernel), List.mem_of_getElem? (i := 4160) (by decide +kernel)⟩
theorem lw_p318 : lw_okq (⟨"WireHouseModel", "madeTo", "(I)I"⟩, 311) := ⟨⟨by decide +kernel, by decide +kernel⟩, List.mem_of_getElem? (i := 2588) (by decide +kernel), List.mem_of_getElem? (i := 4164) (by decide +kernel), List.mem_of_getElem? (i := 4165) (by decide +kernel)⟩
theorem lw_p319 : lw_okq (⟨"WireHouseModel", "deepest", "(I)I"⟩, 311) := ⟨⟨by decide +kernel, by decide +kernel⟩, List.mem_of_getElem? (i := 2588) (by decide +kernel), List.mem_of_getElem? (i := 4172) (by decide +kernel), List.mem_of_getElem? (i := 4173) (by decide +kernel)⟩
def lw_privs_20 : List (MethodName × Nat) := [(⟨"WireHouseModel", "keyByte", "(II)I"⟩, 311), (⟨"WireHouseModel", "isRightEnd", "()Z"⟩, 311), (⟨"WireHouseModel", "isLarge", "(I)Z"⟩, 311), (⟨"WireHouseModel", "copyTo", "(II)V"⟩, 311), (⟨"WireHouseModel", "copyEntry", "(II)I"⟩, 311), (⟨"WireHouseModel", "bytesOf", "(II)I"⟩, 311), (⟨"WireHouseModel", "printMessage", "(I)V"⟩, 311), (⟨"WireHouseModel", "putName", "(JJ)V"⟩, 311), (⟨"WireHouseModel", "emit", "(I)V"⟩, 311), (⟨"WireHouseModel", "putScalar", "(IIIJII)V"⟩, 311), (⟨"WireHouseModel", "putString", "(III)V"⟩, 311), (⟨"WireHouseModel", "putWord", "(Z)V"⟩, 311), (⟨"WireHouseModel", "putNumber2", "(J)V"⟩, 311), (⟨"WireHouseModel", "putNumber", "(J)V"⟩, 311), (⟨"WireHouseModel", "madeTo", "(I)I"⟩, 311), (⟨"WireHouseModel", "deepest", "(I)I"⟩, 311)]
theorem lw_r20 : ∀ q ∈ lw_privs_20, lw_okq q := List.forall_mem_cons.mpr ⟨lw_p304, List.forall_mem_cons.mpr ⟨lw_p305, List.forall_mem_cons.mpr ⟨lw_p306, List.forall_mem_cons.mpr ⟨lw_p307, List.forall_mem_cons.mpr ⟨lw_p308, List.forall_mem_cons.mpr ⟨lw_p309, List.forall_mem_cons.mpr ⟨lw_p310, List.forall_mem_cons.mpr ⟨lw_p311, List.forall_mem_cons.mpr ⟨lw_p312, List.forall_mem_cons.mpr ⟨lw_p313, List.forall_mem_cons.mpr ⟨lw_p314, List.forall_mem_cons.mpr ⟨lw_p315, List.forall_mem_cons.mpr ⟨lw_p316, List.forall_mem_cons.mpr ⟨lw_p317, List.forall_mem_cons.mpr ⟨lw_p318, List.forall_mem_cons.mpr ⟨lw_p319, fun _ h => absurd h List.not_mem_nil⟩⟩⟩⟩⟩⟩⟩⟩⟩⟩⟩⟩⟩⟩⟩⟩
theorem lw_p320 : lw_okq (⟨"WireHouseModel", "unknowns", "(I)I"⟩, 311) := ⟨⟨by decide +kernel, by decide +kernel⟩, List.mem_of_getElem? (i := 2588) (by decide +kernel), List.mem_of_getElem? (i := 4176) (by decide +kernel), List.mem_of_getElem? (i := 4177) (by decide +kernel)⟩
theorem lw_p321 : lw_okq (⟨"WireHouseModel", "isSameEntry", "(II)Z"⟩, 311) := ⟨⟨by decide +kernel, by decide +kernel⟩, List.mem_of_getElem? (i := 2588) (by decide +kernel), List.mem_of_getElem? (i := 4192) (by decide +kernel), List.mem_of_getElem? (i := 4193) (by decide +kernel)⟩
theorem lw_p322 : lw_okq (⟨"WireHouseModel", "isSameLink", "(II)Z"⟩, 311) := ⟨⟨by decide +kernel, by decide +kernel⟩, List.mem_of_getElem? (i := 2588) (by decide +kernel), List.mem_of_getElem? (i := 4196) (by decide +kernel), List.mem_of_getElem? (i := 4197) (by decide +kernel)⟩
theorem lw_p323 : lw_okq (⟨"WireHouseModel", "write", "(II)Z"⟩, 311) := ⟨⟨by decide +kernel, by decide +kernel⟩, List.mem_of_getElem? (i := 2588) (by decide +kernel), List.mem_of_getElem? (i := 4204) (by decide +kernel), List.mem_of_getElem? (i := 4205) (by decide +kernel)⟩
theorem lw_p324 : lw_okq (⟨"WireHouseModel", "writeStream", "(I)V"⟩, 311) := ⟨⟨by decide +kernel, by decide +kernel⟩, List.mem_of_getElem? (i := 2588) (by decide +kernel), List.mem_of_getElem? (i := 4208) (by decide +kernel), List.mem_of_getElem? (i := 4209) (by decide +kernel)⟩
theorem lw_p325 : lw_okq (⟨"WireHouseModel", "measure", "(I)V"⟩, 311) := ⟨⟨by decide +kernel, by decide +kernel⟩, List.mem_of_getElem? (i := 2588) (by decide +kernel), List.mem_of_getElem? (i := 4212) (by decide +kernel), List.mem_of_getElem? (i := 4213) (by decide +kernel)⟩
theorem lw_p326 : lw_okq (⟨"WireHouseModel", "isPacked", "(I)Z"⟩, 311) := ⟨⟨by decide +kernel, by decide +kernel⟩, List.mem_of_getElem? (i := 2588) (by decide +kernel), List.mem_of_getElem? (i := 4216) (by decide +kernel), List.mem_of_getElem? (i := 4217) (by decide +kernel)⟩
theorem lw_p327 : lw_okq (⟨"WireHouseModel", "packedSize", "(I)I"⟩, 311) := ⟨⟨by decide +kernel, by decide +kernel⟩, List.mem_of_getElem? (i := 2588) (by decide +kernel), List.mem_of_getElem? (i := 4220) (by decide +kernel), List.mem_of_getElem? (i := 4221) (by decide +kernel)⟩
theorem lw_p328 : lw_okq (⟨"WireHouseModel", "numberSize", "(IJ)I"⟩, 311) := ⟨⟨by decide +kernel, by decide +kernel⟩, List.mem_of_getElem? (i := 2588) (by decide +kernel), List.mem_of_getElem? (i := 4224) (by decide +kernel), List.mem_of_getElem? (i := 4225) (by decide +kernel)⟩
theorem lw_p329 : lw_okq (⟨"WireHouseModel", "wireOf", "(I)I"⟩, 311) := ⟨⟨by decide +kernel, by decide +kernel⟩, List.mem_of_getElem? (i := 2588) (by decide +kernel), List.mem_of_getElem? (i := 4228) (by decide +kernel), List.mem_of_getElem? (i := 4229) (by decide +kernel)⟩
theorem lw_p330 : lw_okq (⟨"WireHouseModel", "wired", "(IJ)J"⟩, 311) := ⟨⟨by decide +kernel, by decide +kernel⟩, List.mem_of_getElem? (i := 2588) (by decide +kernel), List.mem_of_getElem? (i := 4232) (by decide +kernel), List.mem_of_getElem? (i := 4233) (by decide +kernel)⟩
theorem lw_p331 : lw_okq (⟨"WireHouseModel", "varintSize", "(J)I"⟩, 311) := ⟨⟨by decide +kernel, by decide +kernel⟩, List.mem_of_getElem? (i := 2588) (by decide +kernel), List.mem_of_getElem? (i := 4236) (by decide +kernel), List.mem_of_getElem? (i := 4237) (by decide +kernel)⟩
theorem lw_p332 : lw_okq (⟨"WireHouseModel", "keySize", "(I)I"⟩, 311) := ⟨⟨by decide +kernel, by decide +kernel⟩, List.mem_of_getElem? (i := 2588) (by decide +kernel), List.mem_of_getElem? (i := 4240) (by decide +kernel), List.mem_of_getElem? (i := 4241) (by decide +kernel)⟩
theorem lw_p333 : lw_okq (⟨"WireHouseModel", "itemSize", "(II)I"⟩, 311) := ⟨⟨by decide +kernel, by decide +kernel⟩, List.mem_of_getElem? (i := 2588) (by decide +kernel), List.mem_of_getElem? (i := 4245) (by decide +kernel), List.mem_of_getElem? (i := 4246) (by decide +kernel)⟩
theorem lw_p334 : lw_okq (⟨"WireHouseModel", "valueSize", "(IJII)I"⟩, 311) := ⟨⟨by decide +kernel, by decide +kernel⟩, List.mem_of_getElem? (i := 2588) (by decide +kernel), List.mem_of_getElem? (i := 4249) (by decide +kernel), List.mem_of_getElem? (i := 4250) (by decide +kernel)⟩
theorem lw_p335 : lw_okq (⟨"WireHouseModel", "putVarint", "(J)V"⟩, 311) := ⟨⟨by decide +kernel, by decide +kernel⟩, List.mem_of_getElem? (i := 2588) (by decide +kernel), List.mem_of_getElem? (i := 4253) (by decide +kernel), List.mem_of_getElem? (i := 4254) (by decide +kernel)⟩
def lw_privs_21 : List (MethodName × Nat) := [(⟨"WireHouseModel", "unknowns", "(I)I"⟩, 311), (⟨"WireHouseModel", "isSameEntry", "(II)Z"⟩, 311), (⟨"WireHouseModel", "isSameLink", "(II)Z"⟩, 311), (⟨"WireHouseModel", "write", "(II)Z"⟩, 311), (⟨"WireHouseModel", "writeStream", "(I)V"⟩, 311), (⟨"WireHouseModel", "measure", "(I)V"⟩, 311), (⟨"WireHouseModel", "isPacked", "(I)Z"⟩, 311), (⟨"WireHouseModel", "packedSize", "(I)I"⟩, 311), (⟨"WireHouseModel", "numberSize", "(IJ)I"⟩, 311), (⟨"WireHouseModel", "wireOf", "(I)I"⟩, 311), (⟨"WireHouseModel", "wired", "(IJ)J"⟩, 311), (⟨"WireHouseModel", "varintSize", "(J)I"⟩, 311), (⟨"WireHouseModel", "keySize", "(I)I"⟩, 311), (⟨"WireHouseModel", "itemSize", "(II)I"⟩, 311), (⟨"WireHouseModel", "valueSize", "(IJII)I"⟩, 311), (⟨"WireHouseModel", "putVarint", "(J)V"⟩, 311)]
theorem lw_r21 : ∀ q ∈ lw_privs_21, lw_okq q := List.forall_mem_cons.mpr ⟨lw_p320, List.forall_mem_cons.mpr ⟨lw_p321, List.forall_mem_cons.mpr ⟨lw_p322, List.forall_mem_cons.mpr ⟨lw_p323, List.forall_mem_cons.mpr ⟨lw_p324, List.forall_mem_cons.mpr ⟨lw_p325, List.forall_mem_cons.mpr ⟨lw_p326, List.forall_mem_cons.mpr ⟨lw_p327, List.forall_mem_cons.mpr ⟨lw_p328, List.forall_mem_cons.mpr ⟨lw_p329, List.forall_mem_cons.mpr ⟨lw_p330, List.forall_mem_cons.mpr ⟨lw_p331, List.forall_mem_cons.mpr ⟨lw_p332, List.forall_mem_cons.mpr ⟨lw_p333, List.forall_mem_cons.mpr ⟨lw_p334, List.forall_mem_cons.mpr ⟨lw_p335, fun _ h => absurd h List.not_mem_nil⟩⟩⟩⟩⟩⟩⟩⟩⟩⟩⟩⟩⟩⟩⟩⟩
theorem lw_p336 : lw_okq (⟨"WireHouseModel", "putBytes", "(III)V"⟩, 311) := ⟨⟨by decide +kernel, by decide +kernel⟩, List.mem_of_getElem? (i := 2588) (by decide +kernel), List.mem_of_getElem? (i := 4259) (by decide +kernel), List.mem_of_getElem? (i := 4260) (by decide +kernel)⟩
theorem lw_p337 : lw_okq (⟨"WireHouseModel", "putWired", "(IJ)V"⟩, 311) := ⟨⟨by decide +kernel, by decide +kernel⟩, List.mem_of_getElem? (i := 2588) (by decide +kernel), List.mem_of_getElem? (i := 4264) (by decide +kernel), List.mem_of_getElem? (i := 4265) (by decide +kernel)⟩
theorem lw_p338 : lw_okq (⟨"WireHouseModel", "putValue", "(IIJII)V"⟩, 311) := ⟨⟨by decide +kernel, by decide +kernel⟩, List.mem_of_getElem? (i := 2588) (by decide +kernel), List.mem_of_getElem? (i := 4268) (by decide +kernel), List.mem_of_getElem? (i := 4269) (by decide +kernel)⟩
theorem lw_p339 : lw_okq (⟨"WireHouseModel", "writeLinear", "(I)Z"⟩, 311) := ⟨⟨by decide +kernel, by decide +kernel⟩, List.mem_of_getElem? (i := 2588) (by decide +kernel), List.mem_of_getElem? (i := 4273) (by decide +kernel), List.mem_of_getElem? (i := 4274) (by decide +kernel)⟩
theorem lw_p340 : lw_okq (⟨"WireHouseModel", "openLinear", "(I)V"⟩, 311) := ⟨⟨by decide +kernel, by decide +kernel⟩, List.mem_of_getElem? (i := 2588) (by decide +kernel), List.mem_of_getElem? (i := 4277) (by decide +kernel), List.mem_of_getElem? (i := 4278) (by decide +kernel)⟩
theorem lw_p341 : lw_okq (⟨"WireHouseModel", "putPlain", "(IIIJII)V"⟩, 311) := ⟨⟨by decide +kernel, by decide +kernel⟩, List.mem_of_getElem? (i := 2588) (by decide +kernel), List.mem_of_getElem? (i := 4281) (by decide +kernel), List.mem_of_getElem? (i := 4282) (by decide +kernel)⟩
theorem lw_p342 : lw_okq (⟨"WireHouseModel", "putPadded", "(III)V"⟩, 311) := ⟨⟨by decide +kernel, by decide +kernel⟩, List.mem_of_getElem? (i := 2588) (by decide +kernel), List.mem_of_getElem? (i := 4285) (by decide +kernel), List.mem_of_getElem? (i := 4286) (by decide +kernel)⟩
theorem lw_p343 : lw_okq (⟨"WireHouseModel", "put4", "(J)V"⟩, 311) := ⟨⟨by decide +kernel, by decide +kernel⟩, List.mem_of_getElem? (i := 2588) (by decide +kernel), List.mem_of_getElem? (i := 4289) (by decide +kernel), List.mem_of_getElem? (i := 4290) (by decide +kernel)⟩
theorem lw_p344 : lw_okq (⟨"WireHouseModel", "putLinear", "(IIJ)V"⟩, 311) := ⟨⟨by decide +kernel, by decide +kernel⟩, List.mem_of_getElem? (i := 2588) (by decide +kernel), List.mem_of_getElem? (i := 4293) (by decide +kernel), List.mem_of_getElem? (i := 4294) (by decide +kernel)⟩
theorem lw_p345 : lw_okq (⟨"WireHouseModel", "isConstant", "(IJ)Z"⟩, 311) := ⟨⟨by decide +kernel, by decide +kernel⟩, List.mem_of_getElem? (i := 2588) (by decide +kernel), List.mem_of_getElem? (i := 4297) (by decide +kernel), List.mem_of_getElem? (i := 4298) (by decide +kernel)⟩
theorem lw_p346 : lw_okq (⟨"WireHouseModel", "isWide", "(I)Z"⟩, 311) := ⟨⟨by decide +kernel, by decide +kernel⟩, List.mem_of_getElem? (i := 2588) (by decide +kernel), List.mem_of_getElem? (i := 4301) (by decide +kernel), List.mem_of_getElem? (i := 4302) (by decide +kernel)⟩
theorem lw_p347 : lw_okq (⟨"WireHouseModel", "enumType", "(I)I"⟩, 311) := ⟨⟨by decide +kernel, by decide +kernel⟩, List.mem_of_getElem? (i := 2588) (by decide +kernel), List.mem_of_getElem? (i := 4305) (by decide +kernel), List.mem_of_getElem? (i := 4306) (by decide +kernel)⟩
theorem lw_p348 : lw_okq (⟨"WireHouseModel", "enumOf", "(I)I"⟩, 311) := ⟨⟨by decide +kernel, by decide +kernel⟩, List.mem_of_getElem? (i := 2588) (by decide +kernel), List.mem_of_getElem? (i := 4309) (by decide +kernel), List.mem_of_getElem? (i := 4310) (by decide +kernel)⟩
theorem lw_p349 : lw_okq (⟨"WireHouseModel", "writeOne", "(IIIII)V"⟩, 311) := ⟨⟨by decide +kernel, by decide +kernel⟩, List.mem_of_getElem? (i := 2588) (by decide +kernel), List.mem_of_getElem? (i := 4313) (by decide +kernel), List.mem_of_getElem? (i := 4314) (by decide +kernel)⟩
theorem lw_p350 : lw_okq (⟨"WireHouseModel", "writeLinearField", "(IIII)V"⟩, 311) := ⟨⟨by decide +kernel, by decide +kernel⟩, List.mem_of_getElem? (i := 2588) (by decide +kernel), List.mem_of_getElem? (i := 4317) (by decide +kernel), List.mem_of_getElem? (i := 4318) (by decide +kernel)⟩
theorem lw_p351 : lw_okq (⟨"WireHouseModel", "itemsFrom", "(I)I"⟩, 311) := ⟨⟨by decide +kernel, by decide +kernel⟩, List.mem_of_getElem? (i := 2588) (by decide +kernel), List.mem_of_getElem? (i := 4321) (by decide +kernel), List.mem_of_getElem? (i := 4322) (by decide +kernel)⟩
def lw_privs_22 : List (MethodName × Nat) := [(⟨"WireHouseModel", "putBytes", "(III)V"⟩, 311), (⟨"WireHouseModel", "putWired", "(IJ)V"⟩, 311), (⟨"WireHouseModel", "putValue", "(IIJII)V"⟩, 311), (⟨"WireHouseModel", "writeLinear", "(I)Z"⟩, 311), (⟨"WireHouseModel", "openLinear", "(I)V"⟩, 311), (⟨"WireHouseModel", "putPlain", "(IIIJII)V"⟩, 311), (⟨"WireHouseModel", "putPadded", "(III)V"⟩, 311), (⟨"WireHouseModel", "put4", "(J)V"⟩, 311), (⟨"WireHouseModel", "putLinear", "(IIJ)V"⟩, 311), (⟨"WireHouseModel", "isConstant", "(IJ)Z"⟩, 311), (⟨"WireHouseModel", "isWide", "(I)Z"⟩, 311), (⟨"WireHouseModel", "enumType", "(I)I"⟩, 311), (⟨"WireHouseModel", "enumOf", "(I)I"⟩, 311), (⟨"WireHouseModel", "writeOne", "(IIIII)V"⟩, 311), (⟨"WireHouseModel", "writeLinearField", "(IIII)V"⟩, 311), (⟨"WireHouseModel", "itemsFrom", "(I)I"⟩, 311)]
theorem lw_r22 : ∀ q ∈ lw_privs_22, lw_okq q := List.forall_mem_cons.mpr ⟨lw_p336, List.forall_mem_cons.mpr ⟨lw_p337, List.forall_mem_cons.mpr ⟨lw_p338, List.forall_mem_cons.mpr ⟨lw_p339, List.forall_mem_cons.mpr ⟨lw_p340, List.forall_mem_cons.mpr ⟨lw_p341, List.forall_mem_cons.mpr ⟨lw_p342, List.forall_mem_cons.mpr ⟨lw_p343, List.forall_mem_cons.mpr ⟨lw_p344, List.forall_mem_cons.mpr ⟨lw_p345, List.forall_mem_cons.mpr ⟨lw_p346, List.forall_mem_cons.mpr ⟨lw_p347, List.forall_mem_cons.mpr ⟨lw_p348, List.forall_mem_cons.mpr ⟨lw_p349, List.forall_mem_cons.mpr ⟨lw_p350, List.forall_mem_cons.mpr ⟨lw_p351, fun _ h => absurd h List.not_mem_nil⟩⟩⟩⟩⟩⟩⟩⟩⟩⟩⟩⟩⟩⟩⟩⟩
theorem lw_p352 : lw_okq (⟨"WireHouseModel", "writeSlotted", "(I)Z"⟩, 311) := ⟨⟨by decide +kernel, by decide +kernel⟩, List.mem_of_getElem? (i := 2588) (by decide +kernel), List.mem_of_getElem? (i := 4325) (by decide +kernel), List.mem_of_getElem? (i := 4326) (by decide +kernel)⟩
theorem lw_p353 : lw_okq (⟨"WireHouseModel", "newWords", "(I)I"⟩, 311) := ⟨⟨by decide +kernel, by decide +kernel⟩, List.mem_of_getElem? (i := 2588) (by decide +kernel), List.mem_of_getElem? (i := 4329) (by decide +kernel), List.mem_of_getElem? (i := 4330) (by decide +kernel)⟩
theorem lw_p354 : lw_okq (⟨"WireHouseModel", "shapeOf", "(I)J"⟩, 311) := ⟨⟨by decide +kernel, by decide +kernel⟩, List.mem_of_getElem? (i := 2588) (by decide +kernel), List.mem_of_getElem? (i := 4333) (by decide +kernel), List.mem_of_getElem? (i := 4334) (by decide +kernel)⟩
theorem lw_p355 : lw_okq (⟨"WireHouseModel", "pointTo", "(IIJ)V"⟩, 311) := ⟨⟨by decide +kernel, by decide +kernel⟩, List.mem_of_getElem? (i := 2588) (by decide +kernel), List.mem_of_getElem? (i := 4337) (by decide +kernel), List.mem_of_getElem? (i := 4338) (by decide +kernel)⟩
theorem lw_p356 : lw_okq (⟨"WireHouseModel", "putData", "(II)V"⟩, 311) := ⟨⟨by decide +kernel, by decide +kernel⟩, List.mem_of_getElem? (i := 2588) (by decide +kernel), List.mem_of_getElem? (i := 4342) (by decide +kernel), List.mem_of_getElem? (i := 4343) (by decide +kernel)⟩
theorem lw_p357 : lw_okq (⟨"WireHouseModel", "tagOf", "(II)I"⟩, 311) := ⟨⟨by decide +kernel, by decide +kernel⟩, List.mem_of_getElem? (i := 2588) (by decide +kernel), List.mem_of_getElem? (i := 4346) (by decide +kernel), List.mem_of_getElem? (i := 4347) (by decide +kernel)⟩
theorem lw_p358 : lw_okq (⟨"WireHouseModel", "setBits", "(IIIJ)V"⟩, 311) := ⟨⟨by decide +kernel, by decide +kernel⟩, List.mem_of_getElem? (i := 2588) (by decide +kernel), List.mem_of_getElem? (i := 4350) (by decide +kernel), List.mem_of_getElem? (i := 4351) (by decide +kernel)⟩
theorem lw_p359 : lw_okq (⟨"WireHouseModel", "openWords", "(III)V"⟩, 311) := ⟨⟨by decide +kernel, by decide +kernel⟩, List.mem_of_getElem? (i := 2588) (by decide +kernel), List.mem_of_getElem? (i := 4355) (by decide +kernel), List.mem_of_getElem? (i := 4356) (by decide +kernel)⟩
theorem lw_p360 : lw_okq (⟨"WireHouseModel", "fitsWords", "()Z"⟩, 311) := ⟨⟨by decide +kernel, by decide +kernel⟩, List.mem_of_getElem? (i := 2588) (by decide +kernel), List.mem_of_getElem? (i := 4359) (by decide +kernel), List.mem_of_getElem? (i := 4360) (by decide +kernel)⟩
theorem lw_p361 : lw_okq (⟨"WireHouseModel", "writeRow", "(II)V"⟩, 311) := ⟨⟨by decide +kernel, by decide +kernel⟩, List.mem_of_getElem? (i := 2588) (by decide +kernel), List.mem_of_getElem? (i := 4363) (by decide +kernel), List.mem_of_getElem? (i := 4364) (by decide +kernel)⟩
theorem lw_p362 : lw_okq (⟨"WireHouseModel", "pairLayout", "(I)V"⟩, 311) := ⟨⟨by decide +kernel, by decide +kernel⟩, List.mem_of_getElem? (i := 2588) (by decide +kernel), List.mem_of_getElem? (i := 4367) (by decide +kernel), List.mem_of_getElem? (i := 4368) (by decide +kernel)⟩
theorem lw_p363 : lw_okq (⟨"WireHouseModel", "putBytesList", "(IIIII)V"⟩, 311) := ⟨⟨by decide +kernel, by decide +kernel⟩, List.mem_of_getElem? (i := 2588) (by decide +kernel), List.mem_of_getElem? (i := 4371) (by decide +kernel), List.mem_of_getElem? (i := 4372) (by decide +kernel)⟩
theorem lw_p364 : lw_okq (⟨"WireHouseModel", "listTo", "(IIII)V"⟩, 311) := ⟨⟨by decide +kernel, by decide +kernel⟩, List.mem_of_getElem? (i := 2588) (by decide +kernel), List.mem_of_getElem? (i := 4375) (by decide +kernel), List.mem_of_getElem? (i := 4376) (by decide +kernel)⟩
theorem lw_p365 : lw_okq (⟨"WireHouseModel", "writeTarget", "(IIII)V"⟩, 311) := ⟨⟨by decide +kernel, by decide +kernel⟩, List.mem_of_getElem? (i := 2588) (by decide +kernel), List.mem_of_getElem? (i := 4379) (by decide +kernel), List.mem_of_getElem? (i := 4380) (by decide +kernel)⟩
theorem lw_p366 : lw_okq (⟨"WireHouseModel", "writePointer", "(II)V"⟩, 311) := ⟨⟨by decide +kernel, by decide +kernel⟩, List.mem_of_getElem? (i := 2588) (by decide +kernel), List.mem_of_getElem? (i := 4383) (by decide +kernel), List.mem_of_getElem? (i := 4384) (by decide +kernel)⟩
theorem lw_p367 : lw_okq (⟨"WireHouseModel", "pointed", "(III)I"⟩, 311) := ⟨⟨by decide +kernel, by decide +kernel⟩, List.mem_of_getElem? (i := 2588) (by decide +kernel), List.mem_of_getElem? (i := 4387) (by decide +kernel), List.mem_of_getElem? (i := 4388) (by decide +kernel)⟩
def lw_privs_23 : List (MethodName × Nat) := [(⟨"WireHouseModel", "writeSlotted", "(I)Z"⟩, 311), (⟨"WireHouseModel", "newWords", "(I)I"⟩, 311), (⟨"WireHouseModel", "shapeOf", "(I)J"⟩, 311), (⟨"WireHouseModel", "pointTo", "(IIJ)V"⟩, 311), (⟨"WireHouseModel", "putData", "(II)V"⟩, 311), (⟨"WireHouseModel", "tagOf", "(II)I"⟩, 311), (⟨"WireHouseModel", "setBits", "(IIIJ)V"⟩, 311), (⟨"WireHouseModel", "openWords", "(III)V"⟩, 311), (⟨"WireHouseModel", "fitsWords", "()Z"⟩, 311), (⟨"WireHouseModel", "writeRow", "(II)V"⟩, 311), (⟨"WireHouseModel", "pairLayout", "(I)V"⟩, 311), (⟨"WireHouseModel", "putBytesList", "(IIIII)V"⟩, 311), (⟨"WireHouseModel", "listTo", "(IIII)V"⟩, 311), (⟨"WireHouseModel", "writeTarget", "(IIII)V"⟩, 311), (⟨"WireHouseModel", "writePointer", "(II)V"⟩, 311), (⟨"WireHouseModel", "pointed", "(III)I"⟩, 311)]
theorem lw_r23 : ∀ q ∈ lw_privs_23, lw_okq q := List.forall_mem_cons.mpr ⟨lw_p352, List.forall_mem_cons.mpr ⟨lw_p353, List.forall_mem_cons.mpr ⟨lw_p354, List.forall_mem_cons.mpr ⟨lw_p355, List.forall_mem_cons.mpr ⟨lw_p356, List.forall_mem_cons.mpr ⟨lw_p357, List.forall_mem_cons.mpr ⟨lw_p358, List.forall_mem_cons.mpr ⟨lw_p359, List.forall_mem_cons.mpr ⟨lw_p360, List.forall_mem_cons.mpr ⟨lw_p361, List.forall_mem_cons.mpr ⟨lw_p362, List.forall_mem_cons.mpr ⟨lw_p363, List.forall_mem_cons.mpr ⟨lw_p364, List.forall_mem_cons.mpr ⟨lw_p365, List.forall_mem_cons.mpr ⟨lw_p366, List.forall_mem_cons.mpr ⟨lw_p367, fun _ h => absurd h List.not_mem_nil⟩⟩⟩⟩⟩⟩⟩⟩⟩⟩⟩⟩⟩⟩⟩⟩
theorem lw_p368 : lw_okq (⟨"WireHouseModel", "writePairs", "(IIII)V"⟩, 311) := ⟨⟨by decide +kernel, by decide +kernel⟩, List.mem_of_getElem? (i := 2588) (by decide +kernel), List.mem_of_getElem? (i := 4391) (by decide +kernel), List.mem_of_getElem? (i := 4392) (by decide +kernel)⟩
theorem lw_p369 : lw_okq (⟨"WireHouseModel", "tagWord", "(IIJ)V"⟩, 311) := ⟨⟨by decide +kernel, by decide +kernel⟩, List.mem_of_getElem? (i := 2588) (by decide +kernel), List.mem_of_getElem? (i := 4395) (by decide +kernel), List.mem_of_getElem? (i := 4396) (by decide +kernel)⟩
theorem lw_p370 : lw_okq (⟨"WireHouseModel", "writeList", "(IIII)V"⟩, 311) := ⟨⟨by decide +kernel, by decide +kernel⟩, List.mem_of_getElem? (i := 2588) (by decide +kernel), List.mem_of_getElem? (i := 4399) (by decide +kernel), List.mem_of_getElem? (i := 4400) (by decide +kernel)⟩
theorem lw_p371 : lw_okq (⟨"WireHouseModel", "sortOfKind", "(I)I"⟩, 311) := ⟨⟨by decide +kernel, by decide +kernel⟩, List.mem_of_getElem? (i := 2588) (by decide +kernel), List.mem_of_getElem? (i := 4403) (by decide +kernel), List.mem_of_getElem? (i := 4404) (by decide +kernel)⟩
theorem lw_p372 : lw_okq (⟨"WireHouseModel", "bitsOfSort", "(I)I"⟩, 311) := ⟨⟨by decide +kernel, by decide +kernel⟩, List.mem_of_getElem? (i := 2588) (by decide +kernel), List.mem_of_getElem? (i := 4407) (by decide +kernel), List.mem_of_getElem? (i := 4408) (by decide +kernel)⟩
theorem lw_p373 : lw_okq (⟨"WireHouseModel", "wordsToMade", "()V"⟩, 311) := ⟨⟨by decide +kernel, by decide +kernel⟩, List.mem_of_getElem? (i := 2588) (by decide +kernel), List.mem_of_getElem? (i := 4411) (by decide +kernel), List.mem_of_getElem? (i := 4412) (by decide +kernel)⟩
theorem lw_p374 : lw_okq (⟨"WireHouseModel", "isRecordType", "(II)Z"⟩, 311) := ⟨⟨by decide +kernel, by decide +kernel⟩, List.mem_of_getElem? (i := 2588) (by decide +kernel), List.mem_of_getElem? (i := 4419) (by decide +kernel), List.mem_of_getElem? (i := 4420) (by decide +kernel)⟩
theorem lw_p375 : lw_okq (⟨"WireHouseModel", "sourceOf", "(I)V"⟩, 311) := ⟨⟨by decide +kernel, by decide +kernel⟩, List.mem_of_getElem? (i := 2588) (by decide +kernel), List.mem_of_getElem? (i := 4423) (by decide +kernel), List.mem_of_getElem? (i := 4424) (by decide +kernel)⟩
theorem lw_p376 : lw_okq (⟨"WireHouseModel", "readFormat", "(III)Z"⟩, 311) := ⟨⟨by decide +kernel, by decide +kernel⟩, List.mem_of_getElem? (i := 2588) (by decide +kernel), List.mem_of_getElem? (i := 4427) (by decide +kernel), List.mem_of_getElem? (i := 4428) (by decide +kernel)⟩
theorem lw_p377 : lw_okq (⟨"WireHouseModel", "readStream", "(I)Z"⟩, 311) := ⟨⟨by decide +kernel, by decide +kernel⟩, List.mem_of_getElem? (i := 2588) (by decide +kernel), List.mem_of_getElem? (i := 4431) (by decide +kernel), List.mem_of_getElem? (i := 4432) (by decide +kernel)⟩
theorem lw_p378 : lw_okq (⟨"WireHouseModel", "enterFrame", "(IIIIII)V"⟩, 311) := ⟨⟨by decide +kernel, by decide +kernel⟩, List.mem_of_getElem? (i := 2588) (by decide +kernel), List.mem_of_getElem? (i := 4435) (by decide +kernel), List.mem_of_getElem? (i := 4436) (by decide +kernel)⟩
theorem lw_p379 : lw_okq (⟨"WireHouseModel", "leaveFrame", "(I)Z"⟩, 311) := ⟨⟨by decide +kernel, by decide +kernel⟩, List.mem_of_getElem? (i := 2588) (by decide +kernel), List.mem_of_getElem? (i := 4439) (by decide +kernel), List.mem_of_getElem? (i := 4440) (by decide +kernel)⟩
theorem lw_p380 : lw_okq (⟨"WireHouseModel", "readKey", "(I)Z"⟩, 311) := ⟨⟨by decide +kernel, by decide +kernel⟩, List.mem_of_getElem? (i := 2588) (by decide +kernel), List.mem_of_getElem? (i := 4443) (by decide +kernel), List.mem_of_getElem? (i := 4444) (by decide +kernel)⟩
theorem lw_p381 : lw_okq (⟨"WireHouseModel", "varint", "(I)Z"⟩, 311) := ⟨⟨by decide +kernel, by decide +kernel⟩, List.mem_of_getElem? (i := 2588) (by decide +kernel), List.mem_of_getElem? (i := 4447) (by decide +kernel), List.mem_of_getElem? (i := 4448) (by decide +kernel)⟩
theorem lw_p382 : lw_okq (⟨"WireHouseModel", "readPair", "(IJII)Z"⟩, 311) := ⟨⟨by decide +kernel, by decide +kernel⟩, List.mem_of_getElem? (i := 2588) (by decide +kernel), List.mem_of_getElem? (i := 4453) (by decide +kernel), List.mem_of_getElem? (i := 4454) (by decide +kernel)⟩
theorem lw_p383 : lw_okq (⟨"WireHouseModel", "passValue", "(II)Z"⟩, 311) := ⟨⟨by decide +kernel, by decide +kernel⟩, List.mem_of_getElem? (i := 2588) (by decide +kernel), List.mem_of_getElem? (i := 4457) (by decide +kernel), List.mem_of_getElem? (i := 4458) (by decide +kernel)⟩
def lw_privs_24 : List (MethodName × Nat) := [(⟨"WireHouseModel", "writePairs", "(IIII)V"⟩, 311), (⟨"WireHouseModel", "tagWord", "(IIJ)V"⟩, 311), (⟨"WireHouseModel", "writeList", "(IIII)V"⟩, 311), (⟨"WireHouseModel", "sortOfKind", "(I)I"⟩, 311), (⟨"WireHouseModel", "bitsOfSort", "(I)I"⟩, 311), (⟨"WireHouseModel", "wordsToMade", "()V"⟩, 311), (⟨"WireHouseModel", "isRecordType", "(II)Z"⟩, 311), (⟨"WireHouseModel", "sourceOf", "(I)V"⟩, 311), (⟨"WireHouseModel", "readFormat", "(III)Z"⟩, 311), (⟨"WireHouseModel", "readStream", "(I)Z"⟩, 311), (⟨"WireHouseModel", "enterFrame", "(IIIIII)V"⟩, 311), (⟨"WireHouseModel", "leaveFrame", "(I)Z"⟩, 311), (⟨"WireHouseModel", "readKey", "(I)Z"⟩, 311), (⟨"WireHouseModel", "varint", "(I)Z"⟩, 311), (⟨"WireHouseModel", "readPair", "(IJII)Z"⟩, 311), (⟨"WireHouseModel", "passValue", "(II)Z"⟩, 311)]
theorem lw_r24 : ∀ q ∈ lw_privs_24, lw_okq q := List.forall_mem_cons.mpr ⟨lw_p368, List.forall_mem_cons.mpr ⟨lw_p369, List.forall_mem_cons.mpr ⟨lw_p370, List.forall_mem_cons.mpr ⟨lw_p371, List.forall_mem_cons.mpr ⟨lw_p372, List.forall_mem_cons.mpr ⟨lw_p373, List.forall_mem_cons.mpr ⟨lw_p374, List.forall_mem_cons.mpr ⟨lw_p375, List.forall_mem_cons.mpr ⟨lw_p376, List.forall_mem_cons.mpr ⟨lw_p377, List.forall_mem_cons.mpr ⟨lw_p378, List.forall_mem_cons.mpr ⟨lw_p379, List.forall_mem_cons.mpr ⟨lw_p380, List.forall_mem_cons.mpr ⟨lw_p381, List.forall_mem_cons.mpr ⟨lw_p382, List.forall_mem_cons.mpr ⟨lw_p383, fun _ h => absurd h List.not_mem_nil⟩⟩⟩⟩⟩⟩⟩⟩⟩⟩⟩⟩⟩⟩⟩⟩
theorem lw_p384 : lw_okq (⟨"WireHouseModel", "fixed", "(II)Z"⟩, 311) := ⟨⟨by decide +kernel, by decide +kernel⟩, List.mem_of_getElem? (i := 2588) (by decide +kernel), List.mem_of_getElem? (i := 4461) (by decide +kernel), List.mem_of_getElem? (i := 4462) (by decide +kernel)⟩
theorem lw_p385 : lw_okq (⟨"WireHouseModel", "many", "(I)Z"⟩, 311) := ⟨⟨by decide +kernel, by decide +kernel⟩, List.mem_of_getElem? (i := 2588) (by decide +kernel), List.mem_of_getElem? (i := 4465) (by decide +kernel), List.mem_of_getElem? (i := 4466) (by decide +kernel)⟩
theorem lw_p386 : lw_okq (⟨"WireHouseModel", "bytesFor", "(III)Z"⟩, 311) := ⟨⟨by decide +kernel, by decide +kernel⟩, List.mem_of_getElem? (i := 2588) (by decide +kernel), List.mem_of_getElem? (i := 4469) (by decide +kernel), List.mem_of_getElem? (i := 4470) (by decide +kernel)⟩
theorem lw_p387 : lw_okq (⟨"WireHouseModel", "numberOf", "(II)Z"⟩, 311) := ⟨⟨by decide +kernel, by decide +kernel⟩, List.mem_of_getElem? (i := 2588) (by decide +kernel), List.mem_of_getElem? (i := 4473) (by decide +kernel), List.mem_of_getElem? (i := 4474) (by decide +kernel)⟩
theorem lw_p388 : lw_okq (⟨"WireHouseModel", "lowered", "(IJ)J"⟩, 311) := ⟨⟨by decide +kernel, by decide +kernel⟩, List.mem_of_getElem? (i := 2588) (by decide +kernel), List.mem_of_getElem? (i := 4477) (by decide +kernel), List.mem_of_getElem? (i := 4478) (by decide +kernel)⟩
theorem lw_p389 : lw_okq (⟨"WireHouseModel", "fieldByNumber", "(IJ)I"⟩, 311) := ⟨⟨by decide +kernel, by decide +kernel⟩, List.mem_of_getElem? (i := 2588) (by decide +kernel), List.mem_of_getElem? (i := 4481) (by decide +kernel), List.mem_of_getElem? (i := 4482) (by decide +kernel)⟩
theorem lw_p390 : lw_okq (⟨"WireHouseModel", "beginPair", "(IIII)Z"⟩, 311) := ⟨⟨by decide +kernel, by decide +kernel⟩, List.mem_of_getElem? (i := 2588) (by decide +kernel), List.mem_of_getElem? (i := 4485) (by decide +kernel), List.mem_of_getElem? (i := 4486) (by decide +kernel)⟩
theorem lw_p391 : lw_okq (⟨"WireHouseModel", "fValue0", "(I)J"⟩, 311) := ⟨⟨by decide +kernel, by decide +kernel⟩, List.mem_of_getElem? (i := 2588) (by decide +kernel), List.mem_of_getElem? (i := 4489) (by decide +kernel), List.mem_of_getElem? (i := 4490) (by decide +kernel)⟩
theorem lw_p392 : lw_okq (⟨"WireHouseModel", "unknown", "(IJIII)Z"⟩, 311) := ⟨⟨by decide +kernel, by decide +kernel⟩, List.mem_of_getElem? (i := 2588) (by decide +kernel), List.mem_of_getElem? (i := 4493) (by decide +kernel), List.mem_of_getElem? (i := 4494) (by decide +kernel)⟩
theorem lw_p393 : lw_okq (⟨"WireHouseModel", "readLinear", "(I)Z"⟩, 311) := ⟨⟨by decide +kernel, by decide +kernel⟩, List.mem_of_getElem? (i := 2588) (by decide +kernel), List.mem_of_getElem? (i := 4497) (by decide +kernel), List.mem_of_getElem? (i := 4498) (by decide +kernel)⟩
theorem lw_p394 : lw_okq (⟨"WireHouseModel", "openRead", "(II)Z"⟩, 311) := ⟨⟨by decide +kernel, by decide +kernel⟩, List.mem_of_getElem? (i := 2588) (by decide +kernel), List.mem_of_getElem? (i := 4501) (by decide +kernel), List.mem_of_getElem? (i := 4502) (by decide +kernel)⟩
theorem lw_p395 : lw_okq (⟨"WireHouseModel", "linearItem", "(IIII)Z"⟩, 311) := ⟨⟨by decide +kernel, by decide +kernel⟩, List.mem_of_getElem? (i := 2588) (by decide +kernel), List.mem_of_getElem? (i := 4505) (by decide +kernel), List.mem_of_getElem? (i := 4506) (by decide +kernel)⟩
theorem lw_p396 : lw_okq (⟨"WireHouseModel", "plain", "(II)Z"⟩, 311) := ⟨⟨by decide +kernel, by decide +kernel⟩, List.mem_of_getElem? (i := 2588) (by decide +kernel), List.mem_of_getElem? (i := 4509) (by decide +kernel), List.mem_of_getElem? (i := 4510) (by decide +kernel)⟩
theorem lw_p397 : lw_okq (⟨"WireHouseModel", "padded", "(I)Z"⟩, 311) := ⟨⟨by decide +kernel, by decide +kernel⟩, List.mem_of_getElem? (i := 2588) (by decide +kernel), List.mem_of_getElem? (i := 4513) (by decide +kernel), List.mem_of_getElem? (i := 4514) (by decide +kernel)⟩
theorem lw_p398 : lw_okq (⟨"WireHouseModel", "four", "()Z"⟩, 311) := ⟨⟨by decide +kernel, by decide +kernel⟩, List.mem_of_getElem? (i := 2588) (by decide +kernel), List.mem_of_getElem? (i := 4517) (by decide +kernel), List.mem_of_getElem? (i := 4518) (by decide +kernel)⟩
theorem lw_p399 : lw_okq (⟨"WireHouseModel", "linearOne", "(IIIII)Z"⟩, 311) := ⟨⟨by decide +kernel, by decide +kernel⟩, List.mem_of_getElem? (i := 2588) (by decide +kernel), List.mem_of_getElem? (i := 4521) (by decide +kernel), List.mem_of_getElem? (i := 4522) (by decide +kernel)⟩
def lw_privs_25 : List (MethodName × Nat) := [(⟨"WireHouseModel", "fixed", "(II)Z"⟩, 311), (⟨"WireHouseModel", "many", "(I)Z"⟩, 311), (⟨"WireHouseModel", "bytesFor", "(III)Z"⟩, 311), (⟨"WireHouseModel", "numberOf", "(II)Z"⟩, 311), (⟨"WireHouseModel", "lowered", "(IJ)J"⟩, 311), (⟨"WireHouseModel", "fieldByNumber", "(IJ)I"⟩, 311), (⟨"WireHouseModel", "beginPair", "(IIII)Z"⟩, 311), (⟨"WireHouseModel", "fValue0", "(I)J"⟩, 311), (⟨"WireHouseModel", "unknown", "(IJIII)Z"⟩, 311), (⟨"WireHouseModel", "readLinear", "(I)Z"⟩, 311), (⟨"WireHouseModel", "openRead", "(II)Z"⟩, 311), (⟨"WireHouseModel", "linearItem", "(IIII)Z"⟩, 311), (⟨"WireHouseModel", "plain", "(II)Z"⟩, 311), (⟨"WireHouseModel", "padded", "(I)Z"⟩, 311), (⟨"WireHouseModel", "four", "()Z"⟩, 311), (⟨"WireHouseModel", "linearOne", "(IIIII)Z"⟩, 311)]
theorem lw_r25 : ∀ q ∈ lw_privs_25, lw_okq q := List.forall_mem_cons.mpr ⟨lw_p384, List.forall_mem_cons.mpr ⟨lw_p385, List.forall_mem_cons.mpr ⟨lw_p386, List.forall_mem_cons.mpr ⟨lw_p387, List.forall_mem_cons.mpr ⟨lw_p388, List.forall_mem_cons.mpr ⟨lw_p389, List.forall_mem_cons.mpr ⟨lw_p390, List.forall_mem_cons.mpr ⟨lw_p391, List.forall_mem_cons.mpr ⟨lw_p392, List.forall_mem_cons.mpr ⟨lw_p393, List.forall_mem_cons.mpr ⟨lw_p394, List.forall_mem_cons.mpr ⟨lw_p395, List.forall_mem_cons.mpr ⟨lw_p396, List.forall_mem_cons.mpr ⟨lw_p397, List.forall_mem_cons.mpr ⟨lw_p398, List.forall_mem_cons.mpr ⟨lw_p399, fun _ h => absurd h List.not_mem_nil⟩⟩⟩⟩⟩⟩⟩⟩⟩⟩⟩⟩⟩⟩⟩⟩
theorem lw_p400 : lw_okq (⟨"WireHouseModel", "linearValue", "(III)Z"⟩, 311) := ⟨⟨by decide +kernel, by decide +kernel⟩, List.mem_of_getElem? (i := 2588) (by decide +kernel), List.mem_of_getElem? (i := 4525) (by decide +kernel), List.mem_of_getElem? (i := 4526) (by decide +kernel)⟩
theorem lw_p401 : lw_okq (⟨"WireHouseModel", "linearField", "(IIII)Z"⟩, 311) := ⟨⟨by decide +kernel, by decide +kernel⟩, List.mem_of_getElem? (i := 2588) (by decide +kernel), List.mem_of_getElem? (i := 4529) (by decide +kernel), List.mem_of_getElem? (i := 4530) (by decide +kernel)⟩
theorem lw_p402 : lw_okq (⟨"WireHouseModel", "readSlotted", "(I)Z"⟩, 311) := ⟨⟨by decide +kernel, by decide +kernel⟩, List.mem_of_getElem? (i := 2588) (by decide +kernel), List.mem_of_getElem? (i := 4534) (by decide +kernel), List.mem_of_getElem? (i := 4535) (by decide +kernel)⟩
theorem lw_p403 : lw_okq (⟨"WireHouseModel", "aimAt", "(II)Z"⟩, 311) := ⟨⟨by decide +kernel, by decide +kernel⟩, List.mem_of_getElem? (i := 2588) (by decide +kernel), List.mem_of_getElem? (i := 4538) (by decide +kernel), List.mem_of_getElem? (i := 4539) (by decide +kernel)⟩
theorem lw_p404 : lw_okq (⟨"WireHouseModel", "walk", "(JI)Z"⟩, 311) := ⟨⟨by decide +kernel, by decide +kernel⟩, List.mem_of_getElem? (i := 2588) (by decide +kernel), List.mem_of_getElem? (i := 4546) (by decide +kernel), List.mem_of_getElem? (i := 4547) (by decide +kernel)⟩
theorem lw_p405 : lw_okq (⟨"WireHouseModel", "beginRecord", "(IIIIII)Z"⟩, 311) := ⟨⟨by decide +kernel, by decide +kernel⟩, List.mem_of_getElem? (i := 2588) (by decide +kernel), List.mem_of_getElem? (i := 4550) (by decide +kernel), List.mem_of_getElem? (i := 4551) (by decide +kernel)⟩
theorem lw_p406 : lw_okq (⟨"WireHouseModel", "readData", "(IIII)Z"⟩, 311) := ⟨⟨by decide +kernel, by decide +kernel⟩, List.mem_of_getElem? (i := 2588) (by decide +kernel), List.mem_of_getElem? (i := 4554) (by decide +kernel), List.mem_of_getElem? (i := 4555) (by decide +kernel)⟩
theorem lw_p407 : lw_okq (⟨"WireHouseModel", "bits", "(IIII)J"⟩, 311) := ⟨⟨by decide +kernel, by decide +kernel⟩, List.mem_of_getElem? (i := 2588) (by decide +kernel), List.mem_of_getElem? (i := 4558) (by decide +kernel), List.mem_of_getElem? (i := 4559) (by decide +kernel)⟩
theorem lw_p408 : lw_okq (⟨"WireHouseModel", "nextByNumber", "(II)I"⟩, 311) := ⟨⟨by decide +kernel, by decide +kernel⟩, List.mem_of_getElem? (i := 2588) (by decide +kernel), List.mem_of_getElem? (i := 4562) (by decide +kernel), List.mem_of_getElem? (i := 4563) (by decide +kernel)⟩
theorem lw_p409 : lw_okq (⟨"WireHouseModel", "readPlace", "(IIIIII)V"⟩, 311) := ⟨⟨by decide +kernel, by decide +kernel⟩, List.mem_of_getElem? (i := 2588) (by decide +kernel), List.mem_of_getElem? (i := 4566) (by decide +kernel), List.mem_of_getElem? (i := 4567) (by decide +kernel)⟩
theorem lw_p410 : lw_okq (⟨"WireHouseModel", "extended", "(IJ)J"⟩, 311) := ⟨⟨by decide +kernel, by decide +kernel⟩, List.mem_of_getElem? (i := 2588) (by decide +kernel), List.mem_of_getElem? (i := 4570) (by decide +kernel), List.mem_of_getElem? (i := 4571) (by decide +kernel)⟩
theorem lw_p411 : lw_okq (⟨"WireHouseModel", "putSlot", "(IIJII)V"⟩, 311) := ⟨⟨by decide +kernel, by decide +kernel⟩, List.mem_of_getElem? (i := 2588) (by decide +kernel), List.mem_of_getElem? (i := 4574) (by decide +kernel), List.mem_of_getElem? (i := 4575) (by decide +kernel)⟩
theorem lw_p412 : lw_okq (⟨"WireHouseModel", "openSlots", "(IIII)V"⟩, 311) := ⟨⟨by decide +kernel, by decide +kernel⟩, List.mem_of_getElem? (i := 2588) (by decide +kernel), List.mem_of_getElem? (i := 4578) (by decide +kernel), List.mem_of_getElem? (i := 4579) (by decide +kernel)⟩
theorem lw_p413 : lw_okq (⟨"WireHouseModel", "readRow", "(II)Z"⟩, 311) := ⟨⟨by decide +kernel, by decide +kernel⟩, List.mem_of_getElem? (i := 2588) (by decide +kernel), List.mem_of_getElem? (i := 4582) (by decide +kernel), List.mem_of_getElem? (i := 4583) (by decide +kernel)⟩
theorem lw_p414 : lw_okq (⟨"WireHouseModel", "readPairAt", "(IIIIII)Z"⟩, 311) := ⟨⟨by decide +kernel, by decide +kernel⟩, List.mem_of_getElem? (i := 2588) (by decide +kernel), List.mem_of_getElem? (i := 4586) (by decide +kernel), List.mem_of_getElem? (i := 4587) (by decide +kernel)⟩
theorem lw_p415 : lw_okq (⟨"WireHouseModel", "readBytesAt", "(III)Z"⟩, 311) := ⟨⟨by decide +kernel, by decide +kernel⟩, List.mem_of_getElem? (i := 2588) (by decide +kernel), List.mem_of_getElem? (i := 4590) (by decide +kernel), List.mem_of_getElem? (i := 4591) (by decide +kernel)⟩
def lw_privs_26 : List (MethodName × Nat) := [(⟨"WireHouseModel", "linearValue", "(III)Z"⟩, 311), (⟨"WireHouseModel", "linearField", "(IIII)Z"⟩, 311), (⟨"WireHouseModel", "readSlotted", "(I)Z"⟩, 311), (⟨"WireHouseModel", "aimAt", "(II)Z"⟩, 311), (⟨"WireHouseModel", "walk", "(JI)Z"⟩, 311), (⟨"WireHouseModel", "beginRecord", "(IIIIII)Z"⟩, 311), (⟨"WireHouseModel", "readData", "(IIII)Z"⟩, 311), (⟨"WireHouseModel", "bits", "(IIII)J"⟩, 311), (⟨"WireHouseModel", "nextByNumber", "(II)I"⟩, 311), (⟨"WireHouseModel", "readPlace", "(IIIIII)V"⟩, 311), (⟨"WireHouseModel", "extended", "(IJ)J"⟩, 311), (⟨"WireHouseModel", "putSlot", "(IIJII)V"⟩, 311), (⟨"WireHouseModel", "openSlots", "(IIII)V"⟩, 311), (⟨"WireHouseModel", "readRow", "(II)Z"⟩, 311), (⟨"WireHouseModel", "readPairAt", "(IIIIII)Z"⟩, 311), (⟨"WireHouseModel", "readBytesAt", "(III)Z"⟩, 311)]
theorem lw_r26 : ∀ q ∈ lw_privs_26, lw_okq q := List.forall_mem_cons.mpr ⟨lw_p400, List.forall_mem_cons.mpr ⟨lw_p401, List.forall_mem_cons.mpr ⟨lw_p402, List.forall_mem_cons.mpr ⟨lw_p403, List.forall_mem_cons.mpr ⟨lw_p404, List.forall_mem_cons.mpr ⟨lw_p405, List.forall_mem_cons.mpr ⟨lw_p406, List.forall_mem_cons.mpr ⟨lw_p407, List.forall_mem_cons.mpr ⟨lw_p408, List.forall_mem_cons.mpr ⟨lw_p409, List.forall_mem_cons.mpr ⟨lw_p410, List.forall_mem_cons.mpr ⟨lw_p411, List.forall_mem_cons.mpr ⟨lw_p412, List.forall_mem_cons.mpr ⟨lw_p413, List.forall_mem_cons.mpr ⟨lw_p414, List.forall_mem_cons.mpr ⟨lw_p415, fun _ h => absurd h List.not_mem_nil⟩⟩⟩⟩⟩⟩⟩⟩⟩⟩⟩⟩⟩⟩⟩⟩
theorem lw_p416 : lw_okq (⟨"WireHouseModel", "readPointer", "(II)Z"⟩, 311) := ⟨⟨by decide +kernel, by decide +kernel⟩, List.mem_of_getElem? (i := 2588) (by decide +kernel), List.mem_of_getElem? (i := 4594) (by decide +kernel), List.mem_of_getElem? (i := 4595) (by decide +kernel)⟩
theorem lw_p417 : lw_okq (⟨"WireHouseModel", "pointerField", "(IIII)I"⟩, 311) := ⟨⟨by decide +kernel, by decide +kernel⟩, List.mem_of_getElem? (i := 2588) (by decide +kernel), List.mem_of_getElem? (i := 4598) (by decide +kernel), List.mem_of_getElem? (i := 4599) (by decide +kernel)⟩
theorem lw_p418 : lw_okq (⟨"WireHouseModel", "readNothing", "(IIII)Z"⟩, 311) := ⟨⟨by decide +kernel, by decide +kernel⟩, List.mem_of_getElem? (i := 2588) (by decide +kernel), List.mem_of_getElem? (i := 4602) (by decide +kernel), List.mem_of_getElem? (i := 4603) (by decide +kernel)⟩
theorem lw_p419 : lw_okq (⟨"WireHouseModel", "readListAt", "(IIII)Z"⟩, 311) := ⟨⟨by decide +kernel, by decide +kernel⟩, List.mem_of_getElem? (i := 2588) (by decide +kernel), List.mem_of_getElem? (i := 4606) (by decide +kernel), List.mem_of_getElem? (i := 4607) (by decide +kernel)⟩
theorem lw_p420 : lw_okq (⟨"WireHouseModel", "path", "(IZ)Z"⟩, 311) := ⟨⟨by decide +kernel, by decide +kernel⟩, List.mem_of_getElem? (i := 2588) (by decide +kernel), List.mem_of_getElem? (i := 4622) (by decide +kernel), List.mem_of_getElem? (i := 4623) (by decide +kernel)⟩
theorem lw_p421 : lw_okq (⟨"WireHouseModel", "step", "(IIZ)Z"⟩, 311) := ⟨⟨by decide +kernel, by decide +kernel⟩, List.mem_of_getElem? (i := 2588) (by decide +kernel), List.mem_of_getElem? (i := 4626) (by decide +kernel), List.mem_of_getElem? (i := 4627) (by decide +kernel)⟩
theorem lw_p422 : lw_okq (⟨"WireHouseModel", "isRecordNow", "()Z"⟩, 311) := ⟨⟨by decide +kernel, by decide +kernel⟩, List.mem_of_getElem? (i := 2588) (by decide +kernel), List.mem_of_getElem? (i := 4630) (by decide +kernel), List.mem_of_getElem? (i := 4631) (by decide +kernel)⟩
theorem lw_p423 : lw_okq (⟨"WireHouseModel", "intoRecord", "(Z)Z"⟩, 311) := ⟨⟨by decide +kernel, by decide +kernel⟩, List.mem_of_getElem? (i := 2588) (by decide +kernel), List.mem_of_getElem? (i := 4634) (by decide +kernel), List.mem_of_getElem? (i := 4635) (by decide +kernel)⟩
theorem lw_p424 : lw_okq (⟨"WireHouseModel", "comeRecord", "()I"⟩, 311) := ⟨⟨by decide +kernel, by decide +kernel⟩, List.mem_of_getElem? (i := 2588) (by decide +kernel), List.mem_of_getElem? (i := 4638) (by decide +kernel), List.mem_of_getElem? (i := 4639) (by decide +kernel)⟩
theorem lw_p425 : lw_okq (⟨"WireHouseModel", "keyed", "(II)I"⟩, 311) := ⟨⟨by decide +kernel, by decide +kernel⟩, List.mem_of_getElem? (i := 2588) (by decide +kernel), List.mem_of_getElem? (i := 4642) (by decide +kernel), List.mem_of_getElem? (i := 4643) (by decide +kernel)⟩
theorem lw_p426 : lw_okq (⟨"WireHouseModel", "stepItem", "(IZ)Z"⟩, 311) := ⟨⟨by decide +kernel, by decide +kernel⟩, List.mem_of_getElem? (i := 2588) (by decide +kernel), List.mem_of_getElem? (i := 4646) (by decide +kernel), List.mem_of_getElem? (i := 4647) (by decide +kernel)⟩
theorem lw_p427 : lw_okq (⟨"WireHouseModel", "keepPathText", "(I)V"⟩, 311) := ⟨⟨by decide +kernel, by decide +kernel⟩, List.mem_of_getElem? (i := 2588) (by decide +kernel), List.mem_of_getElem? (i := 4650) (by decide +kernel), List.mem_of_getElem? (i := 4651) (by decide +kernel)⟩
theorem lw_p428 : lw_okq (⟨"WireHouseModel", "itemAt", "(III)I"⟩, 311) := ⟨⟨by decide +kernel, by decide +kernel⟩, List.mem_of_getElem? (i := 2588) (by decide +kernel), List.mem_of_getElem? (i := 4656) (by decide +kernel), List.mem_of_getElem? (i := 4657) (by decide +kernel)⟩
theorem lw_p429 : lw_okq (⟨"WireHouseModel", "answer", "(I)I"⟩, 311) := ⟨⟨by decide +kernel, by decide +kernel⟩, List.mem_of_getElem? (i := 2588) (by decide +kernel), List.mem_of_getElem? (i := 4660) (by decide +kernel), List.mem_of_getElem? (i := 4661) (by decide +kernel)⟩
theorem lw_p430 : lw_okq (⟨"WireHouseModel", "putHere", "()Z"⟩, 311) := ⟨⟨by decide +kernel, by decide +kernel⟩, List.mem_of_getElem? (i := 2588) (by decide +kernel), List.mem_of_getElem? (i := 4668) (by decide +kernel), List.mem_of_getElem? (i := 4669) (by decide +kernel)⟩
theorem lw_p431 : lw_okq (⟨"WireHouseModel", "putRecord", "(II)I"⟩, 311) := ⟨⟨by decide +kernel, by decide +kernel⟩, List.mem_of_getElem? (i := 2588) (by decide +kernel), List.mem_of_getElem? (i := 4673) (by decide +kernel), List.mem_of_getElem? (i := 4674) (by decide +kernel)⟩
def lw_privs_27 : List (MethodName × Nat) := [(⟨"WireHouseModel", "readPointer", "(II)Z"⟩, 311), (⟨"WireHouseModel", "pointerField", "(IIII)I"⟩, 311), (⟨"WireHouseModel", "readNothing", "(IIII)Z"⟩, 311), (⟨"WireHouseModel", "readListAt", "(IIII)Z"⟩, 311), (⟨"WireHouseModel", "path", "(IZ)Z"⟩, 311), (⟨"WireHouseModel", "step", "(IIZ)Z"⟩, 311), (⟨"WireHouseModel", "isRecordNow", "()Z"⟩, 311), (⟨"WireHouseModel", "intoRecord", "(Z)Z"⟩, 311), (⟨"WireHouseModel", "comeRecord", "()I"⟩, 311), (⟨"WireHouseModel", "keyed", "(II)I"⟩, 311), (⟨"WireHouseModel", "stepItem", "(IZ)Z"⟩, 311), (⟨"WireHouseModel", "keepPathText", "(I)V"⟩, 311), (⟨"WireHouseModel", "itemAt", "(III)I"⟩, 311), (⟨"WireHouseModel", "answer", "(I)I"⟩, 311), (⟨"WireHouseModel", "putHere", "()Z"⟩, 311), (⟨"WireHouseModel", "putRecord", "(II)I"⟩, 311)]
theorem lw_r27 : ∀ q ∈ lw_privs_27, lw_okq q := List.forall_mem_cons.mpr ⟨lw_p416, List.forall_mem_cons.mpr ⟨lw_p417, List.forall_mem_cons.mpr ⟨lw_p418, List.forall_mem_cons.mpr ⟨lw_p419, List.forall_mem_cons.mpr ⟨lw_p420, List.forall_mem_cons.mpr ⟨lw_p421, List.forall_mem_cons.mpr ⟨lw_p422, List.forall_mem_cons.mpr ⟨lw_p423, List.forall_mem_cons.mpr ⟨lw_p424, List.forall_mem_cons.mpr ⟨lw_p425, List.forall_mem_cons.mpr ⟨lw_p426, List.forall_mem_cons.mpr ⟨lw_p427, List.forall_mem_cons.mpr ⟨lw_p428, List.forall_mem_cons.mpr ⟨lw_p429, List.forall_mem_cons.mpr ⟨lw_p430, List.forall_mem_cons.mpr ⟨lw_p431, fun _ h => absurd h List.not_mem_nil⟩⟩⟩⟩⟩⟩⟩⟩⟩⟩⟩⟩⟩⟩⟩⟩
theorem lw_p432 : lw_okq (⟨"WireHouseModel", "putScalarHere", "(II)V"⟩, 311) := ⟨⟨by decide +kernel, by decide +kernel⟩, List.mem_of_getElem? (i := 2588) (by decide +kernel), List.mem_of_getElem? (i := 4677) (by decide +kernel), List.mem_of_getElem? (i := 4678) (by decide +kernel)⟩
theorem lw_p433 : lw_okq (⟨"WireHouseModel", "isFieldSame", "(III)Z"⟩, 311) := ⟨⟨by decide +kernel, by decide +kernel⟩, List.mem_of_getElem? (i := 2588) (by decide +kernel), List.mem_of_getElem? (i := 4689) (by decide +kernel), List.mem_of_getElem? (i := 4690) (by decide +kernel)⟩
theorem lw_p434 : lw_okq (⟨"WireHouseModel", "printItems", "(I)V"⟩, 311) := ⟨⟨by decide +kernel, by decide +kernel⟩, List.mem_of_getElem? (i := 2588) (by decide +kernel), List.mem_of_getElem? (i := 4693) (by decide +kernel), List.mem_of_getElem? (i := 4694) (by decide +kernel)⟩
theorem lw_p435 : lw_okq (⟨"WireHouseModel", "difference", "()V"⟩, 311) := ⟨⟨by decide +kernel, by decide +kernel⟩, List.mem_of_getElem? (i := 2588) (by decide +kernel), List.mem_of_getElem? (i := 4697) (by decide +kernel), List.mem_of_getElem? (i := 4698) (by decide +kernel)⟩
theorem lw_p436 : lw_okq (⟨"WireHouseModel", "partsOf", "(I)I"⟩, 311) := ⟨⟨by decide +kernel, by decide +kernel⟩, List.mem_of_getElem? (i := 2588) (by decide +kernel), List.mem_of_getElem? (i := 4713) (by decide +kernel), List.mem_of_getElem? (i := 4714) (by decide +kernel)⟩
theorem lw_p437 : lw_okq (⟨"WireHouseModel", "judgePart", "(IIII)I"⟩, 311) := ⟨⟨by decide +kernel, by decide +kernel⟩, List.mem_of_getElem? (i := 2588) (by decide +kernel), List.mem_of_getElem? (i := 4717) (by decide +kernel), List.mem_of_getElem? (i := 4718) (by decide +kernel)⟩
theorem lw_p438 : lw_okq (⟨"WireHouseModel", "partAt", "(II)I"⟩, 311) := ⟨⟨by decide +kernel, by decide +kernel⟩, List.mem_of_getElem? (i := 2588) (by decide +kernel), List.mem_of_getElem? (i := 4721) (by decide +kernel), List.mem_of_getElem? (i := 4722) (by decide +kernel)⟩
theorem lw_p439 : lw_okq (⟨"WireHouseModel", "judgeLinear", "(IIII)I"⟩, 311) := ⟨⟨by decide +kernel, by decide +kernel⟩, List.mem_of_getElem? (i := 2588) (by decide +kernel), List.mem_of_getElem? (i := 4725) (by decide +kernel), List.mem_of_getElem? (i := 4726) (by decide +kernel)⟩
theorem lw_p440 : lw_okq (⟨"WireHouseModel", "linearMode", "(I)I"⟩, 311) := ⟨⟨by decide +kernel, by decide +kernel⟩, List.mem_of_getElem? (i := 2588) (by decide +kernel), List.mem_of_getElem? (i := 4729) (by decide +kernel), List.mem_of_getElem? (i := 4730) (by decide +kernel)⟩
theorem lw_p441 : lw_okq (⟨"WireHouseModel", "linearKinds", "(IIIII)I"⟩, 311) := ⟨⟨by decide +kernel, by decide +kernel⟩, List.mem_of_getElem? (i := 2588) (by decide +kernel), List.mem_of_getElem? (i := 4733) (by decide +kernel), List.mem_of_getElem? (i := 4734) (by decide +kernel)⟩
theorem lw_p442 : lw_okq (⟨"WireHouseModel", "pairUp", "(II)V"⟩, 311) := ⟨⟨by decide +kernel, by decide +kernel⟩, List.mem_of_getElem? (i := 2588) (by decide +kernel), List.mem_of_getElem? (i := 4737) (by decide +kernel), List.mem_of_getElem? (i := 4738) (by decide +kernel)⟩
theorem lw_p443 : lw_okq (⟨"WireHouseModel", "hasConstants", "(II)Z"⟩, 311) := ⟨⟨by decide +kernel, by decide +kernel⟩, List.mem_of_getElem? (i := 2588) (by decide +kernel), List.mem_of_getElem? (i := 4741) (by decide +kernel), List.mem_of_getElem? (i := 4742) (by decide +kernel)⟩
theorem lw_p444 : lw_okq (⟨"WireHouseModel", "isFour", "(I)Z"⟩, 311) := ⟨⟨by decide +kernel, by decide +kernel⟩, List.mem_of_getElem? (i := 2588) (by decide +kernel), List.mem_of_getElem? (i := 4745) (by decide +kernel), List.mem_of_getElem? (i := 4746) (by decide +kernel)⟩
theorem lw_p445 : lw_okq (⟨"WireHouseModel", "hasAll", "(II)Z"⟩, 311) := ⟨⟨by decide +kernel, by decide +kernel⟩, List.mem_of_getElem? (i := 2588) (by decide +kernel), List.mem_of_getElem? (i := 4749) (by decide +kernel), List.mem_of_getElem? (i := 4750) (by decide +kernel)⟩
theorem lw_p446 : lw_okq (⟨"WireHouseModel", "highOf", "(I)J"⟩, 311) := ⟨⟨by decide +kernel, by decide +kernel⟩, List.mem_of_getElem? (i := 2588) (by decide +kernel), List.mem_of_getElem? (i := 4753) (by decide +kernel), List.mem_of_getElem? (i := 4754) (by decide +kernel)⟩
theorem lw_p447 : lw_okq (⟨"WireHouseModel", "lowOf", "(I)J"⟩, 311) := ⟨⟨by decide +kernel, by decide +kernel⟩, List.mem_of_getElem? (i := 2588) (by decide +kernel), List.mem_of_getElem? (i := 4758) (by decide +kernel), List.mem_of_getElem? (i := 4759) (by decide +kernel)⟩
def lw_privs_28 : List (MethodName × Nat) := [(⟨"WireHouseModel", "putScalarHere", "(II)V"⟩, 311), (⟨"WireHouseModel", "isFieldSame", "(III)Z"⟩, 311), (⟨"WireHouseModel", "printItems", "(I)V"⟩, 311), (⟨"WireHouseModel", "difference", "()V"⟩, 311), (⟨"WireHouseModel", "partsOf", "(I)I"⟩, 311), (⟨"WireHouseModel", "judgePart", "(IIII)I"⟩, 311), (⟨"WireHouseModel", "partAt", "(II)I"⟩, 311), (⟨"WireHouseModel", "judgeLinear", "(IIII)I"⟩, 311), (⟨"WireHouseModel", "linearMode", "(I)I"⟩, 311), (⟨"WireHouseModel", "linearKinds", "(IIIII)I"⟩, 311), (⟨"WireHouseModel", "pairUp", "(II)V"⟩, 311), (⟨"WireHouseModel", "hasConstants", "(II)Z"⟩, 311), (⟨"WireHouseModel", "isFour", "(I)Z"⟩, 311), (⟨"WireHouseModel", "hasAll", "(II)Z"⟩, 311), (⟨"WireHouseModel", "highOf", "(I)J"⟩, 311), (⟨"WireHouseModel", "lowOf", "(I)J"⟩, 311)]
theorem lw_r28 : ∀ q ∈ lw_privs_28, lw_okq q := List.forall_mem_cons.mpr ⟨lw_p432, List.forall_mem_cons.mpr ⟨lw_p433, List.forall_mem_cons.mpr ⟨lw_p434, List.forall_mem_cons.mpr ⟨lw_p435, List.forall_mem_cons.mpr ⟨lw_p436, List.forall_mem_cons.mpr ⟨lw_p437, List.forall_mem_cons.mpr ⟨lw_p438, List.forall_mem_cons.mpr ⟨lw_p439, List.forall_mem_cons.mpr ⟨lw_p440, List.forall_mem_cons.mpr ⟨lw_p441, List.forall_mem_cons.mpr ⟨lw_p442, List.forall_mem_cons.mpr ⟨lw_p443, List.forall_mem_cons.mpr ⟨lw_p444, List.forall_mem_cons.mpr ⟨lw_p445, List.forall_mem_cons.mpr ⟨lw_p446, List.forall_mem_cons.mpr ⟨lw_p447, fun _ h => absurd h List.not_mem_nil⟩⟩⟩⟩⟩⟩⟩⟩⟩⟩⟩⟩⟩⟩⟩⟩
theorem lw_p448 : lw_okq (⟨"WireHouseModel", "max", "(II)I"⟩, 311) := ⟨⟨by decide +kernel, by decide +kernel⟩, List.mem_of_getElem? (i := 2588) (by decide +kernel), List.mem_of_getElem? (i := 4762) (by decide +kernel), List.mem_of_getElem? (i := 4763) (by decide +kernel)⟩
theorem lw_p449 : lw_okq (⟨"WireHouseModel", "judgeStream", "(II)I"⟩, 311) := ⟨⟨by decide +kernel, by decide +kernel⟩, List.mem_of_getElem? (i := 2588) (by decide +kernel), List.mem_of_getElem? (i := 4766) (by decide +kernel), List.mem_of_getElem? (i := 4767) (by decide +kernel)⟩
theorem lw_p450 : lw_okq (⟨"WireHouseModel", "streamKinds", "(IIII)I"⟩, 311) := ⟨⟨by decide +kernel, by decide +kernel⟩, List.mem_of_getElem? (i := 2588) (by decide +kernel), List.mem_of_getElem? (i := 4770) (by decide +kernel), List.mem_of_getElem? (i := 4771) (by decide +kernel)⟩
theorem lw_p451 : lw_okq (⟨"WireHouseModel", "isPlain", "(I)Z"⟩, 311) := ⟨⟨by decide +kernel, by decide +kernel⟩, List.mem_of_getElem? (i := 2588) (by decide +kernel), List.mem_of_getElem? (i := 4774) (by decide +kernel), List.mem_of_getElem? (i := 4775) (by decide +kernel)⟩
theorem lw_p452 : lw_okq (⟨"WireHouseModel", "isDefaultSame", "(II)Z"⟩, 311) := ⟨⟨by decide +kernel, by decide +kernel⟩, List.mem_of_getElem? (i := 2588) (by decide +kernel), List.mem_of_getElem? (i := 4778) (by decide +kernel), List.mem_of_getElem? (i := 4779) (by decide +kernel)⟩
theorem lw_p453 : lw_okq (⟨"WireHouseModel", "takesAway", "(II)Z"⟩, 311) := ⟨⟨by decide +kernel, by decide +kernel⟩, List.mem_of_getElem? (i := 2588) (by decide +kernel), List.mem_of_getElem? (i := 4782) (by decide +kernel), List.mem_of_getElem? (i := 4783) (by decide +kernel)⟩
theorem lw_p454 : lw_okq (⟨"WireHouseModel", "judgeSlotted", "(IIII)I"⟩, 311) := ⟨⟨by decide +kernel, by decide +kernel⟩, List.mem_of_getElem? (i := 2588) (by decide +kernel), List.mem_of_getElem? (i := 4786) (by decide +kernel), List.mem_of_getElem? (i := 4787) (by decide +kernel)⟩
theorem lw_p455 : lw_okq (⟨"WireHouseModel", "fieldsOfOne", "(I)I"⟩, 311) := ⟨⟨by decide +kernel, by decide +kernel⟩, List.mem_of_getElem? (i := 2588) (by decide +kernel), List.mem_of_getElem? (i := 4790) (by decide +kernel), List.mem_of_getElem? (i := 4791) (by decide +kernel)⟩
theorem lw_p456 : lw_okq (⟨"WireHouseModel", "judgePair", "(IIIII)I"⟩, 311) := ⟨⟨by decide +kernel, by decide +kernel⟩, List.mem_of_getElem? (i := 2588) (by decide +kernel), List.mem_of_getElem? (i := 4794) (by decide +kernel), List.mem_of_getElem? (i := 4795) (by decide +kernel)⟩
theorem lw_p457 : lw_okq (⟨"WireHouseModel", "partNumber", "(III)I"⟩, 311) := ⟨⟨by decide +kernel, by decide +kernel⟩, List.mem_of_getElem? (i := 2588) (by decide +kernel), List.mem_of_getElem? (i := 4798) (by decide +kernel), List.mem_of_getElem? (i := 4799) (by decide +kernel)⟩
theorem lw_p458 : lw_okq (⟨"WireHouseModel", "isService", "(II)Z"⟩, 311) := ⟨⟨by decide +kernel, by decide +kernel⟩, List.mem_of_getElem? (i := 2588) (by decide +kernel), List.mem_of_getElem? (i := 4806) (by decide +kernel), List.mem_of_getElem? (i := 4807) (by decide +kernel)⟩
theorem lw_p459 : lw_okq (⟨"WireHouseModel", "pack", "([JIII)V"⟩, 311) := ⟨⟨by decide +kernel, by decide +kernel⟩, List.mem_of_getElem? (i := 2588) (by decide +kernel), List.mem_of_getElem? (i := 4818) (by decide +kernel), List.mem_of_getElem? (i := 4819) (by decide +kernel)⟩
theorem lw_p460 : lw_okq (⟨"WireHouseModel", "nameMark", "(I)J"⟩, 311) := ⟨⟨by decide +kernel, by decide +kernel⟩, List.mem_of_getElem? (i := 2588) (by decide +kernel), List.mem_of_getElem? (i := 4822) (by decide +kernel), List.mem_of_getElem? (i := 4823) (by decide +kernel)⟩
theorem lw_p461 : lw_okq (⟨"WireHouseModel", "putLong", "(J)V"⟩, 311) := ⟨⟨by decide +kernel, by decide +kernel⟩, List.mem_of_getElem? (i := 2588) (by decide +kernel), List.mem_of_getElem? (i := 4826) (by decide +kernel), List.mem_of_getElem? (i := 4827) (by decide +kernel)⟩
theorem lw_p462 : lw_okq (⟨"WireHouseModel", "sendCall", "(III)V"⟩, 311) := ⟨⟨by decide +kernel, by decide +kernel⟩, List.mem_of_getElem? (i := 2588) (by decide +kernel), List.mem_of_getElem? (i := 4830) (by decide +kernel), List.mem_of_getElem? (i := 4831) (by decide +kernel)⟩
theorem lw_p463 : lw_okq (⟨"WireHouseModel", "partsOfSize", "(I)I"⟩, 311) := ⟨⟨by decide +kernel, by decide +kernel⟩, List.mem_of_getElem? (i := 2588) (by decide +kernel), List.mem_of_getElem? (i := 4834) (by decide +kernel), List.mem_of_getElem? (i := 4835) (by decide +kernel)⟩
def lw_privs_29 : List (MethodName × Nat) := [(⟨"WireHouseModel", "max", "(II)I"⟩, 311), (⟨"WireHouseModel", "judgeStream", "(II)I"⟩, 311), (⟨"WireHouseModel", "streamKinds", "(IIII)I"⟩, 311), (⟨"WireHouseModel", "isPlain", "(I)Z"⟩, 311), (⟨"WireHouseModel", "isDefaultSame", "(II)Z"⟩, 311), (⟨"WireHouseModel", "takesAway", "(II)Z"⟩, 311), (⟨"WireHouseModel", "judgeSlotted", "(IIII)I"⟩, 311), (⟨"WireHouseModel", "fieldsOfOne", "(I)I"⟩, 311), (⟨"WireHouseModel", "judgePair", "(IIIII)I"⟩, 311), (⟨"WireHouseModel", "partNumber", "(III)I"⟩, 311), (⟨"WireHouseModel", "isService", "(II)Z"⟩, 311), (⟨"WireHouseModel", "pack", "([JIII)V"⟩, 311), (⟨"WireHouseModel", "nameMark", "(I)J"⟩, 311), (⟨"WireHouseModel", "putLong", "(J)V"⟩, 311), (⟨"WireHouseModel", "sendCall", "(III)V"⟩, 311), (⟨"WireHouseModel", "partsOfSize", "(I)I"⟩, 311)]
theorem lw_r29 : ∀ q ∈ lw_privs_29, lw_okq q := List.forall_mem_cons.mpr ⟨lw_p448, List.forall_mem_cons.mpr ⟨lw_p449, List.forall_mem_cons.mpr ⟨lw_p450, List.forall_mem_cons.mpr ⟨lw_p451, List.forall_mem_cons.mpr ⟨lw_p452, List.forall_mem_cons.mpr ⟨lw_p453, List.forall_mem_cons.mpr ⟨lw_p454, List.forall_mem_cons.mpr ⟨lw_p455, List.forall_mem_cons.mpr ⟨lw_p456, List.forall_mem_cons.mpr ⟨lw_p457, List.forall_mem_cons.mpr ⟨lw_p458, List.forall_mem_cons.mpr ⟨lw_p459, List.forall_mem_cons.mpr ⟨lw_p460, List.forall_mem_cons.mpr ⟨lw_p461, List.forall_mem_cons.mpr ⟨lw_p462, List.forall_mem_cons.mpr ⟨lw_p463, fun _ h => absurd h List.not_mem_nil⟩⟩⟩⟩⟩⟩⟩⟩⟩⟩⟩⟩⟩⟩⟩⟩
theorem lw_p464 : lw_okq (⟨"WireHouseModel", "newLetter", "(IIIII)I"⟩, 311) := ⟨⟨by decide +kernel, by decide +kernel⟩, List.mem_of_getElem? (i := 2588) (by decide +kernel), List.mem_of_getElem? (i := 4838) (by decide +kernel), List.mem_of_getElem? (i := 4839) (by decide +kernel)⟩
theorem lw_p465 : lw_okq (⟨"WireHouseModel", "packed", "([JII)I"⟩, 311) := ⟨⟨by decide +kernel, by decide +kernel⟩, List.mem_of_getElem? (i := 2588) (by decide +kernel), List.mem_of_getElem? (i := 4842) (by decide +kernel), List.mem_of_getElem? (i := 4843) (by decide +kernel)⟩
theorem lw_p466 : lw_okq (⟨"WireHouseModel", "removeLetter", "(I)V"⟩, 311) := ⟨⟨by decide +kernel, by decide +kernel⟩, List.mem_of_getElem? (i := 2588) (by decide +kernel), List.mem_of_getElem? (i := 4854) (by decide +kernel), List.mem_of_getElem? (i := 4855) (by decide +kernel)⟩
theorem lw_p467 : lw_okq (⟨"WireHouseModel", "copyLetter", "(II)V"⟩, 311) := ⟨⟨by decide +kernel, by decide +kernel⟩, List.mem_of_getElem? (i := 2588) (by decide +kernel), List.mem_of_getElem? (i := 4858) (by decide +kernel), List.mem_of_getElem? (i := 4859) (by decide +kernel)⟩
theorem lw_p468 : lw_okq (⟨"WireHouseModel", "atServer", "(IIII)V"⟩, 311) := ⟨⟨by decide +kernel, by decide +kernel⟩, List.mem_of_getElem? (i := 2588) (by decide +kernel), List.mem_of_getElem? (i := 4870) (by decide +kernel), List.mem_of_getElem? (i := 4871) (by decide +kernel)⟩
theorem lw_p469 : lw_okq (⟨"WireHouseModel", "sendAnswer", "(I)V"⟩, 311) := ⟨⟨by decide +kernel, by decide +kernel⟩, List.mem_of_getElem? (i := 2588) (by decide +kernel), List.mem_of_getElem? (i := 4874) (by decide +kernel), List.mem_of_getElem? (i := 4875) (by decide +kernel)⟩
theorem lw_p470 : lw_okq (⟨"WireHouseModel", "touch", "(III)V"⟩, 311) := ⟨⟨by decide +kernel, by decide +kernel⟩, List.mem_of_getElem? (i := 2588) (by decide +kernel), List.mem_of_getElem? (i := 4878) (by decide +kernel), List.mem_of_getElem? (i := 4879) (by decide +kernel)⟩
theorem lw_p471 : lw_okq (⟨"WireHouseModel", "movePartial", "(II)V"⟩, 311) := ⟨⟨by decide +kernel, by decide +kernel⟩, List.mem_of_getElem? (i := 2588) (by decide +kernel), List.mem_of_getElem? (i := 4882) (by decide +kernel), List.mem_of_getElem? (i := 4883) (by decide +kernel)⟩
theorem lw_p472 : lw_okq (⟨"WireHouseModel", "fresh", "(IIII)V"⟩, 311) := ⟨⟨by decide +kernel, by decide +kernel⟩, List.mem_of_getElem? (i := 2588) (by decide +kernel), List.mem_of_getElem? (i := 4886) (by decide +kernel), List.mem_of_getElem? (i := 4887) (by decide +kernel)⟩
theorem lw_p473 : lw_okq (⟨"WireHouseModel", "serve", "(II)V"⟩, 311) := ⟨⟨by decide +kernel, by decide +kernel⟩, List.mem_of_getElem? (i := 2588) (by decide +kernel), List.mem_of_getElem? (i := 4890) (by decide +kernel), List.mem_of_getElem? (i := 4891) (by decide +kernel)⟩
theorem lw_p474 : lw_okq (⟨"WireHouseModel", "sourceNumber", "(II)J"⟩, 311) := ⟨⟨by decide +kernel, by decide +kernel⟩, List.mem_of_getElem? (i := 2588) (by decide +kernel), List.mem_of_getElem? (i := 4894) (by decide +kernel), List.mem_of_getElem? (i := 4895) (by decide +kernel)⟩
theorem lw_p475 : lw_okq (⟨"WireHouseModel", "doCall", "(I)I"⟩, 311) := ⟨⟨by decide +kernel, by decide +kernel⟩, List.mem_of_getElem? (i := 2588) (by decide +kernel), List.mem_of_getElem? (i := 4898) (by decide +kernel), List.mem_of_getElem? (i := 4899) (by decide +kernel)⟩
theorem lw_p476 : lw_okq (⟨"WireHouseModel", "worked", "(III)J"⟩, 311) := ⟨⟨by decide +kernel, by decide +kernel⟩, List.mem_of_getElem? (i := 2588) (by decide +kernel), List.mem_of_getElem? (i := 4902) (by decide +kernel), List.mem_of_getElem? (i := 4903) (by decide +kernel)⟩
theorem lw_p477 : lw_okq (⟨"WireHouseModel", "inField", "(I)J"⟩, 311) := ⟨⟨by decide +kernel, by decide +kernel⟩, List.mem_of_getElem? (i := 2588) (by decide +kernel), List.mem_of_getElem? (i := 4906) (by decide +kernel), List.mem_of_getElem? (i := 4907) (by decide +kernel)⟩
theorem lw_p478 : lw_okq (⟨"WireHouseModel", "two", "(IJJ)J"⟩, 311) := ⟨⟨by decide +kernel, by decide +kernel⟩, List.mem_of_getElem? (i := 2588) (by decide +kernel), List.mem_of_getElem? (i := 4911) (by decide +kernel), List.mem_of_getElem? (i := 4912) (by decide +kernel)⟩
theorem lw_p479 : lw_okq (⟨"WireHouseModel", "extended0", "(IJ)J"⟩, 311) := ⟨⟨by decide +kernel, by decide +kernel⟩, List.mem_of_getElem? (i := 2588) (by decide +kernel), List.mem_of_getElem? (i := 4916) (by decide +kernel), List.mem_of_getElem? (i := 4917) (by decide +kernel)⟩
def lw_privs_30 : List (MethodName × Nat) := [(⟨"WireHouseModel", "newLetter", "(IIIII)I"⟩, 311), (⟨"WireHouseModel", "packed", "([JII)I"⟩, 311), (⟨"WireHouseModel", "removeLetter", "(I)V"⟩, 311), (⟨"WireHouseModel", "copyLetter", "(II)V"⟩, 311), (⟨"WireHouseModel", "atServer", "(IIII)V"⟩, 311), (⟨"WireHouseModel", "sendAnswer", "(I)V"⟩, 311), (⟨"WireHouseModel", "touch", "(III)V"⟩, 311), (⟨"WireHouseModel", "movePartial", "(II)V"⟩, 311), (⟨"WireHouseModel", "fresh", "(IIII)V"⟩, 311), (⟨"WireHouseModel", "serve", "(II)V"⟩, 311), (⟨"WireHouseModel", "sourceNumber", "(II)J"⟩, 311), (⟨"WireHouseModel", "doCall", "(I)I"⟩, 311), (⟨"WireHouseModel", "worked", "(III)J"⟩, 311), (⟨"WireHouseModel", "inField", "(I)J"⟩, 311), (⟨"WireHouseModel", "two", "(IJJ)J"⟩, 311), (⟨"WireHouseModel", "extended0", "(IJ)J"⟩, 311)]
theorem lw_r30 : ∀ q ∈ lw_privs_30, lw_okq q := List.forall_mem_cons.mpr ⟨lw_p464, List.forall_mem_cons.mpr ⟨lw_p465, List.forall_mem_cons.mpr ⟨lw_p466, List.forall_mem_cons.mpr ⟨lw_p467, List.forall_mem_cons.mpr ⟨lw_p468, List.forall_mem_cons.mpr ⟨lw_p469, List.forall_mem_cons.mpr ⟨lw_p470, List.forall_mem_cons.mpr ⟨lw_p471, List.forall_mem_cons.mpr ⟨lw_p472, List.forall_mem_cons.mpr ⟨lw_p473, List.forall_mem_cons.mpr ⟨lw_p474, List.forall_mem_cons.mpr ⟨lw_p475, List.forall_mem_cons.mpr ⟨lw_p476, List.forall_mem_cons.mpr ⟨lw_p477, List.forall_mem_cons.mpr ⟨lw_p478, List.forall_mem_cons.mpr ⟨lw_p479, fun _ h => absurd h List.not_mem_nil⟩⟩⟩⟩⟩⟩⟩⟩⟩⟩⟩⟩⟩⟩⟩⟩
theorem lw_p480 : lw_okq (⟨"WireHouseModel", "atClient", "(IIII)V"⟩, 311) := ⟨⟨by decide +kernel, by decide +kernel⟩, List.mem_of_getElem? (i := 2588) (by decide +kernel), List.mem_of_getElem? (i := 4920) (by decide +kernel), List.mem_of_getElem? (i := 4921) (by decide +kernel)⟩
theorem lw_p481 : lw_okq (⟨"WireHouseModel", "readAnswer", "(II)Z"⟩, 311) := ⟨⟨by decide +kernel, by decide +kernel⟩, List.mem_of_getElem? (i := 2588) (by decide +kernel), List.mem_of_getElem? (i := 4924) (by decide +kernel), List.mem_of_getElem? (i := 4925) (by decide +kernel)⟩
theorem lw_p482 : lw_okq (⟨"WireHouseModel", "callOf", "(II)I"⟩, 311) := ⟨⟨by decide +kernel, by decide +kernel⟩, List.mem_of_getElem? (i := 2588) (by decide +kernel), List.mem_of_getElem? (i := 4936) (by decide +kernel), List.mem_of_getElem? (i := 4937) (by decide +kernel)⟩
def lw_privs_31 : List (MethodName × Nat) := [(⟨"WireHouseModel", "atClient", "(IIII)V"⟩, 311), (⟨"WireHouseModel", "readAnswer", "(II)Z"⟩, 311), (⟨"WireHouseModel", "callOf", "(II)I"⟩, 311)]
theorem lw_r31 : ∀ q ∈ lw_privs_31, lw_okq q := List.forall_mem_cons.mpr ⟨lw_p480, List.forall_mem_cons.mpr ⟨lw_p481, List.forall_mem_cons.mpr ⟨lw_p482, fun _ h => absurd h List.not_mem_nil⟩⟩⟩
def lw_privs : List (MethodName × Nat) := lw_privs_1 ++ (lw_privs_2 ++ (lw_privs_3 ++ (lw_privs_4 ++ (lw_privs_5 ++ (lw_privs_6 ++ (lw_privs_7 ++ (lw_privs_8 ++ (lw_privs_9 ++ (lw_privs_10 ++ (lw_privs_11 ++ (lw_privs_12 ++ (lw_privs_13 ++ (lw_privs_14 ++ (lw_privs_15 ++ (lw_privs_16 ++ (lw_privs_17 ++ (lw_privs_18 ++ (lw_privs_19 ++ (lw_privs_20 ++ (lw_privs_21 ++ (lw_privs_22 ++ (lw_privs_23 ++ (lw_privs_24 ++ (lw_privs_25 ++ (lw_privs_26 ++ (lw_privs_27 ++ (lw_privs_28 ++ (lw_privs_29 ++ (lw_privs_30 ++ (lw_privs_31))))))))))))))))))))))))))))))
def lw_tbl : List Cond := k2_sels lw_privs ++ tables_1
theorem lw_privs_ok : ∀ q ∈ lw_privs, lw_okq q := by
  show ∀ q ∈ lw_privs_1 ++ (lw_privs_2 ++ (lw_privs_3 ++ (lw_privs_4 ++ (lw_privs_5 ++ (lw_privs_6 ++ (lw_privs_7 ++ (lw_privs_8 ++ (lw_privs_9 ++ (lw_privs_10 ++ (lw_privs_11 ++ (lw_privs_12 ++ (lw_privs_13 ++ (lw_privs_14 ++ (lw_privs_15 ++ (lw_privs_16 ++ (lw_privs_17 ++ (lw_privs_18 ++ (lw_privs_19 ++ (lw_privs_20 ++ (lw_privs_21 ++ (lw_privs_22 ++ (lw_privs_23 ++ (lw_privs_24 ++ (lw_privs_25 ++ (lw_privs_26 ++ (lw_privs_27 ++ (lw_privs_28 ++ (lw_privs_29 ++ (lw_privs_30 ++ (lw_privs_31)))))))))))))))))))))))))))))), lw_okq q
  exact List.forall_mem_append.mpr ⟨lw_r1, List.forall_mem_append.mpr ⟨lw_r2, List.forall_mem_append.mpr ⟨lw_r3, List.forall_mem_append.mpr ⟨lw_r4, List.forall_mem_append.mpr ⟨lw_r5, List.forall_mem_append.mpr ⟨lw_r6, List.forall_mem_append.mpr ⟨lw_r7, List.forall_mem_append.mpr ⟨lw_r8, List.forall_mem_append.mpr ⟨lw_r9, List.forall_mem_append.mpr ⟨lw_r10, List.forall_mem_append.mpr ⟨lw_r11, List.forall_mem_append.mpr ⟨lw_r12, List.forall_mem_append.mpr ⟨lw_r13, List.forall_mem_append.mpr ⟨lw_r14, List.forall_mem_append.mpr ⟨lw_r15, List.forall_mem_append.mpr ⟨lw_r16, List.forall_mem_append.mpr ⟨lw_r17, List.forall_mem_append.mpr ⟨lw_r18, List.forall_mem_append.mpr ⟨lw_r19, List.forall_mem_append.mpr ⟨lw_r20, List.forall_mem_append.mpr ⟨lw_r21, List.forall_mem_append.mpr ⟨lw_r22, List.forall_mem_append.mpr ⟨lw_r23, List.forall_mem_append.mpr ⟨lw_r24, List.forall_mem_append.mpr ⟨lw_r25, List.forall_mem_append.mpr ⟨lw_r26, List.forall_mem_append.mpr ⟨lw_r27, List.forall_mem_append.mpr ⟨lw_r28, List.forall_mem_append.mpr ⟨lw_r29, List.forall_mem_append.mpr ⟨lw_r30, lw_r31⟩⟩⟩⟩⟩⟩⟩⟩⟩⟩⟩⟩⟩⟩⟩⟩⟩⟩⟩⟩⟩⟩⟩⟩⟩⟩⟩⟩⟩⟩
end
section
/-! A pure machine: worlds are lists of objects and arrays by their numbers (a reference is a number in the list), methods are rows of decoded instructions, constant pool entries are looked up in a list.
What it does is tied to the real machine once, for all methods (parts 03 to 05); after that a method's contract is a statement about x_run alone. -/
abbrev xE : Type := (Nat × List Value) ⊕ (Nat × vp_A)
abbrev xS : Type := List xE
/-- a constant pool entry: its kind and three numbers -/
abbrev xL : Type := Nat × Nat × Nat × Int
/-- a method: name, code, locals, answer, kind (0 static, 1 of an object, 2 a constructor), decoded rows, pool (both in drawers of 32 places) -/
abbrev xM : Type := MethodName × ByteArray × Nat × Option FieldType × Nat × List (List (Nat × Instr × Nat)) × List (List (Nat × xL))
abbrev xLs : Type := List (Option Value)
/-- real values: the world's numbers begin at the address z; the script lies at b -/
def x_cv (z b : Nat) : Value → Value
  | .ref a => .ref (z + a)
  | .retAddr _ => .ref b
  | v => v
def x_ca (z : Nat) (a : vp_A) : vp_A := match a with
  | (n, .inr (.inr (.inr (.inr f)))) => (n, .inr (.inr (.inr (.inr fun i => (f i).map (fun q => z + q)))))
  | a => a
def x_ce (cA : Nat → ClassId) (z b : Nat) : xE → va_E
  | .inl (ci, fs) => .inr (ci, fs.map (x_cv z b))
  | .inr (t, a) => .inl (cA t, x_ca z a)
def x_wl (cA : Nat → ClassId) (z b : Nat) (S : xS) : va_W := S.mapIdx fun i e => (z + i, x_ce cA z b e)
def x_ld (L : xLs) (i : Nat) : Option Value := match L[i]? with
  | some (some v) => some v
  | _ => none
def x_two : Option Value → Bool
  | some (.long _) => true
  | some (.double _) => true
  | _ => false
def x_cl (L : xLs) (i : Nat) : xLs := match i with
  | 0 => L
  | k + 1 => if x_two (x_ld L k) = true then L.set k none else L
def x_st1 (L : xLs) (i : Nat) (v : Value) : Option xLs := if i < L.length then some ((x_cl L i).set i (some v)) else none
def x_st2 (L : xLs) (i : Nat) (v : Value) : Option xLs := if i + 1 < L.length then some (((x_cl L i).set (i + 1) none).set i (some v)) else none
abbrev xP : Type := Nat × xLs × List Value
def x_b2 (pc : Nat) (L : xLs) (st : List Value) (f : Int32 → Int32 → Value) : Option xP := match st with
  | .int y :: .int x :: r => some (pc + 1, L, f x y :: r)
  | _ => none
def x_d2 (pc : Nat) (L : xLs) (st : List Value) (f : Int32 → Int32 → Value) : Option xP := match st with
  | .int y :: .int x :: r => if y = 0 then none else some (pc + 1, L, f x y :: r)
  | _ => none
def x_l2 (pc : Nat) (L : xLs) (st : List Value) (f : Int64 → Int64 → Value) : Option xP := match st with
  | .long y :: .long x :: r => some (pc + 1, L, f x y :: r)
  | _ => none
def x_m2 (pc : Nat) (L : xLs) (st : List Value) (f : Int64 → Int64 → Value) : Option xP := match st with
  | .long y :: .long x :: r => if y = 0 then none else some (pc + 1, L, f x y :: r)
  | _ => none
def x_s2 (pc : Nat) (L : xLs) (st : List Value) (f : Int64 → Int32 → Value) : Option xP := match st with
  | .int y :: .long x :: r => some (pc + 1, L, f x y :: r)
  | _ => none
def x_i1 (pc : Nat) (L : xLs) (st : List Value) (f : Int32 → Value) : Option xP := match st with
  | .int x :: r => some (pc + 1, L, f x :: r)
  | _ => none
def x_j1 (pc : Nat) (L : xLs) (st : List Value) (f : Int64 → Value) : Option xP := match st with
  | .long x :: r => some (pc + 1, L, f x :: r)
  | _ => none
def x_ldi (pc k : Nat) (L : xLs) (st : List Value) (i : Nat) : Option xP := match x_ld L i with
  | some (.int x) => some (pc + k, L, .int x :: st)
  | _ => none
def x_ldl (pc k : Nat) (L : xLs) (st : List Value) (i : Nat) : Option xP := match x_ld L i with
  | some (.long x) => some (pc + k, L, .long x :: st)
  | _ => none
def x_lda (pc k : Nat) (L : xLs) (st : List Value) (i : Nat) : Option xP := match x_ld L i with
  | some (.ref x) => some (pc + k, L, .ref x :: st)
  | some .null => some (pc + k, L, .null :: st)
  | some (.retAddr x) => some (pc + k, L, .retAddr x :: st)
  | _ => none
def x_sti (pc k : Nat) (L : xLs) (st : List Value) (i : Nat) : Option xP := match st with
  | .int x :: r => (x_st1 L i (.int x)).map fun L' => (pc + k, L', r)
  | _ => none
def x_stl (pc k : Nat) (L : xLs) (st : List Value) (i : Nat) : Option xP := match st with
  | .long x :: r => (x_st2 L i (.long x)).map fun L' => (pc + k, L', r)
  | _ => none
def x_sta (pc k : Nat) (L : xLs) (st : List Value) (i : Nat) : Option xP := match st with
  | .ref x :: r => (x_st1 L i (.ref x)).map fun L' => (pc + k, L', r)
  | .null :: r => (x_st1 L i .null).map fun L' => (pc + k, L', r)
  | _ => none
def x_jmp (pc : Nat) (off : Int) (L : xLs) (st : List Value) : Option xP := if 0 ≤ (pc : Int) + off then some (((pc : Int) + off).toNat, L, st) else none
def x_br (c : Prop) (d : Decidable c) (pc : Nat) (off : Int) (L : xLs) (st : List Value) : Option xP := if 0 ≤ (pc : Int) + off then some (@ite _ c d ((pc : Int) + off).toNat (pc + 3), L, st) else none
def x_if (co : ClassFile.Cond) (pc : Nat) (off : Int) (L : xLs) (st : List Value) : Option xP := match st with
  | .int x :: r => match co with
    | .eq => x_br (x = 0) inferInstance pc off L r
    | .ne => x_br (x ≠ 0) inferInstance pc off L r
    | .lt => x_br (x < 0) inferInstance pc off L r
    | .ge => x_br (0 ≤ x) inferInstance pc off L r
    | .gt => x_br (0 < x) inferInstance pc off L r
    | .le => x_br (x ≤ 0) inferInstance pc off L r
  | _ => none
def x_ic (co : ClassFile.Cond) (pc : Nat) (off : Int) (L : xLs) (st : List Value) : Option xP := match st with
  | .int y :: .int x :: r => match co with
    | .eq => x_br (x = y) inferInstance pc off L r
    | .ne => x_br (x ≠ y) inferInstance pc off L r
    | .lt => x_br (x < y) inferInstance pc off L r
    | .ge => x_br (y ≤ x) inferInstance pc off L r
    | .gt => x_br (y < x) inferInstance pc off L r
    | .le => x_br (x ≤ y) inferInstance pc off L r
  | _ => none
/-- what touches the frame alone -/
def x_pure (ins : Instr) (len pc : Nat) (L : xLs) (st : List Value) : Option xP := match ins with
  | .iconst n => some (pc + 1, L, .int (Int32.ofInt n) :: st)
  | .bipush n => some (pc + 2, L, .int (Int8.ofInt n).toInt32 :: st)
  | .sipush n => some (pc + 3, L, .int (Int16.ofInt n).toInt32 :: st)
  | .lconst n => some (pc + 1, L, .long (Int64.ofNat (n : Nat)) :: st)
  | .iload_n k => x_ldi pc 1 L st k
  | .iload i => if len = 2 then x_ldi pc 2 L st i else none
  | .lload_n k => x_ldl pc 1 L st k
  | .lload i => if len = 2 then x_ldl pc 2 L st i else none
  | .aload_n k => x_lda pc 1 L st k
  | .aload i => if len = 2 then x_lda pc 2 L st i else none
  | .istore_n k => x_sti pc 1 L st k
  | .istore i => if len = 2 then x_sti pc 2 L st i else none
  | .lstore_n k => x_stl pc 1 L st k
  | .lstore i => if len = 2 then x_stl pc 2 L st i else none
  | .astore_n k => x_sta pc 1 L st k
  | .astore i => if len = 2 then x_sta pc 2 L st i else none
  | .iinc i n => if len = 3 then (match x_ld L i with
    | some (.int x) => (x_st1 L i (.int (x + Int32.ofInt n))).map fun L' => (pc + 3, L', st)
    | _ => none) else none
  | .iadd => x_b2 pc L st fun x y => .int (x + y)
  | .isub => x_b2 pc L st fun x y => .int (x - y)
  | .imul => x_b2 pc L st fun x y => .int (x * y)
  | .iand => x_b2 pc L st fun x y => .int (x &&& y)
  | .ior => x_b2 pc L st fun x y => .int (x ||| y)
  | .ixor => x_b2 pc L st fun x y => .int (x ^^^ y)
  | .ishl => x_b2 pc L st fun x y => .int (x <<< (y &&& 31))
  | .ishr => x_b2 pc L st fun x y => .int (x >>> (y &&& 31))
  | .iushr => x_b2 pc L st fun x y => .int (x.toUInt32 >>> (y.toUInt32 &&& Int32.toUInt32 31)).toInt32
  | .idiv => x_d2 pc L st fun x y => .int (x / y)
  | .irem => x_d2 pc L st fun x y => .int (x - x / y * y)
  | .ineg => x_i1 pc L st fun x => .int (-x)
  | .ladd => x_l2 pc L st fun x y => .long (x + y)
  | .lsub => x_l2 pc L st fun x y => .long (x - y)
  | .lmul => x_l2 pc L st fun x y => .long (x * y)
  | .land => x_l2 pc L st fun x y => .long (x &&& y)
  | .lor => x_l2 pc L st fun x y => .long (x ||| y)
  | .lxor => x_l2 pc L st fun x y => .long (x ^^^ y)
  | .ldiv => x_m2 pc L st fun x y => .long (x / y)
  | .lrem => x_m2 pc L st fun x y => .long (x - x / y * y)
  | .lneg => x_j1 pc L st fun x => .long (-x)
  | .lcmp => x_l2 pc L st fun x y => .int (lg_cmp x y)
  | .lshl => x_s2 pc L st fun x y => .long (x <<< (y.toInt64 &&& 63))
  | .lshr => x_s2 pc L st fun x y => .long (x >>> (y.toInt64 &&& 63))
  | .lushr => x_s2 pc L st fun x y => .long (x.toUInt64 >>> (y.toInt64.toUInt64 &&& Int64.toUInt64 63)).toInt64
  | .i2l => x_i1 pc L st fun x => .long x.toInt64
  | .l2i => x_j1 pc L st fun x => .int x.toInt32
  | .i2b => x_i1 pc L st fun x => .int x.toInt8.toInt32
  | .i2s => x_i1 pc L st fun x => .int x.toInt16.toInt32
  | .dup => match st with
    | v :: r => if v.category = 1 then some (pc + 1, L, v :: v :: r) else none
    | _ => none
  | .pop => match st with
    | v :: r => if v.category = 1 then some (pc + 1, L, r) else none
    | _ => none
  | .dup2 => match st with
    | v :: r => if v.category = 2 then some (pc + 1, L, v :: v :: r) else (match r with
      | w :: r => if v.category = 1 ∧ w.category = 1 then some (pc + 1, L, v :: w :: v :: w :: r) else none
      | _ => none)
    | _ => none
  | .pop2 => match st with
    | v :: r => if v.category = 2 then some (pc + 1, L, r) else none
    | _ => none
  | .goto off => x_jmp pc off L st
  | .ifCond co off => x_if co pc off L st
  | .if_icmp co off => x_ic co pc off L st
  | .ifnonnull off => match st with
    | .ref _ :: r => x_jmp pc off L r
    | .null :: r => some (pc + 3, L, r)
    | _ => none
  | .tableswitch d lo hi offs => match st with
    | .int x :: r => if x.toInt < lo ∨ hi < x.toInt then x_jmp pc d L r else (match offs[(x.toInt - lo).toNat]? with
      | some o => x_jmp pc o L r
      | none => none)
    | _ => none
  | .lookupswitch d ps => match st with
    | .int x :: r => if (ps.toList.zip (ps.toList.drop 1)).all (fun (a, next) => a.1 < next.1) = true then x_jmp pc (Op.lookupswitch.offset ps.toList d x.toInt) L r else none
    | _ => none
  | _ => none
def x_obj (S : xS) (a : Nat) : Option (Nat × List Value) := match S[a]? with
  | some (.inl q) => some q
  | _ => none
def x_arr (S : xS) (a : Nat) : Option (Nat × vp_A) := match S[a]? with
  | some (.inr q) => some q
  | _ => none
/-- a place of an array -/
abbrev x_in (i : Int32) (n : Nat) : Prop := 0 ≤ i ∧ i.toNatClampNeg < n
/-- whether a field of a sort (0 int, 1 long, 2 boolean, 3 a reference) may hold a value -/
def x_fit (tc : Int) (v : Value) : Bool := match v with
  | .int x => tc == 0 || (tc == 2 && (x == 0 || x == 1))
  | .long _ => tc == 1
  | .null => tc == 3
  | .ref _ => tc == 3
  | _ => false
abbrev xY : Type := Nat × xLs × List Value × xS
def x_find {α : Type} (l : List (List (Nat × α))) (i : Nat) : Option α := match l[i / 32]? with
  | some d => d.lookup i
  | none => none
def x_pool (M : xM) (i : Nat) : xL := match x_find M.2.2.2.2.2.2 i with
  | some q => q
  | none => (99, 0, 0, 0)
def x_get (M : xM) (i pc : Nat) (L : xLs) (st : List Value) (S : xS) : Option xY := match x_pool M i with
  | (kd, ci, k, _) => if kd ≤ 2 ∨ kd = 16 then (match st with
    | .ref a :: r => (match x_obj S a with
      | some (cj, fs) => if cj = ci then (match fs[k]? with
        | some v => some (pc + 3, L, v :: r, S)
        | none => none) else none
      | none => none)
    | _ => none) else none
def x_put (M : xM) (i pc : Nat) (L : xLs) (st : List Value) (S : xS) : Option xY := match x_pool M i with
  | (kd, ci, k, tc) => if kd = 0 ∨ (kd = 1 ∧ M.2.2.2.2.1 = 2) then (match st with
    | v :: .ref a :: r => (match x_obj S a with
      | some (cj, fs) => if cj = ci ∧ k < fs.length ∧ x_fit tc v = true then some (pc + 3, L, r, S.set a (.inl (cj, fs.set k v))) else none
      | none => none)
    | _ => none) else none
def x_iald (scr : Option (Nat × (Nat → Int32))) (pc : Nat) (L : xLs) (st : List Value) (S : xS) : Option xY := match st with
  | .int i :: .ref a :: r => (match x_arr S a with
    | some (0, n, .inl f) => if x_in i n then some (pc + 1, L, .int (f i.toNatClampNeg) :: r, S) else none
    | _ => none)
  | .int i :: .retAddr _ :: r => (match scr with
    | some (n, f) => if x_in i n then some (pc + 1, L, .int (f i.toNatClampNeg) :: r, S) else none
    | none => none)
  | _ => none
def x_bald (pc : Nat) (L : xLs) (st : List Value) (S : xS) : Option xY := match st with
  | .int i :: .ref a :: r => (match x_arr S a with
    | some (2, n, .inl f) => if x_in i n then some (pc + 1, L, .int (f i.toNatClampNeg) :: r, S) else none
    | some (3, n, .inl f) => if x_in i n then some (pc + 1, L, .int (f i.toNatClampNeg) :: r, S) else none
    | _ => none)
  | _ => none
def x_lald (pc : Nat) (L : xLs) (st : List Value) (S : xS) : Option xY := match st with
  | .int i :: .ref a :: r => (match x_arr S a with
    | some (1, n, .inr (.inl f)) => if x_in i n then some (pc + 1, L, .long (f i.toNatClampNeg) :: r, S) else none
    | _ => none)
  | _ => none
def x_aald (pc : Nat) (L : xLs) (st : List Value) (S : xS) : Option xY := match st with
  | .int i :: .ref a :: r => (match x_arr S a with
    | some (t, n, .inr (.inr (.inr (.inr f)))) => if 4 ≤ t ∧ t ≤ 6 ∧ x_in i n then some (pc + 1, L, va_rf (f i.toNatClampNeg) :: r, S) else none
    | _ => none)
  | _ => none
def x_iast (pc : Nat) (L : xLs) (st : List Value) (S : xS) : Option xY := match st with
  | .int x :: .int i :: .ref a :: r => (match x_arr S a with
    | some (0, n, .inl f) => if x_in i n then some (pc + 1, L, r, S.set a (.inr (0, n, .inl (upd f i.toNatClampNeg x)))) else none
    | _ => none)
  | _ => none
def x_bast (pc : Nat) (L : xLs) (st : List Value) (S : xS) : Option xY := match st with
  | .int x :: .int i :: .ref a :: r => (match x_arr S a with
    | some (2, n, .inl f) => if x_in i n then some (pc + 1, L, r, S.set a (.inr (2, n, .inl (upd f i.toNatClampNeg (vp_nar .byte x))))) else none
    | some (3, n, .inl f) => if x_in i n then some (pc + 1, L, r, S.set a (.inr (3, n, .inl (upd f i.toNatClampNeg (vp_nar .boolean x))))) else none
    | _ => none)
  | _ => none
def x_last (pc : Nat) (L : xLs) (st : List Value) (S : xS) : Option xY := match st with
  | .long x :: .int i :: .ref a :: r => (match x_arr S a with
    | some (1, n, .inr (.inl f)) => if x_in i n then some (pc + 1, L, r, S.set a (.inr (1, n, .inr (.inl (vp_updL f i.toNatClampNeg x))))) else none
    | _ => none)
  | _ => none
/-- the class whose objects an array of references of a sort holds -/
def x_tc (t : Nat) : Nat := match t with
  | 4 => 0
  | 5 => 4
  | _ => 10
def x_aast (pc : Nat) (L : xLs) (st : List Value) (S : xS) : Option xY := match st with
  | .ref v :: .int i :: .ref a :: r => (match x_arr S a, x_obj S v with
    | some (t, n, .inr (.inr (.inr (.inr f)))), some (ci, _) => if 4 ≤ t ∧ t ≤ 6 ∧ ci = x_tc t ∧ x_in i n then some (pc + 1, L, r, S.set a (.inr (t, n, .inr (.inr (.inr (.inr (va_up f i.toNatClampNeg (some v)))))))) else none
    | _, _ => none)
  | _ => none
def x_alen (scr : Option (Nat × (Nat → Int32))) (pc : Nat) (L : xLs) (st : List Value) (S : xS) : Option xY := match st with
  | .ref a :: r => (match x_arr S a with
    | some (t, n, _) => if t ≤ 6 then some (pc + 1, L, .int (Int32.ofNat n) :: r, S) else none
    | none => none)
  | .retAddr _ :: r => (match scr with
    | some (n, _) => some (pc + 1, L, .int (Int32.ofNat n) :: r, S)
    | none => none)
  | _ => none
def x_newa (ty : ArrayType) (pc : Nat) (L : xLs) (st : List Value) (S : xS) : Option xY := match st with
  | .int n :: r => if 0 ≤ n ∧ n.toNatClampNeg ≤ 60000000 then (match ty with
    | .int => some (pc + 2, L, .ref S.length :: r, S ++ [.inr (0, n.toNatClampNeg, .inl fun _ => 0)])
    | .long => some (pc + 2, L, .ref S.length :: r, S ++ [.inr (1, n.toNatClampNeg, .inr (.inl fun _ => 0))])
    | .byte => some (pc + 2, L, .ref S.length :: r, S ++ [.inr (2, n.toNatClampNeg, .inl fun _ => 0)])
    | .boolean => some (pc + 2, L, .ref S.length :: r, S ++ [.inr (3, n.toNatClampNeg, .inl fun _ => 0)])
    | _ => none) else none
  | _ => none
def x_newq (M : xM) (i pc : Nat) (L : xLs) (st : List Value) (S : xS) : Option xY := match x_pool M i with
  | (kd, _, t, _) => if kd = 12 ∧ 4 ≤ t then (match st with
    | .int n :: r => if 0 ≤ n ∧ n.toNatClampNeg ≤ 60000000 then some (pc + 3, L, .ref S.length :: r, S ++ [.inr (t, n.toNatClampNeg, .inr (.inr (.inr (.inr fun _ => none))))]) else none
    | _ => none) else none
def x_new (df : List (List Value)) (M : xM) (i pc : Nat) (L : xLs) (st : List Value) (S : xS) : Option xY := match x_pool M i with
  | (kd, ci, _, _) => if kd = 12 then (match df[ci]? with
    | some fs => some (pc + 3, L, .ref S.length :: st, S ++ [.inl (ci, fs)])
    | none => none) else none
def x_ldc (M : xM) (i len pc : Nat) (L : xLs) (st : List Value) (S : xS) : Option xY := match x_pool M i with
  | (kd, _, _, v) => if kd = 14 then some (pc + len, L, .int (Int32.ofInt v) :: st, S) else none
def x_ldc2 (M : xM) (i pc : Nat) (L : xLs) (st : List Value) (S : xS) : Option xY := match x_pool M i with
  | (kd, _, _, v) => if kd = 15 then some (pc + 3, L, .long (Int64.ofInt v) :: st, S) else none
def x_heap (df : List (List Value)) (scr : Option (Nat × (Nat → Int32))) (M : xM) (ins : Instr) (pc : Nat) (L : xLs) (st : List Value) (S : xS) : Option xY := match ins with
  | .getfield i => x_get M i pc L st S
  | .putfield i => x_put M i pc L st S
  | .iaload => x_iald scr pc L st S
  | .baload => x_bald pc L st S
  | .laload => x_lald pc L st S
  | .aaload => x_aald pc L st S
  | .iastore => x_iast pc L st S
  | .bastore => x_bast pc L st S
  | .lastore => x_last pc L st S
  | .aastore => x_aast pc L st S
  | .arraylength => x_alen scr pc L st S
  | .newarray ty => x_newa ty pc L st S
  | .anewarray i => x_newq M i pc L st S
  | .new i => x_new df M i pc L st S
  | .ldc i => x_ldc M i 2 pc L st S
  | .ldc_w i => x_ldc M i 3 pc L st S
  | .ldc2_w i => x_ldc2 M i pc L st S
  | _ => none
abbrev xO : Type := Nat → List Value → xS → Option (Option Value × xS)
def x_w (st : List Value) : Nat := (st.map fun v => v.category).sum
/-- a call behind its arguments -/
def x_call (call : xO) (j : Nat) (as : List Value) (pc : Nat) (L : xLs) (rest : List Value) (S : xS) : Option xY := if x_w rest ≤ 8 then (match call j as S with
  | some (v, S') => some (pc + 3, L, v.toList ++ rest, S')
  | none => none) else none
def x_inv (call : xO) (M : xM) (ins : Instr) (pc : Nat) (L : xLs) (st : List Value) (S : xS) : Option xY := match ins with
  | .invokevirtual i => match x_pool M i with
    | (kd, j, np, ci) => if (kd = 3 ∨ kd = 4) ∧ np ≤ st.length then (match st.drop np with
      | .ref a :: rest => (match x_obj S a with
        | some (cj, _) => if (cj : Int) = ci then x_call call j (.ref a :: (st.take np).reverse) pc L rest S else none
        | none => none)
      | _ => none) else none
  | .invokespecial i => match x_pool M i with
    | (kd, j, np, _) => if kd = 9 then (match st with
      | .ref _ :: rest => if x_w rest ≤ 8 then some (pc + 3, L, rest, S) else none
      | _ => none) else if (kd = 7 ∨ kd = 8) ∧ np ≤ st.length then (match st.drop np with
      | .ref a :: rest => x_call call j (.ref a :: (st.take np).reverse) pc L rest S
      | _ => none) else none
  | .invokestatic i => match x_pool M i with
    | (kd, j, np, _) => if kd = 10 then (match st with
      | .int y :: .int x :: rest => if x_w rest ≤ 8 then some (pc + 3, L, .int (if x < y then y else x) :: rest, S) else none
      | _ => none) else if kd = 11 then (match st with
      | .int y :: .int x :: rest => if x_w rest ≤ 8 then some (pc + 3, L, .int (if y < x then y else x) :: rest, S) else none
      | _ => none) else if (kd = 5 ∨ kd = 6) ∧ np ≤ st.length then x_call call j (st.take np).reverse pc L (st.drop np) S else none
  | _ => none
def x_ret (M : xM) (ins : Instr) (st : List Value) : Option (Option Value) := match ins, M.2.2.2.1, st with
  | .return_, none, [] => some none
  | .ireturn, some .int, [.int v] => some (some (.int v))
  | .ireturn, some .boolean, [.int v] => if v = 0 ∨ v = 1 then some (some (.int v)) else none
  | .lreturn, some .long, [.long v] => some (some (.long v))
  | .areturn, some (.object _), [.ref a] => some (some (.ref a))
  | .areturn, some (.object _), [.null] => some (some .null)
  | _, _, _ => none
def x_isRet (ins : Instr) : Bool := match ins with
  | .return_ | .ireturn | .lreturn | .areturn => true
  | _ => false
def x_row (M : xM) (pc : Nat) : Option (Instr × Nat) := x_find M.2.2.2.2.2.1 pc
def x_step (df : List (List Value)) (scr : Option (Nat × (Nat → Int32))) (call : xO) (M : xM) (pc : Nat) (L : xLs) (st : List Value) (S : xS) : Option (xY ⊕ (Option Value × xS)) := match x_row M pc with
  | none => none
  | some (ins, len) => if x_isRet ins = true then (x_ret M ins st).map fun v => .inr (v, S) else
    match x_pure ins len pc L st with
    | some (pc', L', st') => some (.inl (pc', L', st', S))
    | none => match x_heap df scr M ins pc L st S with
      | some y => some (.inl y)
      | none => (x_inv call M ins pc L st S).map .inl
def x_run (df : List (List Value)) (scr : Option (Nat × (Nat → Int32))) (call : xO) (M : xM) : Nat → Nat → xLs → List Value → xS → Option (Option Value × xS)
  | 0, _, _, _, _ => none
  | n + 1, pc, L, st, S => match x_step df scr call M pc L st S with
    | none => none
    | some (.inr r) => some r
    | some (.inl (pc', L', st', S')) => x_run df scr call M n pc' L' st' S'
def x_sl (vs : List Value) : xLs := vs.flatMap fun v => if v.category = 2 then [some v, none] else [some v]
def x_entry (n : Nat) (vs : List Value) : Option xLs := if (x_sl vs).length ≤ n then some (x_sl vs ++ List.replicate (n - (x_sl vs).length) none) else none
/-- a method by its number: of calls within one another at most d, of steps in each at most n -/
def x_do (df : List (List Value)) (MT : List xM) (n : Nat) : Nat → xO
  | 0 => fun _ _ _ => none
  | d + 1 => fun j as S => match MT[j]? with
    | none => none
    | some M => match x_entry M.2.2.1 as with
      | none => none
      | some L => x_run df none (x_do df MT n d) M n 0 L [] S
end
section
/-! The pure machine's steps on a frame alone are the real machine's. -/
theorem x_cv_cat (z b : Nat) (v : Value) : (x_cv z b v).category = v.category := by cases v <;> rfl
theorem x_two_iff (v : Value) : x_two (some v) = true ↔ v.category = 2 := by cases v <;> simp [x_two, Value.category]
def x_LR (z b : Nat) (L : xLs) (ls : Array Slot) : Prop := ls.size = L.length ∧ lv_wf ls ∧ ∀ (i : Nat) (v : Value), L[i]? = some (some v) → ls[i]? = some (.val (x_cv z b v))
theorem x_ld_some {L : xLs} {i : Nat} {v : Value} (h : x_ld L i = some v) : L[i]? = some (some v) := by
  unfold x_ld at h
  split at h
  · next w hw => cases h; exact hw
  · cases h
theorem x_ld_of {L : xLs} {i : Nat} {v : Value} (h : L[i]? = some (some v)) : x_ld L i = some v := by
  unfold x_ld
  rw [h]
theorem x_LR.ld {z b : Nat} {L : xLs} {ls : Array Slot} (h : x_LR z b L ls) {i : Nat} {v : Value} (hv : x_ld L i = some v) : ls[i]? = some (.val (x_cv z b v)) := h.2.2 i v (x_ld_some hv)
def x_lv (z b : Nat) (L : xLs) : List (Nat × Value) := (List.range L.length).filterMap fun i => (x_ld L i).map fun v => (i, x_cv z b v)
theorem x_LR.has {z b : Nat} {L : xLs} {ls : Array Slot} (h : x_LR z b L ls) : lv_has ls L.length (x_lv z b L) := by
  refine ⟨h.1, h.2.1, fun q hq => ?_⟩
  obtain ⟨i, -, hi⟩ := List.mem_filterMap.mp hq
  cases hv : x_ld L i with
  | none => rw [hv] at hi; cases hi
  | some v => rw [hv] at hi; cases hi; exact h.ld hv
theorem x_lv_mem {z b : Nat} {L : xLs} {i : Nat} {v : Value} (h : L[i]? = some (some v)) : (i, x_cv z b v) ∈ x_lv z b L := by
  refine List.mem_filterMap.mpr ⟨i, List.mem_range.mpr ((List.getElem?_eq_some_iff.mp h).1), ?_⟩
  rw [x_ld_of h]
  rfl
theorem x_cl_len (L : xLs) (i : Nat) : (x_cl L i).length = L.length := by
  cases i with
  | zero => rfl
  | succ k => unfold x_cl; simp only; split <;> simp
theorem x_cl_get {L : xLs} {i j : Nat} {v : Value} (h : (x_cl L i)[j]? = some (some v)) : L[j]? = some (some v) ∧ ¬ (j + 1 = i ∧ v.category = 2) := by
  cases i with
  | zero => exact ⟨h, fun q => by omega⟩
  | succ k =>
    unfold x_cl at h
    simp only at h
    split at h
    · next ht =>
      by_cases hk : k = j
      · subst hk
        rw [List.getElem?_set] at h
        simp at h
      · rw [List.getElem?_set_ne hk] at h
        exact ⟨h, fun q => hk (by omega)⟩
    · next ht =>
      refine ⟨h, fun q => ht ?_⟩
      have hj : j = k := by omega
      subst hj
      rw [x_ld_of h]
      exact (x_two_iff v).mpr q.2
theorem x_keep1 {z b : Nat} {L L' : xLs} {ls' : Array Slot} {i : Nat} {v : Value} (hs : x_st1 L i v = some L') (h : lv_has ls' L.length ((i, x_cv z b v) :: (x_lv z b L).filter (fun q => !(q.1 == i) && !(q.1 + 1 == i && q.2.category == 2)))) : x_LR z b L' ls' := by
  unfold x_st1 at hs
  split at hs
  · next hi =>
    cases hs
    refine ⟨by rw [h.1]; simp [x_cl_len], h.2.1, fun j w hj => ?_⟩
    by_cases hji : i = j
    · subst hji
      rw [List.getElem?_set_self (by rw [x_cl_len]; exact hi)] at hj
      cases hj
      exact h.2.2 (i, x_cv z b v) List.mem_cons_self
    · rw [List.getElem?_set_ne hji] at hj
      obtain ⟨h1, h2⟩ := x_cl_get hj
      refine h.2.2 (j, x_cv z b w) (List.mem_cons_of_mem _ (List.mem_filter.mpr ⟨x_lv_mem h1, ?_⟩))
      simp only [Bool.and_eq_true, Bool.not_eq_true', beq_eq_false_iff_ne, Bool.and_eq_false_iff, x_cv_cat]
      refine ⟨fun q => hji q.symm, ?_⟩
      by_cases hq : j + 1 = i
      · exact Or.inr fun q => h2 ⟨hq, q⟩
      · exact Or.inl hq
  · cases hs
theorem x_keep2 {z b : Nat} {L L' : xLs} {ls' : Array Slot} {i : Nat} {v : Value} (hs : x_st2 L i v = some L') (h : lv_has ls' L.length ((i, x_cv z b v) :: (x_lv z b L).filter (fun q => !(q.1 == i) && (!(q.1 == i + 1) && !(q.1 + 1 == i && q.2.category == 2))))) : x_LR z b L' ls' := by
  unfold x_st2 at hs
  split at hs
  · next hi =>
    cases hs
    refine ⟨by rw [h.1]; simp [x_cl_len], h.2.1, fun j w hj => ?_⟩
    by_cases hji : i = j
    · subst hji
      rw [List.getElem?_set_self (by rw [List.length_set, x_cl_len]; omega)] at hj
      cases hj
      exact h.2.2 (i, x_cv z b v) List.mem_cons_self
    · rw [List.getElem?_set_ne hji] at hj
      by_cases hj2 : i + 1 = j
      · subst hj2
        rw [List.getElem?_set_self (by rw [x_cl_len]; exact hi)] at hj
        cases hj
      · rw [List.getElem?_set_ne hj2] at hj
        obtain ⟨h1, h2⟩ := x_cl_get hj
        refine h.2.2 (j, x_cv z b w) (List.mem_cons_of_mem _ (List.mem_filter.mpr ⟨x_lv_mem h1, ?_⟩))
        simp only [Bool.and_eq_true, Bool.not_eq_true', beq_eq_false_iff_ne, Bool.and_eq_false_iff, x_cv_cat]
        refine ⟨fun q => hji q.symm, fun q => hj2 q.symm, ?_⟩
        by_cases hq : j + 1 = i
        · exact Or.inr fun q => h2 ⟨hq, q⟩
        · exact Or.inl hq
  · cases hs
theorem x_st1_lt {L L' : xLs} {i : Nat} {v : Value} (h : x_st1 L i v = some L') : i < L.length := by
  unfold x_st1 at h
  split at h
  · assumption
  · cases h
theorem x_st2_lt {L L' : xLs} {i : Nat} {v : Value} (h : x_st2 L i v = some L') : i + 1 < L.length := by
  unfold x_st2 at h
  split at h
  · assumption
  · cases h
/-- how many bytes an instruction has, where one length alone is let through -/
def x_lok (ins : Instr) (len : Nat) : Bool := match ins with
  | .bipush _ | .newarray _ | .ldc _ => len == 2
  | .sipush _ | .goto _ | .ifCond .. | .if_icmp .. | .ifnonnull _ | .getfield _ | .putfield _ | .new _ | .anewarray _ | .invokevirtual _ | .invokespecial _ | .invokestatic _ | .ldc_w _ | .ldc2_w _ => len == 3
  | .iload _ | .lload _ | .aload _ | .istore _ | .lstore _ | .astore _ | .iinc .. | .tableswitch .. | .lookupswitch .. => true
  | _ => len == 1
section XSP
variable {p : Program} {l : Launch} {e : Env} {R : Room} {s : State} {m : MethodId} {args : Array Value} {below : List Frame} {meth : Method} {c : Code} {H : Heap} {locs : List Loc} {cells slots : Nat} {Q : State → Prop}
variable {cc : ByteArray} {pc : Nat} {ls : Array Slot} {z b : Nat} {L L' : xLs} {st st' : List Value} {pc' : Nat}
theorem x_jmp_inv {off : Int} {r : List Value} (h : x_jmp pc off L r = some (pc', L', st')) : (pc : Int) + off = (pc' : Int) ∧ L' = L ∧ st' = r := by
  unfold x_jmp at h
  split at h
  · next h0 => cases h; exact ⟨(Int.toNat_of_nonneg h0).symm, rfl, rfl⟩
  · cases h
theorem x_br_go {cd : Prop} {d : Decidable cd} {off : Int} {r : List Value} {G : Prop} (h : x_br cd d pc off L r = some (pc', L', st')) (kk : L' = L → W p l e R s m args below meth c H locs cells slots Q (F0 m pc' ls (st'.map (x_cv z b))))
    (rule : ∀ tgt : Nat, (pc : Int) + off = (tgt : Int) → (cd → W p l e R s m args below meth c H locs cells slots Q (F0 m tgt ls (r.map (x_cv z b)))) → (¬ cd → W p l e R s m args below meth c H locs cells slots Q (F0 m (pc + 3) ls (r.map (x_cv z b)))) → G) : G := by
  unfold x_br at h
  split at h
  · next h0 =>
    cases h
    refine rule _ (Int.toNat_of_nonneg h0).symm (fun q => ?_) (fun q => ?_)
    · have := kk rfl
      rw [if_pos q] at this
      exact this
    · have := kk rfl
      rw [if_neg q] at this
      exact this
  · cases h
set_option maxHeartbeats 4000000 in
theorem x_sim_if (hexec : p.tables.exec = Jvm.exec) (hb : c.code = cc) {co : ClassFile.Cond} {off : Int} (hdg : decode cc pc = .ok (.ifCond co off, 3)) (h : x_if co pc off L st = some (pc', L', st'))
    (kk : L' = L → W p l e R s m args below meth c H locs cells slots Q (F0 m pc' ls (st'.map (x_cv z b)))) : W p l e R s m args below meth c H locs cells slots Q (F0 m pc ls (st.map (x_cv z b))) := by
  unfold x_if at h
  split at h
  · next x r =>
    cases co with
    | eq => exact x_br_go h kk fun tgt ht k1 k2 => lv_if_eq hexec hb hdg ht k1 k2
    | ne => exact x_br_go h kk fun tgt ht k1 k2 => lv_if_ne hexec hb hdg ht k1 (fun q => k2 fun hn => hn q)
    | lt => exact x_br_go h kk fun tgt ht k1 k2 => lv_if_lt hexec hb hdg ht k1 k2
    | ge => exact x_br_go h kk fun tgt ht k1 k2 => lv_if_ge hexec hb hdg ht k1 k2
    | gt => exact x_br_go h kk fun tgt ht k1 k2 => lv_if_gt hexec hb hdg ht k1 k2
    | le => exact x_br_go h kk fun tgt ht k1 k2 => lv_if_le hexec hb hdg ht k1 k2
  · cases h
set_option maxHeartbeats 4000000 in
theorem x_sim_ic (hexec : p.tables.exec = Jvm.exec) (hb : c.code = cc) {co : ClassFile.Cond} {off : Int} (hdg : decode cc pc = .ok (.if_icmp co off, 3)) (h : x_ic co pc off L st = some (pc', L', st'))
    (kk : L' = L → W p l e R s m args below meth c H locs cells slots Q (F0 m pc' ls (st'.map (x_cv z b)))) : W p l e R s m args below meth c H locs cells slots Q (F0 m pc ls (st.map (x_cv z b))) := by
  unfold x_ic at h
  split at h
  · next y x r =>
    cases co with
    | eq => exact x_br_go h kk fun tgt ht k1 k2 => lv_icmp_eq hexec hb hdg ht k1 k2
    | ne => exact x_br_go h kk fun tgt ht k1 k2 => lv_icmp_ne hexec hb hdg ht k1 (fun q => k2 fun hn => hn q)
    | lt => exact x_br_go h kk fun tgt ht k1 k2 => lv_icmp_lt hexec hb hdg ht k1 k2
    | ge => exact x_br_go h kk fun tgt ht k1 k2 => lv_icmp_ge hexec hb hdg ht k1 k2
    | gt => exact x_br_go h kk fun tgt ht k1 k2 => lv_icmp_gt hexec hb hdg ht k1 k2
    | le => exact x_br_go h kk fun tgt ht k1 k2 => lv_icmp_le hexec hb hdg ht k1 k2
  · cases h
/-- one word for each shape of an instruction's arithmetic -/
theorem x_b2_inv {f : Int32 → Int32 → Value} (h : x_b2 pc L st f = some (pc', L', st')) : ∃ x y r, st = .int y :: .int x :: r ∧ pc' = pc + 1 ∧ L' = L ∧ st' = f x y :: r := by
  unfold x_b2 at h
  split at h
  · next y x r => cases h; exact ⟨x, y, r, rfl, rfl, rfl, rfl⟩
  · cases h
theorem x_d2_inv {f : Int32 → Int32 → Value} (h : x_d2 pc L st f = some (pc', L', st')) : ∃ x y r, st = .int y :: .int x :: r ∧ ¬ y = 0 ∧ pc' = pc + 1 ∧ L' = L ∧ st' = f x y :: r := by
  unfold x_d2 at h
  split at h
  · next y x r =>
    split at h
    · cases h
    · next hy => cases h; exact ⟨x, y, r, rfl, hy, rfl, rfl, rfl⟩
  · cases h
theorem x_l2_inv {f : Int64 → Int64 → Value} (h : x_l2 pc L st f = some (pc', L', st')) : ∃ x y r, st = .long y :: .long x :: r ∧ pc' = pc + 1 ∧ L' = L ∧ st' = f x y :: r := by
  unfold x_l2 at h
  split at h
  · next y x r => cases h; exact ⟨x, y, r, rfl, rfl, rfl, rfl⟩
  · cases h
theorem x_m2_inv {f : Int64 → Int64 → Value} (h : x_m2 pc L st f = some (pc', L', st')) : ∃ x y r, st = .long y :: .long x :: r ∧ ¬ y = 0 ∧ pc' = pc + 1 ∧ L' = L ∧ st' = f x y :: r := by
  unfold x_m2 at h
  split at h
  · next y x r =>
    split at h
    · cases h
    · next hy => cases h; exact ⟨x, y, r, rfl, hy, rfl, rfl, rfl⟩
  · cases h
theorem x_s2_inv {f : Int64 → Int32 → Value} (h : x_s2 pc L st f = some (pc', L', st')) : ∃ x y r, st = .int y :: .long x :: r ∧ pc' = pc + 1 ∧ L' = L ∧ st' = f x y :: r := by
  unfold x_s2 at h
  split at h
  · next y x r => cases h; exact ⟨x, y, r, rfl, rfl, rfl, rfl⟩
  · cases h
theorem x_i1_inv {f : Int32 → Value} (h : x_i1 pc L st f = some (pc', L', st')) : ∃ x r, st = .int x :: r ∧ pc' = pc + 1 ∧ L' = L ∧ st' = f x :: r := by
  unfold x_i1 at h
  split at h
  · next x r => cases h; exact ⟨x, r, rfl, rfl, rfl, rfl⟩
  · cases h
theorem x_j1_inv {f : Int64 → Value} (h : x_j1 pc L st f = some (pc', L', st')) : ∃ x r, st = .long x :: r ∧ pc' = pc + 1 ∧ L' = L ∧ st' = f x :: r := by
  unfold x_j1 at h
  split at h
  · next x r => cases h; exact ⟨x, r, rfl, rfl, rfl, rfl⟩
  · cases h
theorem x_ldi_inv {k i : Nat} (h : x_ldi pc k L st i = some (pc', L', st')) : ∃ x, x_ld L i = some (.int x) ∧ pc' = pc + k ∧ L' = L ∧ st' = .int x :: st := by
  unfold x_ldi at h
  split at h
  · next x hx => cases h; exact ⟨x, hx, rfl, rfl, rfl⟩
  · cases h
theorem x_ldl_inv {k i : Nat} (h : x_ldl pc k L st i = some (pc', L', st')) : ∃ x, x_ld L i = some (.long x) ∧ pc' = pc + k ∧ L' = L ∧ st' = .long x :: st := by
  unfold x_ldl at h
  split at h
  · next x hx => cases h; exact ⟨x, hx, rfl, rfl, rfl⟩
  · cases h
theorem x_lda_inv {k i : Nat} (h : x_lda pc k L st i = some (pc', L', st')) : ∃ v, x_ld L i = some v ∧ ((∃ a, v = .ref a) ∨ v = .null ∨ ∃ a, v = .retAddr a) ∧ pc' = pc + k ∧ L' = L ∧ st' = v :: st := by
  unfold x_lda at h
  split at h
  · next x hx => cases h; exact ⟨_, hx, Or.inl ⟨x, rfl⟩, rfl, rfl, rfl⟩
  · next hx => cases h; exact ⟨_, hx, Or.inr (Or.inl rfl), rfl, rfl, rfl⟩
  · next x hx => cases h; exact ⟨_, hx, Or.inr (Or.inr ⟨x, rfl⟩), rfl, rfl, rfl⟩
  · cases h
theorem x_sti_inv {k i : Nat} (h : x_sti pc k L st i = some (pc', L', st')) : ∃ x r, st = .int x :: r ∧ x_st1 L i (.int x) = some L' ∧ pc' = pc + k ∧ st' = r := by
  unfold x_sti at h
  split at h
  · next x r =>
    cases hs : x_st1 L i (.int x) with
    | none => rw [hs] at h; cases h
    | some M => rw [hs] at h; cases h; exact ⟨x, _, rfl, hs, rfl, rfl⟩
  · cases h
theorem x_stl_inv {k i : Nat} (h : x_stl pc k L st i = some (pc', L', st')) : ∃ x r, st = .long x :: r ∧ x_st2 L i (.long x) = some L' ∧ pc' = pc + k ∧ st' = r := by
  unfold x_stl at h
  split at h
  · next x r =>
    cases hs : x_st2 L i (.long x) with
    | none => rw [hs] at h; cases h
    | some M => rw [hs] at h; cases h; exact ⟨x, _, rfl, hs, rfl, rfl⟩
  · cases h
theorem x_sta_inv {k i : Nat} (h : x_sta pc k L st i = some (pc', L', st')) : ∃ v r, st = v :: r ∧ ((∃ a, v = .ref a) ∨ v = .null) ∧ x_st1 L i v = some L' ∧ pc' = pc + k ∧ st' = r := by
  unfold x_sta at h
  split at h
  · next x r =>
    cases hs : x_st1 L i (.ref x) with
    | none => rw [hs] at h; cases h
    | some M => rw [hs] at h; cases h; exact ⟨_, _, rfl, Or.inl ⟨x, rfl⟩, hs, rfl, rfl⟩
  · next r =>
    cases hs : x_st1 L i .null with
    | none => rw [hs] at h; cases h
    | some M => rw [hs] at h; cases h; exact ⟨_, _, rfl, Or.inr rfl, hs, rfl, rfl⟩
  · cases h
end XSP
end
section
/-! The pure machine's steps on a frame alone are the real machine's: all of them. -/
section XSM
variable {p : Program} {l : Launch} {e : Env} {R : Room} {s : State} {m : MethodId} {args : Array Value} {below : List Frame} {meth : Method} {c : Code} {H : Heap} {locs : List Loc} {cells slots : Nat} {Q : State → Prop}
variable {cc : ByteArray} {pc : Nat} {ls : Array Slot} {z b : Nat} {L L' : xLs} {st st' : List Value} {pc' : Nat}
theorem x_no {α : Type} {a : α} (h : (none : Option α) = some a) : False := by cases h
set_option maxHeartbeats 8000000 in
theorem x_sim_pure (hexec : p.tables.exec = Jvm.exec) (hb : c.code = cc) {ins : Instr} {len : Nat} (hdg : decode cc pc = .ok (ins, len)) (hlen : x_lok ins len = true) (h : x_pure ins len pc L st = some (pc', L', st')) (hl : x_LR z b L ls)
    (kk : ∀ ls' : Array Slot, x_LR z b L' ls' → W p l e R s m args below meth c H locs cells slots Q (F0 m pc' ls' (st'.map (x_cv z b)))) : W p l e R s m args below meth c H locs cells slots Q (F0 m pc ls (st.map (x_cv z b))) := by
  cases ins with
  | iconst n =>
    obtain rfl : len = 1 := by simpa [x_lok] using hlen
    cases h
    exact lv_iconst hexec hb hdg rfl (kk ls hl)
  | bipush n =>
    obtain rfl : len = 2 := by simpa [x_lok] using hlen
    cases h
    exact lv_bipush hexec hb hdg rfl (kk ls hl)
  | sipush n =>
    obtain rfl : len = 3 := by simpa [x_lok] using hlen
    cases h
    exact lv_sipush hexec hb hdg rfl (kk ls hl)
  | lconst n =>
    obtain rfl : len = 1 := by simpa [x_lok] using hlen
    cases h
    exact lv_lconst hexec hb hdg rfl (kk ls hl)
  | iload_n k =>
    obtain rfl : len = 1 := by simpa [x_lok] using hlen
    obtain ⟨x, hx, rfl, rfl, rfl⟩ := x_ldi_inv h
    exact lv_iload_n hexec hb hdg rfl (hl.ld hx) (kk ls hl)
  | iload i =>
    dsimp only [x_pure] at h
    split at h
    · next h2 =>
      subst h2
      obtain ⟨x, hx, rfl, rfl, rfl⟩ := x_ldi_inv h
      exact lv_iload hexec hb hdg (hl.ld hx) (kk ls hl)
    · cases h
  | lload_n k =>
    obtain rfl : len = 1 := by simpa [x_lok] using hlen
    obtain ⟨x, hx, rfl, rfl, rfl⟩ := x_ldl_inv h
    exact lv_lload_n hexec hb hdg rfl (hl.ld hx) (kk ls hl)
  | lload i =>
    dsimp only [x_pure] at h
    split at h
    · next h2 =>
      subst h2
      obtain ⟨x, hx, rfl, rfl, rfl⟩ := x_ldl_inv h
      exact lv_lload hexec hb hdg (hl.ld hx) (kk ls hl)
    · cases h
  | aload_n k =>
    obtain rfl : len = 1 := by simpa [x_lok] using hlen
    obtain ⟨v, hx, hv, rfl, rfl, rfl⟩ := x_lda_inv h
    rcases hv with ⟨a, rfl⟩ | rfl | ⟨a, rfl⟩
    · exact lv_aload_n hexec hb hdg rfl (hl.ld hx) (kk ls hl)
    · exact lv_aload_nN hexec hb hdg rfl (hl.ld hx) (kk ls hl)
    · exact lv_aload_n hexec hb hdg rfl (hl.ld hx) (kk ls hl)
  | aload i =>
    dsimp only [x_pure] at h
    split at h
    · next h2 =>
      subst h2
      obtain ⟨v, hx, hv, rfl, rfl, rfl⟩ := x_lda_inv h
      rcases hv with ⟨a, rfl⟩ | rfl | ⟨a, rfl⟩
      · exact lv_aload hexec hb hdg (hl.ld hx) (kk ls hl)
      · exact lv_aloadN hexec hb hdg (hl.ld hx) (kk ls hl)
      · exact lv_aload hexec hb hdg (hl.ld hx) (kk ls hl)
    · cases h
  | istore_n k =>
    obtain rfl : len = 1 := by simpa [x_lok] using hlen
    obtain ⟨x, r, rfl, hs, rfl, rfl⟩ := x_sti_inv h
    exact lv_istore_n hexec hb hdg rfl hl.has (x_st1_lt hs) rfl fun ls2 h2 => kk ls2 (x_keep1 hs h2)
  | istore i =>
    dsimp only [x_pure] at h
    split at h
    · next h2 =>
      subst h2
      obtain ⟨x, r, rfl, hs, rfl, rfl⟩ := x_sti_inv h
      exact lv_istore hexec hb hdg hl.has (x_st1_lt hs) rfl fun ls2 h2 => kk ls2 (x_keep1 hs h2)
    · cases h
  | lstore_n k =>
    obtain rfl : len = 1 := by simpa [x_lok] using hlen
    obtain ⟨x, r, rfl, hs, rfl, rfl⟩ := x_stl_inv h
    exact lv_lstore_n hexec hb hdg rfl hl.has (x_st2_lt hs) rfl fun ls2 h2 => kk ls2 (x_keep2 hs h2)
  | lstore i =>
    dsimp only [x_pure] at h
    split at h
    · next h2 =>
      subst h2
      obtain ⟨x, r, rfl, hs, rfl, rfl⟩ := x_stl_inv h
      exact lv_lstore hexec hb hdg hl.has (x_st2_lt hs) rfl fun ls2 h2 => kk ls2 (x_keep2 hs h2)
    · cases h
  | astore_n k =>
    obtain rfl : len = 1 := by simpa [x_lok] using hlen
    obtain ⟨v, r, rfl, hv, hs, rfl, rfl⟩ := x_sta_inv h
    rcases hv with ⟨a, rfl⟩ | rfl
    · exact lv_astore_n hexec hb hdg rfl hl.has (x_st1_lt hs) rfl fun ls2 h2 => kk ls2 (x_keep1 hs h2)
    · exact lv_astore_nN hexec hb hdg rfl hl.has (x_st1_lt hs) rfl fun ls2 h2 => kk ls2 (x_keep1 hs h2)
  | astore i =>
    dsimp only [x_pure] at h
    split at h
    · next h2 =>
      subst h2
      obtain ⟨v, r, rfl, hv, hs, rfl, rfl⟩ := x_sta_inv h
      rcases hv with ⟨a, rfl⟩ | rfl
      · exact lv_astore hexec hb hdg hl.has (x_st1_lt hs) rfl fun ls2 h2 => kk ls2 (x_keep1 hs h2)
      · exact lv_astoreN hexec hb hdg hl.has (x_st1_lt hs) rfl fun ls2 h2 => kk ls2 (x_keep1 hs h2)
    · cases h
  | iinc i n =>
    dsimp only [x_pure] at h
    split at h
    · next h2 =>
      subst h2
      split at h
      · next x hx =>
        cases hs : x_st1 L i (.int (x + Int32.ofInt n)) with
        | none => rw [hs] at h; cases h
        | some M =>
          rw [hs] at h
          cases h
          obtain ⟨k, hk⟩ := List.getElem?_of_mem (x_lv_mem (z := z) (b := b) (x_ld_some hx))
          exact lv_iinc hexec hb hdg hl.has hk rfl (x_st1_lt hs) rfl fun ls2 h2 => kk ls2 (x_keep1 hs h2)
      · cases h
    · cases h
  | iadd =>
    obtain rfl : len = 1 := by simpa [x_lok] using hlen
    obtain ⟨x, y, r, rfl, rfl, rfl, rfl⟩ := x_b2_inv h
    exact lv_iadd hexec hb hdg (kk ls hl)
  | isub =>
    obtain rfl : len = 1 := by simpa [x_lok] using hlen
    obtain ⟨x, y, r, rfl, rfl, rfl, rfl⟩ := x_b2_inv h
    exact lv_isub hexec hb hdg (kk ls hl)
  | imul =>
    obtain rfl : len = 1 := by simpa [x_lok] using hlen
    obtain ⟨x, y, r, rfl, rfl, rfl, rfl⟩ := x_b2_inv h
    exact lv_imul hexec hb hdg (kk ls hl)
  | iand =>
    obtain rfl : len = 1 := by simpa [x_lok] using hlen
    obtain ⟨x, y, r, rfl, rfl, rfl, rfl⟩ := x_b2_inv h
    exact lv_iand hexec hb hdg (kk ls hl)
  | ior =>
    obtain rfl : len = 1 := by simpa [x_lok] using hlen
    obtain ⟨x, y, r, rfl, rfl, rfl, rfl⟩ := x_b2_inv h
    exact lv_ior hexec hb hdg (kk ls hl)
  | ixor =>
    obtain rfl : len = 1 := by simpa [x_lok] using hlen
    obtain ⟨x, y, r, rfl, rfl, rfl, rfl⟩ := x_b2_inv h
    exact lv_ixor hexec hb hdg (kk ls hl)
  | ishl =>
    obtain rfl : len = 1 := by simpa [x_lok] using hlen
    obtain ⟨x, y, r, rfl, rfl, rfl, rfl⟩ := x_b2_inv h
    exact lv_ishl hexec hb hdg (kk ls hl)
  | ishr =>
    obtain rfl : len = 1 := by simpa [x_lok] using hlen
    obtain ⟨x, y, r, rfl, rfl, rfl, rfl⟩ := x_b2_inv h
    exact lv_ishr hexec hb hdg (kk ls hl)
  | iushr =>
    obtain rfl : len = 1 := by simpa [x_lok] using hlen
    obtain ⟨x, y, r, rfl, rfl, rfl, rfl⟩ := x_b2_inv h
    exact lv_iushr hexec hb hdg rfl (kk ls hl)
  | idiv =>
    obtain rfl : len = 1 := by simpa [x_lok] using hlen
    obtain ⟨x, y, r, rfl, hy, rfl, rfl, rfl⟩ := x_d2_inv h
    exact lv_idiv hexec hb hdg hy (kk ls hl)
  | irem =>
    obtain rfl : len = 1 := by simpa [x_lok] using hlen
    obtain ⟨x, y, r, rfl, hy, rfl, rfl, rfl⟩ := x_d2_inv h
    exact lv_irem hexec hb hdg hy (kk ls hl)
  | ineg =>
    obtain rfl : len = 1 := by simpa [x_lok] using hlen
    obtain ⟨x, r, rfl, rfl, rfl, rfl⟩ := x_i1_inv h
    exact lv_ineg hexec hb hdg (kk ls hl)
  | ladd =>
    obtain rfl : len = 1 := by simpa [x_lok] using hlen
    obtain ⟨x, y, r, rfl, rfl, rfl, rfl⟩ := x_l2_inv h
    exact lv_ladd hexec hb hdg (kk ls hl)
  | lsub =>
    obtain rfl : len = 1 := by simpa [x_lok] using hlen
    obtain ⟨x, y, r, rfl, rfl, rfl, rfl⟩ := x_l2_inv h
    exact lv_lsub hexec hb hdg (kk ls hl)
  | lmul =>
    obtain rfl : len = 1 := by simpa [x_lok] using hlen
    obtain ⟨x, y, r, rfl, rfl, rfl, rfl⟩ := x_l2_inv h
    exact lv_lmul hexec hb hdg (kk ls hl)
  | land =>
    obtain rfl : len = 1 := by simpa [x_lok] using hlen
    obtain ⟨x, y, r, rfl, rfl, rfl, rfl⟩ := x_l2_inv h
    exact lv_land hexec hb hdg (kk ls hl)
  | lor =>
    obtain rfl : len = 1 := by simpa [x_lok] using hlen
    obtain ⟨x, y, r, rfl, rfl, rfl, rfl⟩ := x_l2_inv h
    exact lv_lor hexec hb hdg (kk ls hl)
  | lxor =>
    obtain rfl : len = 1 := by simpa [x_lok] using hlen
    obtain ⟨x, y, r, rfl, rfl, rfl, rfl⟩ := x_l2_inv h
    exact lv_lxor hexec hb hdg (kk ls hl)
  | ldiv =>
    obtain rfl : len = 1 := by simpa [x_lok] using hlen
    obtain ⟨x, y, r, rfl, hy, rfl, rfl, rfl⟩ := x_m2_inv h
    exact lv_ldiv hexec hb hdg hy (kk ls hl)
  | lrem =>
    obtain rfl : len = 1 := by simpa [x_lok] using hlen
    obtain ⟨x, y, r, rfl, hy, rfl, rfl, rfl⟩ := x_m2_inv h
    exact lv_lrem hexec hb hdg hy (kk ls hl)
  | lneg =>
    obtain rfl : len = 1 := by simpa [x_lok] using hlen
    obtain ⟨x, r, rfl, rfl, rfl, rfl⟩ := x_j1_inv h
    exact lv_lneg hexec hb hdg (kk ls hl)
  | lcmp =>
    obtain rfl : len = 1 := by simpa [x_lok] using hlen
    obtain ⟨x, y, r, rfl, rfl, rfl, rfl⟩ := x_l2_inv h
    exact W.lcmp hexec hb hdg (kk ls hl)
  | lshl =>
    obtain rfl : len = 1 := by simpa [x_lok] using hlen
    obtain ⟨x, y, r, rfl, rfl, rfl, rfl⟩ := x_s2_inv h
    exact lv_lshl hexec hb hdg rfl (kk ls hl)
  | lshr =>
    obtain rfl : len = 1 := by simpa [x_lok] using hlen
    obtain ⟨x, y, r, rfl, rfl, rfl, rfl⟩ := x_s2_inv h
    exact lv_lshr hexec hb hdg rfl (kk ls hl)
  | lushr =>
    obtain rfl : len = 1 := by simpa [x_lok] using hlen
    obtain ⟨x, y, r, rfl, rfl, rfl, rfl⟩ := x_s2_inv h
    exact lv_lushr hexec hb hdg rfl (kk ls hl)
  | i2l =>
    obtain rfl : len = 1 := by simpa [x_lok] using hlen
    obtain ⟨x, r, rfl, rfl, rfl, rfl⟩ := x_i1_inv h
    exact lv_i2l hexec hb hdg rfl (kk ls hl)
  | i2b =>
    obtain rfl : len = 1 := by simpa [x_lok] using hlen
    obtain ⟨x, r, rfl, rfl, rfl, rfl⟩ := x_i1_inv h
    exact lv_i2b hexec hb hdg rfl (kk ls hl)
  | i2s =>
    obtain rfl : len = 1 := by simpa [x_lok] using hlen
    obtain ⟨x, r, rfl, rfl, rfl, rfl⟩ := x_i1_inv h
    exact lv_i2s hexec hb hdg rfl (kk ls hl)
  | l2i =>
    obtain rfl : len = 1 := by simpa [x_lok] using hlen
    obtain ⟨x, r, rfl, rfl, rfl, rfl⟩ := x_j1_inv h
    exact lv_l2i hexec hb hdg rfl (kk ls hl)
  | dup =>
    obtain rfl : len = 1 := by simpa [x_lok] using hlen
    dsimp only [x_pure] at h
    split at h
    · next v r =>
      split at h
      · next hv => cases h; exact lv_dup hexec hb hdg ((x_cv_cat z b v).trans hv) (kk ls hl)
      · cases h
    · cases h
  | pop =>
    obtain rfl : len = 1 := by simpa [x_lok] using hlen
    dsimp only [x_pure] at h
    split at h
    · next v r =>
      split at h
      · next hv => cases h; exact lv_pop hexec hb hdg ((x_cv_cat z b v).trans hv) (kk ls hl)
      · cases h
    · cases h
  | dup2 =>
    obtain rfl : len = 1 := by simpa [x_lok] using hlen
    dsimp only [x_pure] at h
    split at h
    · next v r =>
      split at h
      · next hv => cases h; exact lv_dup2_2 hexec hb hdg ((x_cv_cat z b v).trans hv) (kk ls hl)
      · split at h
        · next w r =>
          split at h
          · next hv => cases h; exact lv_dup2_11 hexec hb hdg ((x_cv_cat z b v).trans hv.1) ((x_cv_cat z b w).trans hv.2) (kk ls hl)
          · cases h
        · cases h
    · cases h
  | pop2 =>
    obtain rfl : len = 1 := by simpa [x_lok] using hlen
    dsimp only [x_pure] at h
    split at h
    · next v r =>
      split at h
      · next hv => cases h; exact lv_pop2_2 hexec hb hdg ((x_cv_cat z b v).trans hv) (kk ls hl)
      · cases h
    · cases h
  | goto off =>
    obtain rfl : len = 3 := by simpa [x_lok] using hlen
    obtain ⟨ht, rfl, rfl⟩ := x_jmp_inv h
    exact lv_goto hexec hb hdg ht (kk ls hl)
  | ifCond co off =>
    obtain rfl : len = 3 := by simpa [x_lok] using hlen
    exact x_sim_if hexec hb hdg h fun hL => kk ls (hL ▸ hl)
  | if_icmp co off =>
    obtain rfl : len = 3 := by simpa [x_lok] using hlen
    exact x_sim_ic hexec hb hdg h fun hL => kk ls (hL ▸ hl)
  | ifnonnull off =>
    obtain rfl : len = 3 := by simpa [x_lok] using hlen
    dsimp only [x_pure] at h
    split at h
    · next a r =>
      obtain ⟨ht, rfl, rfl⟩ := x_jmp_inv h
      exact lv_ifnonnull hexec hb hdg ht (kk ls hl)
    · next r => cases h; exact lv_ifnonnullN hexec hb hdg (kk ls hl)
    · cases h
  | tableswitch d lo hi offs =>
    dsimp only [x_pure] at h
    split at h
    · next x r =>
      split at h
      · next hx =>
        obtain ⟨ht, rfl, rfl⟩ := x_jmp_inv h
        exact lv_tableOut hexec hb hdg hx ht (kk ls hl)
      · next hx =>
        split at h
        · next o ho =>
          obtain ⟨ht, rfl, rfl⟩ := x_jmp_inv h
          exact lv_tableIn hexec hb hdg (fun q => hx (Or.inl q)) (fun q => hx (Or.inr q)) ho ht (kk ls hl)
        · cases h
    · cases h
  | lookupswitch d ps =>
    dsimp only [x_pure] at h
    split at h
    · next x r =>
      split at h
      · next hx =>
        obtain ⟨ht, rfl, rfl⟩ := x_jmp_inv h
        exact lv_lookup hexec hb hdg hx rfl ht (kk ls hl)
      · cases h
    · cases h
  | _ => exact (x_no (show (none : Option xP) = some (pc', L', st') from h)).elim
end XSM
end
section
/-! The pure world and the heap. -/
theorem x_wl_get {cA : Nat → ClassId} {z b : Nat} {S : xS} {i : Nat} {e : xE} (h : S[i]? = some e) : (x_wl cA z b S)[i]? = some (z + i, x_ce cA z b e) := by
  unfold x_wl
  rw [List.getElem?_mapIdx, h]
  rfl
theorem x_wl_len (cA : Nat → ClassId) (z b : Nat) (S : xS) : (x_wl cA z b S).length = S.length := by
  unfold x_wl
  exact List.length_mapIdx
theorem x_wl_inv {cA : Nat → ClassId} {z b : Nat} {S : xS} {i : Nat} {q : Nat × va_E} (h : (x_wl cA z b S)[i]? = some q) : ∃ e, S[i]? = some e ∧ q = (z + i, x_ce cA z b e) := by
  unfold x_wl at h
  rw [List.getElem?_mapIdx] at h
  cases he : S[i]? with
  | none => rw [he] at h; cases h
  | some e => rw [he] at h; cases h; exact ⟨e, rfl, rfl⟩
theorem x_wl_set (cA : Nat → ClassId) (z b : Nat) (S : xS) (i : Nat) (e : xE) : (x_wl cA z b S).set i (z + i, x_ce cA z b e) = x_wl cA z b (S.set i e) := by
  apply List.ext_getElem?
  intro j
  by_cases hij : i = j
  · subst hij
    by_cases hl : i < S.length
    · rw [List.getElem?_set_self (by rw [x_wl_len]; exact hl), x_wl_get (List.getElem?_set_self hl)]
    · rw [List.getElem?_eq_none (by rw [List.length_set, x_wl_len]; omega), List.getElem?_eq_none (by rw [x_wl_len, List.length_set]; omega)]
  · rw [List.getElem?_set_ne hij]
    unfold x_wl
    rw [List.getElem?_mapIdx, List.getElem?_mapIdx, List.getElem?_set_ne hij]
theorem x_wl_app (cA : Nat → ClassId) (z b : Nat) (S : xS) (e : xE) : x_wl cA z b (S ++ [e]) = x_wl cA z b S ++ [(z + S.length, x_ce cA z b e)] := by
  unfold x_wl
  rw [List.mapIdx_append]
  simp
theorem x_wl_D (cA : Nat → ClassId) (z b : Nat) (S : xS) : va_D (fun q => z ≤ q) (x_wl cA z b S) := by
  refine ⟨fun i j p q hi hj hpq => ?_, fun k q hk => ?_⟩
  · obtain ⟨e1, -, rfl⟩ := x_wl_inv hi
    obtain ⟨e2, -, rfl⟩ := x_wl_inv hj
    simp only at hpq
    omega
  · obtain ⟨e, -, rfl⟩ := x_wl_inv hk
    exact Nat.le_add_right _ _
/-- the heap's cells from z on are the world's -/
def x_Wd (D : va_G) (cl : List vw_C) (cA : Nat → ClassId) (z b : Nat) (S : xS) (H : Heap) : Prop := H.size = z + S.length ∧ va_P D cl (x_wl cA z b S) H
def x_sz (e : xE) : Nat := match e with
  | .inl (_, fs) => fs.length
  | .inr (_, n, _) => n
def x_slots (S : xS) : Nat := (S.map x_sz).sum
theorem x_slots_app (S : xS) (e : xE) : x_slots (S ++ [e]) = x_slots S + x_sz e := by simp [x_slots]
theorem x_slots_set {S : xS} {i : Nat} {e0 e : xE} (h : S[i]? = some e0) (he : x_sz e = x_sz e0) : x_slots (S.set i e) = x_slots S := by
  induction S generalizing i with
  | nil => rfl
  | cons a t ih =>
    cases i with
    | zero =>
      simp only [List.getElem?_cons_zero, Option.some.injEq] at h
      subst h
      simp [x_slots, he]
    | succ k =>
      simp only [List.getElem?_cons_succ] at h
      have := ih h
      simp only [x_slots] at this ⊢
      simp only [List.set_cons_succ, List.map_cons, List.sum_cons, this]
theorem x_Wd.stored {D : va_G} {cl : List vw_C} {cA : Nat → ClassId} {z b : Nat} {S : xS} {H H1 : Heap} {i : Nat} {e0 e : xE} (h : x_Wd D cl cA z b S H) (hi : S[i]? = some e0) (he : va_at D cl (z + i, x_ce cA z b e) H1) (hz : H1.size = H.size) (oq : ∀ q : Nat, q ≠ z + i → H1[q]? = H[q]?) : x_Wd D cl cA z b (S.set i e) H1 := by
  refine ⟨by rw [hz, h.1, List.length_set], ?_⟩
  rw [← x_wl_set]
  exact h.2.set (x_wl_D cA z b S) (x_wl_get hi) he oq
theorem x_Wd.pushed {D : va_G} {cl : List vw_C} {cA : Nat → ClassId} {z b : Nat} {S : xS} {H H1 : Heap} {e : xE} (h : x_Wd D cl cA z b S H) (he : va_at D cl (z + S.length, x_ce cA z b e) H1) (hz : H1.size = H.size + 1) (oq : ∀ q : Nat, q < H.size → H1[q]? = H[q]?) : x_Wd D cl cA z b (S ++ [e]) H1 := by
  refine ⟨by rw [hz, h.1, List.length_append]; simp; omega, ?_⟩
  rw [x_wl_app]
  refine (h.2.kept fun k q hk => oq q.1 (h.2 k q hk).lt).app fun k q hk => ?_
  have hz : k < 1 := (List.getElem?_eq_some_iff.mp hk).1
  rw [show k = 0 by omega] at hk
  cases hk
  exact he
theorem x_obj_inv {S : xS} {a : Nat} {q : Nat × List Value} (h : x_obj S a = some q) : S[a]? = some (.inl q) := by
  unfold x_obj at h
  split at h
  · next hq => cases h; exact hq
  · cases h
theorem x_arr_inv {S : xS} {a : Nat} {q : Nat × vp_A} (h : x_arr S a = some q) : S[a]? = some (.inr q) := by
  unfold x_arr at h
  split at h
  · next hq => cases h; exact hq
  · cases h
/-- the sorts of arrays -/
def x_ty (t : Nat) : FieldType := match t with
  | 0 => .int
  | 1 => .long
  | 2 => .byte
  | 3 => .boolean
  | 4 => .object "WireHouse$Bytes"
  | 5 => .object "WireHouse$Schema"
  | _ => .object "WireHouse$Tree"
def x_tys (cA : Nat → ClassId) : List (ClassId × FieldType) := (List.range 7).map fun t => (cA t, x_ty t)
theorem x_tys_get (cA : Nat → ClassId) {t : Nat} (h : t < 7) : (x_tys cA)[t]? = some (cA t, x_ty t) := by
  unfold x_tys
  rw [List.getElem?_map, List.getElem?_range h]
  rfl
theorem x_in_vp {i : Int32} {n : Nat} (h : x_in i n) : vp_in i n := fun q => by
  rcases q with q | q
  · exact Int32.not_lt.mpr h.1 q
  · exact Nat.not_le.mpr h.2 q
/-- what is asked of a descriptor's sort -/
def x_tyOk (d : String) (tc : Int) : Prop := ∃ ty, parseFieldDescriptor d = some ty ∧ ((tc = 0 ∧ ty = .int) ∨ (tc = 1 ∧ ty = .long) ∨ (tc = 2 ∧ ty = .boolean) ∨ (tc = 3 ∧ ((∃ n, ty = .object n) ∨ ∃ t, ty = .array t)))
theorem x_fit_ok {d : String} {tc : Int} {v : Value} (h : x_tyOk d tc) (hf : x_fit tc v = true) (z b : Nat) : ∃ ty, parseFieldDescriptor d = some ty ∧ narrow ty (x_cv z b v) = x_cv z b v ∧ fits ty (x_cv z b v) = true := by
  obtain ⟨ty, hp, h⟩ := h
  refine ⟨ty, hp, ?_⟩
  rcases h with ⟨rfl, rfl⟩ | ⟨rfl, rfl⟩ | ⟨rfl, rfl⟩ | ⟨rfl, ⟨n, rfl⟩ | ⟨t, rfl⟩⟩ <;> cases v <;> simp [x_fit, x_cv, narrow, fits] at hf ⊢
  · rcases hf with rfl | rfl <;> decide
/-- classes of the world: their words are there, their fields' types, their values at birth -/
def x_okC (cl : List vw_C) (df : List (List Value)) (Ts : List Jvm.Cond) : Prop := ∀ (ci : Nat) (C : String) (T : u_T) (N : Nat), cl[ci]? = some (C, T, N) → (∀ w ∈ u_ws C T N, w ∈ Ts) ∧
  (∃ ty : Nat → FieldType, (∀ k, k < N → parseFieldDescriptor (T k).2.2.1 = some (ty k)) ∧ ∃ fs, df[ci]? = some fs ∧ fs.length = N ∧ (∀ v ∈ fs, ∀ z b, x_cv z b v = v) ∧ ∀ j, j < N → defaultValue (ty j) = vp_V fs j) ∧
  (∀ a, a < N → ∀ b, b < N → a ≠ b → (T a).2.1 ≠ (T b).2.1) ∧ Cond.instantiable C N ∈ Ts ∧ Cond.initialized C ∈ Ts
/-- a field's link: a plain one, or one to a nest mate's -/
def x_okF (cl : List vw_C) (Ts : List Jvm.Cond) (own : String) (i : Nat) (q : Nat × Nat × Int) (fin : Bool) : Prop := ∃ (C : String) (T : u_T) (N : Nat), cl[q.1]? = some (C, T, N) ∧ q.2.1 < N ∧ Cond.fieldLink own i C (T q.2.1).2.1 (T q.2.1).2.2.1 ∈ Ts ∧ (T q.2.1).1 = C ∧ (T q.2.1).2.2.2 = fin ∧ x_tyOk (T q.2.1).2.2.1 q.2.2
def x_okFN (cl : List vw_C) (Ts : List Jvm.Cond) (own : String) (i : Nat) (q : Nat × Nat × Int) : Prop := ∃ (C host : String) (T : u_T) (N : Nat), cl[q.1]? = some (C, T, N) ∧ q.2.1 < N ∧ Cond.fieldLinkNest own i C (T q.2.1).2.1 (T q.2.1).2.2.1 host ∈ Ts ∧ (T q.2.1).1 = C
/-- links between nest mates and classes of arrays over classes: words that hold at a state, and stay -/
def x_Nx (NX : List Jvm.Cond) (s : State) : Prop := ∀ w ∈ NX, va_Nw w s
def x_isNx (w : Jvm.Cond) : Bool := match w with
  | .fieldLinkNest .. => true
  | .methodLinkNest .. => true
  | .arrayOver (.object _) => true
  | _ => false
theorem x_Nx.moved {NX : List Jvm.Cond} (hn : ∀ w ∈ NX, x_isNx w = true) {s U : State} (hW : s.WarmedH U.vm) (h : x_Nx NX s) : x_Nx NX U := by
  intro w hw
  have h1 := hn w hw
  have h2 := h w hw
  unfold x_isNx at h1
  split at h1
  · exact h2.warmF hW
  · exact h2.warmM hW
  · exact va_AO.moved hW.alike h2
  · cases h1
theorem x_Nx.same {NX : List Jvm.Cond} (hn : ∀ w ∈ NX, x_isNx w = true) {s U : State} (hv : s.vm = U.vm) (h : x_Nx NX s) : x_Nx NX U := by
  intro w hw
  have h1 := hn w hw
  have h2 := h w hw
  unfold x_isNx at h1
  split at h1
  · exact h2.same rfl hv
  · exact h2.same rfl hv
  · exact va_AO.moved (by rw [hv]; exact Vm.Alike.refl _) h2
  · cases h1
/-- rows are what the code decodes to -/
def x_okR (M : xM) : Prop := ∀ q ∈ M.2.2.2.2.2.1.flatten, decode M.2.1 q.1 = .ok (q.2.1, q.2.2) ∧ x_lok q.2.1 q.2.2 = true
/-- a method is what the tables say: its word, its rows -/
def x_okM (Ts : List Jvm.Cond) (M : xM) : Prop := Cond.code M.1 M.2.1 M.2.2.1 M.2.2.2.1 ∈ Ts ∧ plainName M.1.cls = true ∧ (M.1.cls ≠ "java/lang/invoke/MethodHandle" ∧ M.1.cls ≠ "java/lang/invoke/VarHandle") ∧ (M.2.2.2.2.1 = 2 → M.1.name = "<init>") ∧ M.2.2.1 ≤ 45 ∧
  x_okR M
def x_np (M : xM) (n : Nat) : Prop := (parseMethodDescriptor M.1.desc).map (fun d => d.parameters.length) = some n
/-- a pool entry is what the tables say -/
def x_okL (cl : List vw_C) (MT : List xM) (Ts NX : List Jvm.Cond) (own : String) (i : Nat) (q : xL) : Prop := match q.1 with
  | 0 => x_okF cl Ts own i q.2 false
  | 1 => x_okF cl Ts own i q.2 true ∧ ∃ (C : String) (T : u_T) (N : Nat), cl[q.2.1]? = some (C, T, N) ∧ C = own
  | 2 => x_okFN cl NX own i q.2
  | 16 => x_okF cl Ts own i q.2 true
  | 3 => ∃ (M : xM) (ci : Nat) (C : String) (T : u_T) (N : Nat), MT[q.2.1]? = some M ∧ q.2.2.2 = (ci : Int) ∧ cl[ci]? = some (C, T, N) ∧ M.1.cls = C ∧ x_np M q.2.2.1 ∧ Cond.methodLink own i M.1 ∈ Ts ∧ Cond.instanceMethod M.1 ∈ Ts ∧ Cond.selects C M.1 M.1 ∈ Ts ∧ Cond.initialized C ∈ Ts
  | 4 => ∃ (M : xM) (ci : Nat) (C host : String) (T : u_T) (N : Nat), MT[q.2.1]? = some M ∧ q.2.2.2 = (ci : Int) ∧ cl[ci]? = some (C, T, N) ∧ M.1.cls = C ∧ x_np M q.2.2.1 ∧ Cond.methodLinkNest own i M.1 host ∈ NX ∧ Cond.instanceMethod M.1 ∈ Ts ∧ Cond.selects C M.1 M.1 ∈ Ts ∧ Cond.initialized C ∈ Ts
  | 5 => ∃ M : xM, MT[q.2.1]? = some M ∧ x_np M q.2.2.1 ∧ Cond.methodLink own i M.1 ∈ Ts ∧ Cond.static M.1 ∈ Ts ∧ Cond.initialized M.1.cls ∈ Ts
  | 6 => ∃ (M : xM) (host : String), MT[q.2.1]? = some M ∧ x_np M q.2.2.1 ∧ Cond.methodLinkNest own i M.1 host ∈ NX ∧ Cond.static M.1 ∈ Ts ∧ Cond.initialized M.1.cls ∈ Ts
  | 7 => ∃ M : xM, MT[q.2.1]? = some M ∧ x_np M q.2.2.1 ∧ M.1.name = "<init>" ∧ M.2.2.2.1 = none ∧ Cond.methodLink own i M.1 ∈ Ts ∧ Cond.instanceMethod M.1 ∈ Ts ∧ Cond.initialized M.1.cls ∈ Ts
  | 8 => ∃ (M : xM) (host : String), MT[q.2.1]? = some M ∧ x_np M q.2.2.1 ∧ M.1.name = "<init>" ∧ M.2.2.2.1 = none ∧ Cond.methodLinkNest own i M.1 host ∈ NX ∧ Cond.instanceMethod M.1 ∈ Ts ∧ Cond.initialized M.1.cls ∈ Ts
  | 9 => Cond.methodLink own i objectInit ∈ Ts ∧ Cond.instanceMethod objectInit ∈ Ts ∧ Cond.code objectInit ⟨#[0xb1]⟩ 1 none ∈ Ts
  | 10 => Cond.methodLink own i Lib.Math.max.name ∈ Ts ∧ Cond.static Lib.Math.max.name ∈ Ts ∧ Cond.initialized "java/lang/Math" ∈ Ts ∧ Cond.code Lib.Math.max.name Lib.Math.max.code 2 (some .int) ∈ Ts
  | 11 => Cond.methodLink own i Lib.Math.min.name ∈ Ts ∧ Cond.static Lib.Math.min.name ∈ Ts ∧ Cond.initialized "java/lang/Math" ∈ Ts ∧ Cond.code Lib.Math.min.name Lib.Math.min.code 2 (some .int) ∈ Ts
  | 12 => ∃ (C : String) (T : u_T) (N : Nat), cl[q.2.1]? = some (C, T, N) ∧ Cond.classLink own i C ∈ Ts ∧ (4 ≤ q.2.2.1 → q.2.2.1 < 7 ∧ x_ty q.2.2.1 = .object C ∧ Cond.arrayOver (.object C) ∈ NX)
  | 14 => Cond.constant own i (Int32.ofInt q.2.2.2) ∈ Ts
  | 15 => Cond.constantLong own i (Int64.ofInt q.2.2.2) ∈ Ts
  | 99 => True
  | _ => False
/-- a method table is what the tables say -/
def x_okT (cl : List vw_C) (MT : List xM) (Ts NX : List Jvm.Cond) : Prop := ∀ (j : Nat) (M : xM), MT[j]? = some M → x_okM Ts M ∧ ∀ q ∈ M.2.2.2.2.2.2.flatten, x_okL cl MT Ts NX M.1.cls q.1 q.2
theorem x_lookup {α : Type} (l : List (Nat × α)) (i : Nat) (v : α) (h : l.lookup i = some v) : (i, v) ∈ l := by
  induction l with
  | nil => cases h
  | cons a t ih =>
    obtain ⟨k, w⟩ := a
    simp only [List.lookup] at h
    split at h
    · next he =>
      have hk : i = k := by simpa using he
      have hv : w = v := Option.some.inj h
      rw [hk, hv]
      exact List.mem_cons_self
    · exact List.mem_cons_of_mem _ (ih h)
theorem x_find_in {α : Type} {l : List (List (Nat × α))} {i : Nat} {v : α} (h : x_find l i = some v) : (i, v) ∈ l.flatten := by
  unfold x_find at h
  split at h
  · next d hd => exact List.mem_flatten.mpr ⟨d, List.mem_of_getElem? hd, x_lookup _ _ _ h⟩
  · cases h
theorem x_pool_ok {cl : List vw_C} {MT : List xM} {Ts NX : List Jvm.Cond} {M : xM} (h : ∀ q ∈ M.2.2.2.2.2.2.flatten, x_okL cl MT Ts NX M.1.cls q.1 q.2) (i : Nat) : x_okL cl MT Ts NX M.1.cls i (x_pool M i) := by
  unfold x_pool
  split
  · next q hq => exact h (i, q) (x_find_in hq)
  · trivial
theorem x_row_ok {M : xM} (h : x_okR M) {pc : Nat} {ins : Instr} {len : Nat} (hr : x_row M pc = some (ins, len)) : decode M.2.1 pc = .ok (ins, len) ∧ x_lok ins len = true :=
  h (pc, ins, len) (x_find_in hr)
end
section
/-! The pure machine's steps on the heap are the real machine's. -/
section XSH
variable {p : Program} {l : Launch} {e : Env} {R : Room} {s : State} {m : MethodId} {args : Array Value} {below : List Frame} {meth : Method} {c : Code} {H : Heap} {locs : List Loc} {cells slots : Nat} {Q : State → Prop}
variable {cc : ByteArray} {pc : Nat} {ls : Array Slot} {z b : Nat} {L L' : xLs} {st st' : List Value} {pc' : Nat} {S S' : xS} {D : va_G} {cl : List vw_C} {cA : Nat → ClassId} {MT : List xM} {df : List (List Value)} {Ts NX : List Jvm.Cond} {own : String} {M : xM} {i : Nat}
theorem x_rf_cv (z b : Nat) (o : Option Nat) : va_rf (o.map fun q => z + q) = x_cv z b (va_rf o) := by cases o <;> rfl
theorem x_map_get {z b : Nat} {fs : List Value} {k : Nat} {v : Value} (h : fs[k]? = some v) : (fs.map (x_cv z b))[k]? = some (x_cv z b v) := by rw [List.getElem?_map, h]; rfl
set_option maxHeartbeats 4000000 in
theorem x_sim_get (hexec : p.tables.exec = Jvm.exec) (hb : c.code = cc) (hts : ∀ w ∈ Ts, w.before args s = true) (hown : s.vm.findClass own = some m.cls) (hK : va_K D cl (x_tys cA) s) (hC : x_okC cl df Ts) (hN : x_Nx NX s) (hq : x_okL cl MT Ts NX own i (x_pool M i)) (hdg : decode cc pc = .ok (.getfield i, 3)) (hW : x_Wd D cl cA z b S H)
    (h : x_get M i pc L st S = some (pc', L', st', S')) (kk : L' = L → S' = S → W p l e R s m args below meth c H locs cells slots Q (F0 m pc' ls (st'.map (x_cv z b)))) : W p l e R s m args below meth c H locs cells slots Q (F0 m pc ls (st.map (x_cv z b))) := by
  rcases hp : x_pool M i with ⟨kd, ci, k, tc⟩
  rw [hp] at hq
  unfold x_get at h
  rw [hp] at h
  dsimp only at h
  split at h
  · next hkd =>
    split at h
    · next a r =>
      split at h
      · next cj fs ho =>
        split at h
        · next hci =>
          subst hci
          split at h
          · next v hv =>
            cases h
            have hg := x_wl_get (cA := cA) (z := z) (b := b) (x_obj_inv ho)
            have fin : x_okF cl Ts own i (cj, k, tc) false ∨ x_okF cl Ts own i (cj, k, tc) true ∨ x_okFN cl NX own i (cj, k, tc) := by
              rcases hkd with hkd | rfl
              · rcases (show kd = 0 ∨ kd = 1 ∨ kd = 2 by omega) with rfl | rfl | rfl
                · exact Or.inl hq
                · exact Or.inr (Or.inl hq.1)
                · exact Or.inr (Or.inr hq)
              · exact Or.inr (Or.inl hq)
            rcases fin with ⟨C, T, N, h1, h2, h3, h4, -⟩ | ⟨C, T, N, h1, h2, h3, h4, -⟩ | ⟨C, host, T, N, h1, h2, h3, h4⟩
            · exact va_get (C := C) (T := T) (N := N) hexec hb hts (hC _ _ _ _ h1).1 hown hK hW.2 a hg h1 k h2 (hts _ h3) (fun x hx => by rw [h4] at hx; exact hx) (x_map_get hv) hdg (kk rfl rfl)
            · exact va_get (C := C) (T := T) (N := N) hexec hb hts (hC _ _ _ _ h1).1 hown hK hW.2 a hg h1 k h2 (hts _ h3) (fun x hx => by rw [h4] at hx; exact hx) (x_map_get hv) hdg (kk rfl rfl)
            · exact va_getN (C := C) (T := T) (N := N) (host := host) hexec hb hts (hC _ _ _ _ h1).1 hown hK hW.2 a hg h1 k h2 (va_Nw.use rfl (hN _ h3)) (fun x hx => by rw [h4] at hx; exact hx) (x_map_get hv) hdg (kk rfl rfl)
          · cases h
        · cases h
      · cases h
    · cases h
  · cases h
set_option maxHeartbeats 4000000 in
theorem x_sim_put (hexec : p.tables.exec = Jvm.exec) (hb : c.code = cc) (hts : ∀ w ∈ Ts, w.before args s = true) (hown : s.vm.findClass own = some m.cls) (hK : va_K D cl (x_tys cA) s) (hC : x_okC cl df Ts) (hq : x_okL cl MT Ts NX own i (x_pool M i)) (hini : M.2.2.2.2.1 = 2 → meth.name = "<init>") (hdg : decode cc pc = .ok (.putfield i, 3)) (hW : x_Wd D cl cA z b S H) (hS : va_S (fun q => z ≤ q) s.heap H locs)
    (h : x_put M i pc L st S = some (pc', L', st', S')) (kk : ∀ (H1 : Heap) (locs1 : List Loc), L' = L → S'.length = S.length → x_slots S' = x_slots S → x_Wd D cl cA z b S' H1 → va_S (fun q => z ≤ q) s.heap H1 locs1 → W p l e R s m args below meth c H1 locs1 cells slots Q (F0 m pc' ls (st'.map (x_cv z b)))) : W p l e R s m args below meth c H locs cells slots Q (F0 m pc ls (st.map (x_cv z b))) := by
  rcases hp : x_pool M i with ⟨kd, ci, k, tc⟩
  rw [hp] at hq
  unfold x_put at h
  rw [hp] at h
  dsimp only at h
  split at h
  · next hkd =>
    split at h
    · next v a r =>
      split at h
      · next cj fs ho =>
        split at h
        · next hci =>
          obtain ⟨rfl, hkl, hfit⟩ := hci
          cases h
          have hS0 := x_obj_inv ho
          have hg := x_wl_get (cA := cA) (z := z) (b := b) hS0
          have fin : (x_okF cl Ts own i (cj, k, tc) false) ∨ (x_okF cl Ts own i (cj, k, tc) true ∧ meth.name = "<init>" ∧ ∃ (C : String) (T : u_T) (N : Nat), cl[cj]? = some (C, T, N) ∧ C = own) := by
            rcases hkd with rfl | ⟨rfl, hM⟩
            · exact Or.inl hq
            · exact Or.inr ⟨hq.1, hini hM, hq.2⟩
          have goal : ∀ {C : String} {T : u_T} {N : Nat}, cl[cj]? = some (C, T, N) → k < N → ∀ (cell : Cell) (f : Field), (∀ x y, x < N → y < N → x ≠ y → (D.2 cj) x ≠ (D.2 cj) y) → cell.cls = D.1 cj → cell.vm = .none → (∀ j, j < N → cell.slots[D.2 cj j]? = some (vp_V (fs.map (x_cv z b)) j)) → f.slot = D.2 cj k →
              ∀ H' : Heap, H'[z + a]? = some (cell.setSlot f.slot (x_cv z b v)) → H'.size = H.size → (∀ q, q ≠ z + a → H'[q]? = H[q]?) → W p l e R s m args below meth c H' (locs ++ [⟨z + a, f.slot⟩]) cells slots Q (F0 m (pc + 3) ls (List.map (x_cv z b) st')) := by
            intro C T N h1 h2 cell f hap q2 q3 q4 hsl H' e1 e2 e3
            rw [hsl] at e1
            refine kk H' _ rfl List.length_set (x_slots_set hS0 (by simp [x_sz])) (hW.stored hS0 ?_ e2 e3) (hS.put e2 e3 (Nat.le_add_right z a))
            refine ⟨_, h1, ?_⟩
            rw [show (fs.set k v).map (x_cv z b) = (fs.map (x_cv z b)).set k (x_cv z b v) by rw [List.map_set]]
            exact t_OB.to (V := updV (vp_V (fs.map (x_cv z b))) k (x_cv z b v)) ⟨_, e1, q2, q3, t_set q4 hap h2 _⟩ (fun j _ => vp_updV_set (by rw [List.length_map]; exact hkl) _ j)
          rcases fin with ⟨C, T, N, h1, h2, h3, h4, h5, h6⟩ | ⟨⟨C, T, N, h1, h2, h3, h4, h5, h6⟩, hin2, C', T', N', h1', hCo⟩
          · obtain ⟨hin, ⟨ty0, hty, -⟩, hnm, -, -⟩ := hC _ _ _ _ h1
            obtain ⟨ty, hd, hn, hft⟩ := x_fit_ok h6 hfit z b
            have hap := va_apart (own := own) hts hin ty0 hty hnm hK h1
            obtain ⟨r', hr1, cell, q1, q2, q3, q4⟩ := hW.2 a _ hg
            have hr : r' = (C, T, N) := Option.some.inj (hr1.symm.trans h1)
            subst hr
            obtain ⟨hSl, hfc, kC, hkC, hkind⟩ := hK.1 cj _ h1
            obtain ⟨cf, kf, fi, f, hi, hsl⟩ := hSl k h2
            have hlay := hts _ (hin _ (u_in_lay h2))
            unfold u_lay at hlay
            rw [if_neg (by rw [h5]; decide)] at hlay
            have hst := (u_facts hfc hkC (u_lays hts hin h2) hi).1
            have h7 := u_store hfc hkC hkind hlay hi hd hn hft
            exact W.putK hexec hb (f := f) ⟨hown, hts _ h3, ⟨_, _, _, by rw [h4] at hi; exact hi⟩, hst⟩ (by rw [q2]; exact h7) q1 q3 (by rw [hsl]; exact k2_hasslot (q4 k h2)) rfl rfl hdg (goal h1 h2 cell f hap q2 q3 q4 hsl)
          · obtain ⟨hin, ⟨ty0, hty, -⟩, hnm, -, -⟩ := hC _ _ _ _ h1
            obtain ⟨ty, hd, hn, hft⟩ := x_fit_ok h6 hfit z b
            have hap := va_apart (own := own) hts hin ty0 hty hnm hK h1
            obtain ⟨r', hr1, cell, q1, q2, q3, q4⟩ := hW.2 a _ hg
            have hr : r' = (C, T, N) := Option.some.inj (hr1.symm.trans h1)
            subst hr
            have hCC : C = own := by
              have := h1.symm.trans h1'
              cases this
              exact hCo
            obtain ⟨hSl, hfc, kC, hkC, hkind⟩ := hK.1 cj _ h1
            obtain ⟨cf, kf, fi, f, hi, hsl⟩ := hSl k h2
            have hlay := hts _ (hin _ (u_in_lay h2))
            unfold u_lay at hlay
            rw [if_pos h5] at hlay
            have hst := (u_facts hfc hkC (u_lays hts hin h2) hi).1
            have hcf : m.cls = cf := by
              obtain ⟨_, _, c', _, _, _, -, -, hf', -, -, -, hown2, -⟩ := Cond.laysFinal_spec hlay
              have e1 : c' = cf := by have := hi.symm.trans hf'; simp at this; exact this.1.symm
              rw [h4, hCC] at hown2
              rw [← e1]; exact Option.some.inj (hown.symm.trans hown2)
            have h7 := u_fits hfc hkC hkind (Or.inr hlay) hi hd hn hft
            exact W.putFinK hexec hb hown (hts _ h3) (by rw [h4] at hi; exact hi) hst hcf hin2 (by rw [q2]; exact h7) q1 q3 (by rw [hsl]; exact k2_hasslot (q4 k h2)) rfl rfl hdg (goal h1 h2 cell f hap q2 q3 q4 hsl)
        · cases h
      · cases h
    · cases h
  · cases h
end XSH
end
section
/-! The pure machine's steps on arrays are the real machine's. -/
section XSA
variable {p : Program} {l : Launch} {e : Env} {R : Room} {s : State} {m : MethodId} {args : Array Value} {below : List Frame} {meth : Method} {c : Code} {H : Heap} {locs : List Loc} {cells slots : Nat} {Q : State → Prop}
variable {cc : ByteArray} {pc : Nat} {ls : Array Slot} {z b : Nat} {L L' : xLs} {st st' : List Value} {pc' : Nat} {S S' : xS} {D : va_G} {cl : List vw_C} {cA : Nat → ClassId} {MT : List xM} {df : List (List Value)} {Ts NX : List Jvm.Cond} {own : String} {M : xM} {i : Nat}
abbrev x_scrOk (b z : Nat) (scr : Option (Nat × (Nat → Int32))) (s : State) : Prop := ∀ (n : Nat) (f : Nat → Int32), scr = some (n, f) → va_X b n f s s.heap ∧ b < s.heap.size ∧ b < z
theorem x_sim_iald {scr : Option (Nat × (Nat → Int32))} (hexec : p.tables.exec = Jvm.exec) (hb : c.code = cc) (hK : va_K D cl (x_tys cA) s) (hX : x_scrOk b z scr s) (hdg : decode cc pc = .ok (.iaload, 1)) (hW : x_Wd D cl cA z b S H) (hS : va_S (fun q => z ≤ q) s.heap H locs)
    (h : x_iald scr pc L st S = some (pc', L', st', S')) (kk : L' = L → S' = S → W p l e R s m args below meth c H locs cells slots Q (F0 m pc' ls (st'.map (x_cv z b)))) : W p l e R s m args below meth c H locs cells slots Q (F0 m pc ls (st.map (x_cv z b))) := by
  unfold x_iald at h
  split at h
  · next j a r =>
    split at h
    · next n f ha =>
      split at h
      · next hin =>
        cases h
        exact va_iald hexec hb hK hW.2 a 0 (x_wl_get (cA := cA) (z := z) (b := b) (x_arr_inv ha)) (x_tys_get cA (t := 0) (by decide)) (x_in_vp hin) hdg (kk rfl rfl)
      · cases h
    · cases h
  · next j a r =>
    split at h
    · next n f =>
      split at h
      · next hin =>
        cases h
        obtain ⟨h1, h2, h3⟩ := hX n f rfl
        exact va_sld hexec hb h1 h2 (Nat.not_le.mpr h3) hS (x_in_vp hin) hdg (kk rfl rfl)
      · cases h
    · cases h
  · cases h
theorem x_sim_bald (hexec : p.tables.exec = Jvm.exec) (hb : c.code = cc) (hK : va_K D cl (x_tys cA) s) (hdg : decode cc pc = .ok (.baload, 1)) (hW : x_Wd D cl cA z b S H)
    (h : x_bald pc L st S = some (pc', L', st', S')) (kk : L' = L → S' = S → W p l e R s m args below meth c H locs cells slots Q (F0 m pc' ls (st'.map (x_cv z b)))) : W p l e R s m args below meth c H locs cells slots Q (F0 m pc ls (st.map (x_cv z b))) := by
  unfold x_bald at h
  split at h
  · next j a r =>
    split at h
    · next n f ha =>
      split at h
      · next hin =>
        cases h
        exact va_bald hexec hb hK hW.2 a 2 (x_wl_get (cA := cA) (z := z) (b := b) (x_arr_inv ha)) (x_tys_get cA (t := 2) (by decide)) (x_in_vp hin) hdg (kk rfl rfl)
      · cases h
    · next n f ha =>
      split at h
      · next hin =>
        cases h
        exact va_zald hexec hb hK hW.2 a 3 (x_wl_get (cA := cA) (z := z) (b := b) (x_arr_inv ha)) (x_tys_get cA (t := 3) (by decide)) (x_in_vp hin) hdg (kk rfl rfl)
      · cases h
    · cases h
  · cases h
theorem x_sim_lald (hexec : p.tables.exec = Jvm.exec) (hb : c.code = cc) (hK : va_K D cl (x_tys cA) s) (hdg : decode cc pc = .ok (.laload, 1)) (hW : x_Wd D cl cA z b S H)
    (h : x_lald pc L st S = some (pc', L', st', S')) (kk : L' = L → S' = S → W p l e R s m args below meth c H locs cells slots Q (F0 m pc' ls (st'.map (x_cv z b)))) : W p l e R s m args below meth c H locs cells slots Q (F0 m pc ls (st.map (x_cv z b))) := by
  unfold x_lald at h
  split at h
  · next j a r =>
    split at h
    · next n f ha =>
      split at h
      · next hin =>
        cases h
        exact va_lald hexec hb hK hW.2 a 1 (x_wl_get (cA := cA) (z := z) (b := b) (x_arr_inv ha)) (x_tys_get cA (t := 1) (by decide)) (x_in_vp hin) hdg (kk rfl rfl)
      · cases h
    · cases h
  · cases h
theorem x_ty_obj {t : Nat} (h : 4 ≤ t) : ∃ C, x_ty t = .object C := by
  match t, h with
  | 4, _ => exact ⟨_, rfl⟩
  | 5, _ => exact ⟨_, rfl⟩
  | k + 6, _ => exact ⟨_, rfl⟩
theorem x_sim_aald (hexec : p.tables.exec = Jvm.exec) (hb : c.code = cc) (hK : va_K D cl (x_tys cA) s) (hdg : decode cc pc = .ok (.aaload, 1)) (hW : x_Wd D cl cA z b S H)
    (h : x_aald pc L st S = some (pc', L', st', S')) (kk : L' = L → S' = S → W p l e R s m args below meth c H locs cells slots Q (F0 m pc' ls (st'.map (x_cv z b)))) : W p l e R s m args below meth c H locs cells slots Q (F0 m pc ls (st.map (x_cv z b))) := by
  unfold x_aald at h
  split at h
  · next j a r =>
    split at h
    · next t n f ha =>
      split at h
      · next hin =>
        cases h
        obtain ⟨C, hCt⟩ := x_ty_obj hin.1
        have ht := x_tys_get cA (t := t) (by omega)
        rw [hCt] at ht
        have k1 := kk rfl rfl
        rw [List.map_cons, ← x_rf_cv] at k1
        exact va_aldq hexec hb hK hW.2 a t (x_wl_get (cA := cA) (z := z) (b := b) (x_arr_inv ha)) ht (x_in_vp hin.2.2) hdg k1
      · cases h
    · cases h
  · cases h
theorem x_sim_alen {scr : Option (Nat × (Nat → Int32))} (hexec : p.tables.exec = Jvm.exec) (hb : c.code = cc) (hK : va_K D cl (x_tys cA) s) (hX : x_scrOk b z scr s) (hdg : decode cc pc = .ok (.arraylength, 1)) (hW : x_Wd D cl cA z b S H) (hS : va_S (fun q => z ≤ q) s.heap H locs)
    (h : x_alen scr pc L st S = some (pc', L', st', S')) (kk : L' = L → S' = S → W p l e R s m args below meth c H locs cells slots Q (F0 m pc' ls (st'.map (x_cv z b)))) : W p l e R s m args below meth c H locs cells slots Q (F0 m pc ls (st.map (x_cv z b))) := by
  unfold x_alen at h
  split at h
  · next a r =>
    split at h
    · next t n x ha =>
      split at h
      · next ht =>
        cases h
        refine va_alen hexec hb hK hW.2 a t (x_wl_get (cA := cA) (z := z) (b := b) (x_arr_inv ha)) (x_tys_get cA (t := t) (by omega)) ?_ hdg (kk rfl rfl)
        obtain f | f | f | f | f := x <;> rfl
      · cases h
    · cases h
  · next a r =>
    split at h
    · next n f =>
      cases h
      obtain ⟨h1, h2, h3⟩ := hX n f rfl
      exact va_slen hexec hb h1 h2 (Nat.not_le.mpr h3) hS hdg (kk rfl rfl)
    · cases h
  · cases h
abbrev x_KK (D : va_G) (cl : List vw_C) (cA : Nat → ClassId) (z b : Nat) (s : State) (L L' : xLs) (S S' : xS) (G : Heap → List Loc → Prop) : Prop := ∀ (H1 : Heap) (locs1 : List Loc), L' = L → S'.length = S.length → x_slots S' = x_slots S → x_Wd D cl cA z b S' H1 → va_S (fun q => z ≤ q) s.heap H1 locs1 → G H1 locs1
set_option maxHeartbeats 4000000 in
theorem x_sim_iast (hexec : p.tables.exec = Jvm.exec) (hb : c.code = cc) (hK : va_K D cl (x_tys cA) s) (hdg : decode cc pc = .ok (.iastore, 1)) (hW : x_Wd D cl cA z b S H) (hS : va_S (fun q => z ≤ q) s.heap H locs)
    (h : x_iast pc L st S = some (pc', L', st', S')) (kk : x_KK D cl cA z b s L L' S S' fun H1 locs1 => W p l e R s m args below meth c H1 locs1 cells slots Q (F0 m pc' ls (st'.map (x_cv z b)))) : W p l e R s m args below meth c H locs cells slots Q (F0 m pc ls (st.map (x_cv z b))) := by
  unfold x_iast at h
  split at h
  · next x j a r =>
    split at h
    · next n f ha =>
      split at h
      · next hin =>
        cases h
        have hS0 := x_arr_inv ha
        have hg : (x_wl cA z b S)[a]? = some (z + a, .inl (cA 0, n, .inl f)) := x_wl_get hS0
        have hin2 := x_in_vp hin
        refine W.iast hexec hb (hW.2 a _ hg) ((hK.2 0 _ (x_tys_get cA (t := 0) (by decide))).1 n (fun j => .int (f j))) (fun q => by cases q) (by show ¬ (j < 0 ∨ (arrV _ _ _).slots.size ≤ _); rw [arrV_size]; exact hin2) rfl rfl hdg fun H1 e z1 oq => ?_
        refine kk H1 _ rfl List.length_set (x_slots_set hS0 rfl) (hW.stored hS0 ?_ z1 oq) (hS.put z1 oq (Nat.le_add_right z a))
        show H1[z + a]? = some (vp_cell (cA 0) (n, .inl (upd f j.toNatClampNeg x)))
        rw [e]
        show some ((vp_cell (cA 0) (n, .inl f)).setSlot _ _) = _
        rw [vp_cell_i, vp_cell_i, arrV_store]
        congr 2
        funext q
        by_cases hq : q = j.toNatClampNeg
        · subst hq
          simp [updV, upd]
        · simp [updV, upd, hq]
      · cases h
    · cases h
  · cases h
set_option maxHeartbeats 4000000 in
theorem x_sim_bast (hexec : p.tables.exec = Jvm.exec) (hb : c.code = cc) (hK : va_K D cl (x_tys cA) s) (hdg : decode cc pc = .ok (.bastore, 1)) (hW : x_Wd D cl cA z b S H) (hS : va_S (fun q => z ≤ q) s.heap H locs)
    (h : x_bast pc L st S = some (pc', L', st', S')) (kk : x_KK D cl cA z b s L L' S S' fun H1 locs1 => W p l e R s m args below meth c H1 locs1 cells slots Q (F0 m pc' ls (st'.map (x_cv z b)))) : W p l e R s m args below meth c H locs cells slots Q (F0 m pc ls (st.map (x_cv z b))) := by
  unfold x_bast at h
  split at h
  · next x j a r =>
    split at h
    · next n f ha =>
      split at h
      · next hin =>
        cases h
        have hS0 := x_arr_inv ha
        have hg : (x_wl cA z b S)[a]? = some (z + a, .inl (cA 2, n, .inl f)) := x_wl_get hS0
        have hin2 := x_in_vp hin
        refine W.bast hexec hb (hW.2 a _ hg) ((hK.2 2 _ (x_tys_get cA (t := 2) (by decide))).1 n (fun j => .int (f j))) (fun q => by cases q) (by show ¬ (j < 0 ∨ (arrV _ _ _).slots.size ≤ _); rw [arrV_size]; exact hin2) rfl rfl hdg fun H1 e z1 oq => ?_
        refine kk H1 _ rfl List.length_set (x_slots_set hS0 rfl) (hW.stored hS0 ?_ z1 oq) (hS.put z1 oq (Nat.le_add_right z a))
        show H1[z + a]? = some (vp_cell (cA 2) (n, .inl (upd f j.toNatClampNeg (vp_nar .byte x))))
        rw [e]
        show some ((vp_cell (cA 2) (n, .inl f)).setSlot _ _) = _
        rw [vp_cell_i, vp_cell_i, arrV_store]
        congr 2
        funext q
        by_cases hq : q = j.toNatClampNeg
        · subst hq
          simp [updV, upd, vp_nar, narrow]
        · simp [updV, upd, hq]
      · cases h
    · next n f ha =>
      split at h
      · next hin =>
        cases h
        have hS0 := x_arr_inv ha
        have hg : (x_wl cA z b S)[a]? = some (z + a, .inl (cA 3, n, .inl f)) := x_wl_get hS0
        have hin2 := x_in_vp hin
        refine W.zast hexec hb (hW.2 a _ hg) ((hK.2 3 _ (x_tys_get cA (t := 3) (by decide))).1 n (fun j => .int (f j))) (fun q => by cases q) (by show ¬ (j < 0 ∨ (arrV _ _ _).slots.size ≤ _); rw [arrV_size]; exact hin2) rfl rfl hdg fun H1 e z1 oq => ?_
        refine kk H1 _ rfl List.length_set (x_slots_set hS0 rfl) (hW.stored hS0 ?_ z1 oq) (hS.put z1 oq (Nat.le_add_right z a))
        show H1[z + a]? = some (vp_cell (cA 3) (n, .inl (upd f j.toNatClampNeg (vp_nar .boolean x))))
        rw [e]
        show some ((vp_cell (cA 3) (n, .inl f)).setSlot _ _) = _
        rw [vp_cell_i, vp_cell_i, arrV_store]
        congr 2
        funext q
        by_cases hq : q = j.toNatClampNeg
        · subst hq
          simp [updV, upd, vp_nar, narrow]
        · simp [updV, upd, hq]
      · cases h
    · cases h
  · cases h
set_option maxHeartbeats 4000000 in
theorem x_sim_last (hexec : p.tables.exec = Jvm.exec) (hb : c.code = cc) (hK : va_K D cl (x_tys cA) s) (hdg : decode cc pc = .ok (.lastore, 1)) (hW : x_Wd D cl cA z b S H) (hS : va_S (fun q => z ≤ q) s.heap H locs)
    (h : x_last pc L st S = some (pc', L', st', S')) (kk : x_KK D cl cA z b s L L' S S' fun H1 locs1 => W p l e R s m args below meth c H1 locs1 cells slots Q (F0 m pc' ls (st'.map (x_cv z b)))) : W p l e R s m args below meth c H locs cells slots Q (F0 m pc ls (st.map (x_cv z b))) := by
  unfold x_last at h
  split at h
  · next x j a r =>
    split at h
    · next n f ha =>
      split at h
      · next hin =>
        cases h
        have hS0 := x_arr_inv ha
        have hg : (x_wl cA z b S)[a]? = some (z + a, .inl (cA 1, n, .inr (.inl f))) := x_wl_get hS0
        have hin2 := x_in_vp hin
        refine W.last hexec hb (hW.2 a _ hg) ((hK.2 1 _ (x_tys_get cA (t := 1) (by decide))).1 n (fun j => .long (f j))) (fun q => by cases q) (by show ¬ (j < 0 ∨ (arrV _ _ _).slots.size ≤ _); rw [arrV_size]; exact hin2) rfl rfl hdg fun H1 e z1 oq => ?_
        refine kk H1 _ rfl List.length_set (x_slots_set hS0 rfl) (hW.stored hS0 ?_ z1 oq) (hS.put z1 oq (Nat.le_add_right z a))
        show H1[z + a]? = some (vp_cell (cA 1) (n, .inr (.inl (vp_updL f j.toNatClampNeg x))))
        rw [e]
        show some ((vp_cell (cA 1) (n, .inr (.inl f))).setSlot _ _) = _
        rw [vp_cell_l, vp_cell_l, arrV_store]
        congr 2
        funext q
        by_cases hq : q = j.toNatClampNeg
        · subst hq
          simp [updV, vp_updL]
        · simp [updV, vp_updL, hq]
      · cases h
    · cases h
  · cases h
end XSA
end
section
/-! The pure machine's making, storing of references, constants. -/
section XSN
variable {p : Program} {l : Launch} {e : Env} {R : Room} {s : State} {m : MethodId} {args : Array Value} {below : List Frame} {meth : Method} {c : Code} {H : Heap} {locs : List Loc} {cells slots : Nat} {Q : State → Prop}
variable {cc : ByteArray} {pc : Nat} {ls : Array Slot} {z b : Nat} {L L' : xLs} {st st' : List Value} {pc' : Nat} {S S' : xS} {D : va_G} {cl : List vw_C} {cA : Nat → ClassId} {MT : List xM} {df : List (List Value)} {Ts NX : List Jvm.Cond} {own : String} {M : xM} {i : Nat}
/-- array classes: their words, the classes of what they hold -/
def x_okZ (cl : List vw_C) (Ts : List Jvm.Cond) : Prop := (∀ t, t < 4 → Cond.arrayClass (x_ty t) ∈ Ts) ∧ ∀ t, 4 ≤ t → t ≤ 6 → ∃ r : vw_C, cl[x_tc t]? = some r ∧ x_ty t = .object r.1
set_option maxHeartbeats 4000000 in
theorem x_sim_aast (hexec : p.tables.exec = Jvm.exec) (hb : c.code = cc) (hK : va_K D cl (x_tys cA) s) (hZ : x_okZ cl Ts) (hdg : decode cc pc = .ok (.aastore, 1)) (hW : x_Wd D cl cA z b S H) (hS : va_S (fun q => z ≤ q) s.heap H locs)
    (h : x_aast pc L st S = some (pc', L', st', S')) (kk : x_KK D cl cA z b s L L' S S' fun H1 locs1 => W p l e R s m args below meth c H1 locs1 cells slots Q (F0 m pc' ls (st'.map (x_cv z b)))) : W p l e R s m args below meth c H locs cells slots Q (F0 m pc ls (st.map (x_cv z b))) := by
  unfold x_aast at h
  split at h
  · next v j a r =>
    split at h
    · next t n f ci fs ha hv =>
      split at h
      · next hin =>
        obtain ⟨h4, h6, rfl, hin1⟩ := hin
        cases h
        obtain ⟨r, hc, hty⟩ := hZ.2 t h4 h6
        have hS0 := x_arr_inv ha
        have hg : (x_wl cA z b S)[a]? = some (z + a, .inl (cA t, n, .inr (.inr (.inr (.inr fun i => (f i).map fun q => z + q))))) := x_wl_get hS0
        have hgv := x_wl_get (cA := cA) (z := z) (b := b) (x_obj_inv hv)
        have hin2 := x_in_vp hin1
        have hlt : j.toNatClampNeg < n := Nat.not_le.mp fun q => hin2 (Or.inr q)
        have h0 : ¬ j < 0 := fun q => hin2 (Or.inl q)
        have ht := x_tys_get cA (t := t) (by omega)
        rw [hty] at ht
        obtain ⟨r', hr', cellV, g1, g2, g3, -⟩ := hW.2 v _ hgv
        have hcls := (hK.1 _ r hc).2
        obtain ⟨kA, comp, k1, k2, k3, -⟩ := (hK.2 t _ ht).2
        have hcomp : comp = D.1 (x_tc t) := Option.some.inj (k3.symm.trans hcls.1)
        subst hcomp
        obtain ⟨kC, hkC, -⟩ := hcls.2
        refine W.aast hexec hb (hW.2 a _ hg) (fun q h => by cases h) (fun h => by cases h) k1 k2 rfl hkC ⟨h0, by show _ < (arrV _ _ _).slots.size; rw [arrV_size]; exact hlt⟩ g1 (fun q h => by rw [g3] at h; cases h) (by rw [g2]; exact hkC) (by rw [g2]; exact va_assign hcls) rfl rfl hdg fun H1 e z1 oq => ?_
        refine kk H1 _ rfl List.length_set (x_slots_set hS0 rfl) (hW.stored hS0 ?_ z1 oq) (hS.put z1 oq (Nat.le_add_right z a))
        show H1[z + a]? = some (vp_cell (cA t) (n, .inr (.inr (.inr (.inr fun i => (va_up f j.toNatClampNeg (some v) i).map fun q => z + q)))))
        rw [e]
        show some ((vp_cell (cA t) (n, .inr (.inr (.inr (.inr fun i => (f i).map fun q => z + q))))).setSlot _ _) = _
        rw [vp_cell_q, vp_cell_q, arrV_store]
        congr 2
        funext q
        by_cases hq : q = j.toNatClampNeg
        · subst hq
          simp [updV, va_up, va_rf]
        · simp [updV, va_up, hq]
      · cases h
    · cases h
  · cases h
abbrev x_KN (D : va_G) (cl : List vw_C) (cA : Nat → ClassId) (z b : Nat) (s : State) (L L' : xLs) (S S' : xS) (locs : List Loc) (cells slots : Nat) (G : Heap → Nat → Nat → Prop) : Prop := ∀ (H1 : Heap) (c1 s1 : Nat), L' = L → c1 + S.length = cells + S'.length → s1 + x_slots S = slots + x_slots S' → x_Wd D cl cA z b S' H1 → va_S (fun q => z ≤ q) s.heap H1 locs → G H1 c1 s1
theorem x_S_new {z : Nat} {H0 H H1 : Heap} {locs : List Loc} (hS : va_S (fun q => z ≤ q) H0 H locs) (z1 : H1.size = H.size + 1) (o1 : ∀ q, q < H.size → H1[q]? = H[q]?) : va_S (fun q => z ≤ q) H0 H1 locs := ⟨Nat.le_trans hS.1 (by omega), fun x h1 h2 => (o1 x (Nat.lt_of_lt_of_le h1 hS.1)).trans (hS.2.1 x h1 h2), hS.2.2⟩
theorem x_nm_of {U : State} {c1 : ClassId} {ty : FieldType} (h : va_RA U c1 ty) : U.vm.findClass ("[" ++ ty.toString) = some c1 := by
  cases ty <;> first | exact h | (obtain ⟨_, _, _, _, _, h⟩ := h; exact h)
set_option maxHeartbeats 4000000 in
theorem x_sim_newa (hexec : p.tables.exec = Jvm.exec) (hb : c.code = cc) (hts : ∀ w ∈ Ts, w.before args s = true) (hK : va_K D cl (x_tys cA) s) (hZ : x_okZ cl Ts) {ty : ArrayType} (hdg : decode cc pc = .ok (.newarray ty, 2)) (hW : x_Wd D cl cA z b S H) (hS : va_S (fun q => z ≤ q) s.heap H locs)
    (h : x_newa ty pc L st S = some (pc', L', st', S')) (hr1 : cells + S'.length ≤ R.cells + S.length) (hr2 : slots + x_slots S' ≤ R.slots + x_slots S)
    (kk : x_KN D cl cA z b s L L' S S' locs cells slots fun H1 c1 s1 => W p l e R s m args below meth c H1 locs c1 s1 Q (F0 m pc' ls (st'.map (x_cv z b)))) : W p l e R s m args below meth c H locs cells slots Q (F0 m pc ls (st.map (x_cv z b))) := by
  unfold x_newa at h
  split at h
  · next n r =>
    split at h
    · next hn =>
      have go : ∀ (t : Nat) (a0 : vp_A), t < 4 → newarray.typeOf ty = x_ty t → componentBytes (x_ty t) ≤ 8 → a0.1 = n.toNatClampNeg → (∀ c1 : ClassId, vp_cell c1 (x_ca z a0) = arrV c1 n.toNatClampNeg (fun _ => defaultValue (x_ty t))) →
          some (pc + 2, L, Value.ref S.length :: r, S ++ [Sum.inr (t, a0)]) = some (pc', L', st', S') → W p l e R s m args below meth c H locs cells slots Q (F0 m pc ls ((Value.int n :: r).map (x_cv z b))) := by
        intro t a0 ht hty hcb ha1 ha h
        cases h
        rw [List.length_append, List.length_singleton] at hr1
        rw [x_slots_app] at hr2
        have hsz : x_sz (.inr (t, a0)) = n.toNatClampNeg := ha1
        rw [hsz] at hr2
        have harr := hts _ (hZ.1 t ht)
        rw [← hty] at harr hcb
        have hbt : n.toNatClampNeg * componentBytes (newarray.typeOf ty) ≤ 536870912 := Nat.le_trans (Nat.mul_le_mul hn.2 hcb) (by decide)
        refine va_newaK (N := n.toNatClampNeg) hexec hb harr rfl hdg rfl (Int32.not_lt.mpr hn.1) rfl hbt (by omega) (by omega) hW.1 fun H1 c1 e1 z1 o1 hAr hNm => ?_
        rw [← hW.1] at z1 o1
        have hc : c1 = cA t := by
          have := (hK.2 t _ (x_tys_get cA (t := t) (by omega))).2
          have := x_nm_of this
          rw [hty] at hNm
          exact Option.some.inj (hNm.symm.trans this)
        subst hc
        refine kk H1 _ _ rfl (by rw [List.length_append, List.length_singleton]; omega) (by rw [x_slots_app, hsz]; omega) (hW.pushed ?_ z1 o1) (x_S_new hS z1 o1)
        show H1[z + S.length]? = some (vp_cell (cA t) (x_ca z a0))
        rw [ha, ← hty]
        exact e1
      cases ty with
      | int => exact go 0 (n.toNatClampNeg, .inl fun _ => 0) (by decide) rfl (by decide) rfl (fun c1 => rfl) h
      | long => exact go 1 (n.toNatClampNeg, .inr (.inl fun _ => 0)) (by decide) rfl (by decide) rfl (fun c1 => rfl) h
      | byte => exact go 2 (n.toNatClampNeg, .inl fun _ => 0) (by decide) rfl (by decide) rfl (fun c1 => rfl) h
      | boolean => exact go 3 (n.toNatClampNeg, .inl fun _ => 0) (by decide) rfl (by decide) rfl (fun c1 => rfl) h
      | _ => cases h
    · cases h
  · cases h
set_option maxHeartbeats 4000000 in
theorem x_sim_newq (hexec : p.tables.exec = Jvm.exec) (hb : c.code = cc) (hts : ∀ w ∈ Ts, w.before args s = true) (hown : s.vm.findClass own = some m.cls) (hK : va_K D cl (x_tys cA) s) (hN : x_Nx NX s) (hq : x_okL cl MT Ts NX own i (x_pool M i)) (hdg : decode cc pc = .ok (.anewarray i, 3)) (hW : x_Wd D cl cA z b S H) (hS : va_S (fun q => z ≤ q) s.heap H locs)
    (h : x_newq M i pc L st S = some (pc', L', st', S')) (hr1 : cells + S'.length ≤ R.cells + S.length) (hr2 : slots + x_slots S' ≤ R.slots + x_slots S)
    (kk : x_KN D cl cA z b s L L' S S' locs cells slots fun H1 c1 s1 => W p l e R s m args below meth c H1 locs c1 s1 Q (F0 m pc' ls (st'.map (x_cv z b)))) : W p l e R s m args below meth c H locs cells slots Q (F0 m pc ls (st.map (x_cv z b))) := by
  rcases hp : x_pool M i with ⟨kd, w1, t, w2⟩
  rw [hp] at hq
  unfold x_newq at h
  rw [hp] at h
  dsimp only at h
  split at h
  · next hkd =>
    obtain ⟨rfl, h4⟩ := hkd
    split at h
    · next n r =>
      split at h
      · next hn =>
        cases h
        obtain ⟨C, T, N, -, hcl, hov⟩ := hq
        obtain ⟨h7, hCt, hov⟩ := hov h4
        dsimp only at h7 hCt
        rw [List.length_append, List.length_singleton] at hr1
        rw [x_slots_app] at hr2
        have hsz : x_sz (.inr (t, n.toNatClampNeg, .inr (.inr (.inr (.inr fun _ => none))))) = n.toNatClampNeg := rfl
        rw [hsz] at hr2
        refine W.anew hexec hb hown (hts _ hcl) (va_AO.use (hN _ hov)) rfl hdg rfl (Int32.not_lt.mpr hn.1) (Nat.le_trans (Nat.mul_le_mul_right 4 hn.2) (by decide)) (by omega) (by omega) fun c1 kA comp f1 f2 f3 f4 => ?_
        generalize hH1 : H.push ({ cls := c1, slots := Array.replicate n.toNatClampNeg .null, vm := .none } : Cell) = H1
        have z1 : H1.size = H.size + 1 := by rw [← hH1, Array.size_push]
        have e1 : H1[H.size]? = some (arrV c1 n.toNatClampNeg (fun _ => .null)) := by rw [← hH1, Array.getElem?_push_size, ← arrV_new]
        have o1 : ∀ q : Nat, q < H.size → H1[q]? = H[q]? := fun q hq => by rw [← hH1, Array.getElem?_push, if_neg (Nat.ne_of_lt hq)]
        have hc : c1 = cA t := by
          have := (hK.2 t _ (x_tys_get cA (t := t) h7)).2
          have := x_nm_of this
          rw [hCt] at this
          exact Option.some.inj (f1.symm.trans this)
        subst hc
        have k1 := kk H1 (cells + 1) (slots + n.toNatClampNeg) rfl (by rw [List.length_append, List.length_singleton]; omega) (by rw [x_slots_app, hsz]; omega) (hW.pushed (by
          show H1[z + S.length]? = some (vp_cell (cA t) (n.toNatClampNeg, .inr (.inr (.inr (.inr fun _ => none)))))
          rw [vp_cell_q, ← hW.1]
          exact e1) z1 o1) (x_S_new hS z1 o1)
        rw [hW.1]
        exact k1
      · cases h
    · cases h
  · cases h
set_option maxHeartbeats 4000000 in
theorem x_sim_new (hexec : p.tables.exec = Jvm.exec) (hb : c.code = cc) (hts : ∀ w ∈ Ts, w.before args s = true) (hown : s.vm.findClass own = some m.cls) (hK : va_K D cl (x_tys cA) s) (hC : x_okC cl df Ts) (hq : x_okL cl MT Ts NX own i (x_pool M i)) (hdg : decode cc pc = .ok (.new i, 3)) (hW : x_Wd D cl cA z b S H) (hS : va_S (fun q => z ≤ q) s.heap H locs)
    (h : x_new df M i pc L st S = some (pc', L', st', S')) (hr1 : cells + S'.length ≤ R.cells + S.length) (hr2 : slots + x_slots S' ≤ R.slots + x_slots S)
    (kk : x_KN D cl cA z b s L L' S S' locs cells slots fun H1 c1 s1 => W p l e R s m args below meth c H1 locs c1 s1 Q (F0 m pc' ls (st'.map (x_cv z b)))) : W p l e R s m args below meth c H locs cells slots Q (F0 m pc ls (st.map (x_cv z b))) := by
  rcases hp : x_pool M i with ⟨kd, ci, w1, w2⟩
  rw [hp] at hq
  unfold x_new at h
  rw [hp] at h
  dsimp only at h
  split at h
  · next hkd =>
    subst hkd
    split at h
    · next fs hfs =>
      cases h
      obtain ⟨C, T, N, hc, hcl, -⟩ := hq
      dsimp only at hc
      obtain ⟨hin, ⟨ty, hty, fs', hfs', hlen, hcv, hdv⟩, -, hinst, hini⟩ := hC _ _ _ _ hc
      have : fs' = fs := Option.some.inj (hfs'.symm.trans hfs)
      subst this
      rw [List.length_append, List.length_singleton] at hr1
      rw [x_slots_app] at hr2
      have hsz : x_sz (.inl (ci, fs')) = N := hlen
      rw [hsz] at hr2
      have hKn := hK.1 ci _ hc
      refine W.newcK hexec hb hown (hts _ hcl) (hts _ hinst) (hts _ hini) rfl hdg (by omega) (by omega) hKn.2.1 hW.1 fun H1 kC hkC e1 z1 o1 => ?_
      rw [← hW.1] at z1 o1
      refine kk H1 _ _ rfl (by rw [List.length_append, List.length_singleton]; omega) (by rw [x_slots_app, hsz]; omega) (hW.pushed ?_ z1 o1) (x_S_new hS z1 o1)
      refine ⟨_, hc, (u_born ty hts hin hKn hkC e1 hty).to fun j hj => ?_⟩
      show defaultValue (ty j) = vp_V (fs'.map (x_cv z b)) j
      rw [hdv j hj, show fs'.map (x_cv z b) = fs' from by
        conv => rhs; rw [← List.map_id fs']
        exact List.map_congr_left fun v hv => hcv v hv z b]
    · cases h
  · cases h
theorem x_sim_ldc (hexec : p.tables.exec = Jvm.exec) (hb : c.code = cc) (hts : ∀ w ∈ Ts, w.before args s = true) (hown : s.vm.findClass own = some m.cls) (hq : x_okL cl MT Ts NX own i (x_pool M i)) (hdg : decode cc pc = .ok (.ldc i, 2))
    (h : x_ldc M i 2 pc L st S = some (pc', L', st', S')) (kk : L' = L → S' = S → W p l e R s m args below meth c H locs cells slots Q (F0 m pc' ls (st'.map (x_cv z b)))) : W p l e R s m args below meth c H locs cells slots Q (F0 m pc ls (st.map (x_cv z b))) := by
  rcases hp : x_pool M i with ⟨kd, ci, w1, w2⟩
  rw [hp] at hq
  unfold x_ldc at h
  rw [hp] at h
  dsimp only at h
  split at h
  · next hkd =>
    subst hkd
    cases h
    exact lv_ldc hexec hb hown (hts _ hq) hdg (kk rfl rfl)
  · cases h
theorem x_sim_ldcw (hexec : p.tables.exec = Jvm.exec) (hb : c.code = cc) (hts : ∀ w ∈ Ts, w.before args s = true) (hown : s.vm.findClass own = some m.cls) (hq : x_okL cl MT Ts NX own i (x_pool M i)) (hdg : decode cc pc = .ok (.ldc_w i, 3))
    (h : x_ldc M i 3 pc L st S = some (pc', L', st', S')) (kk : L' = L → S' = S → W p l e R s m args below meth c H locs cells slots Q (F0 m pc' ls (st'.map (x_cv z b)))) : W p l e R s m args below meth c H locs cells slots Q (F0 m pc ls (st.map (x_cv z b))) := by
  rcases hp : x_pool M i with ⟨kd, ci, w1, w2⟩
  rw [hp] at hq
  unfold x_ldc at h
  rw [hp] at h
  dsimp only at h
  split at h
  · next hkd =>
    subst hkd
    cases h
    exact lv_ldcw hexec hb hown (hts _ hq) hdg (kk rfl rfl)
  · cases h
theorem x_sim_ldc2 (hexec : p.tables.exec = Jvm.exec) (hb : c.code = cc) (hts : ∀ w ∈ Ts, w.before args s = true) (hown : s.vm.findClass own = some m.cls) (hq : x_okL cl MT Ts NX own i (x_pool M i)) (hdg : decode cc pc = .ok (.ldc2_w i, 3))
    (h : x_ldc2 M i pc L st S = some (pc', L', st', S')) (kk : L' = L → S' = S → W p l e R s m args below meth c H locs cells slots Q (F0 m pc' ls (st'.map (x_cv z b)))) : W p l e R s m args below meth c H locs cells slots Q (F0 m pc ls (st.map (x_cv z b))) := by
  rcases hp : x_pool M i with ⟨kd, ci, w1, w2⟩
  rw [hp] at hq
  unfold x_ldc2 at h
  rw [hp] at h
  dsimp only at h
  split at h
  · next hkd =>
    subst hkd
    cases h
    exact lv_ldc2 hexec hb hown (hts _ hq) hdg (kk rfl rfl)
  · cases h
end XSN
end
section
/-! Calls, returns, whole methods: the pure machine's runs are the real machine's. -/
theorem x_st1_len {L L' : xLs} {i : Nat} {v : Value} (h : x_st1 L i v = some L') : L'.length = L.length := by
  unfold x_st1 at h
  split at h
  · cases h; simp [x_cl_len]
  · cases h
theorem x_st2_len {L L' : xLs} {i : Nat} {v : Value} (h : x_st2 L i v = some L') : L'.length = L.length := by
  unfold x_st2 at h
  split at h
  · cases h; simp [x_cl_len]
  · cases h
theorem x_br_len {cd : Prop} {d : Decidable cd} {pc pc' : Nat} {off : Int} {L L' : xLs} {r st' : List Value} (h : x_br cd d pc off L r = some (pc', L', st')) : L'.length = L.length := by
  unfold x_br at h
  split at h
  · cases h; rfl
  · cases h
theorem x_if_len {co : ClassFile.Cond} {pc pc' : Nat} {off : Int} {L L' : xLs} {st st' : List Value} (h : x_if co pc off L st = some (pc', L', st')) : L'.length = L.length := by
  unfold x_if at h
  split at h
  · cases co <;> exact x_br_len h
  · cases h
theorem x_ic_len {co : ClassFile.Cond} {pc pc' : Nat} {off : Int} {L L' : xLs} {st st' : List Value} (h : x_ic co pc off L st = some (pc', L', st')) : L'.length = L.length := by
  unfold x_ic at h
  split at h
  · cases co <;> exact x_br_len h
  · cases h
set_option maxHeartbeats 4000000 in
theorem x_pure_len {ins : Instr} {len pc pc' : Nat} {L L' : xLs} {st st' : List Value} (h : x_pure ins len pc L st = some (pc', L', st')) : L'.length = L.length := by
  cases ins with
  | iconst n => cases h; rfl
  | bipush n => cases h; rfl
  | sipush n => cases h; rfl
  | lconst n => cases h; rfl
  | iload_n k => obtain ⟨x, hx, rfl, rfl, rfl⟩ := x_ldi_inv h; rfl
  | iload i => dsimp only [x_pure] at h; split at h; (obtain ⟨x, hx, rfl, rfl, rfl⟩ := x_ldi_inv h; rfl); cases h
  | lload_n k => obtain ⟨x, hx, rfl, rfl, rfl⟩ := x_ldl_inv h; rfl
  | lload i => dsimp only [x_pure] at h; split at h; (obtain ⟨x, hx, rfl, rfl, rfl⟩ := x_ldl_inv h; rfl); cases h
  | aload_n k => obtain ⟨v, hx, hv, rfl, rfl, rfl⟩ := x_lda_inv h; rfl
  | aload i => dsimp only [x_pure] at h; split at h; (obtain ⟨v, hx, hv, rfl, rfl, rfl⟩ := x_lda_inv h; rfl); cases h
  | istore_n k => obtain ⟨x, r, rfl, hs, rfl, rfl⟩ := x_sti_inv h; exact x_st1_len hs
  | istore i => dsimp only [x_pure] at h; split at h; (obtain ⟨x, r, rfl, hs, rfl, rfl⟩ := x_sti_inv h; exact x_st1_len hs); cases h
  | lstore_n k => obtain ⟨x, r, rfl, hs, rfl, rfl⟩ := x_stl_inv h; exact x_st2_len hs
  | lstore i => dsimp only [x_pure] at h; split at h; (obtain ⟨x, r, rfl, hs, rfl, rfl⟩ := x_stl_inv h; exact x_st2_len hs); cases h
  | astore_n k => obtain ⟨v, r, rfl, hv, hs, rfl, rfl⟩ := x_sta_inv h; exact x_st1_len hs
  | astore i => dsimp only [x_pure] at h; split at h; (obtain ⟨v, r, rfl, hv, hs, rfl, rfl⟩ := x_sta_inv h; exact x_st1_len hs); cases h
  | iinc i n =>
    dsimp only [x_pure] at h
    split at h
    · split at h
      · next x hx =>
        cases hs : x_st1 L i (.int (x + Int32.ofInt n)) with
        | none => rw [hs] at h; cases h
        | some M => rw [hs] at h; cases h; exact x_st1_len hs
      · cases h
    · cases h
  | iadd => obtain ⟨x, y, r, rfl, rfl, rfl, rfl⟩ := x_b2_inv h; rfl
  | isub => obtain ⟨x, y, r, rfl, rfl, rfl, rfl⟩ := x_b2_inv h; rfl
  | imul => obtain ⟨x, y, r, rfl, rfl, rfl, rfl⟩ := x_b2_inv h; rfl
  | iand => obtain ⟨x, y, r, rfl, rfl, rfl, rfl⟩ := x_b2_inv h; rfl
  | ior => obtain ⟨x, y, r, rfl, rfl, rfl, rfl⟩ := x_b2_inv h; rfl
  | ixor => obtain ⟨x, y, r, rfl, rfl, rfl, rfl⟩ := x_b2_inv h; rfl
  | ishl => obtain ⟨x, y, r, rfl, rfl, rfl, rfl⟩ := x_b2_inv h; rfl
  | ishr => obtain ⟨x, y, r, rfl, rfl, rfl, rfl⟩ := x_b2_inv h; rfl
  | iushr => obtain ⟨x, y, r, rfl, rfl, rfl, rfl⟩ := x_b2_inv h; rfl
  | idiv => obtain ⟨x, y, r, rfl, hy, rfl, rfl, rfl⟩ := x_d2_inv h; rfl
  | irem => obtain ⟨x, y, r, rfl, hy, rfl, rfl, rfl⟩ := x_d2_inv h; rfl
  | ladd => obtain ⟨x, y, r, rfl, rfl, rfl, rfl⟩ := x_l2_inv h; rfl
  | lsub => obtain ⟨x, y, r, rfl, rfl, rfl, rfl⟩ := x_l2_inv h; rfl
  | lmul => obtain ⟨x, y, r, rfl, rfl, rfl, rfl⟩ := x_l2_inv h; rfl
  | land => obtain ⟨x, y, r, rfl, rfl, rfl, rfl⟩ := x_l2_inv h; rfl
  | lor => obtain ⟨x, y, r, rfl, rfl, rfl, rfl⟩ := x_l2_inv h; rfl
  | lxor => obtain ⟨x, y, r, rfl, rfl, rfl, rfl⟩ := x_l2_inv h; rfl
  | lcmp => obtain ⟨x, y, r, rfl, rfl, rfl, rfl⟩ := x_l2_inv h; rfl
  | ldiv => obtain ⟨x, y, r, rfl, hy, rfl, rfl, rfl⟩ := x_m2_inv h; rfl
  | lrem => obtain ⟨x, y, r, rfl, hy, rfl, rfl, rfl⟩ := x_m2_inv h; rfl
  | ineg => obtain ⟨x, r, rfl, rfl, rfl, rfl⟩ := x_i1_inv h; rfl
  | i2l => obtain ⟨x, r, rfl, rfl, rfl, rfl⟩ := x_i1_inv h; rfl
  | i2b => obtain ⟨x, r, rfl, rfl, rfl, rfl⟩ := x_i1_inv h; rfl
  | i2s => obtain ⟨x, r, rfl, rfl, rfl, rfl⟩ := x_i1_inv h; rfl
  | lneg => obtain ⟨x, r, rfl, rfl, rfl, rfl⟩ := x_j1_inv h; rfl
  | l2i => obtain ⟨x, r, rfl, rfl, rfl, rfl⟩ := x_j1_inv h; rfl
  | lshl => obtain ⟨x, y, r, rfl, rfl, rfl, rfl⟩ := x_s2_inv h; rfl
  | lshr => obtain ⟨x, y, r, rfl, rfl, rfl, rfl⟩ := x_s2_inv h; rfl
  | lushr => obtain ⟨x, y, r, rfl, rfl, rfl, rfl⟩ := x_s2_inv h; rfl
  | dup =>
    dsimp only [x_pure] at h
    split at h
    · split at h
      · cases h; rfl
      · cases h
    · cases h
  | pop =>
    dsimp only [x_pure] at h
    split at h
    · split at h
      · cases h; rfl
      · cases h
    · cases h
  | pop2 =>
    dsimp only [x_pure] at h
    split at h
    · split at h
      · cases h; rfl
      · cases h
    · cases h
  | dup2 =>
    dsimp only [x_pure] at h
    split at h
    · split at h
      · cases h; rfl
      · split at h
        · split at h
          · cases h; rfl
          · cases h
        · cases h
    · cases h
  | goto off => obtain ⟨ht, rfl, rfl⟩ := x_jmp_inv h; rfl
  | ifCond co off => exact x_if_len h
  | if_icmp co off => exact x_ic_len h
  | ifnonnull off =>
    dsimp only [x_pure] at h
    split at h
    · obtain ⟨ht, rfl, rfl⟩ := x_jmp_inv h; rfl
    · cases h; rfl
    · cases h
  | tableswitch d lo hi offs =>
    dsimp only [x_pure] at h
    split at h
    · split at h
      · obtain ⟨ht, rfl, rfl⟩ := x_jmp_inv h; rfl
      · split at h
        · obtain ⟨ht, rfl, rfl⟩ := x_jmp_inv h; rfl
        · cases h
    · cases h
  | lookupswitch d ps =>
    dsimp only [x_pure] at h
    split at h
    · split at h
      · obtain ⟨ht, rfl, rfl⟩ := x_jmp_inv h; rfl
      · cases h
    · cases h
  | _ => exact (x_no (show (none : Option xP) = some (pc', L', st') from h)).elim
end
section
/-! Worlds grow. -/
abbrev x_le (S S' : xS) : Prop := S.length ≤ S'.length ∧ x_slots S ≤ x_slots S'
theorem x_le_rf (S : xS) : x_le S S := ⟨Nat.le_refl _, Nat.le_refl _⟩
theorem x_le_tr {S S1 S2 : xS} (h : x_le S S1) (h2 : x_le S1 S2) : x_le S S2 := ⟨Nat.le_trans h.1 h2.1, Nat.le_trans h.2 h2.2⟩
theorem x_le_set {S : xS} {i : Nat} {e0 e : xE} (h : S[i]? = some e0) (he : x_sz e = x_sz e0) : x_le S (S.set i e) := ⟨by simp, by rw [x_slots_set h he]; exact Nat.le_refl _⟩
theorem x_le_app (S : xS) (e : xE) : x_le S (S ++ [e]) := ⟨by simp, by rw [x_slots_app]; exact Nat.le_add_right _ _⟩
section XMO
variable {df : List (List Value)} {scr : Option (Nat × (Nat → Int32))} {M : xM} {ins : Instr} {i k pc pc' : Nat} {L L' : xLs} {st st' : List Value} {S S' : xS}
abbrev x_mo (L L' : xLs) (S S' : xS) : Prop := L' = L ∧ x_le S S'
theorem x_get_mo (h : x_get M i pc L st S = some (pc', L', st', S')) : x_mo L L' S S' := by
  unfold x_get at h
  dsimp only at h
  repeat' split at h
  all_goals first | (cases h; done) | (cases h; exact ⟨rfl, x_le_rf _⟩)
theorem x_put_mo (h : x_put M i pc L st S = some (pc', L', st', S')) : x_mo L L' S S' := by
  unfold x_put at h
  dsimp only at h
  split at h
  · split at h
    · split at h
      · next ho =>
        split at h
        · next hc => cases h; exact ⟨rfl, x_le_set (x_obj_inv ho) (by simp [x_sz])⟩
        · cases h
      · cases h
    · cases h
  · cases h
theorem x_iald_mo (h : x_iald scr pc L st S = some (pc', L', st', S')) : x_mo L L' S S' := by
  unfold x_iald at h
  repeat' split at h
  all_goals first | (cases h; done) | (cases h; exact ⟨rfl, x_le_rf _⟩)
theorem x_bald_mo (h : x_bald pc L st S = some (pc', L', st', S')) : x_mo L L' S S' := by
  unfold x_bald at h
  repeat' split at h
  all_goals first | (cases h; done) | (cases h; exact ⟨rfl, x_le_rf _⟩)
theorem x_lald_mo (h : x_lald pc L st S = some (pc', L', st', S')) : x_mo L L' S S' := by
  unfold x_lald at h
  repeat' split at h
  all_goals first | (cases h; done) | (cases h; exact ⟨rfl, x_le_rf _⟩)
theorem x_aald_mo (h : x_aald pc L st S = some (pc', L', st', S')) : x_mo L L' S S' := by
  unfold x_aald at h
  repeat' split at h
  all_goals first | (cases h; done) | (cases h; exact ⟨rfl, x_le_rf _⟩)
theorem x_alen_mo (h : x_alen scr pc L st S = some (pc', L', st', S')) : x_mo L L' S S' := by
  unfold x_alen at h
  repeat' split at h
  all_goals first | (cases h; done) | (cases h; exact ⟨rfl, x_le_rf _⟩)
theorem x_iast_mo (h : x_iast pc L st S = some (pc', L', st', S')) : x_mo L L' S S' := by
  unfold x_iast at h
  split at h
  · split at h
    · next ha =>
      split at h
      · cases h; exact ⟨rfl, x_le_set (x_arr_inv ha) rfl⟩
      · cases h
    · cases h
  · cases h
theorem x_bast_mo (h : x_bast pc L st S = some (pc', L', st', S')) : x_mo L L' S S' := by
  unfold x_bast at h
  split at h
  · split at h
    · next ha =>
      split at h
      · cases h; exact ⟨rfl, x_le_set (x_arr_inv ha) rfl⟩
      · cases h
    · next ha =>
      split at h
      · cases h; exact ⟨rfl, x_le_set (x_arr_inv ha) rfl⟩
      · cases h
    · cases h
  · cases h
theorem x_last_mo (h : x_last pc L st S = some (pc', L', st', S')) : x_mo L L' S S' := by
  unfold x_last at h
  split at h
  · split at h
    · next ha =>
      split at h
      · cases h; exact ⟨rfl, x_le_set (x_arr_inv ha) rfl⟩
      · cases h
    · cases h
  · cases h
theorem x_aast_mo (h : x_aast pc L st S = some (pc', L', st', S')) : x_mo L L' S S' := by
  unfold x_aast at h
  split at h
  · split at h
    · next ha hv =>
      split at h
      · cases h; exact ⟨rfl, x_le_set (x_arr_inv ha) rfl⟩
      · cases h
    · cases h
  · cases h
theorem x_newa_mo {ty : ArrayType} (h : x_newa ty pc L st S = some (pc', L', st', S')) : x_mo L L' S S' := by
  unfold x_newa at h
  repeat' split at h
  all_goals first | (cases h; done) | (cases h; exact ⟨rfl, x_le_app _ _⟩)
theorem x_newq_mo (h : x_newq M i pc L st S = some (pc', L', st', S')) : x_mo L L' S S' := by
  unfold x_newq at h
  dsimp only at h
  repeat' split at h
  all_goals first | (cases h; done) | (cases h; exact ⟨rfl, x_le_app _ _⟩)
theorem x_new_mo (h : x_new df M i pc L st S = some (pc', L', st', S')) : x_mo L L' S S' := by
  unfold x_new at h
  dsimp only at h
  repeat' split at h
  all_goals first | (cases h; done) | (cases h; exact ⟨rfl, x_le_app _ _⟩)
theorem x_ldc_mo (h : x_ldc M i k pc L st S = some (pc', L', st', S')) : x_mo L L' S S' := by
  unfold x_ldc at h
  dsimp only at h
  repeat' split at h
  all_goals first | (cases h; done) | (cases h; exact ⟨rfl, x_le_rf _⟩)
theorem x_ldc2_mo (h : x_ldc2 M i pc L st S = some (pc', L', st', S')) : x_mo L L' S S' := by
  unfold x_ldc2 at h
  dsimp only at h
  repeat' split at h
  all_goals first | (cases h; done) | (cases h; exact ⟨rfl, x_le_rf _⟩)
theorem x_heap_mo (h : x_heap df scr M ins pc L st S = some (pc', L', st', S')) : x_mo L L' S S' := by
  cases ins with
  | getfield i => exact x_get_mo h
  | putfield i => exact x_put_mo h
  | iaload => exact x_iald_mo h
  | baload => exact x_bald_mo h
  | laload => exact x_lald_mo h
  | aaload => exact x_aald_mo h
  | iastore => exact x_iast_mo h
  | bastore => exact x_bast_mo h
  | lastore => exact x_last_mo h
  | aastore => exact x_aast_mo h
  | arraylength => exact x_alen_mo h
  | newarray ty => exact x_newa_mo h
  | anewarray i => exact x_newq_mo h
  | new i => exact x_new_mo h
  | ldc i => exact x_ldc_mo h
  | ldc_w i => exact x_ldc_mo h
  | ldc2_w i => exact x_ldc2_mo h
  | _ => exact (x_no (show (none : Option xY) = some (pc', L', st', S') from h)).elim
abbrev x_cmo (call : xO) : Prop := ∀ (j : Nat) (as : List Value) (S : xS) (r : Option Value) (S' : xS), call j as S = some (r, S') → x_le S S'
theorem x_call_mo {call : xO} (hc : x_cmo call) {j : Nat} {as : List Value} (h : x_call call j as pc L st S = some (pc', L', st', S')) : x_mo L L' S S' := by
  unfold x_call at h
  split at h
  · split at h
    · next v S1 hv => cases h; exact ⟨rfl, hc _ _ _ _ _ hv⟩
    · cases h
  · cases h
theorem x_inv_mo {call : xO} (hc : x_cmo call) (h : x_inv call M ins pc L st S = some (pc', L', st', S')) : x_mo L L' S S' := by
  cases ins with
  | invokevirtual i =>
    dsimp only [x_inv] at h
    repeat' split at h
    all_goals first | (cases h; done) | exact x_call_mo hc h
  | invokespecial i =>
    dsimp only [x_inv] at h
    repeat' split at h
    all_goals first | exact x_call_mo hc h | (cases h; exact ⟨rfl, x_le_rf _⟩) | (cases h; done)
  | invokestatic i =>
    dsimp only [x_inv] at h
    repeat' split at h
    all_goals first | exact x_call_mo hc h | (cases h; exact ⟨rfl, x_le_rf _⟩) | (cases h; done)
  | _ => exact (x_no (show (none : Option xY) = some (pc', L', st', S') from h)).elim
theorem x_step_mo {call : xO} (hc : x_cmo call) (h : x_step df scr call M pc L st S = some (.inl (pc', L', st', S'))) : L'.length = L.length ∧ x_le S S' := by
  unfold x_step at h
  split at h
  · cases h
  · split at h
    · cases hr : x_ret M _ st with
      | none => rw [hr] at h; cases h
      | some v => rw [hr] at h; cases h
    · split at h
      · next hp => cases h; exact ⟨x_pure_len hp, x_le_rf _⟩
      · split at h
        · next hy => cases h; have := x_heap_mo hy; exact ⟨by rw [this.1], this.2⟩
        · obtain ⟨y, hi, he⟩ := Option.map_eq_some_iff.mp h
          cases he
          have := x_inv_mo hc hi
          exact ⟨by rw [this.1], this.2⟩
theorem x_run_mo {call : xO} (hc : x_cmo call) : ∀ (n pc : Nat) (L : xLs) (st : List Value) (S : xS) (r : Option Value) (S' : xS), x_run df scr call M n pc L st S = some (r, S') → x_le S S' := by
  intro n
  induction n with
  | zero => intro pc L st S r S' h; cases h
  | succ n ih =>
    intro pc L st S r S' h
    unfold x_run at h
    split at h
    · cases h
    · next q hq =>
      cases h
      unfold x_step at hq
      split at hq
      · cases hq
      · split at hq
        · cases hr : x_ret M _ st with
          | none => rw [hr] at hq; cases hq
          | some v => rw [hr] at hq; cases hq; exact x_le_rf _
        · split at hq
          · cases hq
          · split at hq
            · cases hq
            · obtain ⟨y, hi, he⟩ := Option.map_eq_some_iff.mp hq
              cases he
    · next hq => exact x_le_tr (x_step_mo hc hq).2 (ih _ _ _ _ _ _ h)
theorem x_do_mo (df : List (List Value)) (MT : List xM) (n : Nat) : ∀ d, x_cmo (x_do df MT n d) := by
  intro d
  induction d with
  | zero => intro j as S r S' h; cases h
  | succ d ih =>
    intro j as S r S' h
    simp only [x_do] at h
    split at h
    · cases h
    · split at h
      · cases h
      · exact x_run_mo ih _ _ _ _ _ _ _ h
end XMO
end
section
/-! Calls. -/
def x_ws (Ts : List Jvm.Cond) (M : xM) : List Jvm.Cond := Cond.code M.1 M.2.1 M.2.2.1 M.2.2.2.1 :: Ts
def x_rm (d mc ms : Nat) : Room := { frames := d, cells := mc, slots := ms, locals := 64 * d }
def x_Pc (D : va_G) (cl : List vw_C) (cA : Nat → ClassId) (NX : List Jvm.Cond) (z b : Nat) (as : List Value) (S : xS) : Array Value → State → Prop := va_Pc (as.map (x_cv z b)) fun U => x_Wd D cl cA z b S U.heap ∧ va_K D cl (x_tys cA) U ∧ x_Nx NX U
def x_Qc (D : va_G) (cl : List vw_C) (cA : Nat → ClassId) (z b : Nat) (r : Option Value) (S' : xS) : Array Value → State → Outcome → State → Prop := fun _ st o t => o = .returned (r.map (x_cv z b)) ∧ x_Wd D cl cA z b S' t.heap ∧ va_K D cl (x_tys cA) t ∧ va_F (fun q => z ≤ q) st t
abbrev x_spec (l : Launch) (D : va_G) (cl : List vw_C) (cA : Nat → ClassId) (z b : Nat) (MT : List xM) (Ts NX : List Jvm.Cond) (d : Nat) (call : xO) : Prop := ∀ (j : Nat) (as : List Value) (S : xS) (r : Option Value) (S' : xS) (M : xM), MT[j]? = some M → call j as S = some (r, S') →
  Met l M.1 (x_ws Ts M) (x_rm d (S'.length - S.length) (x_slots S' - x_slots S)) (x_Pc D cl cA NX z b as S) (x_Qc D cl cA z b r S') (S'.length - S.length) (x_slots S' - x_slots S) (fun q => z ≤ q)
theorem x_blind (D : va_G) (cl : List vw_C) (cA : Nat → ClassId) {NX : List Jvm.Cond} (hnx : ∀ w ∈ NX, x_isNx w = true) (z b : Nat) (as : List Value) (S : xS) : FrameBlind (x_Pc D cl cA NX z b as S) := fun a U g mk ⟨q0, q1, q2, q3⟩ => ⟨q0, q1, va_K.moved (u := U) (U := U.calling g mk a) (Vm.Alike.refl U.vm) q2, x_Nx.same (s := U) (U := U.calling g mk a) hnx rfl q3⟩
section XSC
variable {p : Program} {l : Launch} {e : Env} {R : Room} {s : State} {m : MethodId} {args : Array Value} {below : List Frame} {meth : Method} {c : Code} {H : Heap} {locs : List Loc} {cells slots : Nat} {Q : State → Prop}
variable {cc : ByteArray} {pc : Nat} {ls : Array Slot} {z b : Nat} {L L' : xLs} {st st' : List Value} {pc' : Nat} {S S' : xS} {D : va_G} {cl : List vw_C} {cA : Nat → ClassId} {MT : List xM} {df : List (List Value)} {Ts NX : List Jvm.Cond} {own : String} {M : xM} {i : Nat}
theorem x_after {st0 rest : List Value} {r : Option Value} {a : Array Value} {mc ms : Nat} (hr : va_Run p l e R s m args below meth c H locs cells slots mc ms (F0 m pc ls st0) rest (x_Qc D cl cA z b r S' a) (fun q => z ≤ q)) (hS : va_S (fun q => z ≤ q) s.heap H locs)
    (kk : ∀ (H1 : Heap) (locs1 : List Loc), x_Wd D cl cA z b S' H1 → va_S (fun q => z ≤ q) s.heap H1 locs1 → W p l e R s m args below meth c H1 locs1 (cells + mc) (slots + ms) Q (F0 m (pc + 3) ls ((r.map (x_cv z b)).toList ++ rest))) : W p l e R s m args below meth c H locs cells slots Q (F0 m pc ls st0) := by
  intro T hT X
  obtain ⟨v, st₀, t, T', Lo, h0, X', hL, e1, e2, ⟨hv, hw, hk, hz, hkp⟩, stp⟩ := hr T hT X
  cases hv
  rw [h0] at hz hkp
  obtain ⟨t2, a1, b1⟩ := kk T'.heap (locs ++ Lo) (by rw [e1]; exact hw)
    ⟨Nat.le_trans hS.1 (by rw [e1]; exact hz), fun q h1 h2 => by rw [e1, hkp q (Nat.lt_of_lt_of_le h1 hS.1) h2]; exact hS.2.1 q h1 h2, fun q hq => by
      rcases List.mem_append.mp hq with h | h
      · exact hS.2.2 q h
      · exact hL q h⟩ T' rfl X'
  exact ⟨t2, stp t2 a1, b1⟩
theorem x_goodM (hG : GoodIn Ts Ts) {M' : xM} (h : x_okM Ts M') : GoodIn Ts (x_ws Ts M') := fun w hw => by
  rcases List.mem_cons.mp hw with rfl | hw
  · exact hG _ h.1
  · exact hG _ hw
theorem x_toL (r : Option Value) (z b : Nat) (rest : List Value) : (r.map (x_cv z b)).toList ++ rest.map (x_cv z b) = (r.toList ++ rest).map (x_cv z b) := by cases r <;> rfl
theorem x_wsum (z b : Nat) (rest : List Value) : ((rest.map (x_cv z b)).map fun v => v.category).sum = x_w rest := by
  unfold x_w
  rw [List.map_map]
  congr 1
  exact List.map_congr_left fun v _ => x_cv_cat z b v
theorem x_stk {np : Nat} {a : Nat} {rest : List Value} (h : st.drop np = .ref a :: rest) : st.map (x_cv z b) = ((st.take np).reverse.map (x_cv z b)).reverse ++ .ref (z + a) :: rest.map (x_cv z b) := by
  conv => lhs; rw [← List.take_append_drop np st, h]
  rw [List.map_append, List.map_reverse, List.reverse_reverse]
  rfl
theorem x_stkS (np : Nat) : st.map (x_cv z b) = ((st.take np).reverse.map (x_cv z b)).reverse ++ (st.drop np).map (x_cv z b) := by
  conv => lhs; rw [← List.take_append_drop np st]
  rw [List.map_append, List.map_reverse, List.reverse_reverse]
/-- what a call needs of the caller's room -/
theorem x_room {d : Nat} (hR : d + 1 ≤ R.frames ∧ 64 * (d + 1) ≤ R.locals) {M' : xM} (h : M'.2.2.1 ≤ 45) (mc ms : Nat) : (x_rm d mc ms).frames + 1 ≤ R.frames ∧ 8 + (M'.2.2.1 + 11) + (x_rm d mc ms).locals ≤ R.locals := ⟨hR.1, by
  show 8 + (M'.2.2.1 + 11) + 64 * d ≤ R.locals
  omega⟩
set_option maxHeartbeats 8000000 in
theorem x_sim_inv {ins : Instr} {len d : Nat} {call : xO} (hexec : p.tables.exec = Jvm.exec) (hb : c.code = cc) (hml : c.maxLocals = L.length) (hts : ∀ w ∈ Ts, w.before args s = true) (hG : GoodIn Ts Ts) (hown : s.vm.findClass own = some m.cls) (hK : va_K D cl (x_tys cA) s) (hnx : ∀ w ∈ NX, x_isNx w = true) (hN : x_Nx NX s) (hT : x_okT cl MT Ts NX) (hq : ∀ i, x_okL cl MT Ts NX own i (x_pool M i)) (hspec : x_spec l D cl cA z b MT Ts NX d call) (hmo : x_cmo call)
    (hR : d + 1 ≤ R.frames ∧ 64 * (d + 1) ≤ R.locals) (hdg : decode cc pc = .ok (ins, len)) (hlen : x_lok ins len = true) (hW : x_Wd D cl cA z b S H) (hS : va_S (fun q => z ≤ q) s.heap H locs) (hl : x_LR z b L ls)
    (h : x_inv call M ins pc L st S = some (pc', L', st', S')) (hr1 : cells + S'.length ≤ R.cells + S.length) (hr2 : slots + x_slots S' ≤ R.slots + x_slots S)
    (kk : ∀ (H1 : Heap) (locs1 : List Loc) (c1 s1 : Nat), L' = L → c1 + S.length = cells + S'.length → s1 + x_slots S = slots + x_slots S' → x_Wd D cl cA z b S' H1 → va_S (fun q => z ≤ q) s.heap H1 locs1 → W p l e R s m args below meth c H1 locs1 c1 s1 Q (F0 m pc' ls (st'.map (x_cv z b)))) : W p l e R s m args below meth c H locs cells slots Q (F0 m pc ls (st.map (x_cv z b))) := by
  have hfix : CallFix p m c cc L.length s args Ts own := ⟨hexec, hb, hml, hown, hts⟩
  have hmo2 := x_inv_mo hmo h
  have hsize : ls.size = L.length := hl.1
  cases ins with
  | invokevirtual i =>
    obtain rfl : len = 3 := by simpa [x_lok] using hlen
    have hq := hq i
    dsimp only [x_inv] at h
    rcases hp : x_pool M i with ⟨kd, j, np, ci⟩
    rw [hp] at h hq
    dsimp only at h
    split at h
    · next hkd =>
      split at h
      · next a rest hdrop =>
        split at h
        · next cj fs ho =>
          split at h
          · next hci =>
            unfold x_call at h
            split at h
            · next hw =>
              split at h
              · next v S1 hv =>
                cases h
                have hg := x_wl_get (cA := cA) (z := z) (b := b) (x_obj_inv ho)
                have hn : ((st.take np).reverse.map (x_cv z b)).length = np := by simp; omega
                have hpre : ∀ U : State, U.heap = H → s.WarmedH U.vm → x_Pc D cl cA NX z b (.ref a :: (st.take np).reverse) S (Value.ref (z + a) :: (st.take np).reverse.map (x_cv z b)).toArray U := fun U hU hWm => ⟨rfl, by rw [hU]; exact hW, va_K.moved hWm.alike hK, x_Nx.moved hnx hWm hN⟩
                have hrm := hmo2.2
                have fin : ∀ {a0 : Array Value}, va_Run p l e R s m args below meth c H locs cells slots (S'.length - S.length) (x_slots S' - x_slots S) (F0 m pc ls (st.map (x_cv z b))) (rest.map (x_cv z b)) (x_Qc D cl cA z b v S' a0) (fun q => z ≤ q) → W p l e R s m args below meth c H locs cells slots Q (F0 m pc ls (st.map (x_cv z b))) := fun hr => x_after hr hS fun H1 locs1 h1 h2 => by
                  rw [x_toL]
                  exact kk H1 locs1 _ _ rfl (by omega) (by omega) h1 h2
                rcases hkd.1 with rfl | rfl
                · obtain ⟨M', ci', C, T, N, h1, h2, h3, h4, h5, h6, h7, h8, h9⟩ := hq
                  dsimp only at h1 h2 h5
                  have hcc : cj = ci' := by omega
                  subst hcc
                  subst h4
                  have hM' := (hT _ _ h1).1
                  refine fin (va_runV (ws := x_ws Ts M') (rm := x_rm d (S'.length - S.length) (x_slots S' - x_slots S)) hfix (hspec _ _ _ _ _ _ h1 hv) ⟨callB_of np hts (x_goodM hG hM') rfl rfl rfl (hts _ h9) (hts _ h6) ⟨hM'.2.2.1.1, hM'.2.2.1.2, h5⟩ (x_room hR hM'.2.2.2.2.1 _ _), hts _ h7, hts _ h8⟩ ⟨x_blind D cl cA hnx z b _ S, va_recv hK hW.2 h3 hg, hpre⟩ rfl hn hsize (x_stk hdrop) (by rw [x_wsum]; show 2 * 0 + _ ≤ 8; omega) hdg ⟨by omega, by omega⟩)
                · obtain ⟨M', ci', C, host, T, N, h1, h2, h3, h4, h5, h6, h7, h8, h9⟩ := hq
                  dsimp only at h1 h2 h5
                  have hcc : cj = ci' := by omega
                  subst hcc
                  subst h4
                  have hM' := (hT _ _ h1).1
                  refine fin (va_runVN (ws := x_ws Ts M') (rm := x_rm d (S'.length - S.length) (x_slots S' - x_slots S)) hfix (hspec _ _ _ _ _ _ h1 hv) ⟨va_cnB np hts (x_goodM hG hM') rfl rfl rfl (hN _ h6) (hts _ h9) ⟨hM'.2.2.1.1, hM'.2.2.1.2, h5⟩ (x_room hR hM'.2.2.2.2.1 _ _), hts _ h7, hts _ h8⟩ ⟨x_blind D cl cA hnx z b _ S, va_recv hK hW.2 h3 hg, hpre⟩ rfl hn hsize (x_stk hdrop) (by rw [x_wsum]; show 2 * 0 + _ ≤ 8; omega) hdg ⟨by omega, by omega⟩)
              · cases h
            · cases h
          · cases h
        · cases h
      · cases h
    · cases h
  | invokespecial i =>
    obtain rfl : len = 3 := by simpa [x_lok] using hlen
    have hq := hq i
    dsimp only [x_inv] at h
    rcases hp : x_pool M i with ⟨kd, j, np, ci⟩
    rw [hp] at h hq
    dsimp only at h
    split at h
    · next hkd =>
      subst hkd
      obtain ⟨h1, h2, h3⟩ := hq
      split at h
      · next a rest =>
        split at h
        · next hw =>
          cases h
          refine W.objInit hexec hb hown (hts _ h1) (hts _ h2) (hts _ h3) rfl (hsize.trans hml.symm) rfl hdg (by omega) (by
            show 2 * 0 + ((st'.map (x_cv z b)).map fun v => v.category).sum + 12 ≤ R.locals
            rw [x_wsum]
            omega) ?_
          exact kk H locs cells slots rfl rfl rfl hW hS
        · cases h
      · cases h
    · split at h
      · next hkd =>
        split at h
        · next a rest hdrop =>
          unfold x_call at h
          split at h
          · next hw =>
            split at h
            · next v S1 hv =>
              cases h
              have hn : ((st.take np).reverse.map (x_cv z b)).length = np := by simp; omega
              have hpre : ∀ U : State, U.heap = H → s.WarmedH U.vm → x_Pc D cl cA NX z b (.ref a :: (st.take np).reverse) S (Value.ref (z + a) :: (st.take np).reverse.map (x_cv z b)).toArray U := fun U hU hWm => ⟨rfl, by rw [hU]; exact hW, va_K.moved hWm.alike hK, x_Nx.moved hnx hWm hN⟩
              have hrm := hmo2.2
              have fin : ∀ {a0 : Array Value}, va_Run p l e R s m args below meth c H locs cells slots (S'.length - S.length) (x_slots S' - x_slots S) (F0 m pc ls (st.map (x_cv z b))) (rest.map (x_cv z b)) (x_Qc D cl cA z b v S' a0) (fun q => z ≤ q) → W p l e R s m args below meth c H locs cells slots Q (F0 m pc ls (st.map (x_cv z b))) := fun hr => x_after hr hS fun H1 locs1 h1 h2 => by
                rw [x_toL]
                exact kk H1 locs1 _ _ rfl (by omega) (by omega) h1 h2
              rcases hkd.1 with rfl | rfl
              · obtain ⟨M', h1, h5, h6, h7, h8, h9, h10⟩ := hq
                dsimp only at h1 h5
                have hM' := (hT _ _ h1).1
                refine fin (va_runI (ws := x_ws Ts M') (rm := x_rm d (S'.length - S.length) (x_slots S' - x_slots S)) hfix (hspec _ _ _ _ _ _ h1 hv) ⟨callB_of np hts (x_goodM hG hM') (by unfold x_ws; rw [h7]) rfl rfl (hts _ h10) (hts _ h8) ⟨hM'.2.2.1.1, hM'.2.2.1.2, h5⟩ (x_room hR hM'.2.2.2.2.1 _ _), h6, hts _ h9⟩ ⟨x_blind D cl cA hnx z b _ S, hpre⟩ rfl hn hsize (x_stk hdrop) (by rw [x_wsum]; show 2 * 0 + _ ≤ 8; omega) hdg ⟨by omega, by omega⟩)
              · obtain ⟨M', host, h1, h5, h6, h7, h8, h9, h10⟩ := hq
                dsimp only at h1 h5
                have hM' := (hT _ _ h1).1
                refine fin (va_runIN (ws := x_ws Ts M') (rm := x_rm d (S'.length - S.length) (x_slots S' - x_slots S)) hfix (hspec _ _ _ _ _ _ h1 hv) ⟨va_cnB np hts (x_goodM hG hM') (by unfold x_ws; rw [h7]) rfl rfl (hN _ h8) (hts _ h10) ⟨hM'.2.2.1.1, hM'.2.2.1.2, h5⟩ (x_room hR hM'.2.2.2.2.1 _ _), h6, hts _ h9⟩ ⟨x_blind D cl cA hnx z b _ S, hpre⟩ rfl hn hsize (x_stk hdrop) (by rw [x_wsum]; show 2 * 0 + _ ≤ 8; omega) hdg ⟨by omega, by omega⟩)
            · cases h
          · cases h
        · cases h
      · cases h
  | invokestatic i =>
    obtain rfl : len = 3 := by simpa [x_lok] using hlen
    have hq := hq i
    dsimp only [x_inv] at h
    rcases hp : x_pool M i with ⟨kd, j, np, ci⟩
    rw [hp] at h hq
    dsimp only at h
    split at h
    · next hkd =>
      subst hkd
      obtain ⟨h1, h2, h3, h4⟩ := hq
      split at h
      · next y x rest =>
        split at h
        · next hw =>
          cases h
          exact va_mmax hexec hb (hml.trans hsize.symm) hown (hts _ h1) (hts _ h2) (hts _ h3) (hts _ h4) (by omega) (by rw [x_wsum]; omega) (by omega) (by omega) hdg (kk H locs cells slots rfl rfl rfl hW hS)
        · cases h
      · cases h
    · split at h
      · next hkd =>
        subst hkd
        obtain ⟨h1, h2, h3, h4⟩ := hq
        split at h
        · next y x rest =>
          split at h
          · next hw =>
            cases h
            exact va_mmin hexec hb (hml.trans hsize.symm) hown (hts _ h1) (hts _ h2) (hts _ h3) (hts _ h4) (by omega) (by rw [x_wsum]; omega) (by omega) (by omega) hdg (kk H locs cells slots rfl rfl rfl hW hS)
          · cases h
        · cases h
      · split at h
        · next hkd =>
          unfold x_call at h
          split at h
          · next hw =>
            split at h
            · next v S1 hv =>
              cases h
              have hn : ((st.take np).reverse.map (x_cv z b)).length = np := by simp; omega
              have hpre : ∀ U : State, U.heap = H → s.WarmedH U.vm → x_Pc D cl cA NX z b (st.take np).reverse S ((st.take np).reverse.map (x_cv z b)).toArray U := fun U hU hWm => ⟨rfl, by rw [hU]; exact hW, va_K.moved hWm.alike hK, x_Nx.moved hnx hWm hN⟩
              have hrm := hmo2.2
              have fin : ∀ {a0 : Array Value}, va_Run p l e R s m args below meth c H locs cells slots (S'.length - S.length) (x_slots S' - x_slots S) (F0 m pc ls (st.map (x_cv z b))) ((st.drop np).map (x_cv z b)) (x_Qc D cl cA z b v S' a0) (fun q => z ≤ q) → W p l e R s m args below meth c H locs cells slots Q (F0 m pc ls (st.map (x_cv z b))) := fun hr => x_after hr hS fun H1 locs1 h1 h2 => by
                rw [x_toL]
                exact kk H1 locs1 _ _ rfl (by omega) (by omega) h1 h2
              rcases hkd.1 with rfl | rfl
              · obtain ⟨M', h1, h5, h6, h7, h8⟩ := hq
                dsimp only at h1 h5
                have hM' := (hT _ _ h1).1
                refine fin (va_runS (ws := x_ws Ts M') (rm := x_rm d (S'.length - S.length) (x_slots S' - x_slots S)) hfix (hspec _ _ _ _ _ _ h1 hv) ⟨callB_of np hts (x_goodM hG hM') rfl rfl rfl (hts _ h8) (hts _ h6) ⟨hM'.2.2.1.1, hM'.2.2.1.2, h5⟩ (x_room hR hM'.2.2.2.2.1 _ _), hts _ h7⟩ ⟨x_blind D cl cA hnx z b _ S, hpre⟩ rfl hn hsize (x_stkS np) (by rw [x_wsum]; show 2 * 0 + _ ≤ 8; omega) hdg ⟨by omega, by omega⟩)
              · obtain ⟨M', host, h1, h5, h6, h7, h8⟩ := hq
                dsimp only at h1 h5
                have hM' := (hT _ _ h1).1
                refine fin (va_runSN (ws := x_ws Ts M') (rm := x_rm d (S'.length - S.length) (x_slots S' - x_slots S)) hfix (hspec _ _ _ _ _ _ h1 hv) ⟨va_cnB np hts (x_goodM hG hM') rfl rfl rfl (hN _ h6) (hts _ h8) ⟨hM'.2.2.1.1, hM'.2.2.1.2, h5⟩ (x_room hR hM'.2.2.2.2.1 _ _), hts _ h7, trivial⟩ ⟨x_blind D cl cA hnx z b _ S, hpre⟩ rfl hn hsize (x_stkS np) (by rw [x_wsum]; show 2 * 0 + _ ≤ 8; omega) hdg ⟨by omega, by omega⟩)
            · cases h
          · cases h
        · cases h
  | _ => exact (x_no (show (none : Option xY) = some (pc', L', st', S') from h)).elim
end XSC
end
section
/-! Runs: a frame's, a method's. -/
section XSR
variable {p : Program} {l : Launch} {e : Env} {R : Room} {s : State} {m : MethodId} {args : Array Value} {below : List Frame} {meth : Method} {c : Code} {H : Heap} {locs : List Loc} {cells slots : Nat} {Q : State → Prop}
variable {cc : ByteArray} {pc : Nat} {ls : Array Slot} {z b : Nat} {L L' : xLs} {st st' : List Value} {pc' : Nat} {S S' : xS} {D : va_G} {cl : List vw_C} {cA : Nat → ClassId} {MT : List xM} {df : List (List Value)} {Ts NX : List Jvm.Cond} {own : String} {M : xM} {i : Nat}
set_option maxHeartbeats 8000000 in
theorem x_sim_heap {scr : Option (Nat × (Nat → Int32))} {ins : Instr} {len : Nat} (hexec : p.tables.exec = Jvm.exec) (hb : c.code = cc) (hts : ∀ w ∈ Ts, w.before args s = true) (hown : s.vm.findClass own = some m.cls) (hK : va_K D cl (x_tys cA) s) (hC : x_okC cl df Ts) (hZ : x_okZ cl Ts) (hX : x_scrOk b z scr s) (hN : x_Nx NX s) (hq : ∀ i, x_okL cl MT Ts NX own i (x_pool M i)) (hini : M.2.2.2.2.1 = 2 → meth.name = "<init>")
    (hdg : decode cc pc = .ok (ins, len)) (hlen : x_lok ins len = true) (hW : x_Wd D cl cA z b S H) (hS : va_S (fun q => z ≤ q) s.heap H locs)
    (h : x_heap df scr M ins pc L st S = some (pc', L', st', S')) (hr1 : cells + S'.length ≤ R.cells + S.length) (hr2 : slots + x_slots S' ≤ R.slots + x_slots S)
    (kk : ∀ (H1 : Heap) (locs1 : List Loc) (c1 s1 : Nat), L' = L → c1 + S.length = cells + S'.length → s1 + x_slots S = slots + x_slots S' → x_Wd D cl cA z b S' H1 → va_S (fun q => z ≤ q) s.heap H1 locs1 → W p l e R s m args below meth c H1 locs1 c1 s1 Q (F0 m pc' ls (st'.map (x_cv z b)))) : W p l e R s m args below meth c H locs cells slots Q (F0 m pc ls (st.map (x_cv z b))) := by
  have k0 : L' = L → S' = S → W p l e R s m args below meth c H locs cells slots Q (F0 m pc' ls (st'.map (x_cv z b))) := fun h1 h2 => kk H locs cells slots h1 (by rw [h2]) (by rw [h2]) (by rw [h2]; exact hW) hS
  have k1 : x_KK D cl cA z b s L L' S S' fun H1 locs1 => W p l e R s m args below meth c H1 locs1 cells slots Q (F0 m pc' ls (st'.map (x_cv z b))) := fun H1 locs1 h1 h2 h3 h4 h5 => kk H1 locs1 cells slots h1 (by rw [h2]) (by rw [h3]) h4 h5
  have k2 : x_KN D cl cA z b s L L' S S' locs cells slots fun H1 c1 s1 => W p l e R s m args below meth c H1 locs c1 s1 Q (F0 m pc' ls (st'.map (x_cv z b))) := fun H1 c1 s1 h1 h2 h3 h4 h5 => kk H1 locs c1 s1 h1 h2 h3 h4 h5
  cases ins with
  | getfield i =>
    obtain rfl : len = 3 := by simpa [x_lok] using hlen
    exact x_sim_get hexec hb hts hown hK hC hN (hq i) hdg hW h k0
  | putfield i =>
    obtain rfl : len = 3 := by simpa [x_lok] using hlen
    exact x_sim_put hexec hb hts hown hK hC (hq i) hini hdg hW hS h k1
  | iaload =>
    obtain rfl : len = 1 := by simpa [x_lok] using hlen
    exact x_sim_iald hexec hb hK hX hdg hW hS h k0
  | baload =>
    obtain rfl : len = 1 := by simpa [x_lok] using hlen
    exact x_sim_bald hexec hb hK hdg hW h k0
  | laload =>
    obtain rfl : len = 1 := by simpa [x_lok] using hlen
    exact x_sim_lald hexec hb hK hdg hW h k0
  | aaload =>
    obtain rfl : len = 1 := by simpa [x_lok] using hlen
    exact x_sim_aald hexec hb hK hdg hW h k0
  | iastore =>
    obtain rfl : len = 1 := by simpa [x_lok] using hlen
    exact x_sim_iast hexec hb hK hdg hW hS h k1
  | bastore =>
    obtain rfl : len = 1 := by simpa [x_lok] using hlen
    exact x_sim_bast hexec hb hK hdg hW hS h k1
  | lastore =>
    obtain rfl : len = 1 := by simpa [x_lok] using hlen
    exact x_sim_last hexec hb hK hdg hW hS h k1
  | aastore =>
    obtain rfl : len = 1 := by simpa [x_lok] using hlen
    exact x_sim_aast hexec hb hK hZ hdg hW hS h k1
  | arraylength =>
    obtain rfl : len = 1 := by simpa [x_lok] using hlen
    exact x_sim_alen hexec hb hK hX hdg hW hS h k0
  | newarray ty =>
    obtain rfl : len = 2 := by simpa [x_lok] using hlen
    exact x_sim_newa hexec hb hts hK hZ hdg hW hS h hr1 hr2 k2
  | anewarray i =>
    obtain rfl : len = 3 := by simpa [x_lok] using hlen
    exact x_sim_newq hexec hb hts hown hK hN (hq i) hdg hW hS h hr1 hr2 k2
  | new i =>
    obtain rfl : len = 3 := by simpa [x_lok] using hlen
    exact x_sim_new hexec hb hts hown hK hC (hq i) hdg hW hS h hr1 hr2 k2
  | ldc i =>
    obtain rfl : len = 2 := by simpa [x_lok] using hlen
    exact x_sim_ldc hexec hb hts hown (hq i) hdg h k0
  | ldc_w i =>
    obtain rfl : len = 3 := by simpa [x_lok] using hlen
    exact x_sim_ldcw hexec hb hts hown (hq i) hdg h k0
  | ldc2_w i =>
    obtain rfl : len = 3 := by simpa [x_lok] using hlen
    exact x_sim_ldc2 hexec hb hts hown (hq i) hdg h k0
  | _ => exact (x_no (show (none : Option xY) = some (pc', L', st', S') from h)).elim
set_option maxHeartbeats 8000000 in
theorem x_sim_run {scr : Option (Nat × (Nat → Int32))} {d n0 z0 : Nat} {call : xO} {r : Option Value} {SF : xS} (hexec : p.tables.exec = Jvm.exec) (hb : c.code = M.2.1) (hts : ∀ w ∈ Ts, w.before args s = true) (hG : GoodIn Ts Ts) (hown : s.vm.findClass M.1.cls = some m.cls) (hK : va_K D cl (x_tys cA) s) (hC : x_okC cl df Ts) (hZ : x_okZ cl Ts) (hT : x_okT cl MT Ts NX) (hMo : x_okR M) (hn : ∀ w ∈ NX, x_isNx w = true) (hN : x_Nx NX s) (hX : x_scrOk b z scr s) (hq : ∀ q ∈ M.2.2.2.2.2.2.flatten, x_okL cl MT Ts NX M.1.cls q.1 q.2) (hini : M.2.2.2.2.1 = 2 → meth.name = "<init>")
    (hspec : x_spec l D cl cA z b MT Ts NX d call) (hmo : x_cmo call) (hR : d + 1 ≤ R.frames ∧ 64 * (d + 1) ≤ R.locals) (hr1 : SF.length ≤ R.cells + n0) (hr2 : x_slots SF ≤ R.slots + z0)
    (hret : ∀ (pc : Nat) (ls : Array Slot) (st : List Value) (ins : Instr) (len : Nat) (H : Heap) (locs : List Loc) (cells slots : Nat), decode M.2.1 pc = .ok (ins, len) → x_lok ins len = true → x_ret M ins st = some r → x_Wd D cl cA z b SF H → va_S (fun q => z ≤ q) s.heap H locs → cells + n0 = SF.length → slots + z0 = x_slots SF → W p l e R s m args below meth c H locs cells slots Q (F0 m pc ls (st.map (x_cv z b)))) :
    ∀ (n pc : Nat) (L : xLs) (st : List Value) (S : xS) (H : Heap) (locs : List Loc) (cells slots : Nat) (ls : Array Slot), x_run df scr call M n pc L st S = some (r, SF) → c.maxLocals = L.length → x_LR z b L ls → x_Wd D cl cA z b S H → va_S (fun q => z ≤ q) s.heap H locs → cells + n0 = S.length → slots + z0 = x_slots S → W p l e R s m args below meth c H locs cells slots Q (F0 m pc ls (st.map (x_cv z b))) := by
  intro n
  induction n with
  | zero => intro pc L st S H locs cells slots ls h; cases h
  | succ n ih =>
    intro pc L st S H locs cells slots ls h hml hl hW hS hc1 hs1
    unfold x_run at h
    split at h
    · cases h
    · next q hstep =>
      cases h
      unfold x_step at hstep
      split at hstep
      · cases hstep
      · next ins len hrow =>
        obtain ⟨hdg, hlen⟩ := x_row_ok hMo hrow
        split at hstep
        · obtain ⟨v, hv, he⟩ := Option.map_eq_some_iff.mp hstep
          cases he
          exact hret pc ls st ins len H locs cells slots hdg hlen hv hW hS hc1 hs1
        · split at hstep
          · cases hstep
          · split at hstep
            · cases hstep
            · obtain ⟨y, hi, he⟩ := Option.map_eq_some_iff.mp hstep
              cases he
    · next pc1 L1 st1 S1 hstep =>
      have hmono := x_run_mo (df := df) (scr := scr) (M := M) hmo n pc1 L1 st1 S1 r SF h
      have hs2 := x_step_mo hmo hstep
      unfold x_step at hstep
      split at hstep
      · cases hstep
      · next ins len hrow =>
        obtain ⟨hdg, hlen⟩ := x_row_ok hMo hrow
        split at hstep
        · obtain ⟨v, hv, he⟩ := Option.map_eq_some_iff.mp hstep
          cases he
        · split at hstep
          · next hp =>
            cases hstep
            exact x_sim_pure hexec hb hdg hlen hp hl fun ls2 hl2 => ih _ _ _ _ H locs cells slots ls2 h (by rw [hml, hs2.1]) hl2 hW hS hc1 hs1
          · split at hstep
            · next hy =>
              cases hstep
              exact x_sim_heap hexec hb hts hown hK hC hZ hX hN (x_pool_ok hq) hini hdg hlen hW hS hy (by have := hmono.1; omega) (by have := hmono.2; omega) fun H1 locs1 c1 s1 g1 g2 g3 g4 g5 => ih _ _ _ _ H1 locs1 c1 s1 ls h (by rw [hml, g1]) (by rw [g1]; exact hl) g4 g5 (by omega) (by omega)
            · obtain ⟨y, hi, he⟩ := Option.map_eq_some_iff.mp hstep
              cases he
              exact x_sim_inv hexec hb hml hts hG hown hK hn hN hT (x_pool_ok hq) hspec hmo hR hdg hlen hW hS hl hi (by have := hmono.1; omega) (by have := hmono.2; omega) fun H1 locs1 c1 s1 g1 g2 g3 g4 g5 => ih _ _ _ _ H1 locs1 c1 s1 ls h (by rw [hml, g1]) (by rw [g1]; exact hl) g4 g5 (by omega) (by omega)
end XSR
theorem x_sl_get {z b : Nat} (vs : List Value) : ∀ (i : Nat) (v : Value), (x_sl vs)[i]? = some (some v) → (lg_sl (vs.map (x_cv z b)))[i]? = some (.val (x_cv z b v)) := by
  induction vs with
  | nil => intro i v h; cases h
  | cons a t ih =>
    intro i v h
    simp only [x_sl, List.flatMap_cons] at h
    simp only [lg_sl, List.map_cons, List.flatMap_cons, x_cv_cat]
    by_cases ha : a.category = 2
    · rw [if_pos ha] at h ⊢
      match i, h with
      | 0, h => cases h; rfl
      | 1, h => cases h
      | k + 2, h => exact ih k v h
    · rw [if_neg ha] at h ⊢
      match i, h with
      | 0, h => cases h; rfl
      | k + 1, h => exact ih k v h
theorem x_sl_len {z b : Nat} (vs : List Value) : (lg_sl (vs.map (x_cv z b))).length = (x_sl vs).length := by
  induction vs with
  | nil => rfl
  | cons a t ih =>
    simp only [lg_sl, x_sl, List.map_cons, List.flatMap_cons, List.length_append, x_cv_cat] at ih ⊢
    rw [ih]
    by_cases ha : a.category = 2
    · rw [if_pos ha, if_pos ha]; rfl
    · rw [if_neg ha, if_neg ha]; rfl
theorem x_entry_ok {z b n : Nat} {vs : List Value} {L : xLs} (h : x_entry n vs = some L) : L.length = n ∧ x_LR z b L ((lg_sl (vs.map (x_cv z b)) ++ List.replicate (n - (lg_sl (vs.map (x_cv z b))).length) Slot.unset).toArray) := by
  unfold x_entry at h
  split at h
  · next hle =>
    cases h
    have h1 := lv_entry (vs.map (x_cv z b)) (n := n) (by rw [x_sl_len]; exact hle)
    refine ⟨by simp; omega, by simp [x_sl_len], h1.2.1, fun i v hi => ?_⟩
    by_cases hl : i < (x_sl vs).length
    · rw [List.getElem?_append_left hl] at hi
      have := x_sl_get (z := z) (b := b) vs i v hi
      show ((lg_sl (vs.map (x_cv z b)) ++ _).toArray)[i]? = _
      rw [List.getElem?_toArray, List.getElem?_append_left (by rw [x_sl_len]; exact hl)]
      exact this
    · rw [List.getElem?_append_right (by omega)] at hi
      have := List.getElem?_eq_some_iff.mp hi
      obtain ⟨h2, h3⟩ := this
      rw [List.getElem_replicate] at h3
      cases h3
  · cases h
end
section
/-! Whole methods: what x_do says of a method is its contract. -/
section XME
variable {p : Program} {l : Launch} {e : Env} {R : Room} {s : State} {m : MethodId} {args : Array Value} {below : List Frame} {meth : Method} {c : Code} {H : Heap} {locs : List Loc} {cells slots : Nat}
variable {pc : Nat} {ls : Array Slot} {z b : Nat} {st : List Value} {SF : xS} {D : va_G} {cl : List vw_C} {cA : Nat → ClassId} {MT : List xM} {df : List (List Value)} {Ts NX : List Jvm.Cond} {M : xM}
set_option maxHeartbeats 4000000 in
theorem x_end {r : Option Value} {ins : Instr} {len mc ms : Nat} (hexec : p.tables.exec = Jvm.exec) (hb : c.code = M.2.1) (hr : meth.sig.returnType = M.2.2.2.1) (hlocks : meth.locks = false) (hK : va_K D cl (x_tys cA) s) (hdg : decode M.2.1 pc = .ok (ins, len)) (hlen : x_lok ins len = true) (h : x_ret M ins st = some r) (hW : x_Wd D cl cA z b SF H) (hS : va_S (fun q => z ≤ q) s.heap H locs) (h1 : cells = mc) (h2 : slots = ms) :
    W p l e R s m args below meth c H locs cells slots (MQ below (x_Qc D cl cA z b r SF) args s mc ms (fun q => z ≤ q)) (F0 m pc ls (st.map (x_cv z b))) := by
  subst h1
  subst h2
  have q : ∀ t : State, t.heap = H → s.WarmedH t.vm → x_Qc D cl cA z b r SF args s (.returned (r.map (x_cv z b))) t := fun t ht hWm => ⟨rfl, by rw [ht]; exact hW, va_K.moved hWm.alike hK, hS.F ht⟩
  unfold x_ret at h
  split at h
  · next hty =>
    cases h
    obtain rfl : len = 1 := by simpa [x_lok] using hlen
    exact W.vret hexec hb (hr.trans hty) q hS.2.2 hdg hlocks
  · next v hty =>
    cases h
    obtain rfl : len = 1 := by simpa [x_lok] using hlen
    exact W.iret hexec hb (hr.trans hty) q hS.2.2 hdg hlocks
  · next v hty =>
    split at h
    · next hv =>
      cases h
      obtain rfl : len = 1 := by simpa [x_lok] using hlen
      exact W.zret hexec hb (hr.trans hty) (by rcases hv with rfl | rfl <;> decide) q hS.2.2 hdg hlocks
    · cases h
  · next v hty =>
    cases h
    obtain rfl : len = 1 := by simpa [x_lok] using hlen
    exact W.lret hexec hb (hr.trans hty) q hS.2.2 hdg hlocks
  · next n a hty =>
    cases h
    obtain rfl : len = 1 := by simpa [x_lok] using hlen
    exact W.aret (v := .ref (z + a)) hexec hb (hr.trans hty) (Or.inl ⟨_, rfl⟩) (Or.inr ⟨_, rfl⟩) q hS.2.2 hdg hlocks
  · next n hty =>
    cases h
    obtain rfl : len = 1 := by simpa [x_lok] using hlen
    exact W.aret (v := .null) hexec hb (hr.trans hty) (Or.inl ⟨_, rfl⟩) (Or.inl rfl) q hS.2.2 hdg hlocks
  · cases h
end XME
set_option maxHeartbeats 4000000 in
/-- the contracts of all methods -/
theorem x_met (l : Launch) (D : va_G) (cl : List vw_C) (cA : Nat → ClassId) (z b : Nat) (MT : List xM) (df : List (List Value)) (Ts NX : List Jvm.Cond) (hn : ∀ w ∈ NX, x_isNx w = true) (n : Nat) (hG : GoodIn Ts Ts) (hC : x_okC cl df Ts) (hZ : x_okZ cl Ts) (hT : x_okT cl MT Ts NX) : ∀ d, x_spec l D cl cA z b MT Ts NX d (x_do df MT n d) := by
  intro d
  induction d with
  | zero => intro j as S r S' M hM h; cases h
  | succ d ih =>
    intro j as S r S' M hM h
    have hmo := x_do_mo df MT n (d + 1) j as S r S' h
    simp only [x_do, hM] at h
    split at h
    · cases h
    · next L hL =>
      obtain ⟨hMo, hq⟩ := hT j M hM
      refine Met.ofW (cc := M.2.1) (maxL := M.2.2.1) (ret := M.2.2.2.1) hMo.2.1 rfl ?_
      intro p e s m args below meth c s₁ B hml hv
      obtain ⟨rfl, hW, hK, hN⟩ := hv
      have hts : ∀ w ∈ Ts, w.before (as.map (x_cv z b)).toArray s = true := fun w hw => atoms_spec (ws := x_ws Ts M) B.pre w (List.mem_cons_of_mem _ hw)
      obtain ⟨hlen, hLR⟩ := x_entry_ok (z := z) (b := b) hL
      rw [lg_entry_eq]
      exact x_sim_run (M := M) (n0 := S.length) (z0 := x_slots S) (scr := none) (d := d) (R := (headSpec (x_ws Ts M) (x_rm (d + 1) (S'.length - S.length) (x_slots S' - x_slots S))).room) B.exec B.bytes hts hG (findClass_of_methodNamed B.named) hK hC hZ hT hMo.2.2.2.2.2 hn hN (fun _ _ h => by cases h) hq (fun h2 => (name_of_methodNamed B.named B.method).1.trans (hMo.2.2.2.1 h2)) ih (x_do_mo df MT n d) ⟨Nat.le_refl _, Nat.le_refl _⟩
        (by show S'.length ≤ (S'.length - S.length) + S.length; have := hmo.1; omega) (by show x_slots S' ≤ (x_slots S' - x_slots S) + x_slots S; have := hmo.2; omega)
        (fun pc ls st ins len H locs cells slots h1 h2 h3 h4 h5 h6 h7 => x_end B.exec B.bytes B.returns B.notSynchronized hK h1 h2 h3 h4 h5 (by omega) (by omega))
        n 0 L [] S s.heap [] 0 0 _ h (by rw [hml, hlen]) hLR hW va_S.rf (by omega) (by omega)
end
section
/-! What is asked of classes, methods and pools, as programs that answer true. -/
def x_has (Ch : Nat → List Jvm.Cond) (i : Nat) (w : Jvm.Cond) : Bool := decide ((Ch (i / 1000))[i % 1000]? = some w) && goodWord w
/-- the chunks' words are among the tables' good ones -/
def x_chs (Ch : Nat → List Jvm.Cond) (Ts : List Jvm.Cond) : Prop := ∀ (c : Nat) (w : Jvm.Cond), w ∈ Ch c → goodWord w = true → w ∈ Ts
theorem x_has_ok {Ch : Nat → List Jvm.Cond} {Ts : List Jvm.Cond} (hch : x_chs Ch Ts) {i : Nat} {w : Jvm.Cond} (h : x_has Ch i w = true) : w ∈ Ts := by
  unfold x_has at h
  simp only [Bool.and_eq_true, decide_eq_true_eq] at h
  exact hch _ w (List.mem_of_getElem? h.1) h.2
def x_hasN (Ch : Nat → List Jvm.Cond) (i : Nat) (w : Jvm.Cond) : Bool := decide ((Ch (i / 1000))[i % 1000]? = some w) && x_isNx w
def x_chn (Ch : Nat → List Jvm.Cond) (NX : List Jvm.Cond) : Prop := ∀ (c : Nat) (w : Jvm.Cond), w ∈ Ch c → x_isNx w = true → w ∈ NX
theorem x_hasN_ok {Ch : Nat → List Jvm.Cond} {NX : List Jvm.Cond} (hcn : x_chn Ch NX) {i : Nat} {w : Jvm.Cond} (h : x_hasN Ch i w = true) : w ∈ NX := by
  unfold x_hasN at h
  simp only [Bool.and_eq_true, decide_eq_true_eq] at h
  exact hcn _ w (List.mem_of_getElem? h.1) h.2
def x_ckT (d : String) (tc : Int) : Bool := match parseFieldDescriptor d with
  | some .int => decide (tc = 0)
  | some .long => decide (tc = 1)
  | some .boolean => decide (tc = 2)
  | some (.object _) => decide (tc = 3)
  | some (.array _) => decide (tc = 3)
  | _ => false
theorem x_ckT_ok {d : String} {tc : Int} (h : x_ckT d tc = true) : x_tyOk d tc := by
  unfold x_ckT at h
  split at h
  · next hp => exact ⟨_, hp, Or.inl ⟨of_decide_eq_true h, rfl⟩⟩
  · next hp => exact ⟨_, hp, Or.inr (Or.inl ⟨of_decide_eq_true h, rfl⟩)⟩
  · next hp => exact ⟨_, hp, Or.inr (Or.inr (Or.inl ⟨of_decide_eq_true h, rfl⟩))⟩
  · next hp => exact ⟨_, hp, Or.inr (Or.inr (Or.inr ⟨of_decide_eq_true h, Or.inl ⟨_, rfl⟩⟩))⟩
  · next hp => exact ⟨_, hp, Or.inr (Or.inr (Or.inr ⟨of_decide_eq_true h, Or.inr ⟨_, rfl⟩⟩))⟩
  · cases h
def x_ckF (cl : List vw_C) (Ts : Nat → List Jvm.Cond) (own : String) (i : Nat) (q : Nat × Nat × Int) (fin : Bool) (ix : Nat) : Bool := match cl[q.1]? with
  | some (C, T, N) => decide (q.2.1 < N) && (x_has Ts ix (.fieldLink own i C (T q.2.1).2.1 (T q.2.1).2.2.1) && (decide ((T q.2.1).1 = C) && (decide ((T q.2.1).2.2.2 = fin) && x_ckT (T q.2.1).2.2.1 q.2.2)))
  | none => false
theorem x_ckF_ok {cl : List vw_C} {Ch : Nat → List Jvm.Cond} {Ts : List Jvm.Cond} (hch : x_chs Ch Ts) {own : String} {i : Nat} {q : Nat × Nat × Int} {fin : Bool} {ix : Nat} (h : x_ckF cl Ch own i q fin ix = true) : x_okF cl Ts own i q fin := by
  unfold x_ckF at h
  split at h
  · next C T N hc =>
    simp only [Bool.and_eq_true, decide_eq_true_eq] at h
    exact ⟨C, T, N, hc, h.1, x_has_ok hch h.2.1, h.2.2.1, h.2.2.2.1, x_ckT_ok h.2.2.2.2⟩
  · cases h
def x_ckNp (M : xM) (n : Nat) : Bool := decide ((parseMethodDescriptor M.1.desc).map (fun d => d.parameters.length) = some n)
theorem x_npOk {M : xM} {n : Nat} (h : x_ckNp M n = true) : x_np M n := of_decide_eq_true (p := (parseMethodDescriptor M.1.desc).map (fun d => d.parameters.length) = some n) h
def x_ckO (cl : List vw_C) (ci : Nat) (own : String) : Bool := match cl[ci]? with
  | some (C, _, _) => decide (C = own)
  | none => false
/-- a pool entry, with the places of its words -/
def x_ckL (cl : List vw_C) (MT : List xM) (Ts : Nat → List Jvm.Cond) (own : String) (i : Nat) (q : xL) (ix : List Nat) (host : String) : Bool := match q.1 with
  | 0 => x_ckF cl Ts own i q.2 false (ix.getD 0 0)
  | 1 => x_ckF cl Ts own i q.2 true (ix.getD 0 0) && x_ckO cl q.2.1 own
  | 2 => (match cl[q.2.1]? with
    | some (C, T, N) => decide (q.2.2.1 < N) && (x_hasN Ts (ix.getD 0 0) (.fieldLinkNest own i C (T q.2.2.1).2.1 (T q.2.2.1).2.2.1 host) && decide ((T q.2.2.1).1 = C))
    | none => false)
  | 16 => x_ckF cl Ts own i q.2 true (ix.getD 0 0)
  | 3 => (match MT[q.2.1]?, cl[q.2.2.2.toNat]? with
    | some M, some (C, _, _) => decide (0 ≤ q.2.2.2) && (decide (M.1.cls = C) && (x_ckNp M q.2.2.1 && (x_has Ts (ix.getD 0 0) (.methodLink own i M.1) && (x_has Ts (ix.getD 1 0) (.instanceMethod M.1) && (x_has Ts (ix.getD 2 0) (.selects C M.1 M.1) && x_has Ts (ix.getD 3 0) (.initialized C))))))
    | _, _ => false)
  | 4 => (match MT[q.2.1]?, cl[q.2.2.2.toNat]? with
    | some M, some (C, _, _) => decide (0 ≤ q.2.2.2) && (decide (M.1.cls = C) && (x_ckNp M q.2.2.1 && (x_hasN Ts (ix.getD 0 0) (.methodLinkNest own i M.1 host) && (x_has Ts (ix.getD 1 0) (.instanceMethod M.1) && (x_has Ts (ix.getD 2 0) (.selects C M.1 M.1) && x_has Ts (ix.getD 3 0) (.initialized C))))))
    | _, _ => false)
  | 5 => (match MT[q.2.1]? with
    | some M => x_ckNp M q.2.2.1 && (x_has Ts (ix.getD 0 0) (.methodLink own i M.1) && (x_has Ts (ix.getD 1 0) (.static M.1) && x_has Ts (ix.getD 2 0) (.initialized M.1.cls)))
    | _ => false)
  | 6 => (match MT[q.2.1]? with
    | some M => x_ckNp M q.2.2.1 && (x_hasN Ts (ix.getD 0 0) (.methodLinkNest own i M.1 host) && (x_has Ts (ix.getD 1 0) (.static M.1) && x_has Ts (ix.getD 2 0) (.initialized M.1.cls)))
    | _ => false)
  | 7 => (match MT[q.2.1]? with
    | some M => x_ckNp M q.2.2.1 && (decide (M.1.name = "<init>") && (decide (M.2.2.2.1 = none) && (x_has Ts (ix.getD 0 0) (.methodLink own i M.1) && (x_has Ts (ix.getD 1 0) (.instanceMethod M.1) && x_has Ts (ix.getD 2 0) (.initialized M.1.cls)))))
    | _ => false)
  | 8 => (match MT[q.2.1]? with
    | some M => x_ckNp M q.2.2.1 && (decide (M.1.name = "<init>") && (decide (M.2.2.2.1 = none) && (x_hasN Ts (ix.getD 0 0) (.methodLinkNest own i M.1 host) && (x_has Ts (ix.getD 1 0) (.instanceMethod M.1) && x_has Ts (ix.getD 2 0) (.initialized M.1.cls)))))
    | _ => false)
  | 9 => x_has Ts (ix.getD 0 0) (.methodLink own i objectInit) && (x_has Ts (ix.getD 1 0) (.instanceMethod objectInit) && x_has Ts (ix.getD 2 0) (.code objectInit ⟨#[0xb1]⟩ 1 none))
  | 10 => x_has Ts (ix.getD 0 0) (.methodLink own i Lib.Math.max.name) && (x_has Ts (ix.getD 1 0) (.static Lib.Math.max.name) && (x_has Ts (ix.getD 2 0) (.initialized "java/lang/Math") && x_has Ts (ix.getD 3 0) (.code Lib.Math.max.name Lib.Math.max.code 2 (some .int))))
  | 11 => x_has Ts (ix.getD 0 0) (.methodLink own i Lib.Math.min.name) && (x_has Ts (ix.getD 1 0) (.static Lib.Math.min.name) && (x_has Ts (ix.getD 2 0) (.initialized "java/lang/Math") && x_has Ts (ix.getD 3 0) (.code Lib.Math.min.name Lib.Math.min.code 2 (some .int))))
  | 12 => (match cl[q.2.1]? with
    | some (C, _, _) => x_has Ts (ix.getD 0 0) (.classLink own i C) && (decide (q.2.2.1 < 4) || (decide (q.2.2.1 < 7) && (decide (x_ty q.2.2.1 = .object C) && x_hasN Ts (ix.getD 1 0) (.arrayOver (.object C)))))
    | none => false)
  | 14 => x_has Ts (ix.getD 0 0) (.constant own i (Int32.ofInt q.2.2.2))
  | 15 => x_has Ts (ix.getD 0 0) (.constantLong own i (Int64.ofInt q.2.2.2))
  | 99 => true
  | _ => false
set_option maxHeartbeats 4000000 in
theorem x_ckL_ok {cl : List vw_C} {MT : List xM} {Ch : Nat → List Jvm.Cond} {Ts NX : List Jvm.Cond} (hch : x_chs Ch Ts) (hcn : x_chn Ch NX) {own : String} {i : Nat} {q : xL} {ix : List Nat} {host : String} (h : x_ckL cl MT Ch own i q ix host = true) : x_okL cl MT Ts NX own i q := by
  unfold x_ckL at h
  unfold x_okL
  split at h
  · next hk => rw [hk]; exact x_ckF_ok hch h
  · next hk =>
    rw [hk]
    simp only [Bool.and_eq_true] at h
    refine ⟨x_ckF_ok hch h.1, ?_⟩
    have h2 := h.2
    unfold x_ckO at h2
    split at h2
    · next C T N hc => exact ⟨C, T, N, hc, of_decide_eq_true h2⟩
    · cases h2
  · next hk =>
    rw [hk]
    split at h
    · next C T N hc =>
      simp only [Bool.and_eq_true, decide_eq_true_eq] at h
      exact ⟨C, host, T, N, hc, h.1, x_hasN_ok hcn h.2.1, h.2.2⟩
    · cases h
  · next hk => rw [hk]; exact x_ckF_ok hch h
  · next hk =>
    rw [hk]
    split at h
    · next M C T N hM hc =>
      simp only [Bool.and_eq_true, decide_eq_true_eq] at h
      obtain ⟨h0, h1, h2, h3, h4, h5, h6⟩ := h
      exact ⟨M, q.2.2.2.toNat, C, T, N, hM, (Int.toNat_of_nonneg h0).symm, hc, h1, x_npOk h2, x_has_ok hch h3, x_has_ok hch h4, x_has_ok hch h5, x_has_ok hch h6⟩
    · cases h
  · next hk =>
    rw [hk]
    split at h
    · next M C T N hM hc =>
      simp only [Bool.and_eq_true, decide_eq_true_eq] at h
      obtain ⟨h0, h1, h2, h3, h4, h5, h6⟩ := h
      exact ⟨M, q.2.2.2.toNat, C, host, T, N, hM, (Int.toNat_of_nonneg h0).symm, hc, h1, x_npOk h2, x_hasN_ok hcn h3, x_has_ok hch h4, x_has_ok hch h5, x_has_ok hch h6⟩
    · cases h
  · next hk =>
    rw [hk]
    split at h
    · next M hM =>
      simp only [Bool.and_eq_true, decide_eq_true_eq] at h
      obtain ⟨h2, h3, h4, h5⟩ := h
      exact ⟨M, hM, x_npOk h2, x_has_ok hch h3, x_has_ok hch h4, x_has_ok hch h5⟩
    · cases h
  · next hk =>
    rw [hk]
    split at h
    · next M hM =>
      simp only [Bool.and_eq_true, decide_eq_true_eq] at h
      obtain ⟨h2, h3, h4, h5⟩ := h
      exact ⟨M, host, hM, x_npOk h2, x_hasN_ok hcn h3, x_has_ok hch h4, x_has_ok hch h5⟩
    · cases h
  · next hk =>
    rw [hk]
    split at h
    · next M hM =>
      simp only [Bool.and_eq_true, decide_eq_true_eq] at h
      obtain ⟨h2, h0, h1, h3, h4, h5⟩ := h
      exact ⟨M, hM, x_npOk h2, h0, h1, x_has_ok hch h3, x_has_ok hch h4, x_has_ok hch h5⟩
    · cases h
  · next hk =>
    rw [hk]
    split at h
    · next M hM =>
      simp only [Bool.and_eq_true, decide_eq_true_eq] at h
      obtain ⟨h2, h0, h1, h3, h4, h5⟩ := h
      exact ⟨M, host, hM, x_npOk h2, h0, h1, x_hasN_ok hcn h3, x_has_ok hch h4, x_has_ok hch h5⟩
    · cases h
  · next hk =>
    rw [hk]
    simp only [Bool.and_eq_true] at h
    exact ⟨x_has_ok hch h.1, x_has_ok hch h.2.1, x_has_ok hch h.2.2⟩
  · next hk =>
    rw [hk]
    simp only [Bool.and_eq_true] at h
    exact ⟨x_has_ok hch h.1, x_has_ok hch h.2.1, x_has_ok hch h.2.2.1, x_has_ok hch h.2.2.2⟩
  · next hk =>
    rw [hk]
    simp only [Bool.and_eq_true] at h
    exact ⟨x_has_ok hch h.1, x_has_ok hch h.2.1, x_has_ok hch h.2.2.1, x_has_ok hch h.2.2.2⟩
  · next hk =>
    rw [hk]
    split at h
    · next C T N hc =>
      simp only [Bool.and_eq_true, Bool.or_eq_true, decide_eq_true_eq] at h
      refine ⟨C, T, N, hc, x_has_ok hch h.1, fun h4 => ?_⟩
      rcases h.2 with h2 | h2
      · omega
      · exact ⟨h2.1, h2.2.1, x_hasN_ok hcn h2.2.2⟩
    · cases h
  · next hk => rw [hk]; exact x_has_ok hch h
  · next hk => rw [hk]; exact x_has_ok hch h
  · next hk => rw [hk]; trivial
  · cases h
def x_ckM (Ts : Nat → List Jvm.Cond) (M : xM) (ix : Nat) : Bool := x_has Ts ix (.code M.1 M.2.1 M.2.2.1 M.2.2.2.1) && (plainName M.1.cls && (decide (M.1.cls ≠ "java/lang/invoke/MethodHandle") && (decide (M.1.cls ≠ "java/lang/invoke/VarHandle") && (decide (M.2.2.2.2.1 = 2 → M.1.name = "<init>") && (decide (M.2.2.1 ≤ 45) && M.2.2.2.2.2.1.flatten.all fun q => decide (decode M.2.1 q.1 = .ok (q.2.1, q.2.2)) && x_lok q.2.1 q.2.2)))))
theorem x_ckM_ok {Ch : Nat → List Jvm.Cond} {Ts : List Jvm.Cond} (hch : x_chs Ch Ts) {M : xM} {ix : Nat} (h : x_ckM Ch M ix = true) : x_okM Ts M := by
  unfold x_ckM at h
  simp only [Bool.and_eq_true] at h
  obtain ⟨h1, h2, h3, h4, h5, h6, h7⟩ := h
  refine ⟨x_has_ok hch h1, h2, ⟨of_decide_eq_true h3, of_decide_eq_true h4⟩, of_decide_eq_true h5, of_decide_eq_true h6, fun q hq => ?_⟩
  have := List.all_eq_true.mp h7 q hq
  simp only [Bool.and_eq_true] at this
  exact ⟨of_decide_eq_true this.1, this.2⟩
/-- a pool with the places of the words -/
abbrev xA : Type := List (List (Nat × xL × List Nat × String))
def x_plain (A : xA) : List (List (Nat × xL)) := A.map fun d => d.map fun q => (q.1, q.2.1)
def x_ckA (cl : List vw_C) (MT : List xM) (Ts : Nat → List Jvm.Cond) (own : String) (A : xA) : Bool := A.flatten.all fun q => x_ckL cl MT Ts own q.1 q.2.1 q.2.2.1 q.2.2.2
theorem x_ckA_ok {cl : List vw_C} {MT : List xM} {Ch : Nat → List Jvm.Cond} {Ts NX : List Jvm.Cond} (hch : x_chs Ch Ts) (hcn : x_chn Ch NX) {own : String} {A : xA} (h : x_ckA cl MT Ch own A = true) : ∀ q ∈ (x_plain A).flatten, x_okL cl MT Ts NX own q.1 q.2 := by
  intro q hq
  obtain ⟨d, hd, hqd⟩ := List.mem_flatten.mp hq
  obtain ⟨d0, hd0, rfl⟩ := List.mem_map.mp hd
  obtain ⟨a, ha, rfl⟩ := List.mem_map.mp hqd
  exact x_ckL_ok hch hcn (List.all_eq_true.mp h a (List.mem_flatten.mpr ⟨d0, hd0, ha⟩))
def x_ckC (Ts : Nat → List Jvm.Cond) (C : String) (T : u_T) (N : Nat) (ixs : List Nat) (ii ij : Nat) : Bool := decide (ixs.length = N) && (((List.range N).all fun k => x_has Ts (ixs.getD k 0) (u_lay C T k)) && (x_has Ts ii (.instantiable C N) && x_has Ts ij (.initialized C)))
theorem x_ckC_ok {Ch : Nat → List Jvm.Cond} {Ts : List Jvm.Cond} (hch : x_chs Ch Ts) {C : String} {T : u_T} {N : Nat} {ixs : List Nat} {ii ij : Nat} (h : x_ckC Ch C T N ixs ii ij = true) : (∀ w ∈ u_ws C T N, w ∈ Ts) ∧ Cond.instantiable C N ∈ Ts ∧ Cond.initialized C ∈ Ts := by
  unfold x_ckC at h
  simp only [Bool.and_eq_true] at h
  obtain ⟨-, h1, h2, h3⟩ := h
  refine ⟨fun w hw => ?_, x_has_ok hch h2, x_has_ok hch h3⟩
  obtain ⟨k, hk, rfl⟩ := List.mem_map.mp hw
  exact x_has_ok hch (List.all_eq_true.mp h1 k hk)
end
