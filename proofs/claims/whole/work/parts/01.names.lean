-- ===== PART A: goes FIRST, ahead of the names: the tables' words, and 'selects' of the private methods out of them =====
/-- a private method of a class that the tables say can be made, by its rows of tables_1 -/
def lw_okq (q : MethodName × Nat) : Prop := (q.1.cls ≠ "java/lang/invoke/MethodHandle" ∧ q.1.cls ≠ "java/lang/invoke/VarHandle") ∧ Cond.instantiable q.1.cls q.2 ∈ tables_1 ∧ Cond.privateMethod q.1 ∈ tables_1 ∧ Cond.instanceMethod q.1 ∈ tables_1
theorem lw_p0 : lw_okq (⟨"OfficeTables$Tape", "putByte", "(IB)V"⟩, 2) := ⟨⟨by decide +kernel, by decide +kernel⟩, List.mem_of_getElem? (i := 22) (by decide +kernel), List.mem_of_getElem? (i := 281) (by decide +kernel), List.mem_of_getElem? (i := 282) (by decide +kernel)⟩
theorem lw_p1 : lw_okq (⟨"OfficeTables$Tokens", "skipBlanks", "()V"⟩, 5) := ⟨⟨by decide +kernel, by decide +kernel⟩, List.mem_of_getElem? (i := 43) (by decide +kernel), List.mem_of_getElem? (i := 301) (by decide +kernel), List.mem_of_getElem? (i := 302) (by decide +kernel)⟩
theorem lw_p2 : lw_okq (⟨"OfficeTables$Tokens", "takeDigits", "()I"⟩, 5) := ⟨⟨by decide +kernel, by decide +kernel⟩, List.mem_of_getElem? (i := 43) (by decide +kernel), List.mem_of_getElem? (i := 312) (by decide +kernel), List.mem_of_getElem? (i := 313) (by decide +kernel)⟩
theorem lw_p3 : lw_okq (⟨"OfficeTables$Tokens", "takeLetters", "()I"⟩, 5) := ⟨⟨by decide +kernel, by decide +kernel⟩, List.mem_of_getElem? (i := 43) (by decide +kernel), List.mem_of_getElem? (i := 320) (by decide +kernel), List.mem_of_getElem? (i := 321) (by decide +kernel)⟩
theorem lw_p4 : lw_okq (⟨"OfficeTables$TextReader", "takeTable", "(LOfficeTables$Text;LOfficeTables$Table;)Z"⟩, 5) := ⟨⟨by decide +kernel, by decide +kernel⟩, List.mem_of_getElem? (i := 37) (by decide +kernel), List.mem_of_getElem? (i := 339) (by decide +kernel), List.mem_of_getElem? (i := 340) (by decide +kernel)⟩
theorem lw_p5 : lw_okq (⟨"OfficeTables$TextReader", "expect", "(I)Z"⟩, 5) := ⟨⟨by decide +kernel, by decide +kernel⟩, List.mem_of_getElem? (i := 37) (by decide +kernel), List.mem_of_getElem? (i := 343) (by decide +kernel), List.mem_of_getElem? (i := 344) (by decide +kernel)⟩
theorem lw_p6 : lw_okq (⟨"OfficeTables$TextReader", "faultHere", "()Z"⟩, 5) := ⟨⟨by decide +kernel, by decide +kernel⟩, List.mem_of_getElem? (i := 37) (by decide +kernel), List.mem_of_getElem? (i := 347) (by decide +kernel), List.mem_of_getElem? (i := 348) (by decide +kernel)⟩
theorem lw_p7 : lw_okq (⟨"OfficeTables$TextReader", "noteNameFault", "(I)V"⟩, 5) := ⟨⟨by decide +kernel, by decide +kernel⟩, List.mem_of_getElem? (i := 37) (by decide +kernel), List.mem_of_getElem? (i := 357) (by decide +kernel), List.mem_of_getElem? (i := 358) (by decide +kernel)⟩
theorem lw_p8 : lw_okq (⟨"OfficeTables$TextReader", "takeSize", "(LOfficeTables$Text;LOfficeTables$Table;)Z"⟩, 5) := ⟨⟨by decide +kernel, by decide +kernel⟩, List.mem_of_getElem? (i := 37) (by decide +kernel), List.mem_of_getElem? (i := 365) (by decide +kernel), List.mem_of_getElem? (i := 366) (by decide +kernel)⟩
theorem lw_p9 : lw_okq (⟨"OfficeTables$TextReader", "sizeToldAhead", "(LOfficeTables$Text;)J"⟩, 5) := ⟨⟨by decide +kernel, by decide +kernel⟩, List.mem_of_getElem? (i := 37) (by decide +kernel), List.mem_of_getElem? (i := 369) (by decide +kernel), List.mem_of_getElem? (i := 370) (by decide +kernel)⟩
theorem lw_p10 : lw_okq (⟨"OfficeTables$TextReader", "takeManner", "(LOfficeTables$Table;)Z"⟩, 5) := ⟨⟨by decide +kernel, by decide +kernel⟩, List.mem_of_getElem? (i := 37) (by decide +kernel), List.mem_of_getElem? (i := 381) (by decide +kernel), List.mem_of_getElem? (i := 382) (by decide +kernel)⟩
theorem lw_p11 : lw_okq (⟨"OfficeTables$TextReader", "takeSum", "(I)Z"⟩, 5) := ⟨⟨by decide +kernel, by decide +kernel⟩, List.mem_of_getElem? (i := 37) (by decide +kernel), List.mem_of_getElem? (i := 385) (by decide +kernel), List.mem_of_getElem? (i := 386) (by decide +kernel)⟩
theorem lw_p12 : lw_okq (⟨"OfficeTables$TextReader", "takeProduct", "(I)Z"⟩, 5) := ⟨⟨by decide +kernel, by decide +kernel⟩, List.mem_of_getElem? (i := 37) (by decide +kernel), List.mem_of_getElem? (i := 389) (by decide +kernel), List.mem_of_getElem? (i := 390) (by decide +kernel)⟩
theorem lw_p13 : lw_okq (⟨"OfficeTables$TextReader", "takeUnit", "(I)Z"⟩, 5) := ⟨⟨by decide +kernel, by decide +kernel⟩, List.mem_of_getElem? (i := 37) (by decide +kernel), List.mem_of_getElem? (i := 393) (by decide +kernel), List.mem_of_getElem? (i := 394) (by decide +kernel)⟩
theorem lw_p14 : lw_okq (⟨"OfficeTables$TextReader", "addStep", "(IJI)V"⟩, 5) := ⟨⟨by decide +kernel, by decide +kernel⟩, List.mem_of_getElem? (i := 37) (by decide +kernel), List.mem_of_getElem? (i := 397) (by decide +kernel), List.mem_of_getElem? (i := 398) (by decide +kernel)⟩
theorem lw_p15 : lw_okq (⟨"OfficeTables$TextReader", "takeEntry", "(I)Z"⟩, 5) := ⟨⟨by decide +kernel, by decide +kernel⟩, List.mem_of_getElem? (i := 37) (by decide +kernel), List.mem_of_getElem? (i := 411) (by decide +kernel), List.mem_of_getElem? (i := 412) (by decide +kernel)⟩
def lw_privs_1 : List (MethodName × Nat) := [(⟨"OfficeTables$Tape", "putByte", "(IB)V"⟩, 2), (⟨"OfficeTables$Tokens", "skipBlanks", "()V"⟩, 5), (⟨"OfficeTables$Tokens", "takeDigits", "()I"⟩, 5), (⟨"OfficeTables$Tokens", "takeLetters", "()I"⟩, 5), (⟨"OfficeTables$TextReader", "takeTable", "(LOfficeTables$Text;LOfficeTables$Table;)Z"⟩, 5), (⟨"OfficeTables$TextReader", "expect", "(I)Z"⟩, 5), (⟨"OfficeTables$TextReader", "faultHere", "()Z"⟩, 5), (⟨"OfficeTables$TextReader", "noteNameFault", "(I)V"⟩, 5), (⟨"OfficeTables$TextReader", "takeSize", "(LOfficeTables$Text;LOfficeTables$Table;)Z"⟩, 5), (⟨"OfficeTables$TextReader", "sizeToldAhead", "(LOfficeTables$Text;)J"⟩, 5), (⟨"OfficeTables$TextReader", "takeManner", "(LOfficeTables$Table;)Z"⟩, 5), (⟨"OfficeTables$TextReader", "takeSum", "(I)Z"⟩, 5), (⟨"OfficeTables$TextReader", "takeProduct", "(I)Z"⟩, 5), (⟨"OfficeTables$TextReader", "takeUnit", "(I)Z"⟩, 5), (⟨"OfficeTables$TextReader", "addStep", "(IJI)V"⟩, 5), (⟨"OfficeTables$TextReader", "takeEntry", "(I)Z"⟩, 5)]
theorem lw_r1 : ∀ q ∈ lw_privs_1, lw_okq q := List.forall_mem_cons.mpr ⟨lw_p0, List.forall_mem_cons.mpr ⟨lw_p1, List.forall_mem_cons.mpr ⟨lw_p2, List.forall_mem_cons.mpr ⟨lw_p3, List.forall_mem_cons.mpr ⟨lw_p4, List.forall_mem_cons.mpr ⟨lw_p5, List.forall_mem_cons.mpr ⟨lw_p6, List.forall_mem_cons.mpr ⟨lw_p7, List.forall_mem_cons.mpr ⟨lw_p8, List.forall_mem_cons.mpr ⟨lw_p9, List.forall_mem_cons.mpr ⟨lw_p10, List.forall_mem_cons.mpr ⟨lw_p11, List.forall_mem_cons.mpr ⟨lw_p12, List.forall_mem_cons.mpr ⟨lw_p13, List.forall_mem_cons.mpr ⟨lw_p14, List.forall_mem_cons.mpr ⟨lw_p15, fun _ h => absurd h List.not_mem_nil⟩⟩⟩⟩⟩⟩⟩⟩⟩⟩⟩⟩⟩⟩⟩⟩
theorem lw_p16 : lw_okq (⟨"OfficeTables$TextReader", "takeGroup", "(I)Z"⟩, 5) := ⟨⟨by decide +kernel, by decide +kernel⟩, List.mem_of_getElem? (i := 37) (by decide +kernel), List.mem_of_getElem? (i := 415) (by decide +kernel), List.mem_of_getElem? (i := 416) (by decide +kernel)⟩
theorem lw_p17 : lw_okq (⟨"OfficeTables$TextReader", "takeChoice", "(I)Z"⟩, 5) := ⟨⟨by decide +kernel, by decide +kernel⟩, List.mem_of_getElem? (i := 37) (by decide +kernel), List.mem_of_getElem? (i := 419) (by decide +kernel), List.mem_of_getElem? (i := 420) (by decide +kernel)⟩
theorem lw_p18 : lw_okq (⟨"OfficeTables$TextReader", "takeEnd", "(LOfficeTables$Table;)Z"⟩, 5) := ⟨⟨by decide +kernel, by decide +kernel⟩, List.mem_of_getElem? (i := 37) (by decide +kernel), List.mem_of_getElem? (i := 430) (by decide +kernel), List.mem_of_getElem? (i := 431) (by decide +kernel)⟩
theorem lw_p19 : lw_okq (⟨"OfficeTables$TextReader", "resolveNames", "(LOfficeTables$Text;)V"⟩, 5) := ⟨⟨by decide +kernel, by decide +kernel⟩, List.mem_of_getElem? (i := 37) (by decide +kernel), List.mem_of_getElem? (i := 434) (by decide +kernel), List.mem_of_getElem? (i := 435) (by decide +kernel)⟩
theorem lw_p20 : lw_okq (⟨"OfficeTables$TextReader", "resolveNamesIn", "(LOfficeTables$Formula;LOfficeTables$Text;)V"⟩, 5) := ⟨⟨by decide +kernel, by decide +kernel⟩, List.mem_of_getElem? (i := 37) (by decide +kernel), List.mem_of_getElem? (i := 438) (by decide +kernel), List.mem_of_getElem? (i := 439) (by decide +kernel)⟩
theorem lw_p21 : lw_okq (⟨"OfficeTables$Workshop", "ask", "(IJI)Z"⟩, 12) := ⟨⟨by decide +kernel, by decide +kernel⟩, List.mem_of_getElem? (i := 179) (by decide +kernel), List.mem_of_getElem? (i := 535) (by decide +kernel), List.mem_of_getElem? (i := 536) (by decide +kernel)⟩
theorem lw_p22 : lw_okq (⟨"OfficeTables$Workshop", "awaken", "(LOfficeTables$Table;II)Z"⟩, 12) := ⟨⟨by decide +kernel, by decide +kernel⟩, List.mem_of_getElem? (i := 179) (by decide +kernel), List.mem_of_getElem? (i := 540) (by decide +kernel), List.mem_of_getElem? (i := 541) (by decide +kernel)⟩
theorem lw_p23 : lw_okq (⟨"OfficeTables$Workshop", "fail", "(I)Z"⟩, 12) := ⟨⟨by decide +kernel, by decide +kernel⟩, List.mem_of_getElem? (i := 179) (by decide +kernel), List.mem_of_getElem? (i := 544) (by decide +kernel), List.mem_of_getElem? (i := 545) (by decide +kernel)⟩
theorem lw_p24 : lw_okq (⟨"OfficeTables$Workshop", "addReason", "(I)V"⟩, 12) := ⟨⟨by decide +kernel, by decide +kernel⟩, List.mem_of_getElem? (i := 179) (by decide +kernel), List.mem_of_getElem? (i := 548) (by decide +kernel), List.mem_of_getElem? (i := 549) (by decide +kernel)⟩
theorem lw_p25 : lw_okq (⟨"OfficeTables$Workshop", "wake", "(LOfficeTables$Table;II)Z"⟩, 12) := ⟨⟨by decide +kernel, by decide +kernel⟩, List.mem_of_getElem? (i := 179) (by decide +kernel), List.mem_of_getElem? (i := 553) (by decide +kernel), List.mem_of_getElem? (i := 554) (by decide +kernel)⟩
theorem lw_p26 : lw_okq (⟨"OfficeTables$Workshop", "layOut", "(LOfficeTables$Table;)Z"⟩, 12) := ⟨⟨by decide +kernel, by decide +kernel⟩, List.mem_of_getElem? (i := 179) (by decide +kernel), List.mem_of_getElem? (i := 563) (by decide +kernel), List.mem_of_getElem? (i := 564) (by decide +kernel)⟩
theorem lw_p27 : lw_okq (⟨"OfficeTables$Workshop", "fill", "(LOfficeTables$Table;I)Z"⟩, 12) := ⟨⟨by decide +kernel, by decide +kernel⟩, List.mem_of_getElem? (i := 179) (by decide +kernel), List.mem_of_getElem? (i := 572) (by decide +kernel), List.mem_of_getElem? (i := 573) (by decide +kernel)⟩
theorem lw_p28 : lw_okq (⟨"OfficeTables$Workshop", "makeEntries", "(LOfficeTables$Table;III)Z"⟩, 12) := ⟨⟨by decide +kernel, by decide +kernel⟩, List.mem_of_getElem? (i := 179) (by decide +kernel), List.mem_of_getElem? (i := 577) (by decide +kernel), List.mem_of_getElem? (i := 578) (by decide +kernel)⟩
theorem lw_p29 : lw_okq (⟨"OfficeTables$Workshop", "workOut", "(LOfficeTables$Formula;II)Z"⟩, 12) := ⟨⟨by decide +kernel, by decide +kernel⟩, List.mem_of_getElem? (i := 179) (by decide +kernel), List.mem_of_getElem? (i := 581) (by decide +kernel), List.mem_of_getElem? (i := 582) (by decide +kernel)⟩
theorem lw_p30 : lw_okq (⟨"OfficeTables$Workshop", "push", "(J)V"⟩, 12) := ⟨⟨by decide +kernel, by decide +kernel⟩, List.mem_of_getElem? (i := 179) (by decide +kernel), List.mem_of_getElem? (i := 590) (by decide +kernel), List.mem_of_getElem? (i := 591) (by decide +kernel)⟩
theorem lw_p31 : lw_okq (⟨"OfficeTables$Workshop", "pop", "()J"⟩, 12) := ⟨⟨by decide +kernel, by decide +kernel⟩, List.mem_of_getElem? (i := 179) (by decide +kernel), List.mem_of_getElem? (i := 596) (by decide +kernel), List.mem_of_getElem? (i := 597) (by decide +kernel)⟩
def lw_privs_2 : List (MethodName × Nat) := [(⟨"OfficeTables$TextReader", "takeGroup", "(I)Z"⟩, 5), (⟨"OfficeTables$TextReader", "takeChoice", "(I)Z"⟩, 5), (⟨"OfficeTables$TextReader", "takeEnd", "(LOfficeTables$Table;)Z"⟩, 5), (⟨"OfficeTables$TextReader", "resolveNames", "(LOfficeTables$Text;)V"⟩, 5), (⟨"OfficeTables$TextReader", "resolveNamesIn", "(LOfficeTables$Formula;LOfficeTables$Text;)V"⟩, 5), (⟨"OfficeTables$Workshop", "ask", "(IJI)Z"⟩, 12), (⟨"OfficeTables$Workshop", "awaken", "(LOfficeTables$Table;II)Z"⟩, 12), (⟨"OfficeTables$Workshop", "fail", "(I)Z"⟩, 12), (⟨"OfficeTables$Workshop", "addReason", "(I)V"⟩, 12), (⟨"OfficeTables$Workshop", "wake", "(LOfficeTables$Table;II)Z"⟩, 12), (⟨"OfficeTables$Workshop", "layOut", "(LOfficeTables$Table;)Z"⟩, 12), (⟨"OfficeTables$Workshop", "fill", "(LOfficeTables$Table;I)Z"⟩, 12), (⟨"OfficeTables$Workshop", "makeEntries", "(LOfficeTables$Table;III)Z"⟩, 12), (⟨"OfficeTables$Workshop", "workOut", "(LOfficeTables$Formula;II)Z"⟩, 12), (⟨"OfficeTables$Workshop", "push", "(J)V"⟩, 12), (⟨"OfficeTables$Workshop", "pop", "()J"⟩, 12)]
theorem lw_r2 : ∀ q ∈ lw_privs_2, lw_okq q := List.forall_mem_cons.mpr ⟨lw_p16, List.forall_mem_cons.mpr ⟨lw_p17, List.forall_mem_cons.mpr ⟨lw_p18, List.forall_mem_cons.mpr ⟨lw_p19, List.forall_mem_cons.mpr ⟨lw_p20, List.forall_mem_cons.mpr ⟨lw_p21, List.forall_mem_cons.mpr ⟨lw_p22, List.forall_mem_cons.mpr ⟨lw_p23, List.forall_mem_cons.mpr ⟨lw_p24, List.forall_mem_cons.mpr ⟨lw_p25, List.forall_mem_cons.mpr ⟨lw_p26, List.forall_mem_cons.mpr ⟨lw_p27, List.forall_mem_cons.mpr ⟨lw_p28, List.forall_mem_cons.mpr ⟨lw_p29, List.forall_mem_cons.mpr ⟨lw_p30, List.forall_mem_cons.mpr ⟨lw_p31, fun _ h => absurd h List.not_mem_nil⟩⟩⟩⟩⟩⟩⟩⟩⟩⟩⟩⟩⟩⟩⟩⟩
theorem lw_p32 : lw_okq (⟨"OfficeTables$Workshop", "workOutPair", "(I)Z"⟩, 12) := ⟨⟨by decide +kernel, by decide +kernel⟩, List.mem_of_getElem? (i := 179) (by decide +kernel), List.mem_of_getElem? (i := 608) (by decide +kernel), List.mem_of_getElem? (i := 609) (by decide +kernel)⟩
theorem lw_p33 : lw_okq (⟨"OfficeTables$Workshop", "makeRow", "(LOfficeTables$Table;III)Z"⟩, 12) := ⟨⟨by decide +kernel, by decide +kernel⟩, List.mem_of_getElem? (i := 179) (by decide +kernel), List.mem_of_getElem? (i := 613) (by decide +kernel), List.mem_of_getElem? (i := 614) (by decide +kernel)⟩
theorem lw_p34 : lw_okq (⟨"OfficeTables$Workshop", "failWithReason", "()Z"⟩, 12) := ⟨⟨by decide +kernel, by decide +kernel⟩, List.mem_of_getElem? (i := 179) (by decide +kernel), List.mem_of_getElem? (i := 624) (by decide +kernel), List.mem_of_getElem? (i := 625) (by decide +kernel)⟩
theorem lw_p35 : lw_okq (⟨"OfficeTables$Workshop", "keepsPromise", "(LOfficeTables$Table;)Z"⟩, 12) := ⟨⟨by decide +kernel, by decide +kernel⟩, List.mem_of_getElem? (i := 179) (by decide +kernel), List.mem_of_getElem? (i := 628) (by decide +kernel), List.mem_of_getElem? (i := 629) (by decide +kernel)⟩
theorem lw_p36 : lw_okq (⟨"OfficeTables$Workshop", "awakenRow", "(LOfficeTables$Table;III)Z"⟩, 12) := ⟨⟨by decide +kernel, by decide +kernel⟩, List.mem_of_getElem? (i := 179) (by decide +kernel), List.mem_of_getElem? (i := 645) (by decide +kernel), List.mem_of_getElem? (i := 646) (by decide +kernel)⟩
theorem lw_p37 : lw_okq (⟨"OfficeTablesModel", "cutUp", "()V"⟩, 66) := ⟨⟨by decide +kernel, by decide +kernel⟩, List.mem_of_getElem? (i := 739) (by decide +kernel), List.mem_of_getElem? (i := 958) (by decide +kernel), List.mem_of_getElem? (i := 959) (by decide +kernel)⟩
theorem lw_p38 : lw_okq (⟨"OfficeTablesModel", "at", "(I)I"⟩, 66) := ⟨⟨by decide +kernel, by decide +kernel⟩, List.mem_of_getElem? (i := 739) (by decide +kernel), List.mem_of_getElem? (i := 962) (by decide +kernel), List.mem_of_getElem? (i := 963) (by decide +kernel)⟩
theorem lw_p39 : lw_okq (⟨"OfficeTablesModel", "addToken", "(IIJ)V"⟩, 66) := ⟨⟨by decide +kernel, by decide +kernel⟩, List.mem_of_getElem? (i := 739) (by decide +kernel), List.mem_of_getElem? (i := 977) (by decide +kernel), List.mem_of_getElem? (i := 978) (by decide +kernel)⟩
theorem lw_p40 : lw_okq (⟨"OfficeTablesModel", "readTable", "()V"⟩, 66) := ⟨⟨by decide +kernel, by decide +kernel⟩, List.mem_of_getElem? (i := 739) (by decide +kernel), List.mem_of_getElem? (i := 989) (by decide +kernel), List.mem_of_getElem? (i := 990) (by decide +kernel)⟩
theorem lw_p41 : lw_okq (⟨"OfficeTablesModel", "must", "(Z)Z"⟩, 66) := ⟨⟨by decide +kernel, by decide +kernel⟩, List.mem_of_getElem? (i := 739) (by decide +kernel), List.mem_of_getElem? (i := 993) (by decide +kernel), List.mem_of_getElem? (i := 994) (by decide +kernel)⟩
theorem lw_p42 : lw_okq (⟨"OfficeTablesModel", "take", "(I)Z"⟩, 66) := ⟨⟨by decide +kernel, by decide +kernel⟩, List.mem_of_getElem? (i := 739) (by decide +kernel), List.mem_of_getElem? (i := 997) (by decide +kernel), List.mem_of_getElem? (i := 998) (by decide +kernel)⟩
theorem lw_p43 : lw_okq (⟨"OfficeTablesModel", "readSize", "()V"⟩, 66) := ⟨⟨by decide +kernel, by decide +kernel⟩, List.mem_of_getElem? (i := 739) (by decide +kernel), List.mem_of_getElem? (i := 1001) (by decide +kernel), List.mem_of_getElem? (i := 1002) (by decide +kernel)⟩
theorem lw_p44 : lw_okq (⟨"OfficeTablesModel", "use", "(Z)V"⟩, 66) := ⟨⟨by decide +kernel, by decide +kernel⟩, List.mem_of_getElem? (i := 739) (by decide +kernel), List.mem_of_getElem? (i := 1005) (by decide +kernel), List.mem_of_getElem? (i := 1006) (by decide +kernel)⟩
theorem lw_p45 : lw_okq (⟨"OfficeTablesModel", "readSum", "()V"⟩, 66) := ⟨⟨by decide +kernel, by decide +kernel⟩, List.mem_of_getElem? (i := 739) (by decide +kernel), List.mem_of_getElem? (i := 1010) (by decide +kernel), List.mem_of_getElem? (i := 1011) (by decide +kernel)⟩
theorem lw_p46 : lw_okq (⟨"OfficeTablesModel", "readUnit", "()V"⟩, 66) := ⟨⟨by decide +kernel, by decide +kernel⟩, List.mem_of_getElem? (i := 739) (by decide +kernel), List.mem_of_getElem? (i := 1014) (by decide +kernel), List.mem_of_getElem? (i := 1015) (by decide +kernel)⟩
theorem lw_p47 : lw_okq (⟨"OfficeTablesModel", "emit", "(IJ)V"⟩, 66) := ⟨⟨by decide +kernel, by decide +kernel⟩, List.mem_of_getElem? (i := 739) (by decide +kernel), List.mem_of_getElem? (i := 1018) (by decide +kernel), List.mem_of_getElem? (i := 1019) (by decide +kernel)⟩
def lw_privs_3 : List (MethodName × Nat) := [(⟨"OfficeTables$Workshop", "workOutPair", "(I)Z"⟩, 12), (⟨"OfficeTables$Workshop", "makeRow", "(LOfficeTables$Table;III)Z"⟩, 12), (⟨"OfficeTables$Workshop", "failWithReason", "()Z"⟩, 12), (⟨"OfficeTables$Workshop", "keepsPromise", "(LOfficeTables$Table;)Z"⟩, 12), (⟨"OfficeTables$Workshop", "awakenRow", "(LOfficeTables$Table;III)Z"⟩, 12), (⟨"OfficeTablesModel", "cutUp", "()V"⟩, 66), (⟨"OfficeTablesModel", "at", "(I)I"⟩, 66), (⟨"OfficeTablesModel", "addToken", "(IIJ)V"⟩, 66), (⟨"OfficeTablesModel", "readTable", "()V"⟩, 66), (⟨"OfficeTablesModel", "must", "(Z)Z"⟩, 66), (⟨"OfficeTablesModel", "take", "(I)Z"⟩, 66), (⟨"OfficeTablesModel", "readSize", "()V"⟩, 66), (⟨"OfficeTablesModel", "use", "(Z)V"⟩, 66), (⟨"OfficeTablesModel", "readSum", "()V"⟩, 66), (⟨"OfficeTablesModel", "readUnit", "()V"⟩, 66), (⟨"OfficeTablesModel", "emit", "(IJ)V"⟩, 66)]
theorem lw_r3 : ∀ q ∈ lw_privs_3, lw_okq q := List.forall_mem_cons.mpr ⟨lw_p32, List.forall_mem_cons.mpr ⟨lw_p33, List.forall_mem_cons.mpr ⟨lw_p34, List.forall_mem_cons.mpr ⟨lw_p35, List.forall_mem_cons.mpr ⟨lw_p36, List.forall_mem_cons.mpr ⟨lw_p37, List.forall_mem_cons.mpr ⟨lw_p38, List.forall_mem_cons.mpr ⟨lw_p39, List.forall_mem_cons.mpr ⟨lw_p40, List.forall_mem_cons.mpr ⟨lw_p41, List.forall_mem_cons.mpr ⟨lw_p42, List.forall_mem_cons.mpr ⟨lw_p43, List.forall_mem_cons.mpr ⟨lw_p44, List.forall_mem_cons.mpr ⟨lw_p45, List.forall_mem_cons.mpr ⟨lw_p46, List.forall_mem_cons.mpr ⟨lw_p47, fun _ h => absurd h List.not_mem_nil⟩⟩⟩⟩⟩⟩⟩⟩⟩⟩⟩⟩⟩⟩⟩⟩
theorem lw_p48 : lw_okq (⟨"OfficeTablesModel", "push", "(II)V"⟩, 66) := ⟨⟨by decide +kernel, by decide +kernel⟩, List.mem_of_getElem? (i := 739) (by decide +kernel), List.mem_of_getElem? (i := 1022) (by decide +kernel), List.mem_of_getElem? (i := 1023) (by decide +kernel)⟩
theorem lw_p49 : lw_okq (⟨"OfficeTablesModel", "endUnit", "()V"⟩, 66) := ⟨⟨by decide +kernel, by decide +kernel⟩, List.mem_of_getElem? (i := 739) (by decide +kernel), List.mem_of_getElem? (i := 1026) (by decide +kernel), List.mem_of_getElem? (i := 1027) (by decide +kernel)⟩
theorem lw_p50 : lw_okq (⟨"OfficeTablesModel", "top", "()I"⟩, 66) := ⟨⟨by decide +kernel, by decide +kernel⟩, List.mem_of_getElem? (i := 739) (by decide +kernel), List.mem_of_getElem? (i := 1030) (by decide +kernel), List.mem_of_getElem? (i := 1031) (by decide +kernel)⟩
theorem lw_p51 : lw_okq (⟨"OfficeTablesModel", "isHigh", "(I)Z"⟩, 66) := ⟨⟨by decide +kernel, by decide +kernel⟩, List.mem_of_getElem? (i := 739) (by decide +kernel), List.mem_of_getElem? (i := 1034) (by decide +kernel), List.mem_of_getElem? (i := 1035) (by decide +kernel)⟩
theorem lw_p52 : lw_okq (⟨"OfficeTablesModel", "goOn", "()Z"⟩, 66) := ⟨⟨by decide +kernel, by decide +kernel⟩, List.mem_of_getElem? (i := 739) (by decide +kernel), List.mem_of_getElem? (i := 1041) (by decide +kernel), List.mem_of_getElem? (i := 1042) (by decide +kernel)⟩
theorem lw_p53 : lw_okq (⟨"OfficeTablesModel", "isLow", "(I)Z"⟩, 66) := ⟨⟨by decide +kernel, by decide +kernel⟩, List.mem_of_getElem? (i := 739) (by decide +kernel), List.mem_of_getElem? (i := 1045) (by decide +kernel), List.mem_of_getElem? (i := 1046) (by decide +kernel)⟩
theorem lw_p54 : lw_okq (⟨"OfficeTablesModel", "endLow", "()V"⟩, 66) := ⟨⟨by decide +kernel, by decide +kernel⟩, List.mem_of_getElem? (i := 739) (by decide +kernel), List.mem_of_getElem? (i := 1049) (by decide +kernel), List.mem_of_getElem? (i := 1050) (by decide +kernel)⟩
theorem lw_p55 : lw_okq (⟨"OfficeTablesModel", "checkNames", "()V"⟩, 66) := ⟨⟨by decide +kernel, by decide +kernel⟩, List.mem_of_getElem? (i := 739) (by decide +kernel), List.mem_of_getElem? (i := 1053) (by decide +kernel), List.mem_of_getElem? (i := 1054) (by decide +kernel)⟩
theorem lw_p56 : lw_okq (⟨"OfficeTablesModel", "tableOf", "(JI)I"⟩, 66) := ⟨⟨by decide +kernel, by decide +kernel⟩, List.mem_of_getElem? (i := 739) (by decide +kernel), List.mem_of_getElem? (i := 1057) (by decide +kernel), List.mem_of_getElem? (i := 1058) (by decide +kernel)⟩
theorem lw_p57 : lw_okq (⟨"OfficeTablesModel", "sizeOf", "(I)J"⟩, 66) := ⟨⟨by decide +kernel, by decide +kernel⟩, List.mem_of_getElem? (i := 739) (by decide +kernel), List.mem_of_getElem? (i := 1061) (by decide +kernel), List.mem_of_getElem? (i := 1062) (by decide +kernel)⟩
theorem lw_p58 : lw_okq (⟨"OfficeTablesModel", "isTable", "(I)Z"⟩, 66) := ⟨⟨by decide +kernel, by decide +kernel⟩, List.mem_of_getElem? (i := 739) (by decide +kernel), List.mem_of_getElem? (i := 1073) (by decide +kernel), List.mem_of_getElem? (i := 1074) (by decide +kernel)⟩
theorem lw_p59 : lw_okq (⟨"OfficeTablesModel", "rowsOf", "(I)I"⟩, 66) := ⟨⟨by decide +kernel, by decide +kernel⟩, List.mem_of_getElem? (i := 739) (by decide +kernel), List.mem_of_getElem? (i := 1088) (by decide +kernel), List.mem_of_getElem? (i := 1089) (by decide +kernel)⟩
theorem lw_p60 : lw_okq (⟨"OfficeTablesModel", "get", "(IJZ)Z"⟩, 66) := ⟨⟨by decide +kernel, by decide +kernel⟩, List.mem_of_getElem? (i := 739) (by decide +kernel), List.mem_of_getElem? (i := 1096) (by decide +kernel), List.mem_of_getElem? (i := 1097) (by decide +kernel)⟩
theorem lw_p61 : lw_okq (⟨"OfficeTablesModel", "goOne", "()I"⟩, 66) := ⟨⟨by decide +kernel, by decide +kernel⟩, List.mem_of_getElem? (i := 739) (by decide +kernel), List.mem_of_getElem? (i := 1100) (by decide +kernel), List.mem_of_getElem? (i := 1101) (by decide +kernel)⟩
theorem lw_p62 : lw_okq (⟨"OfficeTablesModel", "step", "(I)I"⟩, 66) := ⟨⟨by decide +kernel, by decide +kernel⟩, List.mem_of_getElem? (i := 739) (by decide +kernel), List.mem_of_getElem? (i := 1104) (by decide +kernel), List.mem_of_getElem? (i := 1105) (by decide +kernel)⟩
theorem lw_p63 : lw_okq (⟨"OfficeTablesModel", "putTop", "(IJ)V"⟩, 66) := ⟨⟨by decide +kernel, by decide +kernel⟩, List.mem_of_getElem? (i := 739) (by decide +kernel), List.mem_of_getElem? (i := 1108) (by decide +kernel), List.mem_of_getElem? (i := 1109) (by decide +kernel)⟩
def lw_privs_4 : List (MethodName × Nat) := [(⟨"OfficeTablesModel", "push", "(II)V"⟩, 66), (⟨"OfficeTablesModel", "endUnit", "()V"⟩, 66), (⟨"OfficeTablesModel", "top", "()I"⟩, 66), (⟨"OfficeTablesModel", "isHigh", "(I)Z"⟩, 66), (⟨"OfficeTablesModel", "goOn", "()Z"⟩, 66), (⟨"OfficeTablesModel", "isLow", "(I)Z"⟩, 66), (⟨"OfficeTablesModel", "endLow", "()V"⟩, 66), (⟨"OfficeTablesModel", "checkNames", "()V"⟩, 66), (⟨"OfficeTablesModel", "tableOf", "(JI)I"⟩, 66), (⟨"OfficeTablesModel", "sizeOf", "(I)J"⟩, 66), (⟨"OfficeTablesModel", "isTable", "(I)Z"⟩, 66), (⟨"OfficeTablesModel", "rowsOf", "(I)I"⟩, 66), (⟨"OfficeTablesModel", "get", "(IJZ)Z"⟩, 66), (⟨"OfficeTablesModel", "goOne", "()I"⟩, 66), (⟨"OfficeTablesModel", "step", "(I)I"⟩, 66), (⟨"OfficeTablesModel", "putTop", "(IJ)V"⟩, 66)]
theorem lw_r4 : ∀ q ∈ lw_privs_4, lw_okq q := List.forall_mem_cons.mpr ⟨lw_p48, List.forall_mem_cons.mpr ⟨lw_p49, List.forall_mem_cons.mpr ⟨lw_p50, List.forall_mem_cons.mpr ⟨lw_p51, List.forall_mem_cons.mpr ⟨lw_p52, List.forall_mem_cons.mpr ⟨lw_p53, List.forall_mem_cons.mpr ⟨lw_p54, List.forall_mem_cons.mpr ⟨lw_p55, List.forall_mem_cons.mpr ⟨lw_p56, List.forall_mem_cons.mpr ⟨lw_p57, List.forall_mem_cons.mpr ⟨lw_p58, List.forall_mem_cons.mpr ⟨lw_p59, List.forall_mem_cons.mpr ⟨lw_p60, List.forall_mem_cons.mpr ⟨lw_p61, List.forall_mem_cons.mpr ⟨lw_p62, List.forall_mem_cons.mpr ⟨lw_p63, fun _ h => absurd h List.not_mem_nil⟩⟩⟩⟩⟩⟩⟩⟩⟩⟩⟩⟩⟩⟩⟩⟩
theorem lw_p64 : lw_okq (⟨"OfficeTablesModel", "takeTop", "(I)J"⟩, 66) := ⟨⟨by decide +kernel, by decide +kernel⟩, List.mem_of_getElem? (i := 739) (by decide +kernel), List.mem_of_getElem? (i := 1112) (by decide +kernel), List.mem_of_getElem? (i := 1113) (by decide +kernel)⟩
theorem lw_p65 : lw_okq (⟨"OfficeTablesModel", "ask", "(IJIZ)I"⟩, 66) := ⟨⟨by decide +kernel, by decide +kernel⟩, List.mem_of_getElem? (i := 739) (by decide +kernel), List.mem_of_getElem? (i := 1116) (by decide +kernel), List.mem_of_getElem? (i := 1117) (by decide +kernel)⟩
theorem lw_p66 : lw_okq (⟨"OfficeTablesModel", "begin", "(III)I"⟩, 66) := ⟨⟨by decide +kernel, by decide +kernel⟩, List.mem_of_getElem? (i := 739) (by decide +kernel), List.mem_of_getElem? (i := 1120) (by decide +kernel), List.mem_of_getElem? (i := 1121) (by decide +kernel)⟩
theorem lw_p67 : lw_okq (⟨"OfficeTablesModel", "noteBuild", "(III)V"⟩, 66) := ⟨⟨by decide +kernel, by decide +kernel⟩, List.mem_of_getElem? (i := 739) (by decide +kernel), List.mem_of_getElem? (i := 1124) (by decide +kernel), List.mem_of_getElem? (i := 1125) (by decide +kernel)⟩
theorem lw_p68 : lw_okq (⟨"OfficeTablesModel", "half", "(IIIJ)J"⟩, 66) := ⟨⟨by decide +kernel, by decide +kernel⟩, List.mem_of_getElem? (i := 739) (by decide +kernel), List.mem_of_getElem? (i := 1129) (by decide +kernel), List.mem_of_getElem? (i := 1130) (by decide +kernel)⟩
theorem lw_p69 : lw_okq (⟨"OfficeTablesModel", "add", "(J)V"⟩, 66) := ⟨⟨by decide +kernel, by decide +kernel⟩, List.mem_of_getElem? (i := 739) (by decide +kernel), List.mem_of_getElem? (i := 1133) (by decide +kernel), List.mem_of_getElem? (i := 1134) (by decide +kernel)⟩
theorem lw_p70 : lw_okq (⟨"OfficeTablesModel", "failAll", "(I)V"⟩, 66) := ⟨⟨by decide +kernel, by decide +kernel⟩, List.mem_of_getElem? (i := 739) (by decide +kernel), List.mem_of_getElem? (i := 1138) (by decide +kernel), List.mem_of_getElem? (i := 1139) (by decide +kernel)⟩
theorem lw_p71 : lw_okq (⟨"OfficeTablesModel", "isAnswered", "(IJZ)Z"⟩, 66) := ⟨⟨by decide +kernel, by decide +kernel⟩, List.mem_of_getElem? (i := 739) (by decide +kernel), List.mem_of_getElem? (i := 1142) (by decide +kernel), List.mem_of_getElem? (i := 1143) (by decide +kernel)⟩
def lw_privs_5 : List (MethodName × Nat) := [(⟨"OfficeTablesModel", "takeTop", "(I)J"⟩, 66), (⟨"OfficeTablesModel", "ask", "(IJIZ)I"⟩, 66), (⟨"OfficeTablesModel", "begin", "(III)I"⟩, 66), (⟨"OfficeTablesModel", "noteBuild", "(III)V"⟩, 66), (⟨"OfficeTablesModel", "half", "(IIIJ)J"⟩, 66), (⟨"OfficeTablesModel", "add", "(J)V"⟩, 66), (⟨"OfficeTablesModel", "failAll", "(I)V"⟩, 66), (⟨"OfficeTablesModel", "isAnswered", "(IJZ)Z"⟩, 66)]
theorem lw_r5 : ∀ q ∈ lw_privs_5, lw_okq q := List.forall_mem_cons.mpr ⟨lw_p64, List.forall_mem_cons.mpr ⟨lw_p65, List.forall_mem_cons.mpr ⟨lw_p66, List.forall_mem_cons.mpr ⟨lw_p67, List.forall_mem_cons.mpr ⟨lw_p68, List.forall_mem_cons.mpr ⟨lw_p69, List.forall_mem_cons.mpr ⟨lw_p70, List.forall_mem_cons.mpr ⟨lw_p71, fun _ h => absurd h List.not_mem_nil⟩⟩⟩⟩⟩⟩⟩⟩
def lw_privs : List (MethodName × Nat) := lw_privs_1 ++ (lw_privs_2 ++ (lw_privs_3 ++ (lw_privs_4 ++ (lw_privs_5))))
def lw_tbl : List Cond := k2_sels lw_privs ++ tables_1
theorem lw_privs_ok : ∀ q ∈ lw_privs, lw_okq q := by
  show ∀ q ∈ lw_privs_1 ++ (lw_privs_2 ++ (lw_privs_3 ++ (lw_privs_4 ++ (lw_privs_5)))), lw_okq q
  exact List.forall_mem_append.mpr ⟨lw_r1, List.forall_mem_append.mpr ⟨lw_r2, List.forall_mem_append.mpr ⟨lw_r3, List.forall_mem_append.mpr ⟨lw_r4, lw_r5⟩⟩⟩⟩
def RX0 : String := "OfficeTables$Formula"
def TX0 : u_T := fun k => match k with
  | 0 => ("OfficeTables$Formula", "steps", "[I", true)
  | 1 => ("OfficeTables$Formula", "with", "[J", true)
  | 2 => ("OfficeTables$Formula", "places", "[I", true)
  | _ => ("OfficeTables$Formula", "length", "I", false)
def tyX0 : Nat → FieldType := fun k => match k with
  | 0 => .array .int
  | 1 => .array .long
  | 2 => .array .int
  | _ => .int
theorem nmX0 : ∀ a, a < 4 → ∀ b, b < 4 → a ≠ b → (TX0 a).2.1 ≠ (TX0 b).2.1 := by decide +kernel
theorem tyX0_ok : ∀ k, k < 4 → parseFieldDescriptor (TX0 k).2.2.1 = some (tyX0 k) := by decide +kernel
abbrev cX0_init : ByteArray := prog_2_method_1_code
def yX0_init : MethodName := ⟨RX0, "<init>", "()V"⟩
abbrev cX0_clear : ByteArray := prog_2_method_2_code
def yX0_clear : MethodName := ⟨RX0, "clear", "()V"⟩
abbrev cX0_add : ByteArray := prog_2_method_3_code
def yX0_add : MethodName := ⟨RX0, "add", "(IJI)V"⟩
abbrev cX0_skipToHere : ByteArray := prog_2_method_4_code
def yX0_skipToHere : MethodName := ⟨RX0, "skipToHere", "(I)V"⟩
abbrev cX0_stepAt : ByteArray := prog_2_method_5_code
def yX0_stepAt : MethodName := ⟨RX0, "stepAt", "(I)I"⟩
abbrev cX0_withAt : ByteArray := prog_2_method_6_code
def yX0_withAt : MethodName := ⟨RX0, "withAt", "(I)J"⟩
abbrev cX0_skipAt : ByteArray := prog_2_method_7_code
def yX0_skipAt : MethodName := ⟨RX0, "skipAt", "(I)I"⟩
abbrev cX0_isNameAt : ByteArray := prog_2_method_8_code
def yX0_isNameAt : MethodName := ⟨RX0, "isNameAt", "(I)Z"⟩
abbrev cX0_placeAt : ByteArray := prog_2_method_9_code
def yX0_placeAt : MethodName := ⟨RX0, "placeAt", "(I)I"⟩
abbrev cX0_resolve : ByteArray := prog_2_method_10_code
def yX0_resolve : MethodName := ⟨RX0, "resolve", "(II)V"⟩
abbrev cX0_names : ByteArray := prog_2_method_11_code
def yX0_names : MethodName := ⟨RX0, "names", "(I)Z"⟩
def RX1 : String := "OfficeTables$Log"
def TX1 : u_T := fun k => match k with
  | 0 => ("OfficeTables$Log", "kept", "[J", true)
  | _ => ("OfficeTables$Log", "begun", "I", false)
def tyX1 : Nat → FieldType := fun k => match k with
  | 0 => .array .long
  | _ => .int
theorem nmX1 : ∀ a, a < 2 → ∀ b, b < 2 → a ≠ b → (TX1 a).2.1 ≠ (TX1 b).2.1 := by decide +kernel
theorem tyX1_ok : ∀ k, k < 2 → parseFieldDescriptor (TX1 k).2.2.1 = some (tyX1 k) := by decide +kernel
abbrev cX1_init : ByteArray := prog_3_method_1_code
def yX1_init : MethodName := ⟨RX1, "<init>", "()V"⟩
abbrev cX1_clear : ByteArray := prog_3_method_2_code
def yX1_clear : MethodName := ⟨RX1, "clear", "()V"⟩
abbrev cX1_note : ByteArray := prog_3_method_3_code
def yX1_note : MethodName := ⟨RX1, "note", "(JJJJ)V"⟩
abbrev cX1_keeps : ByteArray := prog_3_method_4_code
def yX1_keeps : MethodName := ⟨RX1, "keeps", "(I)Z"⟩
abbrev cX1_told : ByteArray := prog_3_method_5_code
def yX1_told : MethodName := ⟨RX1, "told", "(II)J"⟩
def RX2 : String := "OfficeTables$Table"
def TX2 : u_T := fun k => match k with
  | 0 => ("OfficeTables$Table", "formula", "LOfficeTables$Formula;", true)
  | 1 => ("OfficeTables$Table", "entries", "[J", true)
  | 2 => ("OfficeTables$Table", "rowConditions", "[I", true)
  | 3 => ("OfficeTables$Table", "name", "J", false)
  | 4 => ("OfficeTables$Table", "size", "J", false)
  | 5 => ("OfficeTables$Table", "byRows", "Z", false)
  | 6 => ("OfficeTables$Table", "isPromised", "Z", false)
  | 7 => ("OfficeTables$Table", "promise", "J", false)
  | _ => ("OfficeTables$Table", "condition", "I", false)
def tyX2 : Nat → FieldType := fun k => match k with
  | 0 => .object "OfficeTables$Formula"
  | 1 => .array .long
  | 2 => .array .int
  | 3 => .long
  | 4 => .long
  | 5 => .boolean
  | 6 => .boolean
  | 7 => .long
  | _ => .int
theorem nmX2 : ∀ a, a < 9 → ∀ b, b < 9 → a ≠ b → (TX2 a).2.1 ≠ (TX2 b).2.1 := by decide +kernel
theorem tyX2_ok : ∀ k, k < 9 → parseFieldDescriptor (TX2 k).2.2.1 = some (tyX2 k) := by decide +kernel
abbrev cX2_init : ByteArray := prog_4_method_1_code
def yX2_init : MethodName := ⟨RX2, "<init>", "()V"⟩
abbrev cX2_putToSleep : ByteArray := prog_4_method_2_code
def yX2_putToSleep : MethodName := ⟨RX2, "putToSleep", "()V"⟩
abbrev cX2_entriesInAll : ByteArray := prog_4_method_3_code
def yX2_entriesInAll : MethodName := ⟨RX2, "entriesInAll", "()I"⟩
abbrev cX2_rowsInAll : ByteArray := prog_4_method_4_code
def yX2_rowsInAll : MethodName := ⟨RX2, "rowsInAll", "()I"⟩
abbrev cX2_endOfRow : ByteArray := prog_4_method_5_code
def yX2_endOfRow : MethodName := ⟨RX2, "endOfRow", "(I)I"⟩
abbrev cX2_clearEntries : ByteArray := prog_4_method_6_code
def yX2_clearEntries : MethodName := ⟨RX2, "clearEntries", "()V"⟩
abbrev cX2_readyEntries : ByteArray := prog_4_method_7_code
def yX2_readyEntries : MethodName := ⟨RX2, "readyEntries", "()I"⟩
def RX3 : String := "OfficeTables$Tape"
def TX3 : u_T := fun k => match k with
  | 0 => ("OfficeTables$Tape", "bytes", "[B", true)
  | _ => ("OfficeTables$Tape", "length", "I", false)
def tyX3 : Nat → FieldType := fun k => match k with
  | 0 => .array .byte
  | _ => .int
theorem nmX3 : ∀ a, a < 2 → ∀ b, b < 2 → a ≠ b → (TX3 a).2.1 ≠ (TX3 b).2.1 := by decide +kernel
theorem tyX3_ok : ∀ k, k < 2 → parseFieldDescriptor (TX3 k).2.2.1 = some (tyX3 k) := by decide +kernel
abbrev cX3_init : ByteArray := prog_5_method_1_code
def yX3_init : MethodName := ⟨RX3, "<init>", "()V"⟩
abbrev cX3_append : ByteArray := prog_5_method_2_code
def yX3_append : MethodName := ⟨RX3, "append", "(J)Z"⟩
abbrev cX3_bytesIn : ByteArray := prog_5_method_3_code
def yX3_bytesIn : MethodName := ⟨RX3, "bytesIn", "(J)I"⟩
abbrev cX3_putByte : ByteArray := prog_5_method_4_code
def yX3_putByte : MethodName := ⟨RX3, "putByte", "(IB)V"⟩
abbrev cX3_byteAt : ByteArray := prog_5_method_5_code
def yX3_byteAt : MethodName := ⟨RX3, "byteAt", "(I)I"⟩
abbrev cX3_empty : ByteArray := prog_5_method_6_code
def yX3_empty : MethodName := ⟨RX3, "empty", "()V"⟩
def RX4 : String := "OfficeTables$Text"
def TX4 : u_T := fun k => match k with
  | 0 => ("OfficeTables$Text", "tables", "[LOfficeTables$Table;", true)
  | _ => ("OfficeTables$Text", "told", "I", false)
def tyX4 : Nat → FieldType := fun k => match k with
  | 0 => .array (.object "OfficeTables$Table")
  | _ => .int
theorem nmX4 : ∀ a, a < 2 → ∀ b, b < 2 → a ≠ b → (TX4 a).2.1 ≠ (TX4 b).2.1 := by decide +kernel
theorem tyX4_ok : ∀ k, k < 2 → parseFieldDescriptor (TX4 k).2.2.1 = some (tyX4 k) := by decide +kernel
abbrev cX4_init : ByteArray := prog_6_method_1_code
def yX4_init : MethodName := ⟨RX4, "<init>", "()V"⟩
abbrev cX4_slotAt : ByteArray := prog_6_method_2_code
def yX4_slotAt : MethodName := ⟨RX4, "slotAt", "(I)LOfficeTables$Table;"⟩
abbrev cX4_tableAt : ByteArray := prog_6_method_3_code
def yX4_tableAt : MethodName := ⟨RX4, "tableAt", "(I)LOfficeTables$Table;"⟩
abbrev cX4_numberOf : ByteArray := prog_6_method_4_code
def yX4_numberOf : MethodName := ⟨RX4, "numberOf", "(J)I"⟩
abbrev cX4_sizeOf : ByteArray := prog_6_method_5_code
def yX4_sizeOf : MethodName := ⟨RX4, "sizeOf", "(I)J"⟩
abbrev cX4_putToSleep : ByteArray := prog_6_method_6_code
def yX4_putToSleep : MethodName := ⟨RX4, "putToSleep", "()V"⟩
abbrev cX4_howManyAre : ByteArray := prog_6_method_7_code
def yX4_howManyAre : MethodName := ⟨RX4, "howManyAre", "(I)I"⟩
abbrev cX4_readyEntries : ByteArray := prog_6_method_8_code
def yX4_readyEntries : MethodName := ⟨RX4, "readyEntries", "()I"⟩
def RX5 : String := "OfficeTables$TextReader"
def TX5 : u_T := fun k => match k with
  | 0 => ("OfficeTables$TextReader", "tokens", "LOfficeTables$Tokens;", true)
  | 1 => ("OfficeTables$TextReader", "formula", "LOfficeTables$Formula;", false)
  | 2 => ("OfficeTables$TextReader", "units", "I", false)
  | 3 => ("OfficeTables$TextReader", "fault", "I", false)
  | _ => ("OfficeTables$TextReader", "nameFault", "I", false)
def tyX5 : Nat → FieldType := fun k => match k with
  | 0 => .object "OfficeTables$Tokens"
  | 1 => .object "OfficeTables$Formula"
  | 2 => .int
  | 3 => .int
  | _ => .int
theorem nmX5 : ∀ a, a < 5 → ∀ b, b < 5 → a ≠ b → (TX5 a).2.1 ≠ (TX5 b).2.1 := by decide +kernel
theorem tyX5_ok : ∀ k, k < 5 → parseFieldDescriptor (TX5 k).2.2.1 = some (tyX5 k) := by decide +kernel
abbrev cX5_init : ByteArray := prog_7_method_1_code
def yX5_init : MethodName := ⟨RX5, "<init>", "(LOfficeTables$Tape;)V"⟩
abbrev cX5_parse : ByteArray := prog_7_method_2_code
def yX5_parse : MethodName := ⟨RX5, "parse", "(LOfficeTables$Text;)I"⟩
abbrev cX5_faultHere : ByteArray := prog_7_method_3_code
def yX5_faultHere : MethodName := ⟨RX5, "faultHere", "()Z"⟩
abbrev cX5_noteNameFault : ByteArray := prog_7_method_4_code
def yX5_noteNameFault : MethodName := ⟨RX5, "noteNameFault", "(I)V"⟩
abbrev cX5_expect : ByteArray := prog_7_method_5_code
def yX5_expect : MethodName := ⟨RX5, "expect", "(I)Z"⟩
abbrev cX5_takeTable : ByteArray := prog_7_method_6_code
def yX5_takeTable : MethodName := ⟨RX5, "takeTable", "(LOfficeTables$Text;LOfficeTables$Table;)Z"⟩
abbrev cX5_takeSize : ByteArray := prog_7_method_7_code
def yX5_takeSize : MethodName := ⟨RX5, "takeSize", "(LOfficeTables$Text;LOfficeTables$Table;)Z"⟩
abbrev cX5_sizeToldAhead : ByteArray := prog_7_method_8_code
def yX5_sizeToldAhead : MethodName := ⟨RX5, "sizeToldAhead", "(LOfficeTables$Text;)J"⟩
abbrev cX5_takeManner : ByteArray := prog_7_method_9_code
def yX5_takeManner : MethodName := ⟨RX5, "takeManner", "(LOfficeTables$Table;)Z"⟩
abbrev cX5_takeEnd : ByteArray := prog_7_method_10_code
def yX5_takeEnd : MethodName := ⟨RX5, "takeEnd", "(LOfficeTables$Table;)Z"⟩
abbrev cX5_addStep : ByteArray := prog_7_method_11_code
def yX5_addStep : MethodName := ⟨RX5, "addStep", "(IJI)V"⟩
abbrev cX5_takeSum : ByteArray := prog_7_method_12_code
def yX5_takeSum : MethodName := ⟨RX5, "takeSum", "(I)Z"⟩
abbrev cX5_takeProduct : ByteArray := prog_7_method_13_code
def yX5_takeProduct : MethodName := ⟨RX5, "takeProduct", "(I)Z"⟩
abbrev cX5_isProductSign : ByteArray := prog_7_method_14_code
def yX5_isProductSign : MethodName := ⟨RX5, "isProductSign", "(I)Z"⟩
abbrev cX5_takeUnit : ByteArray := prog_7_method_15_code
def yX5_takeUnit : MethodName := ⟨RX5, "takeUnit", "(I)Z"⟩
abbrev cX5_takeEntry : ByteArray := prog_7_method_16_code
def yX5_takeEntry : MethodName := ⟨RX5, "takeEntry", "(I)Z"⟩
abbrev cX5_takeGroup : ByteArray := prog_7_method_17_code
def yX5_takeGroup : MethodName := ⟨RX5, "takeGroup", "(I)Z"⟩
abbrev cX5_takeChoice : ByteArray := prog_7_method_18_code
def yX5_takeChoice : MethodName := ⟨RX5, "takeChoice", "(I)Z"⟩
abbrev cX5_resolveNames : ByteArray := prog_7_method_19_code
def yX5_resolveNames : MethodName := ⟨RX5, "resolveNames", "(LOfficeTables$Text;)V"⟩
abbrev cX5_resolveNamesIn : ByteArray := prog_7_method_20_code
def yX5_resolveNamesIn : MethodName := ⟨RX5, "resolveNamesIn", "(LOfficeTables$Formula;LOfficeTables$Text;)V"⟩
def RX6 : String := "OfficeTables$Tokens"
def TX6 : u_T := fun k => match k with
  | 0 => ("OfficeTables$Tokens", "tape", "LOfficeTables$Tape;", true)
  | 1 => ("OfficeTables$Tokens", "next", "I", false)
  | 2 => ("OfficeTables$Tokens", "kind", "I", false)
  | 3 => ("OfficeTables$Tokens", "place", "I", false)
  | _ => ("OfficeTables$Tokens", "value", "J", false)
def tyX6 : Nat → FieldType := fun k => match k with
  | 0 => .object "OfficeTables$Tape"
  | 1 => .int
  | 2 => .int
  | 3 => .int
  | _ => .long
theorem nmX6 : ∀ a, a < 5 → ∀ b, b < 5 → a ≠ b → (TX6 a).2.1 ≠ (TX6 b).2.1 := by decide +kernel
theorem tyX6_ok : ∀ k, k < 5 → parseFieldDescriptor (TX6 k).2.2.1 = some (tyX6 k) := by decide +kernel
abbrev cX6_init : ByteArray := prog_8_method_1_code
def yX6_init : MethodName := ⟨RX6, "<init>", "(LOfficeTables$Tape;)V"⟩
abbrev cX6_start : ByteArray := prog_8_method_2_code
def yX6_start : MethodName := ⟨RX6, "start", "()V"⟩
abbrev cX6_advance : ByteArray := prog_8_method_3_code
def yX6_advance : MethodName := ⟨RX6, "advance", "()V"⟩
abbrev cX6_skipBlanks : ByteArray := prog_8_method_4_code
def yX6_skipBlanks : MethodName := ⟨RX6, "skipBlanks", "()V"⟩
abbrev cX6_takeDigits : ByteArray := prog_8_method_5_code
def yX6_takeDigits : MethodName := ⟨RX6, "takeDigits", "()I"⟩
abbrev cX6_takeLetters : ByteArray := prog_8_method_6_code
def yX6_takeLetters : MethodName := ⟨RX6, "takeLetters", "()I"⟩
abbrev cX6_isDigit : ByteArray := prog_8_method_7_code
def yX6_isDigit : MethodName := ⟨RX6, "isDigit", "(I)Z"⟩
abbrev cX6_isLetter : ByteArray := prog_8_method_8_code
def yX6_isLetter : MethodName := ⟨RX6, "isLetter", "(I)Z"⟩
abbrev cX6_isSign : ByteArray := prog_8_method_9_code
def yX6_isSign : MethodName := ⟨RX6, "isSign", "(I)Z"⟩
abbrev cX6_kindOfWord : ByteArray := prog_8_method_10_code
def yX6_kindOfWord : MethodName := ⟨RX6, "kindOfWord", "(J)I"⟩
def RX7 : String := "OfficeTables$Total"
def TX7 : u_T := fun k => match k with
  | 0 => ("OfficeTables$Total", "low", "J", false)
  | _ => ("OfficeTables$Total", "high", "J", false)
def tyX7 : Nat → FieldType := fun k => match k with
  | 0 => .long
  | _ => .long
theorem nmX7 : ∀ a, a < 2 → ∀ b, b < 2 → a ≠ b → (TX7 a).2.1 ≠ (TX7 b).2.1 := by decide +kernel
theorem tyX7_ok : ∀ k, k < 2 → parseFieldDescriptor (TX7 k).2.2.1 = some (tyX7 k) := by decide +kernel
abbrev cX7_init : ByteArray := prog_9_method_1_code
def yX7_init : MethodName := ⟨RX7, "<init>", "()V"⟩
abbrev cX7_clear : ByteArray := prog_9_method_2_code
def yX7_clear : MethodName := ⟨RX7, "clear", "()V"⟩
abbrev cX7_add : ByteArray := prog_9_method_3_code
def yX7_add : MethodName := ⟨RX7, "add", "(J)V"⟩
abbrev cX7_is : ByteArray := prog_9_method_4_code
def yX7_is : MethodName := ⟨RX7, "is", "(J)Z"⟩
abbrev cX7_part : ByteArray := prog_9_method_5_code
def yX7_part : MethodName := ⟨RX7, "part", "(I)J"⟩
def RX8 : String := "OfficeTables$Workshop"
def TX8 : u_T := fun k => match k with
  | 0 => ("OfficeTables$Workshop", "buildLog", "LOfficeTables$Log;", true)
  | 1 => ("OfficeTables$Workshop", "halfLog", "LOfficeTables$Log;", true)
  | 2 => ("OfficeTables$Workshop", "total", "LOfficeTables$Total;", true)
  | 3 => ("OfficeTables$Workshop", "got", "J", false)
  | 4 => ("OfficeTables$Workshop", "promisedTotal", "LOfficeTables$Total;", true)
  | 5 => ("OfficeTables$Workshop", "text", "LOfficeTables$Text;", false)
  | 6 => ("OfficeTables$Workshop", "waiting", "[J", true)
  | 7 => ("OfficeTables$Workshop", "waitingMany", "I", false)
  | 8 => ("OfficeTables$Workshop", "underWay", "I", false)
  | 9 => ("OfficeTables$Workshop", "reasons", "[I", true)
  | 10 => ("OfficeTables$Workshop", "reasonsMany", "I", false)
  | _ => ("OfficeTables$Workshop", "isOwned", "Z", false)
def tyX8 : Nat → FieldType := fun k => match k with
  | 0 => .object "OfficeTables$Log"
  | 1 => .object "OfficeTables$Log"
  | 2 => .object "OfficeTables$Total"
  | 3 => .long
  | 4 => .object "OfficeTables$Total"
  | 5 => .object "OfficeTables$Text"
  | 6 => .array .long
  | 7 => .int
  | 8 => .int
  | 9 => .array .int
  | 10 => .int
  | _ => .boolean
theorem nmX8 : ∀ a, a < 12 → ∀ b, b < 12 → a ≠ b → (TX8 a).2.1 ≠ (TX8 b).2.1 := by decide +kernel
theorem tyX8_ok : ∀ k, k < 12 → parseFieldDescriptor (TX8 k).2.2.1 = some (tyX8 k) := by decide +kernel
abbrev cX8_init : ByteArray := prog_10_method_1_code
def yX8_init : MethodName := ⟨RX8, "<init>", "(LOfficeTables$Text;)V"⟩
abbrev cX8_open : ByteArray := prog_10_method_2_code
def yX8_open : MethodName := ⟨RX8, "open", "(LOfficeTables$Text;)V"⟩
abbrev cX8_startCall : ByteArray := prog_10_method_3_code
def yX8_startCall : MethodName := ⟨RX8, "startCall", "()V"⟩
abbrev cX8_reasonAt : ByteArray := prog_10_method_4_code
def yX8_reasonAt : MethodName := ⟨RX8, "reasonAt", "(I)I"⟩
abbrev cX8_askFor : ByteArray := prog_10_method_5_code
def yX8_askFor : MethodName := ⟨RX8, "askFor", "(IJ)Z"⟩
abbrev cX8_addUp : ByteArray := prog_10_method_6_code
def yX8_addUp : MethodName := ⟨RX8, "addUp", "(III)Z"⟩
abbrev cX8_search : ByteArray := prog_10_method_7_code
def yX8_search : MethodName := ⟨RX8, "search", "(IJ)I"⟩
abbrev cX8_ask : ByteArray := prog_10_method_8_code
def yX8_ask : MethodName := ⟨RX8, "ask", "(IJI)Z"⟩
abbrev cX8_awaken : ByteArray := prog_10_method_9_code
def yX8_awaken : MethodName := ⟨RX8, "awaken", "(LOfficeTables$Table;II)Z"⟩
abbrev cX8_awakenRow : ByteArray := prog_10_method_10_code
def yX8_awakenRow : MethodName := ⟨RX8, "awakenRow", "(LOfficeTables$Table;III)Z"⟩
abbrev cX8_wake : ByteArray := prog_10_method_11_code
def yX8_wake : MethodName := ⟨RX8, "wake", "(LOfficeTables$Table;II)Z"⟩
abbrev cX8_layOut : ByteArray := prog_10_method_12_code
def yX8_layOut : MethodName := ⟨RX8, "layOut", "(LOfficeTables$Table;)Z"⟩
abbrev cX8_fill : ByteArray := prog_10_method_13_code
def yX8_fill : MethodName := ⟨RX8, "fill", "(LOfficeTables$Table;I)Z"⟩
abbrev cX8_keepsPromise : ByteArray := prog_10_method_14_code
def yX8_keepsPromise : MethodName := ⟨RX8, "keepsPromise", "(LOfficeTables$Table;)Z"⟩
abbrev cX8_makeRow : ByteArray := prog_10_method_15_code
def yX8_makeRow : MethodName := ⟨RX8, "makeRow", "(LOfficeTables$Table;III)Z"⟩
abbrev cX8_makeEntries : ByteArray := prog_10_method_16_code
def yX8_makeEntries : MethodName := ⟨RX8, "makeEntries", "(LOfficeTables$Table;III)Z"⟩
abbrev cX8_workOut : ByteArray := prog_10_method_17_code
def yX8_workOut : MethodName := ⟨RX8, "workOut", "(LOfficeTables$Formula;II)Z"⟩
abbrev cX8_workOutPair : ByteArray := prog_10_method_18_code
def yX8_workOutPair : MethodName := ⟨RX8, "workOutPair", "(I)Z"⟩
abbrev cX8_push : ByteArray := prog_10_method_19_code
def yX8_push : MethodName := ⟨RX8, "push", "(J)V"⟩
abbrev cX8_pop : ByteArray := prog_10_method_20_code
def yX8_pop : MethodName := ⟨RX8, "pop", "()J"⟩
abbrev cX8_fail : ByteArray := prog_10_method_21_code
def yX8_fail : MethodName := ⟨RX8, "fail", "(I)Z"⟩
abbrev cX8_failWithReason : ByteArray := prog_10_method_22_code
def yX8_failWithReason : MethodName := ⟨RX8, "failWithReason", "()Z"⟩
abbrev cX8_addReason : ByteArray := prog_10_method_23_code
def yX8_addReason : MethodName := ⟨RX8, "addReason", "(I)V"⟩
def RX9 : String := "OfficeTables"
def TX9 : u_T := fun k => match k with
  | 0 => ("OfficeTables", "tape", "LOfficeTables$Tape;", true)
  | 1 => ("OfficeTables", "reader", "LOfficeTables$TextReader;", true)
  | 2 => ("OfficeTables", "workshop", "LOfficeTables$Workshop;", true)
  | 3 => ("OfficeTables", "text", "LOfficeTables$Text;", false)
  | _ => ("OfficeTables", "spare", "LOfficeTables$Text;", false)
def tyX9 : Nat → FieldType := fun k => match k with
  | 0 => .object "OfficeTables$Tape"
  | 1 => .object "OfficeTables$TextReader"
  | 2 => .object "OfficeTables$Workshop"
  | 3 => .object "OfficeTables$Text"
  | _ => .object "OfficeTables$Text"
theorem nmX9 : ∀ a, a < 5 → ∀ b, b < 5 → a ≠ b → (TX9 a).2.1 ≠ (TX9 b).2.1 := by decide +kernel
theorem tyX9_ok : ∀ k, k < 5 → parseFieldDescriptor (TX9 k).2.2.1 = some (tyX9 k) := by decide +kernel
abbrev cX9_init : ByteArray := prog_1_method_1_code
def yX9_init : MethodName := ⟨RX9, "<init>", "()V"⟩
abbrev cX9_feed : ByteArray := prog_1_method_2_code
def yX9_feed : MethodName := ⟨RX9, "feed", "(J)I"⟩
abbrev cX9_read : ByteArray := prog_1_method_3_code
def yX9_read : MethodName := ⟨RX9, "read", "()I"⟩
abbrev cX9_cut : ByteArray := prog_1_method_4_code
def yX9_cut : MethodName := ⟨RX9, "cut", "()I"⟩
abbrev cX9_named : ByteArray := prog_1_method_5_code
def yX9_named : MethodName := ⟨RX9, "named", "(J)I"⟩
abbrev cX9_size : ByteArray := prog_1_method_6_code
def yX9_size : MethodName := ⟨RX9, "size", "(I)I"⟩
abbrev cX9_state : ByteArray := prog_1_method_7_code
def yX9_state : MethodName := ⟨RX9, "state", "(I)I"⟩
abbrev cX9_row : ByteArray := prog_1_method_8_code
def yX9_row : MethodName := ⟨RX9, "row", "(II)I"⟩
abbrev cX9_entry : ByteArray := prog_1_method_9_code
def yX9_entry : MethodName := ⟨RX9, "entry", "(II)J"⟩
abbrev cX9_reason : ByteArray := prog_1_method_10_code
def yX9_reason : MethodName := ⟨RX9, "reason", "(I)I"⟩
abbrev cX9_sum : ByteArray := prog_1_method_11_code
def yX9_sum : MethodName := ⟨RX9, "sum", "(IIII)J"⟩
abbrev cX9_find : ByteArray := prog_1_method_12_code
def yX9_find : MethodName := ⟨RX9, "find", "(IJ)I"⟩
abbrev cX9_drop : ByteArray := prog_1_method_13_code
def yX9_drop : MethodName := ⟨RX9, "drop", "(I)I"⟩
abbrev cX9_builds : ByteArray := prog_1_method_14_code
def yX9_builds : MethodName := ⟨RX9, "builds", "()I"⟩
abbrev cX9_build : ByteArray := prog_1_method_15_code
def yX9_build : MethodName := ⟨RX9, "build", "(II)I"⟩
abbrev cX9_halves : ByteArray := prog_1_method_16_code
def yX9_halves : MethodName := ⟨RX9, "halves", "()I"⟩
abbrev cX9_half : ByteArray := prog_1_method_17_code
def yX9_half : MethodName := ⟨RX9, "half", "(II)J"⟩
abbrev cX9_reads : ByteArray := prog_1_method_18_code
def yX9_reads : MethodName := ⟨RX9, "reads", "(II)I"⟩
abbrev cX9_count : ByteArray := prog_1_method_19_code
def yX9_count : MethodName := ⟨RX9, "count", "(I)I"⟩
abbrev cX9_at : ByteArray := prog_1_method_20_code
def yX9_at : MethodName := ⟨RX9, "at", "([II)I"⟩
abbrev cX9_at_ : ByteArray := prog_1_method_21_code
def yX9_at_ : MethodName := ⟨RX9, "at", "([JI)J"⟩
abbrev cX9_put : ByteArray := prog_1_method_22_code
def yX9_put : MethodName := ⟨RX9, "put", "([III)V"⟩
abbrev cX9_put_ : ByteArray := prog_1_method_23_code
def yX9_put_ : MethodName := ⟨RX9, "put", "([JIJ)V"⟩
def RX10 : String := "OfficeTablesModel"
def TX10 : u_T := fun k => match k with
  | 0 => ("OfficeTablesModel", "tape", "[B", true)
  | 1 => ("OfficeTablesModel", "bytes", "I", false)
  | 2 => ("OfficeTablesModel", "tokens", "I", false)
  | 3 => ("OfficeTablesModel", "sort", "[I", true)
  | 4 => ("OfficeTablesModel", "where", "[I", true)
  | 5 => ("OfficeTablesModel", "worth", "[J", true)
  | 6 => ("OfficeTablesModel", "tok", "I", false)
  | 7 => ("OfficeTablesModel", "fault", "I", false)
  | 8 => ("OfficeTablesModel", "made", "I", false)
  | 9 => ("OfficeTablesModel", "newName", "[J", true)
  | 10 => ("OfficeTablesModel", "newNameAt", "[I", true)
  | 11 => ("OfficeTablesModel", "newWhole", "[Z", true)
  | 12 => ("OfficeTablesModel", "newHas", "[Z", true)
  | 13 => ("OfficeTablesModel", "newSum", "[J", true)
  | 14 => ("OfficeTablesModel", "newCode", "[I", true)
  | 15 => ("OfficeTablesModel", "newSize", "[I", true)
  | 16 => ("OfficeTablesModel", "acts", "I", false)
  | 17 => ("OfficeTablesModel", "act", "[I", true)
  | 18 => ("OfficeTablesModel", "arg", "[J", true)
  | 19 => ("OfficeTablesModel", "parts", "I", false)
  | 20 => ("OfficeTablesModel", "partHow", "[I", true)
  | 21 => ("OfficeTablesModel", "part", "[J", true)
  | 22 => ("OfficeTablesModel", "uses", "I", false)
  | 23 => ("OfficeTablesModel", "useToken", "[I", true)
  | 24 => ("OfficeTablesModel", "useTable", "[I", true)
  | 25 => ("OfficeTablesModel", "useSize", "[Z", true)
  | 26 => ("OfficeTablesModel", "open", "I", false)
  | 27 => ("OfficeTablesModel", "openSort", "[I", true)
  | 28 => ("OfficeTablesModel", "openStage", "[I", true)
  | 29 => ("OfficeTablesModel", "openAt", "[I", true)
  | 30 => ("OfficeTablesModel", "units", "I", false)
  | 31 => ("OfficeTablesModel", "around", "I", false)
  | 32 => ("OfficeTablesModel", "tables", "I", false)
  | 33 => ("OfficeTablesModel", "name", "[J", true)
  | 34 => ("OfficeTablesModel", "isWhole", "[Z", true)
  | 35 => ("OfficeTablesModel", "hasSum", "[Z", true)
  | 36 => ("OfficeTablesModel", "promised", "[J", true)
  | 37 => ("OfficeTablesModel", "size", "[J", true)
  | 38 => ("OfficeTablesModel", "code", "[I", true)
  | 39 => ("OfficeTablesModel", "op", "[I", true)
  | 40 => ("OfficeTablesModel", "by", "[J", true)
  | 41 => ("OfficeTablesModel", "state", "[I", true)
  | 42 => ("OfficeTablesModel", "rowState", "[I", true)
  | 43 => ("OfficeTablesModel", "entry", "[J", true)
  | 44 => ("OfficeTablesModel", "builds", "I", false)
  | 45 => ("OfficeTablesModel", "buildTable", "[I", true)
  | 46 => ("OfficeTablesModel", "buildRow", "[I", true)
  | 47 => ("OfficeTablesModel", "buildBy", "[I", true)
  | 48 => ("OfficeTablesModel", "halves", "I", false)
  | 49 => ("OfficeTablesModel", "halfTable", "[I", true)
  | 50 => ("OfficeTablesModel", "halfPlace", "[I", true)
  | 51 => ("OfficeTablesModel", "halfBy", "[I", true)
  | 52 => ("OfficeTablesModel", "halfWorth", "[J", true)
  | 53 => ("OfficeTablesModel", "reasons", "I", false)
  | 54 => ("OfficeTablesModel", "lastReason", "I", false)
  | 55 => ("OfficeTablesModel", "under", "I", false)
  | 56 => ("OfficeTablesModel", "uTable", "[I", true)
  | 57 => ("OfficeTablesModel", "uRow", "[I", true)
  | 58 => ("OfficeTablesModel", "uPlace", "[I", true)
  | 59 => ("OfficeTablesModel", "uEnd", "[I", true)
  | 60 => ("OfficeTablesModel", "uAct", "[I", true)
  | 61 => ("OfficeTablesModel", "uHigh", "[I", true)
  | 62 => ("OfficeTablesModel", "pile", "[J", true)
  | 63 => ("OfficeTablesModel", "answer", "J", false)
  | 64 => ("OfficeTablesModel", "high", "J", false)
  | _ => ("OfficeTablesModel", "low", "J", false)
def tyX10 : Nat → FieldType := fun k => match k with
  | 0 => .array .byte
  | 1 => .int
  | 2 => .int
  | 3 => .array .int
  | 4 => .array .int
  | 5 => .array .long
  | 6 => .int
  | 7 => .int
  | 8 => .int
  | 9 => .array .long
  | 10 => .array .int
  | 11 => .array .boolean
  | 12 => .array .boolean
  | 13 => .array .long
  | 14 => .array .int
  | 15 => .array .int
  | 16 => .int
  | 17 => .array .int
  | 18 => .array .long
  | 19 => .int
  | 20 => .array .int
  | 21 => .array .long
  | 22 => .int
  | 23 => .array .int
  | 24 => .array .int
  | 25 => .array .boolean
  | 26 => .int
  | 27 => .array .int
  | 28 => .array .int
  | 29 => .array .int
  | 30 => .int
  | 31 => .int
  | 32 => .int
  | 33 => .array .long
  | 34 => .array .boolean
  | 35 => .array .boolean
  | 36 => .array .long
  | 37 => .array .long
  | 38 => .array .int
  | 39 => .array .int
  | 40 => .array .long
  | 41 => .array .int
  | 42 => .array .int
  | 43 => .array .long
  | 44 => .int
  | 45 => .array .int
  | 46 => .array .int
  | 47 => .array .int
  | 48 => .int
  | 49 => .array .int
  | 50 => .array .int
  | 51 => .array .int
  | 52 => .array .long
  | 53 => .int
  | 54 => .int
  | 55 => .int
  | 56 => .array .int
  | 57 => .array .int
  | 58 => .array .int
  | 59 => .array .int
  | 60 => .array .int
  | 61 => .array .int
  | 62 => .array .long
  | 63 => .long
  | 64 => .long
  | _ => .long
theorem nmX10 : ∀ a, a < 66 → ∀ b, b < 66 → a ≠ b → (TX10 a).2.1 ≠ (TX10 b).2.1 := by decide +kernel
theorem tyX10_ok : ∀ k, k < 66 → parseFieldDescriptor (TX10 k).2.2.1 = some (tyX10 k) := by decide +kernel
abbrev cX10_init : ByteArray := prog_12_method_1_code
def yX10_init : MethodName := ⟨RX10, "<init>", "()V"⟩
abbrev cX10_in : ByteArray := prog_12_method_3_code
def yX10_in : MethodName := ⟨RX10, "in", "(JJJ)Z"⟩
abbrev cX10_feed : ByteArray := prog_12_method_4_code
def yX10_feed : MethodName := ⟨RX10, "feed", "(J)I"⟩
abbrev cX10_cut : ByteArray := prog_12_method_5_code
def yX10_cut : MethodName := ⟨RX10, "cut", "()I"⟩
abbrev cX10_at : ByteArray := prog_12_method_6_code
def yX10_at : MethodName := ⟨RX10, "at", "(I)I"⟩
abbrev cX10_isLetter : ByteArray := prog_12_method_7_code
def yX10_isLetter : MethodName := ⟨RX10, "isLetter", "(I)Z"⟩
abbrev cX10_isDigit : ByteArray := prog_12_method_8_code
def yX10_isDigit : MethodName := ⟨RX10, "isDigit", "(I)Z"⟩
abbrev cX10_isSign : ByteArray := prog_12_method_9_code
def yX10_isSign : MethodName := ⟨RX10, "isSign", "(I)Z"⟩
abbrev cX10_wordSort : ByteArray := prog_12_method_10_code
def yX10_wordSort : MethodName := ⟨RX10, "wordSort", "(J)I"⟩
abbrev cX10_addToken : ByteArray := prog_12_method_11_code
def yX10_addToken : MethodName := ⟨RX10, "addToken", "(IIJ)V"⟩
abbrev cX10_cutUp : ByteArray := prog_12_method_12_code
def yX10_cutUp : MethodName := ⟨RX10, "cutUp", "()V"⟩
abbrev cX10_must : ByteArray := prog_12_method_13_code
def yX10_must : MethodName := ⟨RX10, "must", "(Z)Z"⟩
abbrev cX10_take : ByteArray := prog_12_method_14_code
def yX10_take : MethodName := ⟨RX10, "take", "(I)Z"⟩
abbrev cX10_emit : ByteArray := prog_12_method_15_code
def yX10_emit : MethodName := ⟨RX10, "emit", "(IJ)V"⟩
abbrev cX10_use : ByteArray := prog_12_method_16_code
def yX10_use : MethodName := ⟨RX10, "use", "(Z)V"⟩
abbrev cX10_readSize : ByteArray := prog_12_method_17_code
def yX10_readSize : MethodName := ⟨RX10, "readSize", "()V"⟩
abbrev cX10_push : ByteArray := prog_12_method_18_code
def yX10_push : MethodName := ⟨RX10, "push", "(II)V"⟩
abbrev cX10_top : ByteArray := prog_12_method_19_code
def yX10_top : MethodName := ⟨RX10, "top", "()I"⟩
abbrev cX10_readUnit : ByteArray := prog_12_method_20_code
def yX10_readUnit : MethodName := ⟨RX10, "readUnit", "()V"⟩
abbrev cX10_actOf : ByteArray := prog_12_method_21_code
def yX10_actOf : MethodName := ⟨RX10, "actOf", "(I)I"⟩
abbrev cX10_isLow : ByteArray := prog_12_method_22_code
def yX10_isLow : MethodName := ⟨RX10, "isLow", "(I)Z"⟩
abbrev cX10_isHigh : ByteArray := prog_12_method_23_code
def yX10_isHigh : MethodName := ⟨RX10, "isHigh", "(I)Z"⟩
abbrev cX10_endUnit : ByteArray := prog_12_method_24_code
def yX10_endUnit : MethodName := ⟨RX10, "endUnit", "()V"⟩
abbrev cX10_endLow : ByteArray := prog_12_method_25_code
def yX10_endLow : MethodName := ⟨RX10, "endLow", "()V"⟩
abbrev cX10_goOn : ByteArray := prog_12_method_26_code
def yX10_goOn : MethodName := ⟨RX10, "goOn", "()Z"⟩
abbrev cX10_readSum : ByteArray := prog_12_method_27_code
def yX10_readSum : MethodName := ⟨RX10, "readSum", "()V"⟩
abbrev cX10_readTable : ByteArray := prog_12_method_28_code
def yX10_readTable : MethodName := ⟨RX10, "readTable", "()V"⟩
abbrev cX10_tableOf : ByteArray := prog_12_method_29_code
def yX10_tableOf : MethodName := ⟨RX10, "tableOf", "(JI)I"⟩
abbrev cX10_checkNames : ByteArray := prog_12_method_30_code
def yX10_checkNames : MethodName := ⟨RX10, "checkNames", "()V"⟩
abbrev cX10_read : ByteArray := prog_12_method_31_code
def yX10_read : MethodName := ⟨RX10, "read", "()I"⟩
abbrev cX10_sizeOf : ByteArray := prog_12_method_32_code
def yX10_sizeOf : MethodName := ⟨RX10, "sizeOf", "(I)J"⟩
abbrev cX10_named : ByteArray := prog_12_method_33_code
def yX10_named : MethodName := ⟨RX10, "named", "(J)I"⟩
abbrev cX10_isTable : ByteArray := prog_12_method_34_code
def yX10_isTable : MethodName := ⟨RX10, "isTable", "(I)Z"⟩
abbrev cX10_size : ByteArray := prog_12_method_35_code
def yX10_size : MethodName := ⟨RX10, "size", "(I)I"⟩
abbrev cX10_state : ByteArray := prog_12_method_36_code
def yX10_state : MethodName := ⟨RX10, "state", "(I)I"⟩
abbrev cX10_row : ByteArray := prog_12_method_37_code
def yX10_row : MethodName := ⟨RX10, "row", "(II)I"⟩
abbrev cX10_rowsOf : ByteArray := prog_12_method_38_code
def yX10_rowsOf : MethodName := ⟨RX10, "rowsOf", "(I)I"⟩
abbrev cX10_noteBuild : ByteArray := prog_12_method_39_code
def yX10_noteBuild : MethodName := ⟨RX10, "noteBuild", "(III)V"⟩
abbrev cX10_half : ByteArray := prog_12_method_40_code
def yX10_half : MethodName := ⟨RX10, "half", "(IIIJ)J"⟩
abbrev cX10_begin : ByteArray := prog_12_method_41_code
def yX10_begin : MethodName := ⟨RX10, "begin", "(III)I"⟩
abbrev cX10_ask : ByteArray := prog_12_method_42_code
def yX10_ask : MethodName := ⟨RX10, "ask", "(IJIZ)I"⟩
abbrev cX10_failAll : ByteArray := prog_12_method_43_code
def yX10_failAll : MethodName := ⟨RX10, "failAll", "(I)V"⟩
abbrev cX10_takeTop : ByteArray := prog_12_method_44_code
def yX10_takeTop : MethodName := ⟨RX10, "takeTop", "(I)J"⟩
abbrev cX10_putTop : ByteArray := prog_12_method_45_code
def yX10_putTop : MethodName := ⟨RX10, "putTop", "(IJ)V"⟩
abbrev cX10_step : ByteArray := prog_12_method_46_code
def yX10_step : MethodName := ⟨RX10, "step", "(I)I"⟩
abbrev cX10_add : ByteArray := prog_12_method_47_code
def yX10_add : MethodName := ⟨RX10, "add", "(J)V"⟩
abbrev cX10_goOne : ByteArray := prog_12_method_48_code
def yX10_goOne : MethodName := ⟨RX10, "goOne", "()I"⟩
abbrev cX10_get : ByteArray := prog_12_method_49_code
def yX10_get : MethodName := ⟨RX10, "get", "(IJZ)Z"⟩
abbrev cX10_isAnswered : ByteArray := prog_12_method_50_code
def yX10_isAnswered : MethodName := ⟨RX10, "isAnswered", "(IJZ)Z"⟩
abbrev cX10_entry : ByteArray := prog_12_method_51_code
def yX10_entry : MethodName := ⟨RX10, "entry", "(II)J"⟩
abbrev cX10_reason : ByteArray := prog_12_method_52_code
def yX10_reason : MethodName := ⟨RX10, "reason", "(I)I"⟩
abbrev cX10_sum : ByteArray := prog_12_method_53_code
def yX10_sum : MethodName := ⟨RX10, "sum", "(IIII)J"⟩
abbrev cX10_find : ByteArray := prog_12_method_54_code
def yX10_find : MethodName := ⟨RX10, "find", "(IJ)I"⟩
abbrev cX10_drop : ByteArray := prog_12_method_55_code
def yX10_drop : MethodName := ⟨RX10, "drop", "(I)I"⟩
abbrev cX10_builds : ByteArray := prog_12_method_56_code
def yX10_builds : MethodName := ⟨RX10, "builds", "()I"⟩
abbrev cX10_build : ByteArray := prog_12_method_57_code
def yX10_build : MethodName := ⟨RX10, "build", "(II)I"⟩
abbrev cX10_halves : ByteArray := prog_12_method_58_code
def yX10_halves : MethodName := ⟨RX10, "halves", "()I"⟩
abbrev cX10_half_ : ByteArray := prog_12_method_59_code
def yX10_half_ : MethodName := ⟨RX10, "half", "(II)J"⟩
abbrev cX10_reads : ByteArray := prog_12_method_60_code
def yX10_reads : MethodName := ⟨RX10, "reads", "(II)I"⟩
abbrev cX10_count : ByteArray := prog_12_method_61_code
def yX10_count : MethodName := ⟨RX10, "count", "(I)I"⟩
def RJ9 : String := "java/lang/Math"
def TJ9 : u_T := fun k => match k with
  | _ => ("", "", "", false)
def tyJ9 : Nat → FieldType := fun k => match k with
  | _ => .int
abbrev cJ9_max_f86c9 : ByteArray := prog_13_method_66_code
def yJ9_max_f86c9 : MethodName := ⟨RJ9, "max", "(JJ)J"⟩
abbrev cJ9_min_7cf53 : ByteArray := prog_13_method_69_code
def yJ9_min_7cf53 : MethodName := ⟨RJ9, "min", "(II)I"⟩
abbrev cJ9_min_f86c9 : ByteArray := prog_13_method_70_code
def yJ9_min_f86c9 : MethodName := ⟨RJ9, "min", "(JJ)J"⟩
def RL : String := "OfficeTablesLaw"
abbrev cL_law : ByteArray := code
def yL_law : MethodName := ⟨RL, "law", "([I)Z"⟩
abbrev vwCl : List vw_C := [(RX0, TX0, 4), (RX1, TX1, 2), (RX2, TX2, 9), (RX3, TX3, 2), (RX4, TX4, 2), (RX5, TX5, 5), (RX6, TX6, 5), (RX7, TX7, 2), (RX8, TX8, 12), (RX9, TX9, 5), (RX10, TX10, 66)]
