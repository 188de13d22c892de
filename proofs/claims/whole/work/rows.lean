section
-- ===== PART A: goes FIRST, ahead of the names: the tables' words, and 'selects' of the private methods out of them =====
/-- a private method of a class that the tables say can be made, by its rows of tables_1 -/
def lw_okq (q : MethodName × Nat) : Prop := (q.1.cls ≠ "java/lang/invoke/MethodHandle" ∧ q.1.cls ≠ "java/lang/invoke/VarHandle") ∧ Cond.instantiable q.1.cls q.2 ∈ tables_1 ∧ Cond.privateMethod q.1 ∈ tables_1 ∧ Cond.instanceMethod q.1 ∈ tables_1
theorem lw_p0 : lw_okq (⟨"OfficeTables$Tape", "putByte", "(IB)V"⟩, 2) := ⟨⟨by decide +kernel, by decide +kernel⟩, List.mem_of_getElem? (i := 22) (by decide +kernel), List.mem_of_getElem? (i := 281) (by decide +kernel), List.mem_of_getElem? (i := 282) (by decide +kernel)⟩
theorem lw_p1 : lw_okq (⟨"OfficeTables$Tokens", "skipBlanks", "()V"⟩, 5) := ⟨⟨by decide +kernel, by decide +kernel⟩, List.mem_of_getElem? (i := 43) (by decide +kernel), List.mem_of_getElem? (i := 301) (by decide +kernel), List.mem_of_getElem? (i := 302) (by decide +kernel)⟩
theorem lw_p2 : lw_okq (⟨"OfficeTables$Tokens", "takeDigits", "()I"⟩, 5) := ⟨⟨by decide +kernel, by decide +kernel⟩, List.mem_of_getElem? (i := 43) (by decide +kernel), List.mem_of_getElem? (i := 312) (by decide +kernel), List.mem_of_getElem? (i := 313) (by decide +kernel)⟩
theorem lw_p3 : lw_okq (⟨"OfficeTables$Tokens", "takeLetters", "()I"⟩, 5) := ⟨⟨by decide +kernel, by decide +kernel⟩, List.mem_of_getElem? (i := 43) (by decide +kernel), List.mem_of_getElem? (i := 320) (by decide +kernel), List.mem_of_getElem? (i := 321) (by decide +kernel)⟩
theorem lw_p4 : lw_okq (⟨"OfficeTables$TextReader", "takeTable", "(LOfficeTables$Text;LOfficeTables$Table;)Z"⟩, 5) := ⟨⟨by decide +kernel, by decide +kernel⟩, List.mem_of_getElem? (i := 37) (by decide +kernel), List.mem_of_getElem? (i := 339) (by decide +kernel), List.mem_of_getElem? (i := 340) (by decide +kernel)⟩
theorem lw_p5 : lw_okq (⟨"OfficeTables$TextReader", "expect", "(I)Z"⟩, 5) := ⟨⟨by decide +kernel, by decide +kernel⟩, List.mem_of_getElem? (i := 37) (by decide +kernel), List.mem_of_getElem? (i := 343) (by decide +kernel), List.mem_of_getElem? (i := 344) (by decide +kernel)⟩
theorem lw_p6 : lw_okq (⟨"OfficeTables$TextReader", "faultHere", "()Z"⟩, 5) := ⟨⟨by decide +kernel, by decide +kernel⟩, List.mem_of_getElem? (i := 37) (by decide +kernel), List.mem_of_getElem? (i := 347) (by decide +kernel), List.mem_of_getElem? (i := 348) (by decide +kernel)⟩
theorem lw_p7 : lw_okq (⟨"OfficeTables$TextReader", "noteNameFault", "(I)V"⟩, 5) := ⟨⟨by decide +kernel, by decide +kernel⟩, List.mem_of_getElem? (i := 37) (by decide +kernel), List.mem_of_getElem? (i := 357) (by decide +kernel), List.mem_of_getElem? (i := 358) (by decide +kernel)⟩
theorem lw_p8 : lw_okq (⟨"OfficeTables$TextReader", "takeSize", "(LOfficeTables$Text;LOfficeTables$Table;)Z"⟩, 5) := ⟨⟨by decide +kernel, by decide +kernel⟩, List.mem_of_getElem? (i := 37) (by decide +kernel), List.mem_of_getElem? (i := 365) (by decide +kernel), List.mem_of_getElem? (i := 366) (by decide +kernel)⟩
theorem lw_p9 : lw_okq (⟨"OfficeTables$TextReader", "sizeToldAhead", "(LOfficeTables$Text;)J"⟩, 5) := ⟨⟨by decide +kernel, by decide +kernel⟩, List.mem_of_getElem? (i := 37) (by decide +kernel), List.mem_of_getElem? (i := 369) (by decide +kernel), List.mem_of_getElem? (i := 370) (by decide +kernel)⟩
theorem lw_p10 : lw_okq (⟨"OfficeTables$TextReader", "takeManner", "(LOfficeTables$Table;)Z"⟩, 5) := ⟨⟨by decide +kernel, by decide +kernel⟩, List.mem_of_getElem? (i := 37) (by decide +kernel), List.mem_of_getElem? (i := 381) (by decide +kernel), List.mem_of_getElem? (i := 382) (by decide +kernel)⟩
theorem lw_p11 : lw_okq (⟨"OfficeTables$TextReader", "takeSum", "(I)Z"⟩, 5) := ⟨⟨by decide +kernel, by decide +kernel⟩, List.mem_of_getElem? (i := 37) (by decide +kernel), List.mem_of_getElem? (i := 385) (by decide +kernel), List.mem_of_getElem? (i := 386) (by decide +kernel)⟩
theorem lw_p12 : lw_okq (⟨"OfficeTables$TextReader", "takeProduct", "(I)Z"⟩, 5) := ⟨⟨by decide +kernel, by decide +kernel⟩, List.mem_of_getElem? (i := 37) (by decide +kernel), List.mem_of_getElem? (i := 389) (by decide +kernel), List.mem_of_getElem? (i := 390) (by decide +kernel)⟩
theorem lw_p13 : lw_okq (⟨"OfficeTables$TextReader", "takeUnit", "(I)Z"⟩, 5) := ⟨⟨by decide +kernel, by decide +kernel⟩, List.mem_of_getElem? (i := 37) (by decide +kernel), List.mem_of_getElem? (i := 393) (by decide +kernel), List.mem_of_getElem? (i := 394) (by decide +kernel)⟩
theorem lw_p14 : lw_okq (⟨"OfficeTables$TextReader", "addStep", "(IJI)V"⟩, 5) := ⟨⟨by decide +kernel, by decide +kernel⟩, List.mem_of_getElem? (i := 37) (by decide +kernel), List.mem_of_getElem? (i := 397) (by decide +kernel), List.mem_of_getElem? (i := 398) (by decide +kernel)⟩
theorem lw_p15 : lw_okq (⟨"OfficeTables$TextReader", "takeEntry", "(I)Z"⟩, 5) := ⟨⟨by decide +kernel, by decide +kernel⟩, List.mem_of_getElem? (i := 37) (by decide +kernel), List.mem_of_getElem? (i := 411) (by decide +kernel), List.mem_of_getElem? (i := 412) (by decide +kernel)⟩
def lw_privs_1 : List (MethodName × Nat) := [(⟨"OfficeTables$Tape", "putByte", "(IB)V"⟩, 2), (⟨"OfficeTables$Tokens", "skipBlanks", "()V"⟩, 5), (⟨"OfficeTables$Tokens", "takeDigits", "()I"⟩, 5), (⟨"OfficeTables$Tokens", "takeLetters", "()I"⟩, 5), (⟨"OfficeTables$TextReader", "takeTable", "(LOfficeTables$Text;LOfficeTables$Table;)Z"⟩, 5), (⟨"OfficeTables$TextReader", "expect", "(I)Z"⟩, 5), (⟨"OfficeTables$TextReader", "faultHere", "()Z"⟩, 5), (⟨"OfficeTables$TextReader", "noteNameFault", "(I)V"⟩, 5), (⟨"OfficeTables$TextReader", "takeSize", "(LOfficeTables$Text;LOfficeTables$Table;)Z"⟩, 5), (⟨"OfficeTables$TextReader", "sizeToldAhead", "(LOfficeTables$Text;)J"⟩, 5), (⟨"OfficeTables$TextReader", "takeManner", "(LOfficeTables$Table;)Z"⟩, 5), (⟨"OfficeTables$TextReader", "takeSum", "(I)Z"⟩, 5), (⟨"OfficeTables$TextReader", "takeProduct", "(I)Z"⟩, 5), (⟨"OfficeTables$TextReader", "takeUnit", "(I)Z"⟩, 5), (⟨"OfficeTables$TextReader", "addStep", "(IJI)V"⟩, 5), (⟨"OfficeTables$TextReader", "takeEntry", "(I)Z"⟩, 5)]
theorem lw_r1 : ∀ q ∈ lw_privs_1, lw_okq q := List.forall_mem_cons.mpr ⟨lw_p0, List.forall_mem_cons.mpr ⟨lw_p1, List.forall_mem_cons.mpr ⟨lw_p2, List.forall_mem_cons.mpr ⟨lw_p3, List.forall_mem_cons.mpr ⟨lw_p4, List.forall_mem_cons.mpr ⟨lw_p5, List.forall_mem_cons.mpr ⟨lw_p6, List.forall_mem_cons.mpr ⟨lw_p7, List.forall_mem_cons.mpr ⟨lw_p8, List.forall_mem_cons.mpr ⟨lw_p9, List.forall_mem_cons.mpr ⟨lw_p10, List.forall_mem_cons.mpr ⟨lw_p11, List.forall_mem_cons.mpr ⟨lw_p12, List.forall_mem_cons.mpr ⟨lw_p13, List.forall_mem_cons.mpr ⟨lw_p14, List.forall_mem_cons.mpr ⟨lw_p15, fun _ h => absurd h List.not_mem_nil⟩⟩⟩⟩⟩⟩⟩⟩⟩⟩⟩⟩⟩⟩⟩⟩
theorem lw_p16 : lw_okq (⟨"OfficeTables$TextReader", "takeGroup", "(I)Z"⟩, 5) := ⟨⟨by decide +kernel, by decide +kernel⟩, List.mem_of_getElem? (i := 37) (by decide +kernel), List.mem_of_getElem? (i := 415) (by decide +kernel), List.mem_of_getElem? (i := 416) (by decide +kernel)⟩
theorem lw_p17 : lw_okq (⟨"OfficeTables$TextReader", "takeChoice", "(I)Z"⟩, 5) := ⟨⟨by decide +kernel, by decide +kernel⟩, List.mem_of_getElem? (i := 37) (by decide +kernel), List.mem_of_getElem? (i := 419) (by decide +kernel), List.mem_of_getElem? (i := 420) (by decide +kernel)⟩
theorem lw_p18 : lw_okq (⟨"OfficeTables$TextReader", "takeEnd", "(LOfficeTables$Table;)Z"⟩, 5) := ⟨⟨by decide +kernel, by decide +kernel⟩, List.mem_of_getElem? (i := 37) (by decide +kernel), List.mem_of_getElem? (i := 430) (by decide +kernel), List.mem_of_getElem? (i := 431) (by decide +kernel)⟩
theorem lw_p19 : lw_okq (⟨"OfficeTables$TextReader", "resolveNames", "(LOfficeTables$Text;)V"⟩, 5) := ⟨⟨by decide +kernel, by decide +kernel⟩, List.mem_of_getElem? (i := 37) (by decide +kernel), List.mem_of_getElem? (i := 434) (by decide +kernel), List.mem_of_getElem? (i := 435) (by decide +kernel)⟩
theorem lw_p20 : lw_okq (⟨"OfficeTables$TextReader", "resolveNamesIn", "(LOfficeTables$Formula;LOfficeTables$Text;)V"⟩, 5) := ⟨⟨by decide +kernel, by decide +kernel⟩, List.mem_of_getElem? (i := 37) (by decide +kernel), List.mem_of_getElem? (i := 438) (by decide +kernel), List.mem_of_getElem? (i := 439) (by decide +kernel)⟩
theorem lw_p21 : lw_okq (⟨"OfficeTables$Workshop", "ask", "(IJI)Z"⟩, 12) := ⟨⟨by decide +kernel, by decide +kernel⟩, List.mem_of_getElem? (i := 179) (by decide +kernel), List.mem_of_getElem? (i := 535) (by decide +kernel), List.mem_of_getElem? (i := 536) (by decide +kernel)⟩
theorem lw_p22 : lw_okq (⟨"OfficeTables$Workshop", "awaken", "(LOfficeTables$Table;II)Z"⟩, 12) := ⟨⟨by decide +kernel, by decide +kernel⟩, List.mem_of_getElem? (i := 179) (by decide +kernel), List.mem_of_getElem? (i := 540) (by decide +kernel), List.mem_of_getElem? (i := 541) (by decide +kernel)⟩
theorem lw_p23 : lw_okq (⟨"OfficeTables$Workshop", "fail", "(I)Z"⟩, 12) := ⟨⟨by decide +kernel, by decide +kernel⟩, List.mem_of_getElem? (i := 179) (by decide +kernel), List.mem_of_getElem? (i := 544) (by decide +kernel), List.mem_of_getElem? (i := 545) (by decide +kernel)⟩
theorem lw_p24 : lw_okq (⟨"OfficeTables$Workshop", "addReason", "(I)V"⟩, 12) := ⟨⟨by decide +kernel, by decide +kernel⟩, List.mem_of_getElem? (i := 179) (by decide +kernel), List.mem_of_getElem? (i := 548) (by decide +kernel), List.mem_of_getElem? (i := 549) (by decide +kernel)⟩
theorem lw_p25 : lw_okq (⟨"OfficeTables$Workshop", "wake", "(LOfficeTables$Table;II)Z"⟩, 12) := ⟨⟨by decide +kernel, by decide +kernel⟩, List.mem_of_getElem? (i := 179) (by decide +kernel), List.mem_of_getElem? (i := 553) (by decide +kernel), List.mem_of_getElem? (i := 554) (by decide +kernel)⟩
theorem lw_p26 : lw_okq (⟨"OfficeTables$Workshop", "layOut", "(LOfficeTables$Table;)Z"⟩, 12) := ⟨⟨by decide +kernel, by decide +kernel⟩, List.mem_of_getElem? (i := 179) (by decide +kernel), List.mem_of_getElem? (i := 563) (by decide +kernel), List.mem_of_getElem? (i := 564) (by decide +kernel)⟩
theorem lw_p27 : lw_okq (⟨"OfficeTables$Workshop", "fill", "(LOfficeTables$Table;I)Z"⟩, 12) := ⟨⟨by decide +kernel, by decide +kernel⟩, List.mem_of_getElem? (i := 179) (by decide +kernel), List.mem_of_getElem? (i := 572) (by decide +kernel), List.mem_of_getElem? (i := 573) (by decide +kernel)⟩
theorem lw_p28 : lw_okq (⟨"OfficeTables$Workshop", "makeEntries", "(LOfficeTables$Table;III)Z"⟩, 12) := ⟨⟨by decide +kernel, by decide +kernel⟩, List.mem_of_getElem? (i := 179) (by decide +kernel), List.mem_of_getElem? (i := 577) (by decide +kernel), List.mem_of_getElem? (i := 578) (by decide +kernel)⟩
theorem lw_p29 : lw_okq (⟨"OfficeTables$Workshop", "workOut", "(LOfficeTables$Formula;II)Z"⟩, 12) := ⟨⟨by decide +kernel, by decide +kernel⟩, List.mem_of_getElem? (i := 179) (by decide +kernel), List.mem_of_getElem? (i := 581) (by decide +kernel), List.mem_of_getElem? (i := 582) (by decide +kernel)⟩
theorem lw_p30 : lw_okq (⟨"OfficeTables$Workshop", "push", "(J)V"⟩, 12) := ⟨⟨by decide +kernel, by decide +kernel⟩, List.mem_of_getElem? (i := 179) (by decide +kernel), List.mem_of_getElem? (i := 590) (by decide +kernel), List.mem_of_getElem? (i := 591) (by decide +kernel)⟩
theorem lw_p31 : lw_okq (⟨"OfficeTables$Workshop", "pop", "()J"⟩, 12) := ⟨⟨by decide +kernel, by decide +kernel⟩, List.mem_of_getElem? (i := 179) (by decide +kernel), List.mem_of_getElem? (i := 596) (by decide +kernel), List.mem_of_getElem? (i := 597) (by decide +kernel)⟩
def lw_privs_2 : List (MethodName × Nat) := [(⟨"OfficeTables$TextReader", "takeGroup", "(I)Z"⟩, 5), (⟨"OfficeTables$TextReader", "takeChoice", "(I)Z"⟩, 5), (⟨"OfficeTables$TextReader", "takeEnd", "(LOfficeTables$Table;)Z"⟩, 5), (⟨"OfficeTables$TextReader", "resolveNames", "(LOfficeTables$Text;)V"⟩, 5), (⟨"OfficeTables$TextReader", "resolveNamesIn", "(LOfficeTables$Formula;LOfficeTables$Text;)V"⟩, 5), (⟨"OfficeTables$Workshop", "ask", "(IJI)Z"⟩, 12), (⟨"OfficeTables$Workshop", "awaken", "(LOfficeTables$Table;II)Z"⟩, 12), (⟨"OfficeTables$Workshop", "fail", "(I)Z"⟩, 12), (⟨"OfficeTables$Workshop", "addReason", "(I)V"⟩, 12), (⟨"OfficeTables$Workshop", "wake", "(LOfficeTables$Table;II)Z"⟩, 12), (⟨"OfficeTables$Workshop", "layOut", "(LOfficeTables$Table;)Z"⟩, 12), (⟨"OfficeTables$Workshop", "fill", "(LOfficeTables$Table;I)Z"⟩, 12), (⟨"OfficeTables$Workshop", "makeEntries", "(LOfficeTables$Table;III)Z"⟩, 12), (⟨"OfficeTables$Workshop", "workOut", "(LOfficeTables$Formula;II)Z"⟩, 12), (⟨"OfficeTables$Workshop", "push", "(J)V"⟩, 12), (⟨"OfficeTables$Workshop", "pop", "()J"⟩, 12)]
theorem lw_r2 : ∀ q ∈ lw_privs_2, lw_okq q := List.forall_mem_cons.mpr ⟨lw_p16, List.forall_mem_cons.mpr ⟨lw_p17, List.forall_mem_cons.mpr ⟨lw_p18, List.forall_mem_cons.mpr ⟨lw_p19, List.forall_mem_cons.mpr ⟨lw_p20, List.forall_mem_cons.mpr ⟨lw_p21, List.forall_mem_cons.mpr ⟨lw_p22, List.forall_mem_cons.mpr ⟨lw_p23, List.forall_mem_cons.mpr ⟨lw_p24, List.forall_mem_cons.mpr ⟨lw_p25, List.forall_mem_cons.mpr ⟨lw_p26, List.forall_mem_cons.mpr ⟨lw_p27, List.forall_mem_cons.mpr ⟨lw_p28, List.forall_mem_cons.mpr ⟨lw_p29, List.forall_mem_cons.mpr ⟨lw_p30, List.forall_mem_cons.mpr ⟨lw_p31, fun _ h => absurd h List.not_mem_nil⟩⟩⟩⟩⟩⟩⟩⟩⟩⟩⟩⟩⟩⟩⟩⟩
theorem lw_p32 : lw_okq (⟨"OfficeTables$Workshop", "workOutPair", "(I)Z"⟩, 12) := ⟨⟨by decide +kernel, by decide +kernel⟩, List.mem_of_getElem? (i := 179) (by decide +kernel), List.mem_of_getElem? (i := 608) (by decide +kernel), List.mem_of_getElem? (i := 609) (by decide +kernel)⟩
theorem lw_p33 : lw_okq (⟨"OfficeTables$Workshop", "makeRow", "(LOfficeTables$Table;III)Z"⟩, 12) := ⟨⟨by decide +kernel, by decide +kernel⟩, List.mem_of_getElem? (i := 179) (by decide +kernel), List.mem_of_getElem? (i := 613) (by decide +kernel), List.mem_of_getElem? (i := 614) (by decide +kernel)⟩
theorem lw_p34 : lw_okq (⟨"OfficeTables$Workshop", "failWithReason", "()Z"⟩, 12) := ⟨⟨by decide +kernel, by decide +kernel⟩, List.mem_of_getElem? (i := 179) (by decide +kernel), List.mem_of_getElem? (i := 624) (by decide +kernel), List.mem_of_getElem? (i := 625) (by decide +kernel)⟩
theorem lw_p35 : lw_okq (⟨"OfficeTables$Workshop", "keepsPromise", "(LOfficeTables$Table;)Z"⟩, 12) := ⟨⟨by decide +kernel, by decide +kernel⟩, List.mem_of_getElem? (i := 179) (by decide +kernel), List.mem_of_getElem? (i := 628) (by decide +kernel), List.mem_of_getElem? (i := 629) (by decide +kernel)⟩
theorem lw_p36 : lw_okq (⟨"OfficeTables$Workshop", "awakenRow", "(LOfficeTables$Table;III)Z"⟩, 12) := ⟨⟨by decide +kernel, by decide +kernel⟩, List.mem_of_getElem? (i := 179) (by decide +kernel), List.mem_of_getElem? (i := 645) (by decide +kernel), List.mem_of_getElem? (i := 646) (by decide +kernel)⟩
theorem lw_p37 : lw_okq (⟨"OfficeTablesModel", "cutUp", "()V"⟩, 66) := ⟨⟨by decide +kernel, by decide +kernel⟩, List.mem_of_getElem? (i := 739) (by decide +kernel), List.mem_of_getElem? (i := 958) (by decide +kernel), List.mem_of_getElem? (i := 959) (by decide +kernel)⟩
theorem lw_p38 : lw_okq (⟨"OfficeTablesModel", "at", "(I)I"⟩, 66) := ⟨⟨by decide +kernel, by decide +kernel⟩, List.mem_of_getElem? (i := 739) (by decide +kernel), List.mem_of_getElem? (i := 962) (by decide +kernel), List.mem_of_getElem? (i := 963) (by decide +kernel)⟩
theorem lw_p39 : lw_okq (⟨"OfficeTablesModel", "addToken", "(IIJ)V"⟩, 66) := ⟨⟨by decide +kernel, by decide +kernel⟩, List.mem_of_getElem? (i := 739) (by decide +kernel), List.mem_of_getElem? (i := 977) (by decide +kernel), List.mem_of_getElem? (i := 978) (by decide +kernel)⟩
theorem lw_p40 : lw_okq (⟨"OfficeTablesModel", "readTable", "()V"⟩, 66) := ⟨⟨by decide +kernel, by decide +kernel⟩, List.mem_of_getElem? (i := 739) (by decide +kernel), List.mem_of_getElem? (i := 989) (by decide +kernel), List.mem_of_getElem? (i := 990) (by decide +kernel)⟩
theorem lw_p41 : lw_okq (⟨"OfficeTablesModel", "must", "(Z)Z"⟩, 66) := ⟨⟨by decide +kernel, by decide +kernel⟩, List.mem_of_getElem? (i := 739) (by decide +kernel), List.mem_of_getElem? (i := 993) (by decide +kernel), List.mem_of_getElem? (i := 994) (by decide +kernel)⟩
theorem lw_p42 : lw_okq (⟨"OfficeTablesModel", "take", "(I)Z"⟩, 66) := ⟨⟨by decide +kernel, by decide +kernel⟩, List.mem_of_getElem? (i := 739) (by decide +kernel), List.mem_of_getElem? (i := 997) (by decide +kernel), List.mem_of_getElem? (i := 998) (by decide +kernel)⟩
theorem lw_p43 : lw_okq (⟨"OfficeTablesModel", "readSize", "()V"⟩, 66) := ⟨⟨by decide +kernel, by decide +kernel⟩, List.mem_of_getElem? (i := 739) (by decide +kernel), List.mem_of_getElem? (i := 1001) (by decide +kernel), List.mem_of_getElem? (i := 1002) (by decide +kernel)⟩
theorem lw_p44 : lw_okq (⟨"OfficeTablesModel", "use", "(Z)V"⟩, 66) := ⟨⟨by decide +kernel, by decide +kernel⟩, List.mem_of_getElem? (i := 739) (by decide +kernel), List.mem_of_getElem? (i := 1005) (by decide +kernel), List.mem_of_getElem? (i := 1006) (by decide +kernel)⟩
theorem lw_p45 : lw_okq (⟨"OfficeTablesModel", "readSum", "()V"⟩, 66) := ⟨⟨by decide +kernel, by decide +kernel⟩, List.mem_of_getElem? (i := 739) (by decide +kernel), List.mem_of_getElem? (i := 1010) (by decide +kernel), List.mem_of_getElem? (i := 1011) (by decide +kernel)⟩
theorem lw_p46 : lw_okq (⟨"OfficeTablesModel", "readUnit", "()V"⟩, 66) := ⟨⟨by decide +kernel, by decide +kernel⟩, List.mem_of_getElem? (i := 739) (by decide +kernel), List.mem_of_getElem? (i := 1014) (by decide +kernel), List.mem_of_getElem? (i := 1015) (by decide +kernel)⟩
theorem lw_p47 : lw_okq (⟨"OfficeTablesModel", "emit", "(IJ)V"⟩, 66) := ⟨⟨by decide +kernel, by decide +kernel⟩, List.mem_of_getElem? (i := 739) (by decide +kernel), List.mem_of_getElem? (i := 1018) (by decide +kernel), List.mem_of_getElem? (i := 1019) (by decide +kernel)⟩
def lw_privs_3 : List (MethodName × Nat) := [(⟨"OfficeTables$Workshop", "workOutPair", "(I)Z"⟩, 12), (⟨"OfficeTables$Workshop", "makeRow", "(LOfficeTables$Table;III)Z"⟩, 12), (⟨"OfficeTables$Workshop", "failWithReason", "()Z"⟩, 12), (⟨"OfficeTables$Workshop", "keepsPromise", "(LOfficeTables$Table;)Z"⟩, 12), (⟨"OfficeTables$Workshop", "awakenRow", "(LOfficeTables$Table;III)Z"⟩, 12), (⟨"OfficeTablesModel", "cutUp", "()V"⟩, 66), (⟨"OfficeTablesModel", "at", "(I)I"⟩, 66), (⟨"OfficeTablesModel", "addToken", "(IIJ)V"⟩, 66), (⟨"OfficeTablesModel", "readTable", "()V"⟩, 66), (⟨"OfficeTablesModel", "must", "(Z)Z"⟩, 66), (⟨"OfficeTablesModel", "take", "(I)Z"⟩, 66), (⟨"OfficeTablesModel", "readSize", "()V"⟩, 66), (⟨"OfficeTablesModel", "use", "(Z)V"⟩, 66), (⟨"OfficeTablesModel", "readSum", "()V"⟩, 66), (⟨"OfficeTablesModel", "readUnit", "()V"⟩, 66), (⟨"OfficeTablesModel", "emit", "(IJ)V"⟩, 66)]
theorem lw_r3 : ∀ q ∈ lw_privs_3, lw_okq q := List.forall_mem_cons.mpr ⟨lw_p32, List.forall_mem_cons.mpr ⟨lw_p33, List.forall_mem_cons.mpr ⟨lw_p34, List.forall_mem_cons.mpr ⟨lw_p35, List.forall_mem_cons.mpr ⟨lw_p36, List.forall_mem_cons.mpr ⟨lw_p37, List.forall_mem_cons.mpr ⟨lw_p38, List.forall_mem_cons.mpr ⟨lw_p39, List.forall_mem_cons.mpr ⟨lw_p40, List.forall_mem_cons.mpr ⟨lw_p41, List.forall_mem_cons.mpr ⟨lw_p42, List.forall_mem_cons.mpr ⟨lw_p43, List.forall_mem_cons.mpr ⟨lw_p44, List.forall_mem_cons.mpr ⟨lw_p45, List.forall_mem_cons.mpr ⟨lw_p46, List.forall_mem_cons.mpr ⟨lw_p47, fun _ h => absurd h List.not_mem_nil⟩⟩⟩⟩⟩⟩⟩⟩⟩⟩⟩⟩⟩⟩⟩⟩
theorem lw_p48 : lw_okq (⟨"OfficeTablesModel", "push", "(II)V"⟩, 66) := ⟨⟨by decide +kernel, by decide +kernel⟩, List.mem_of_getElem? (i := 739) (by decide +kernel), List.mem_of_getElem? (i := 1022) (by decide +kernel), List.mem_of_getElem? (i := 1023) (by decide +kernel)⟩
theorem lw_p49 : lw_okq (⟨"OfficeTablesModel", "endUnit", "()V"⟩, 66) := ⟨⟨by decide +kernel, by decide +kernel⟩, List.mem_of_getElem? (i := 739) (by decide +kernel), List.mem_of_getElem? (i := 1026) (by decide +kernel), List.mem_of_getElem? (i := 1027) (by decide +kernel)⟩
theorem lw_p50 : lw_okq (⟨"OfficeTablesModel", "top", "()I"⟩, 66) := ⟨⟨by decide +kernel, by decide +kernel⟩, List.mem_of_getElem? (i := 739) (by decide +kernel), List.mem_of_getElem? (i := 1030) (by decide +kernel), List.mem_of_getElem? (i := 1031) (by decide +kernel)⟩
theorem lw_p51 : lw_okq (⟨"OfficeTablesModel", "isHigh", "(I)Z"⟩, 66) := ⟨⟨by decide +kernel, by decide +kernel⟩, List.mem_of_getElem? (i := 739) (by decide +kernel), List.mem_of_getElem? (i := 1034) (by decide +kernel), List.mem_of_getElem? (i := 1035) (by decide +kernel)⟩
theorem lw_p52 : lw_okq (⟨"OfficeTablesModel", "goOn", "()Z"⟩, 66) := ⟨⟨by decide +kernel, by decide +kernel⟩, List.mem_of_getElem? (i := 739) (by decide +kernel), List.mem_of_getElem? (i := 1041) (by decide +kernel), List.mem_of_getElem? (i := 1042) (by decide +kernel)⟩
theorem lw_p53 : lw_okq (⟨"OfficeTablesModel", "isLow", "(I)Z"⟩, 66) := ⟨⟨by decide +kernel, by decide +kernel⟩, List.mem_of_getElem? (i := 739) (by decide +kernel), List.mem_of_getElem? (i := 1045) (by decide +kernel), List.mem_of_getElem? (i := 1046) (by decide +kernel)⟩
theorem lw_p54 : lw_okq (⟨"OfficeTablesModel", "endLow", "()V"⟩, 66) := ⟨⟨by decide +kernel, by decide +kernel⟩, List.mem_of_getElem? (i := 739) (by decide +kernel), List.mem_of_getElem? (i := 1049) (by decide +kernel), List.mem_of_getElem? (i := 1050) (by decide +kernel)⟩
theorem lw_p55 : lw_okq (⟨"OfficeTablesModel", "checkNames", "()V"⟩, 66) := ⟨⟨by decide +kernel, by decide +kernel⟩, List.mem_of_getElem? (i := 739) (by decide +kernel), List.mem_of_getElem? (i := 1053) (by decide +kernel), List.mem_of_getElem? (i := 1054) (by decide +kernel)⟩
theorem lw_p56 : lw_okq (⟨"OfficeTablesModel", "tableOf", "(JI)I"⟩, 66) := ⟨⟨by decide +kernel, by decide +kernel⟩, List.mem_of_getElem? (i := 739) (by decide +kernel), List.mem_of_getElem? (i := 1057) (by decide +kernel), List.mem_of_getElem? (i := 1058) (by decide +kernel)⟩
theorem lw_p57 : lw_okq (⟨"OfficeTablesModel", "sizeOf", "(I)J"⟩, 66) := ⟨⟨by decide +kernel, by decide +kernel⟩, List.mem_of_getElem? (i := 739) (by decide +kernel), List.mem_of_getElem? (i := 1061) (by decide +kernel), List.mem_of_getElem? (i := 1062) (by decide +kernel)⟩
theorem lw_p58 : lw_okq (⟨"OfficeTablesModel", "isTable", "(I)Z"⟩, 66) := ⟨⟨by decide +kernel, by decide +kernel⟩, List.mem_of_getElem? (i := 739) (by decide +kernel), List.mem_of_getElem? (i := 1073) (by decide +kernel), List.mem_of_getElem? (i := 1074) (by decide +kernel)⟩
theorem lw_p59 : lw_okq (⟨"OfficeTablesModel", "rowsOf", "(I)I"⟩, 66) := ⟨⟨by decide +kernel, by decide +kernel⟩, List.mem_of_getElem? (i := 739) (by decide +kernel), List.mem_of_getElem? (i := 1088) (by decide +kernel), List.mem_of_getElem? (i := 1089) (by decide +kernel)⟩
theorem lw_p60 : lw_okq (⟨"OfficeTablesModel", "get", "(IJZ)Z"⟩, 66) := ⟨⟨by decide +kernel, by decide +kernel⟩, List.mem_of_getElem? (i := 739) (by decide +kernel), List.mem_of_getElem? (i := 1096) (by decide +kernel), List.mem_of_getElem? (i := 1097) (by decide +kernel)⟩
theorem lw_p61 : lw_okq (⟨"OfficeTablesModel", "goOne", "()I"⟩, 66) := ⟨⟨by decide +kernel, by decide +kernel⟩, List.mem_of_getElem? (i := 739) (by decide +kernel), List.mem_of_getElem? (i := 1100) (by decide +kernel), List.mem_of_getElem? (i := 1101) (by decide +kernel)⟩
theorem lw_p62 : lw_okq (⟨"OfficeTablesModel", "step", "(I)I"⟩, 66) := ⟨⟨by decide +kernel, by decide +kernel⟩, List.mem_of_getElem? (i := 739) (by decide +kernel), List.mem_of_getElem? (i := 1104) (by decide +kernel), List.mem_of_getElem? (i := 1105) (by decide +kernel)⟩
theorem lw_p63 : lw_okq (⟨"OfficeTablesModel", "putTop", "(IJ)V"⟩, 66) := ⟨⟨by decide +kernel, by decide +kernel⟩, List.mem_of_getElem? (i := 739) (by decide +kernel), List.mem_of_getElem? (i := 1108) (by decide +kernel), List.mem_of_getElem? (i := 1109) (by decide +kernel)⟩
def lw_privs_4 : List (MethodName × Nat) := [(⟨"OfficeTablesModel", "push", "(II)V"⟩, 66), (⟨"OfficeTablesModel", "endUnit", "()V"⟩, 66), (⟨"OfficeTablesModel", "top", "()I"⟩, 66), (⟨"OfficeTablesModel", "isHigh", "(I)Z"⟩, 66), (⟨"OfficeTablesModel", "goOn", "()Z"⟩, 66), (⟨"OfficeTablesModel", "isLow", "(I)Z"⟩, 66), (⟨"OfficeTablesModel", "endLow", "()V"⟩, 66), (⟨"OfficeTablesModel", "checkNames", "()V"⟩, 66), (⟨"OfficeTablesModel", "tableOf", "(JI)I"⟩, 66), (⟨"OfficeTablesModel", "sizeOf", "(I)J"⟩, 66), (⟨"OfficeTablesModel", "isTable", "(I)Z"⟩, 66), (⟨"OfficeTablesModel", "rowsOf", "(I)I"⟩, 66), (⟨"OfficeTablesModel", "get", "(IJZ)Z"⟩, 66), (⟨"OfficeTablesModel", "goOne", "()I"⟩, 66), (⟨"OfficeTablesModel", "step", "(I)I"⟩, 66), (⟨"OfficeTablesModel", "putTop", "(IJ)V"⟩, 66)]
theorem lw_r4 : ∀ q ∈ lw_privs_4, lw_okq q := List.forall_mem_cons.mpr ⟨lw_p48, List.forall_mem_cons.mpr ⟨lw_p49, List.forall_mem_cons.mpr ⟨lw_p50, List.forall_mem_cons.mpr ⟨lw_p51, List.forall_mem_cons.mpr ⟨lw_p52, List.forall_mem_cons.mpr ⟨lw_p53, List.forall_mem_cons.mpr ⟨lw_p54, List.forall_mem_cons.mpr ⟨lw_p55, List.forall_mem_cons.mpr ⟨lw_p56, List.forall_mem_cons.mpr ⟨lw_p57, List.forall_mem_cons.mpr ⟨lw_p58, List.forall_mem_cons.mpr ⟨lw_p59, List.forall_mem_cons.mpr ⟨lw_p60, List.forall_mem_cons.mpr ⟨lw_p61, List.forall_mem_cons.mpr ⟨lw_p62, List.forall_mem_cons.mpr ⟨lw_p63, fun _ h => absurd h List.not_mem_nil⟩⟩⟩⟩⟩⟩⟩⟩⟩⟩⟩⟩⟩⟩⟩⟩
theorem lw_p64 : lw_okq (⟨"OfficeTablesModel", "takeTop", "(I)J"⟩, 66) := ⟨⟨by decide +kernel, by decide +kernel⟩, List.mem_of_getElem? (i := 739) (by decide +kernel), List.mem_of_getElem? (i := 1112) (by decide +kernel), List.mem_of_getElem? (i := 1113) (by decide +kernel)⟩
theorem lw_p65 : lw_okq (⟨"OfficeTablesModel", "ask", "(IJIZ)I"⟩, 66) := ⟨⟨by decide +kernel, by decide +kernel⟩, List.mem_of_getElem? (i := 739) (by decide +kernel), List.mem_of_getElem? (i := 1116) (by decide +kernel), List.mem_of_getElem? (i := 1117) (by decide +kernel)⟩
theorem lw_p66 : lw_okq (⟨"OfficeTablesModel", "begin", "(III)I"⟩, 66) := ⟨⟨by decide +kernel, by decide +kernel⟩, List.mem_of_getElem? (i := 739) (by decide +kernel), List.mem_of_getElem? (i := 1120) (by decide +kernel), List.mem_of_getElem? (i := 1121) (by decide +kernel)⟩
theorem lw_p67 : lw_okq (⟨"OfficeTablesModel", "noteBuild", "(III)V"⟩, 66) := ⟨⟨by decide +kernel, by decide +kernel⟩, List.mem_of_getElem? (i := 739) (by decide +kernel), List.mem_of_getElem? (i := 1124) (by decide +kernel), List.mem_of_getElem? (i := 1125) (by decide +kernel)⟩
theorem lw_p68 : lw_okq (⟨"OfficeTablesModel", "half", "(IIIJ)J"⟩, 66) := ⟨⟨by decide +kernel, by decide +kernel⟩, List.mem_of_getElem? (i := 739) (by decide +kernel), List.mem_of_getElem? (i := 1129) (by decide +kernel), List.mem_of_getElem? (i := 1130) (by decide +kernel)⟩
theorem lw_p69 : lw_okq (⟨"OfficeTablesModel", "add", "(J)V"⟩, 66) := ⟨⟨by decide +kernel, by decide +kernel⟩, List.mem_of_getElem? (i := 739) (by decide +kernel), List.mem_of_getElem? (i := 1133) (by decide +kernel), List.mem_of_getElem? (i := 1134) (by decide +kernel)⟩
theorem lw_p70 : lw_okq (⟨"OfficeTablesModel", "failAll", "(I)V"⟩, 66) := ⟨⟨by decide +kernel, by decide +kernel⟩, List.mem_of_getElem? (i := 739) (by decide +kernel), List.mem_of_getElem? (i := 1138) (by decide +kernel), List.mem_of_getElem? (i := 1139) (by decide +kernel)⟩
theorem lw_p71 : lw_okq (⟨"OfficeTablesModel", "isAnswered", "(IJZ)Z"⟩, 66) := ⟨⟨by decide +kernel, by decide +kernel⟩, List.mem_of_getElem? (i := 739) (by decide +kernel), List.mem_of_getElem? (i := 1142) (by decide +kernel), List.mem_of_getElem? (i := 1143) (by decide +kernel)⟩
def lw_privs_5 : List (MethodName × Nat) := [(⟨"OfficeTablesModel", "takeTop", "(I)J"⟩, 66), (⟨"OfficeTablesModel", "ask", "(IJIZ)I"⟩, 66), (⟨"OfficeTablesModel", "begin", "(III)I"⟩, 66), (⟨"OfficeTablesModel", "noteBuild", "(III)V"⟩, 66), (⟨"OfficeTablesModel", "half", "(IIIJ)J"⟩, 66), (⟨"OfficeTablesModel", "add", "(J)V"⟩, 66), (⟨"OfficeTablesModel", "failAll", "(I)V"⟩, 66), (⟨"OfficeTablesModel", "isAnswered", "(IJZ)Z"⟩, 66)]
theorem lw_r5 : ∀ q ∈ lw_privs_5, lw_okq q := List.forall_mem_cons.mpr ⟨lw_p64, List.forall_mem_cons.mpr ⟨lw_p65, List.forall_mem_cons.mpr ⟨lw_p66, List.forall_mem_cons.mpr ⟨lw_p67, List.forall_mem_cons.mpr ⟨lw_p68, List.forall_mem_cons.mpr ⟨lw_p69, List.forall_mem_cons.mpr ⟨lw_p70, List.forall_mem_cons.mpr ⟨lw_p71, fun _ h => absurd h List.not_mem_nil⟩⟩⟩⟩⟩⟩⟩⟩
def lw_privs : List (MethodName × Nat) := lw_privs_1 ++ (lw_privs_2 ++ (lw_privs_3 ++ (lw_privs_4 ++ (lw_privs_5))))
def lw_tbl : List Cond := k2_sels lw_privs ++ tables_1
theorem lw_privs_ok : ∀ q ∈ lw_privs, lw_okq q := by
  show ∀ q ∈ lw_privs_1 ++ (lw_privs_2 ++ (lw_privs_3 ++ (lw_privs_4 ++ (lw_privs_5)))), lw_okq q
  exact List.forall_mem_append.mpr ⟨lw_r1, List.forall_mem_append.mpr ⟨lw_r2, List.forall_mem_append.mpr ⟨lw_r3, List.forall_mem_append.mpr ⟨lw_r4, lw_r5⟩⟩⟩⟩
def RX0 : String := "OfficeTables$Formula"
def TX0 : u_T := fun k => match k with
  | 0 => ("OfficeTables$Formula", "steps", "[I", true)
  | 1 => ("OfficeTables$Formula", "with", "[J", true)
  | 2 => ("OfficeTables$Formula", "places", "[I", true)
  | _ => ("OfficeTables$Formula", "length", "I", false)
def tyX0 : Nat → FieldType := fun k => match k with
  | 0 => .array .int
  | 1 => .array .long
  | 2 => .array .int
  | _ => .int
theorem nmX0 : ∀ a, a < 4 → ∀ b, b < 4 → a ≠ b → (TX0 a).2.1 ≠ (TX0 b).2.1 := by decide +kernel
theorem tyX0_ok : ∀ k, k < 4 → parseFieldDescriptor (TX0 k).2.2.1 = some (tyX0 k) := by decide +kernel
abbrev cX0_init : ByteArray := prog_2_method_1_code
def yX0_init : MethodName := ⟨RX0, "<init>", "()V"⟩
abbrev cX0_clear : ByteArray := prog_2_method_2_code
def yX0_clear : MethodName := ⟨RX0, "clear", "()V"⟩
abbrev cX0_add : ByteArray := prog_2_method_3_code
def yX0_add : MethodName := ⟨RX0, "add", "(IJI)V"⟩
abbrev cX0_skipToHere : ByteArray := prog_2_method_4_code
def yX0_skipToHere : MethodName := ⟨RX0, "skipToHere", "(I)V"⟩
abbrev cX0_stepAt : ByteArray := prog_2_method_5_code
def yX0_stepAt : MethodName := ⟨RX0, "stepAt", "(I)I"⟩
abbrev cX0_withAt : ByteArray := prog_2_method_6_code
def yX0_withAt : MethodName := ⟨RX0, "withAt", "(I)J"⟩
abbrev cX0_skipAt : ByteArray := prog_2_method_7_code
def yX0_skipAt : MethodName := ⟨RX0, "skipAt", "(I)I"⟩
abbrev cX0_isNameAt : ByteArray := prog_2_method_8_code
def yX0_isNameAt : MethodName := ⟨RX0, "isNameAt", "(I)Z"⟩
abbrev cX0_placeAt : ByteArray := prog_2_method_9_code
def yX0_placeAt : MethodName := ⟨RX0, "placeAt", "(I)I"⟩
abbrev cX0_resolve : ByteArray := prog_2_method_10_code
def yX0_resolve : MethodName := ⟨RX0, "resolve", "(II)V"⟩
abbrev cX0_names : ByteArray := prog_2_method_11_code
def yX0_names : MethodName := ⟨RX0, "names", "(I)Z"⟩
def RX1 : String := "OfficeTables$Log"
def TX1 : u_T := fun k => match k with
  | 0 => ("OfficeTables$Log", "kept", "[J", true)
  | _ => ("OfficeTables$Log", "begun", "I", false)
def tyX1 : Nat → FieldType := fun k => match k with
  | 0 => .array .long
  | _ => .int
theorem nmX1 : ∀ a, a < 2 → ∀ b, b < 2 → a ≠ b → (TX1 a).2.1 ≠ (TX1 b).2.1 := by decide +kernel
theorem tyX1_ok : ∀ k, k < 2 → parseFieldDescriptor (TX1 k).2.2.1 = some (tyX1 k) := by decide +kernel
abbrev cX1_init : ByteArray := prog_3_method_1_code
def yX1_init : MethodName := ⟨RX1, "<init>", "()V"⟩
abbrev cX1_clear : ByteArray := prog_3_method_2_code
def yX1_clear : MethodName := ⟨RX1, "clear", "()V"⟩
abbrev cX1_note : ByteArray := prog_3_method_3_code
def yX1_note : MethodName := ⟨RX1, "note", "(JJJJ)V"⟩
abbrev cX1_keeps : ByteArray := prog_3_method_4_code
def yX1_keeps : MethodName := ⟨RX1, "keeps", "(I)Z"⟩
abbrev cX1_told : ByteArray := prog_3_method_5_code
def yX1_told : MethodName := ⟨RX1, "told", "(II)J"⟩
def RX2 : String := "OfficeTables$Table"
def TX2 : u_T := fun k => match k with
  | 0 => ("OfficeTables$Table", "formula", "LOfficeTables$Formula;", true)
  | 1 => ("OfficeTables$Table", "entries", "[J", true)
  | 2 => ("OfficeTables$Table", "rowConditions", "[I", true)
  | 3 => ("OfficeTables$Table", "name", "J", false)
  | 4 => ("OfficeTables$Table", "size", "J", false)
  | 5 => ("OfficeTables$Table", "byRows", "Z", false)
  | 6 => ("OfficeTables$Table", "isPromised", "Z", false)
  | 7 => ("OfficeTables$Table", "promise", "J", false)
  | _ => ("OfficeTables$Table", "condition", "I", false)
def tyX2 : Nat → FieldType := fun k => match k with
  | 0 => .object "OfficeTables$Formula"
  | 1 => .array .long
  | 2 => .array .int
  | 3 => .long
  | 4 => .long
  | 5 => .boolean
  | 6 => .boolean
  | 7 => .long
  | _ => .int
theorem nmX2 : ∀ a, a < 9 → ∀ b, b < 9 → a ≠ b → (TX2 a).2.1 ≠ (TX2 b).2.1 := by decide +kernel
theorem tyX2_ok : ∀ k, k < 9 → parseFieldDescriptor (TX2 k).2.2.1 = some (tyX2 k) := by decide +kernel
abbrev cX2_init : ByteArray := prog_4_method_1_code
def yX2_init : MethodName := ⟨RX2, "<init>", "()V"⟩
abbrev cX2_putToSleep : ByteArray := prog_4_method_2_code
def yX2_putToSleep : MethodName := ⟨RX2, "putToSleep", "()V"⟩
abbrev cX2_entriesInAll : ByteArray := prog_4_method_3_code
def yX2_entriesInAll : MethodName := ⟨RX2, "entriesInAll", "()I"⟩
abbrev cX2_rowsInAll : ByteArray := prog_4_method_4_code
def yX2_rowsInAll : MethodName := ⟨RX2, "rowsInAll", "()I"⟩
abbrev cX2_endOfRow : ByteArray := prog_4_method_5_code
def yX2_endOfRow : MethodName := ⟨RX2, "endOfRow", "(I)I"⟩
abbrev cX2_clearEntries : ByteArray := prog_4_method_6_code
def yX2_clearEntries : MethodName := ⟨RX2, "clearEntries", "()V"⟩
abbrev cX2_readyEntries : ByteArray := prog_4_method_7_code
def yX2_readyEntries : MethodName := ⟨RX2, "readyEntries", "()I"⟩
def RX3 : String := "OfficeTables$Tape"
def TX3 : u_T := fun k => match k with
  | 0 => ("OfficeTables$Tape", "bytes", "[B", true)
  | _ => ("OfficeTables$Tape", "length", "I", false)
def tyX3 : Nat → FieldType := fun k => match k with
  | 0 => .array .byte
  | _ => .int
theorem nmX3 : ∀ a, a < 2 → ∀ b, b < 2 → a ≠ b → (TX3 a).2.1 ≠ (TX3 b).2.1 := by decide +kernel
theorem tyX3_ok : ∀ k, k < 2 → parseFieldDescriptor (TX3 k).2.2.1 = some (tyX3 k) := by decide +kernel
abbrev cX3_init : ByteArray := prog_5_method_1_code
def yX3_init : MethodName := ⟨RX3, "<init>", "()V"⟩
abbrev cX3_append : ByteArray := prog_5_method_2_code
def yX3_append : MethodName := ⟨RX3, "append", "(J)Z"⟩
abbrev cX3_bytesIn : ByteArray := prog_5_method_3_code
def yX3_bytesIn : MethodName := ⟨RX3, "bytesIn", "(J)I"⟩
abbrev cX3_putByte : ByteArray := prog_5_method_4_code
def yX3_putByte : MethodName := ⟨RX3, "putByte", "(IB)V"⟩
abbrev cX3_byteAt : ByteArray := prog_5_method_5_code
def yX3_byteAt : MethodName := ⟨RX3, "byteAt", "(I)I"⟩
abbrev cX3_empty : ByteArray := prog_5_method_6_code
def yX3_empty : MethodName := ⟨RX3, "empty", "()V"⟩
def RX4 : String := "OfficeTables$Text"
def TX4 : u_T := fun k => match k with
  | 0 => ("OfficeTables$Text", "tables", "[LOfficeTables$Table;", true)
  | _ => ("OfficeTables$Text", "told", "I", false)
def tyX4 : Nat → FieldType := fun k => match k with
  | 0 => .array (.object "OfficeTables$Table")
  | _ => .int
theorem nmX4 : ∀ a, a < 2 → ∀ b, b < 2 → a ≠ b → (TX4 a).2.1 ≠ (TX4 b).2.1 := by decide +kernel
theorem tyX4_ok : ∀ k, k < 2 → parseFieldDescriptor (TX4 k).2.2.1 = some (tyX4 k) := by decide +kernel
abbrev cX4_init : ByteArray := prog_6_method_1_code
def yX4_init : MethodName := ⟨RX4, "<init>", "()V"⟩
abbrev cX4_slotAt : ByteArray := prog_6_method_2_code
def yX4_slotAt : MethodName := ⟨RX4, "slotAt", "(I)LOfficeTables$Table;"⟩
abbrev cX4_tableAt : ByteArray := prog_6_method_3_code
def yX4_tableAt : MethodName := ⟨RX4, "tableAt", "(I)LOfficeTables$Table;"⟩
abbrev cX4_numberOf : ByteArray := prog_6_method_4_code
def yX4_numberOf : MethodName := ⟨RX4, "numberOf", "(J)I"⟩
abbrev cX4_sizeOf : ByteArray := prog_6_method_5_code
def yX4_sizeOf : MethodName := ⟨RX4, "sizeOf", "(I)J"⟩
abbrev cX4_putToSleep : ByteArray := prog_6_method_6_code
def yX4_putToSleep : MethodName := ⟨RX4, "putToSleep", "()V"⟩
abbrev cX4_howManyAre : ByteArray := prog_6_method_7_code
def yX4_howManyAre : MethodName := ⟨RX4, "howManyAre", "(I)I"⟩
abbrev cX4_readyEntries : ByteArray := prog_6_method_8_code
def yX4_readyEntries : MethodName := ⟨RX4, "readyEntries", "()I"⟩
def RX5 : String := "OfficeTables$TextReader"
def TX5 : u_T := fun k => match k with
  | 0 => ("OfficeTables$TextReader", "tokens", "LOfficeTables$Tokens;", true)
  | 1 => ("OfficeTables$TextReader", "formula", "LOfficeTables$Formula;", false)
  | 2 => ("OfficeTables$TextReader", "units", "I", false)
  | 3 => ("OfficeTables$TextReader", "fault", "I", false)
  | _ => ("OfficeTables$TextReader", "nameFault", "I", false)
def tyX5 : Nat → FieldType := fun k => match k with
  | 0 => .object "OfficeTables$Tokens"
  | 1 => .object "OfficeTables$Formula"
  | 2 => .int
  | 3 => .int
  | _ => .int
theorem nmX5 : ∀ a, a < 5 → ∀ b, b < 5 → a ≠ b → (TX5 a).2.1 ≠ (TX5 b).2.1 := by decide +kernel
theorem tyX5_ok : ∀ k, k < 5 → parseFieldDescriptor (TX5 k).2.2.1 = some (tyX5 k) := by decide +kernel
abbrev cX5_init : ByteArray := prog_7_method_1_code
def yX5_init : MethodName := ⟨RX5, "<init>", "(LOfficeTables$Tape;)V"⟩
abbrev cX5_parse : ByteArray := prog_7_method_2_code
def yX5_parse : MethodName := ⟨RX5, "parse", "(LOfficeTables$Text;)I"⟩
abbrev cX5_faultHere : ByteArray := prog_7_method_3_code
def yX5_faultHere : MethodName := ⟨RX5, "faultHere", "()Z"⟩
abbrev cX5_noteNameFault : ByteArray := prog_7_method_4_code
def yX5_noteNameFault : MethodName := ⟨RX5, "noteNameFault", "(I)V"⟩
abbrev cX5_expect : ByteArray := prog_7_method_5_code
def yX5_expect : MethodName := ⟨RX5, "expect", "(I)Z"⟩
abbrev cX5_takeTable : ByteArray := prog_7_method_6_code
def yX5_takeTable : MethodName := ⟨RX5, "takeTable", "(LOfficeTables$Text;LOfficeTables$Table;)Z"⟩
abbrev cX5_takeSize : ByteArray := prog_7_method_7_code
def yX5_takeSize : MethodName := ⟨RX5, "takeSize", "(LOfficeTables$Text;LOfficeTables$Table;)Z"⟩
abbrev cX5_sizeToldAhead : ByteArray := prog_7_method_8_code
def yX5_sizeToldAhead : MethodName := ⟨RX5, "sizeToldAhead", "(LOfficeTables$Text;)J"⟩
abbrev cX5_takeManner : ByteArray := prog_7_method_9_code
def yX5_takeManner : MethodName := ⟨RX5, "takeManner", "(LOfficeTables$Table;)Z"⟩
abbrev cX5_takeEnd : ByteArray := prog_7_method_10_code
def yX5_takeEnd : MethodName := ⟨RX5, "takeEnd", "(LOfficeTables$Table;)Z"⟩
abbrev cX5_addStep : ByteArray := prog_7_method_11_code
def yX5_addStep : MethodName := ⟨RX5, "addStep", "(IJI)V"⟩
abbrev cX5_takeSum : ByteArray := prog_7_method_12_code
def yX5_takeSum : MethodName := ⟨RX5, "takeSum", "(I)Z"⟩
abbrev cX5_takeProduct : ByteArray := prog_7_method_13_code
def yX5_takeProduct : MethodName := ⟨RX5, "takeProduct", "(I)Z"⟩
abbrev cX5_isProductSign : ByteArray := prog_7_method_14_code
def yX5_isProductSign : MethodName := ⟨RX5, "isProductSign", "(I)Z"⟩
abbrev cX5_takeUnit : ByteArray := prog_7_method_15_code
def yX5_takeUnit : MethodName := ⟨RX5, "takeUnit", "(I)Z"⟩
abbrev cX5_takeEntry : ByteArray := prog_7_method_16_code
def yX5_takeEntry : MethodName := ⟨RX5, "takeEntry", "(I)Z"⟩
abbrev cX5_takeGroup : ByteArray := prog_7_method_17_code
def yX5_takeGroup : MethodName := ⟨RX5, "takeGroup", "(I)Z"⟩
abbrev cX5_takeChoice : ByteArray := prog_7_method_18_code
def yX5_takeChoice : MethodName := ⟨RX5, "takeChoice", "(I)Z"⟩
abbrev cX5_resolveNames : ByteArray := prog_7_method_19_code
def yX5_resolveNames : MethodName := ⟨RX5, "resolveNames", "(LOfficeTables$Text;)V"⟩
abbrev cX5_resolveNamesIn : ByteArray := prog_7_method_20_code
def yX5_resolveNamesIn : MethodName := ⟨RX5, "resolveNamesIn", "(LOfficeTables$Formula;LOfficeTables$Text;)V"⟩
def RX6 : String := "OfficeTables$Tokens"
def TX6 : u_T := fun k => match k with
  | 0 => ("OfficeTables$Tokens", "tape", "LOfficeTables$Tape;", true)
  | 1 => ("OfficeTables$Tokens", "next", "I", false)
  | 2 => ("OfficeTables$Tokens", "kind", "I", false)
  | 3 => ("OfficeTables$Tokens", "place", "I", false)
  | _ => ("OfficeTables$Tokens", "value", "J", false)
def tyX6 : Nat → FieldType := fun k => match k with
  | 0 => .object "OfficeTables$Tape"
  | 1 => .int
  | 2 => .int
  | 3 => .int
  | _ => .long
theorem nmX6 : ∀ a, a < 5 → ∀ b, b < 5 → a ≠ b → (TX6 a).2.1 ≠ (TX6 b).2.1 := by decide +kernel
theorem tyX6_ok : ∀ k, k < 5 → parseFieldDescriptor (TX6 k).2.2.1 = some (tyX6 k) := by decide +kernel
abbrev cX6_init : ByteArray := prog_8_method_1_code
def yX6_init : MethodName := ⟨RX6, "<init>", "(LOfficeTables$Tape;)V"⟩
abbrev cX6_start : ByteArray := prog_8_method_2_code
def yX6_start : MethodName := ⟨RX6, "start", "()V"⟩
abbrev cX6_advance : ByteArray := prog_8_method_3_code
def yX6_advance : MethodName := ⟨RX6, "advance", "()V"⟩
abbrev cX6_skipBlanks : ByteArray := prog_8_method_4_code
def yX6_skipBlanks : MethodName := ⟨RX6, "skipBlanks", "()V"⟩
abbrev cX6_takeDigits : ByteArray := prog_8_method_5_code
def yX6_takeDigits : MethodName := ⟨RX6, "takeDigits", "()I"⟩
abbrev cX6_takeLetters : ByteArray := prog_8_method_6_code
def yX6_takeLetters : MethodName := ⟨RX6, "takeLetters", "()I"⟩
abbrev cX6_isDigit : ByteArray := prog_8_method_7_code
def yX6_isDigit : MethodName := ⟨RX6, "isDigit", "(I)Z"⟩
abbrev cX6_isLetter : ByteArray := prog_8_method_8_code
def yX6_isLetter : MethodName := ⟨RX6, "isLetter", "(I)Z"⟩
abbrev cX6_isSign : ByteArray := prog_8_method_9_code
def yX6_isSign : MethodName := ⟨RX6, "isSign", "(I)Z"⟩
abbrev cX6_kindOfWord : ByteArray := prog_8_method_10_code
def yX6_kindOfWord : MethodName := ⟨RX6, "kindOfWord", "(J)I"⟩
def RX7 : String := "OfficeTables$Total"
def TX7 : u_T := fun k => match k with
  | 0 => ("OfficeTables$Total", "low", "J", false)
  | _ => ("OfficeTables$Total", "high", "J", false)
def tyX7 : Nat → FieldType := fun k => match k with
  | 0 => .long
  | _ => .long
theorem nmX7 : ∀ a, a < 2 → ∀ b, b < 2 → a ≠ b → (TX7 a).2.1 ≠ (TX7 b).2.1 := by decide +kernel
theorem tyX7_ok : ∀ k, k < 2 → parseFieldDescriptor (TX7 k).2.2.1 = some (tyX7 k) := by decide +kernel
abbrev cX7_init : ByteArray := prog_9_method_1_code
def yX7_init : MethodName := ⟨RX7, "<init>", "()V"⟩
abbrev cX7_clear : ByteArray := prog_9_method_2_code
def yX7_clear : MethodName := ⟨RX7, "clear", "()V"⟩
abbrev cX7_add : ByteArray := prog_9_method_3_code
def yX7_add : MethodName := ⟨RX7, "add", "(J)V"⟩
abbrev cX7_is : ByteArray := prog_9_method_4_code
def yX7_is : MethodName := ⟨RX7, "is", "(J)Z"⟩
abbrev cX7_part : ByteArray := prog_9_method_5_code
def yX7_part : MethodName := ⟨RX7, "part", "(I)J"⟩
def RX8 : String := "OfficeTables$Workshop"
def TX8 : u_T := fun k => match k with
  | 0 => ("OfficeTables$Workshop", "buildLog", "LOfficeTables$Log;", true)
  | 1 => ("OfficeTables$Workshop", "halfLog", "LOfficeTables$Log;", true)
  | 2 => ("OfficeTables$Workshop", "total", "LOfficeTables$Total;", true)
  | 3 => ("OfficeTables$Workshop", "got", "J", false)
  | 4 => ("OfficeTables$Workshop", "promisedTotal", "LOfficeTables$Total;", true)
  | 5 => ("OfficeTables$Workshop", "text", "LOfficeTables$Text;", false)
  | 6 => ("OfficeTables$Workshop", "waiting", "[J", true)
  | 7 => ("OfficeTables$Workshop", "waitingMany", "I", false)
  | 8 => ("OfficeTables$Workshop", "underWay", "I", false)
  | 9 => ("OfficeTables$Workshop", "reasons", "[I", true)
  | 10 => ("OfficeTables$Workshop", "reasonsMany", "I", false)
  | _ => ("OfficeTables$Workshop", "isOwned", "Z", false)
def tyX8 : Nat → FieldType := fun k => match k with
  | 0 => .object "OfficeTables$Log"
  | 1 => .object "OfficeTables$Log"
  | 2 => .object "OfficeTables$Total"
  | 3 => .long
  | 4 => .object "OfficeTables$Total"
  | 5 => .object "OfficeTables$Text"
  | 6 => .array .long
  | 7 => .int
  | 8 => .int
  | 9 => .array .int
  | 10 => .int
  | _ => .boolean
theorem nmX8 : ∀ a, a < 12 → ∀ b, b < 12 → a ≠ b → (TX8 a).2.1 ≠ (TX8 b).2.1 := by decide +kernel
theorem tyX8_ok : ∀ k, k < 12 → parseFieldDescriptor (TX8 k).2.2.1 = some (tyX8 k) := by decide +kernel
abbrev cX8_init : ByteArray := prog_10_method_1_code
def yX8_init : MethodName := ⟨RX8, "<init>", "(LOfficeTables$Text;)V"⟩
abbrev cX8_open : ByteArray := prog_10_method_2_code
def yX8_open : MethodName := ⟨RX8, "open", "(LOfficeTables$Text;)V"⟩
abbrev cX8_startCall : ByteArray := prog_10_method_3_code
def yX8_startCall : MethodName := ⟨RX8, "startCall", "()V"⟩
abbrev cX8_reasonAt : ByteArray := prog_10_method_4_code
def yX8_reasonAt : MethodName := ⟨RX8, "reasonAt", "(I)I"⟩
abbrev cX8_askFor : ByteArray := prog_10_method_5_code
def yX8_askFor : MethodName := ⟨RX8, "askFor", "(IJ)Z"⟩
abbrev cX8_addUp : ByteArray := prog_10_method_6_code
def yX8_addUp : MethodName := ⟨RX8, "addUp", "(III)Z"⟩
abbrev cX8_search : ByteArray := prog_10_method_7_code
def yX8_search : MethodName := ⟨RX8, "search", "(IJ)I"⟩
abbrev cX8_ask : ByteArray := prog_10_method_8_code
def yX8_ask : MethodName := ⟨RX8, "ask", "(IJI)Z"⟩
abbrev cX8_awaken : ByteArray := prog_10_method_9_code
def yX8_awaken : MethodName := ⟨RX8, "awaken", "(LOfficeTables$Table;II)Z"⟩
abbrev cX8_awakenRow : ByteArray := prog_10_method_10_code
def yX8_awakenRow : MethodName := ⟨RX8, "awakenRow", "(LOfficeTables$Table;III)Z"⟩
abbrev cX8_wake : ByteArray := prog_10_method_11_code
def yX8_wake : MethodName := ⟨RX8, "wake", "(LOfficeTables$Table;II)Z"⟩
abbrev cX8_layOut : ByteArray := prog_10_method_12_code
def yX8_layOut : MethodName := ⟨RX8, "layOut", "(LOfficeTables$Table;)Z"⟩
abbrev cX8_fill : ByteArray := prog_10_method_13_code
def yX8_fill : MethodName := ⟨RX8, "fill", "(LOfficeTables$Table;I)Z"⟩
abbrev cX8_keepsPromise : ByteArray := prog_10_method_14_code
def yX8_keepsPromise : MethodName := ⟨RX8, "keepsPromise", "(LOfficeTables$Table;)Z"⟩
abbrev cX8_makeRow : ByteArray := prog_10_method_15_code
def yX8_makeRow : MethodName := ⟨RX8, "makeRow", "(LOfficeTables$Table;III)Z"⟩
abbrev cX8_makeEntries : ByteArray := prog_10_method_16_code
def yX8_makeEntries : MethodName := ⟨RX8, "makeEntries", "(LOfficeTables$Table;III)Z"⟩
abbrev cX8_workOut : ByteArray := prog_10_method_17_code
def yX8_workOut : MethodName := ⟨RX8, "workOut", "(LOfficeTables$Formula;II)Z"⟩
abbrev cX8_workOutPair : ByteArray := prog_10_method_18_code
def yX8_workOutPair : MethodName := ⟨RX8, "workOutPair", "(I)Z"⟩
abbrev cX8_push : ByteArray := prog_10_method_19_code
def yX8_push : MethodName := ⟨RX8, "push", "(J)V"⟩
abbrev cX8_pop : ByteArray := prog_10_method_20_code
def yX8_pop : MethodName := ⟨RX8, "pop", "()J"⟩
abbrev cX8_fail : ByteArray := prog_10_method_21_code
def yX8_fail : MethodName := ⟨RX8, "fail", "(I)Z"⟩
abbrev cX8_failWithReason : ByteArray := prog_10_method_22_code
def yX8_failWithReason : MethodName := ⟨RX8, "failWithReason", "()Z"⟩
abbrev cX8_addReason : ByteArray := prog_10_method_23_code
def yX8_addReason : MethodName := ⟨RX8, "addReason", "(I)V"⟩
def RX9 : String := "OfficeTables"
def TX9 : u_T := fun k => match k with
  | 0 => ("OfficeTables", "tape", "LOfficeTables$Tape;", true)
  | 1 => ("OfficeTables", "reader", "LOfficeTables$TextReader;", true)
  | 2 => ("OfficeTables", "workshop", "LOfficeTables$Workshop;", true)
  | 3 => ("OfficeTables", "text", "LOfficeTables$Text;", false)
  | _ => ("OfficeTables", "spare", "LOfficeTables$Text;", false)
def tyX9 : Nat → FieldType := fun k => match k with
  | 0 => .object "OfficeTables$Tape"
  | 1 => .object "OfficeTables$TextReader"
  | 2 => .object "OfficeTables$Workshop"
  | 3 => .object "OfficeTables$Text"
  | _ => .object "OfficeTables$Text"
theorem nmX9 : ∀ a, a < 5 → ∀ b, b < 5 → a ≠ b → (TX9 a).2.1 ≠ (TX9 b).2.1 := by decide +kernel
theorem tyX9_ok : ∀ k, k < 5 → parseFieldDescriptor (TX9 k).2.2.1 = some (tyX9 k) := by decide +kernel
abbrev cX9_init : ByteArray := prog_1_method_1_code
def yX9_init : MethodName := ⟨RX9, "<init>", "()V"⟩
abbrev cX9_feed : ByteArray := prog_1_method_2_code
def yX9_feed : MethodName := ⟨RX9, "feed", "(J)I"⟩
abbrev cX9_read : ByteArray := prog_1_method_3_code
def yX9_read : MethodName := ⟨RX9, "read", "()I"⟩
abbrev cX9_cut : ByteArray := prog_1_method_4_code
def yX9_cut : MethodName := ⟨RX9, "cut", "()I"⟩
abbrev cX9_named : ByteArray := prog_1_method_5_code
def yX9_named : MethodName := ⟨RX9, "named", "(J)I"⟩
abbrev cX9_size : ByteArray := prog_1_method_6_code
def yX9_size : MethodName := ⟨RX9, "size", "(I)I"⟩
abbrev cX9_state : ByteArray := prog_1_method_7_code
def yX9_state : MethodName := ⟨RX9, "state", "(I)I"⟩
abbrev cX9_row : ByteArray := prog_1_method_8_code
def yX9_row : MethodName := ⟨RX9, "row", "(II)I"⟩
abbrev cX9_entry : ByteArray := prog_1_method_9_code
def yX9_entry : MethodName := ⟨RX9, "entry", "(II)J"⟩
abbrev cX9_reason : ByteArray := prog_1_method_10_code
def yX9_reason : MethodName := ⟨RX9, "reason", "(I)I"⟩
abbrev cX9_sum : ByteArray := prog_1_method_11_code
def yX9_sum : MethodName := ⟨RX9, "sum", "(IIII)J"⟩
abbrev cX9_find : ByteArray := prog_1_method_12_code
def yX9_find : MethodName := ⟨RX9, "find", "(IJ)I"⟩
abbrev cX9_drop : ByteArray := prog_1_method_13_code
def yX9_drop : MethodName := ⟨RX9, "drop", "(I)I"⟩
abbrev cX9_builds : ByteArray := prog_1_method_14_code
def yX9_builds : MethodName := ⟨RX9, "builds", "()I"⟩
abbrev cX9_build : ByteArray := prog_1_method_15_code
def yX9_build : MethodName := ⟨RX9, "build", "(II)I"⟩
abbrev cX9_halves : ByteArray := prog_1_method_16_code
def yX9_halves : MethodName := ⟨RX9, "halves", "()I"⟩
abbrev cX9_half : ByteArray := prog_1_method_17_code
def yX9_half : MethodName := ⟨RX9, "half", "(II)J"⟩
abbrev cX9_reads : ByteArray := prog_1_method_18_code
def yX9_reads : MethodName := ⟨RX9, "reads", "(II)I"⟩
abbrev cX9_count : ByteArray := prog_1_method_19_code
def yX9_count : MethodName := ⟨RX9, "count", "(I)I"⟩
abbrev cX9_at : ByteArray := prog_1_method_20_code
def yX9_at : MethodName := ⟨RX9, "at", "([II)I"⟩
abbrev cX9_at_ : ByteArray := prog_1_method_21_code
def yX9_at_ : MethodName := ⟨RX9, "at", "([JI)J"⟩
abbrev cX9_put : ByteArray := prog_1_method_22_code
def yX9_put : MethodName := ⟨RX9, "put", "([III)V"⟩
abbrev cX9_put_ : ByteArray := prog_1_method_23_code
def yX9_put_ : MethodName := ⟨RX9, "put", "([JIJ)V"⟩
def RX10 : String := "OfficeTablesModel"
def TX10 : u_T := fun k => match k with
  | 0 => ("OfficeTablesModel", "tape", "[B", true)
  | 1 => ("OfficeTablesModel", "bytes", "I", false)
  | 2 => ("OfficeTablesModel", "tokens", "I", false)
  | 3 => ("OfficeTablesModel", "sort", "[I", true)
  | 4 => ("OfficeTablesModel", "where", "[I", true)
  | 5 => ("OfficeTablesModel", "worth", "[J", true)
  | 6 => ("OfficeTablesModel", "tok", "I", false)
  | 7 => ("OfficeTablesModel", "fault", "I", false)
  | 8 => ("OfficeTablesModel", "made", "I", false)
  | 9 => ("OfficeTablesModel", "newName", "[J", true)
  | 10 => ("OfficeTablesModel", "newNameAt", "[I", true)
  | 11 => ("OfficeTablesModel", "newWhole", "[Z", true)
  | 12 => ("OfficeTablesModel", "newHas", "[Z", true)
  | 13 => ("OfficeTablesModel", "newSum", "[J", true)
  | 14 => ("OfficeTablesModel", "newCode", "[I", true)
  | 15 => ("OfficeTablesModel", "newSize", "[I", true)
  | 16 => ("OfficeTablesModel", "acts", "I", false)
  | 17 => ("OfficeTablesModel", "act", "[I", true)
  | 18 => ("OfficeTablesModel", "arg", "[J", true)
  | 19 => ("OfficeTablesModel", "parts", "I", false)
  | 20 => ("OfficeTablesModel", "partHow", "[I", true)
  | 21 => ("OfficeTablesModel", "part", "[J", true)
  | 22 => ("OfficeTablesModel", "uses", "I", false)
  | 23 => ("OfficeTablesModel", "useToken", "[I", true)
  | 24 => ("OfficeTablesModel", "useTable", "[I", true)
  | 25 => ("OfficeTablesModel", "useSize", "[Z", true)
  | 26 => ("OfficeTablesModel", "open", "I", false)
  | 27 => ("OfficeTablesModel", "openSort", "[I", true)
  | 28 => ("OfficeTablesModel", "openStage", "[I", true)
  | 29 => ("OfficeTablesModel", "openAt", "[I", true)
  | 30 => ("OfficeTablesModel", "units", "I", false)
  | 31 => ("OfficeTablesModel", "around", "I", false)
  | 32 => ("OfficeTablesModel", "tables", "I", false)
  | 33 => ("OfficeTablesModel", "name", "[J", true)
  | 34 => ("OfficeTablesModel", "isWhole", "[Z", true)
  | 35 => ("OfficeTablesModel", "hasSum", "[Z", true)
  | 36 => ("OfficeTablesModel", "promised", "[J", true)
  | 37 => ("OfficeTablesModel", "size", "[J", true)
  | 38 => ("OfficeTablesModel", "code", "[I", true)
  | 39 => ("OfficeTablesModel", "op", "[I", true)
  | 40 => ("OfficeTablesModel", "by", "[J", true)
  | 41 => ("OfficeTablesModel", "state", "[I", true)
  | 42 => ("OfficeTablesModel", "rowState", "[I", true)
  | 43 => ("OfficeTablesModel", "entry", "[J", true)
  | 44 => ("OfficeTablesModel", "builds", "I", false)
  | 45 => ("OfficeTablesModel", "buildTable", "[I", true)
  | 46 => ("OfficeTablesModel", "buildRow", "[I", true)
  | 47 => ("OfficeTablesModel", "buildBy", "[I", true)
  | 48 => ("OfficeTablesModel", "halves", "I", false)
  | 49 => ("OfficeTablesModel", "halfTable", "[I", true)
  | 50 => ("OfficeTablesModel", "halfPlace", "[I", true)
  | 51 => ("OfficeTablesModel", "halfBy", "[I", true)
  | 52 => ("OfficeTablesModel", "halfWorth", "[J", true)
  | 53 => ("OfficeTablesModel", "reasons", "I", false)
  | 54 => ("OfficeTablesModel", "lastReason", "I", false)
  | 55 => ("OfficeTablesModel", "under", "I", false)
  | 56 => ("OfficeTablesModel", "uTable", "[I", true)
  | 57 => ("OfficeTablesModel", "uRow", "[I", true)
  | 58 => ("OfficeTablesModel", "uPlace", "[I", true)
  | 59 => ("OfficeTablesModel", "uEnd", "[I", true)
  | 60 => ("OfficeTablesModel", "uAct", "[I", true)
  | 61 => ("OfficeTablesModel", "uHigh", "[I", true)
  | 62 => ("OfficeTablesModel", "pile", "[J", true)
  | 63 => ("OfficeTablesModel", "answer", "J", false)
  | 64 => ("OfficeTablesModel", "high", "J", false)
  | _ => ("OfficeTablesModel", "low", "J", false)
def tyX10 : Nat → FieldType := fun k => match k with
  | 0 => .array .byte
  | 1 => .int
  | 2 => .int
  | 3 => .array .int
  | 4 => .array .int
  | 5 => .array .long
  | 6 => .int
  | 7 => .int
  | 8 => .int
  | 9 => .array .long
  | 10 => .array .int
  | 11 => .array .boolean
  | 12 => .array .boolean
  | 13 => .array .long
  | 14 => .array .int
  | 15 => .array .int
  | 16 => .int
  | 17 => .array .int
  | 18 => .array .long
  | 19 => .int
  | 20 => .array .int
  | 21 => .array .long
  | 22 => .int
  | 23 => .array .int
  | 24 => .array .int
  | 25 => .array .boolean
  | 26 => .int
  | 27 => .array .int
  | 28 => .array .int
  | 29 => .array .int
  | 30 => .int
  | 31 => .int
  | 32 => .int
  | 33 => .array .long
  | 34 => .array .boolean
  | 35 => .array .boolean
  | 36 => .array .long
  | 37 => .array .long
  | 38 => .array .int
  | 39 => .array .int
  | 40 => .array .long
  | 41 => .array .int
  | 42 => .array .int
  | 43 => .array .long
  | 44 => .int
  | 45 => .array .int
  | 46 => .array .int
  | 47 => .array .int
  | 48 => .int
  | 49 => .array .int
  | 50 => .array .int
  | 51 => .array .int
  | 52 => .array .long
  | 53 => .int
  | 54 => .int
  | 55 => .int
  | 56 => .array .int
  | 57 => .array .int
  | 58 => .array .int
  | 59 => .array .int
  | 60 => .array .int
  | 61 => .array .int
  | 62 => .array .long
  | 63 => .long
  | 64 => .long
  | _ => .long
theorem nmX10 : ∀ a, a < 66 → ∀ b, b < 66 → a ≠ b → (TX10 a).2.1 ≠ (TX10 b).2.1 := by decide +kernel
theorem tyX10_ok : ∀ k, k < 66 → parseFieldDescriptor (TX10 k).2.2.1 = some (tyX10 k) := by decide +kernel
abbrev cX10_init : ByteArray := prog_12_method_1_code
def yX10_init : MethodName := ⟨RX10, "<init>", "()V"⟩
abbrev cX10_in : ByteArray := prog_12_method_3_code
def yX10_in : MethodName := ⟨RX10, "in", "(JJJ)Z"⟩
abbrev cX10_feed : ByteArray := prog_12_method_4_code
def yX10_feed : MethodName := ⟨RX10, "feed", "(J)I"⟩
abbrev cX10_cut : ByteArray := prog_12_method_5_code
def yX10_cut : MethodName := ⟨RX10, "cut", "()I"⟩
abbrev cX10_at : ByteArray := prog_12_method_6_code
def yX10_at : MethodName := ⟨RX10, "at", "(I)I"⟩
abbrev cX10_isLetter : ByteArray := prog_12_method_7_code
def yX10_isLetter : MethodName := ⟨RX10, "isLetter", "(I)Z"⟩
abbrev cX10_isDigit : ByteArray := prog_12_method_8_code
def yX10_isDigit : MethodName := ⟨RX10, "isDigit", "(I)Z"⟩
abbrev cX10_isSign : ByteArray := prog_12_method_9_code
def yX10_isSign : MethodName := ⟨RX10, "isSign", "(I)Z"⟩
abbrev cX10_wordSort : ByteArray := prog_12_method_10_code
def yX10_wordSort : MethodName := ⟨RX10, "wordSort", "(J)I"⟩
abbrev cX10_addToken : ByteArray := prog_12_method_11_code
def yX10_addToken : MethodName := ⟨RX10, "addToken", "(IIJ)V"⟩
abbrev cX10_cutUp : ByteArray := prog_12_method_12_code
def yX10_cutUp : MethodName := ⟨RX10, "cutUp", "()V"⟩
abbrev cX10_must : ByteArray := prog_12_method_13_code
def yX10_must : MethodName := ⟨RX10, "must", "(Z)Z"⟩
abbrev cX10_take : ByteArray := prog_12_method_14_code
def yX10_take : MethodName := ⟨RX10, "take", "(I)Z"⟩
abbrev cX10_emit : ByteArray := prog_12_method_15_code
def yX10_emit : MethodName := ⟨RX10, "emit", "(IJ)V"⟩
abbrev cX10_use : ByteArray := prog_12_method_16_code
def yX10_use : MethodName := ⟨RX10, "use", "(Z)V"⟩
abbrev cX10_readSize : ByteArray := prog_12_method_17_code
def yX10_readSize : MethodName := ⟨RX10, "readSize", "()V"⟩
abbrev cX10_push : ByteArray := prog_12_method_18_code
def yX10_push : MethodName := ⟨RX10, "push", "(II)V"⟩
abbrev cX10_top : ByteArray := prog_12_method_19_code
def yX10_top : MethodName := ⟨RX10, "top", "()I"⟩
abbrev cX10_readUnit : ByteArray := prog_12_method_20_code
def yX10_readUnit : MethodName := ⟨RX10, "readUnit", "()V"⟩
abbrev cX10_actOf : ByteArray := prog_12_method_21_code
def yX10_actOf : MethodName := ⟨RX10, "actOf", "(I)I"⟩
abbrev cX10_isLow : ByteArray := prog_12_method_22_code
def yX10_isLow : MethodName := ⟨RX10, "isLow", "(I)Z"⟩
abbrev cX10_isHigh : ByteArray := prog_12_method_23_code
def yX10_isHigh : MethodName := ⟨RX10, "isHigh", "(I)Z"⟩
abbrev cX10_endUnit : ByteArray := prog_12_method_24_code
def yX10_endUnit : MethodName := ⟨RX10, "endUnit", "()V"⟩
abbrev cX10_endLow : ByteArray := prog_12_method_25_code
def yX10_endLow : MethodName := ⟨RX10, "endLow", "()V"⟩
abbrev cX10_goOn : ByteArray := prog_12_method_26_code
def yX10_goOn : MethodName := ⟨RX10, "goOn", "()Z"⟩
abbrev cX10_readSum : ByteArray := prog_12_method_27_code
def yX10_readSum : MethodName := ⟨RX10, "readSum", "()V"⟩
abbrev cX10_readTable : ByteArray := prog_12_method_28_code
def yX10_readTable : MethodName := ⟨RX10, "readTable", "()V"⟩
abbrev cX10_tableOf : ByteArray := prog_12_method_29_code
def yX10_tableOf : MethodName := ⟨RX10, "tableOf", "(JI)I"⟩
abbrev cX10_checkNames : ByteArray := prog_12_method_30_code
def yX10_checkNames : MethodName := ⟨RX10, "checkNames", "()V"⟩
abbrev cX10_read : ByteArray := prog_12_method_31_code
def yX10_read : MethodName := ⟨RX10, "read", "()I"⟩
abbrev cX10_sizeOf : ByteArray := prog_12_method_32_code
def yX10_sizeOf : MethodName := ⟨RX10, "sizeOf", "(I)J"⟩
abbrev cX10_named : ByteArray := prog_12_method_33_code
def yX10_named : MethodName := ⟨RX10, "named", "(J)I"⟩
abbrev cX10_isTable : ByteArray := prog_12_method_34_code
def yX10_isTable : MethodName := ⟨RX10, "isTable", "(I)Z"⟩
abbrev cX10_size : ByteArray := prog_12_method_35_code
def yX10_size : MethodName := ⟨RX10, "size", "(I)I"⟩
abbrev cX10_state : ByteArray := prog_12_method_36_code
def yX10_state : MethodName := ⟨RX10, "state", "(I)I"⟩
abbrev cX10_row : ByteArray := prog_12_method_37_code
def yX10_row : MethodName := ⟨RX10, "row", "(II)I"⟩
abbrev cX10_rowsOf : ByteArray := prog_12_method_38_code
def yX10_rowsOf : MethodName := ⟨RX10, "rowsOf", "(I)I"⟩
abbrev cX10_noteBuild : ByteArray := prog_12_method_39_code
def yX10_noteBuild : MethodName := ⟨RX10, "noteBuild", "(III)V"⟩
abbrev cX10_half : ByteArray := prog_12_method_40_code
def yX10_half : MethodName := ⟨RX10, "half", "(IIIJ)J"⟩
abbrev cX10_begin : ByteArray := prog_12_method_41_code
def yX10_begin : MethodName := ⟨RX10, "begin", "(III)I"⟩
abbrev cX10_ask : ByteArray := prog_12_method_42_code
def yX10_ask : MethodName := ⟨RX10, "ask", "(IJIZ)I"⟩
abbrev cX10_failAll : ByteArray := prog_12_method_43_code
def yX10_failAll : MethodName := ⟨RX10, "failAll", "(I)V"⟩
abbrev cX10_takeTop : ByteArray := prog_12_method_44_code
def yX10_takeTop : MethodName := ⟨RX10, "takeTop", "(I)J"⟩
abbrev cX10_putTop : ByteArray := prog_12_method_45_code
def yX10_putTop : MethodName := ⟨RX10, "putTop", "(IJ)V"⟩
abbrev cX10_step : ByteArray := prog_12_method_46_code
def yX10_step : MethodName := ⟨RX10, "step", "(I)I"⟩
abbrev cX10_add : ByteArray := prog_12_method_47_code
def yX10_add : MethodName := ⟨RX10, "add", "(J)V"⟩
abbrev cX10_goOne : ByteArray := prog_12_method_48_code
def yX10_goOne : MethodName := ⟨RX10, "goOne", "()I"⟩
abbrev cX10_get : ByteArray := prog_12_method_49_code
def yX10_get : MethodName := ⟨RX10, "get", "(IJZ)Z"⟩
abbrev cX10_isAnswered : ByteArray := prog_12_method_50_code
def yX10_isAnswered : MethodName := ⟨RX10, "isAnswered", "(IJZ)Z"⟩
abbrev cX10_entry : ByteArray := prog_12_method_51_code
def yX10_entry : MethodName := ⟨RX10, "entry", "(II)J"⟩
abbrev cX10_reason : ByteArray := prog_12_method_52_code
def yX10_reason : MethodName := ⟨RX10, "reason", "(I)I"⟩
abbrev cX10_sum : ByteArray := prog_12_method_53_code
def yX10_sum : MethodName := ⟨RX10, "sum", "(IIII)J"⟩
abbrev cX10_find : ByteArray := prog_12_method_54_code
def yX10_find : MethodName := ⟨RX10, "find", "(IJ)I"⟩
abbrev cX10_drop : ByteArray := prog_12_method_55_code
def yX10_drop : MethodName := ⟨RX10, "drop", "(I)I"⟩
abbrev cX10_builds : ByteArray := prog_12_method_56_code
def yX10_builds : MethodName := ⟨RX10, "builds", "()I"⟩
abbrev cX10_build : ByteArray := prog_12_method_57_code
def yX10_build : MethodName := ⟨RX10, "build", "(II)I"⟩
abbrev cX10_halves : ByteArray := prog_12_method_58_code
def yX10_halves : MethodName := ⟨RX10, "halves", "()I"⟩
abbrev cX10_half_ : ByteArray := prog_12_method_59_code
def yX10_half_ : MethodName := ⟨RX10, "half", "(II)J"⟩
abbrev cX10_reads : ByteArray := prog_12_method_60_code
def yX10_reads : MethodName := ⟨RX10, "reads", "(II)I"⟩
abbrev cX10_count : ByteArray := prog_12_method_61_code
def yX10_count : MethodName := ⟨RX10, "count", "(I)I"⟩
def RJ9 : String := "java/lang/Math"
def TJ9 : u_T := fun k => match k with
  | _ => ("", "", "", false)
def tyJ9 : Nat → FieldType := fun k => match k with
  | _ => .int
abbrev cJ9_max_f86c9 : ByteArray := prog_13_method_66_code
def yJ9_max_f86c9 : MethodName := ⟨RJ9, "max", "(JJ)J"⟩
abbrev cJ9_min_7cf53 : ByteArray := prog_13_method_69_code
def yJ9_min_7cf53 : MethodName := ⟨RJ9, "min", "(II)I"⟩
abbrev cJ9_min_f86c9 : ByteArray := prog_13_method_70_code
def yJ9_min_f86c9 : MethodName := ⟨RJ9, "min", "(JJ)J"⟩
def RL : String := "OfficeTablesLaw"
abbrev cL_law : ByteArray := code
def yL_law : MethodName := ⟨RL, "law", "([I)Z"⟩
abbrev vwCl : List vw_C := [(RX0, TX0, 4), (RX1, TX1, 2), (RX2, TX2, 9), (RX3, TX3, 2), (RX4, TX4, 2), (RX5, TX5, 5), (RX6, TX6, 5), (RX7, TX7, 2), (RX8, TX8, 12), (RX9, TX9, 5), (RX10, TX10, 66)]
end
section
theorem dX0_init_0 : decode cX0_init 0 = .ok (.aload_n 0, 1) := by decide +kernel
theorem dX0_init_1 : decode cX0_init 1 = .ok (.invokespecial 3, 3) := by decide +kernel
theorem dX0_init_4 : decode cX0_init 4 = .ok (.aload_n 0, 1) := by decide +kernel
theorem dX0_init_5 : decode cX0_init 5 = .ok (.bipush 48, 2) := by decide +kernel
theorem dX0_init_7 : decode cX0_init 7 = .ok (.newarray .int, 2) := by decide +kernel
theorem dX0_init_9 : decode cX0_init 9 = .ok (.putfield 9, 3) := by decide +kernel
theorem dX0_init_12 : decode cX0_init 12 = .ok (.aload_n 0, 1) := by decide +kernel
theorem dX0_init_13 : decode cX0_init 13 = .ok (.bipush 48, 2) := by decide +kernel
theorem dX0_init_15 : decode cX0_init 15 = .ok (.newarray .long, 2) := by decide +kernel
theorem dX0_init_17 : decode cX0_init 17 = .ok (.putfield 15, 3) := by decide +kernel
theorem dX0_init_20 : decode cX0_init 20 = .ok (.aload_n 0, 1) := by decide +kernel
theorem dX0_init_21 : decode cX0_init 21 = .ok (.bipush 48, 2) := by decide +kernel
theorem dX0_init_23 : decode cX0_init 23 = .ok (.newarray .int, 2) := by decide +kernel
theorem dX0_init_25 : decode cX0_init 25 = .ok (.putfield 19, 3) := by decide +kernel
theorem dX0_init_28 : decode cX0_init 28 = .ok (.aload_n 0, 1) := by decide +kernel
theorem dX0_init_29 : decode cX0_init 29 = .ok (.iconst 0, 1) := by decide +kernel
theorem dX0_init_30 : decode cX0_init 30 = .ok (.putfield 22, 3) := by decide +kernel
theorem dX0_init_33 : decode cX0_init 33 = .ok (.return_, 1) := by decide +kernel
theorem dX0_clear_0 : decode cX0_clear 0 = .ok (.aload_n 0, 1) := by decide +kernel
theorem dX0_clear_1 : decode cX0_clear 1 = .ok (.iconst 0, 1) := by decide +kernel
theorem dX0_clear_2 : decode cX0_clear 2 = .ok (.putfield 22, 3) := by decide +kernel
theorem dX0_clear_5 : decode cX0_clear 5 = .ok (.return_, 1) := by decide +kernel
theorem dX0_add_0 : decode cX0_add 0 = .ok (.aload_n 0, 1) := by decide +kernel
theorem dX0_add_1 : decode cX0_add 1 = .ok (.getfield 22, 3) := by decide +kernel
theorem dX0_add_4 : decode cX0_add 4 = .ok (.ifCond .lt 59, 3) := by decide +kernel
theorem dX0_add_7 : decode cX0_add 7 = .ok (.aload_n 0, 1) := by decide +kernel
theorem dX0_add_8 : decode cX0_add 8 = .ok (.getfield 22, 3) := by decide +kernel
theorem dX0_add_11 : decode cX0_add 11 = .ok (.bipush 48, 2) := by decide +kernel
theorem dX0_add_13 : decode cX0_add 13 = .ok (.if_icmp .ge 50, 3) := by decide +kernel
theorem dX0_add_16 : decode cX0_add 16 = .ok (.aload_n 0, 1) := by decide +kernel
theorem dX0_add_17 : decode cX0_add 17 = .ok (.getfield 9, 3) := by decide +kernel
theorem dX0_add_20 : decode cX0_add 20 = .ok (.aload_n 0, 1) := by decide +kernel
theorem dX0_add_21 : decode cX0_add 21 = .ok (.getfield 22, 3) := by decide +kernel
theorem dX0_add_24 : decode cX0_add 24 = .ok (.iload_n 1, 1) := by decide +kernel
theorem dX0_add_25 : decode cX0_add 25 = .ok (.invokestatic 26, 3) := by decide +kernel
theorem dX0_add_28 : decode cX0_add 28 = .ok (.aload_n 0, 1) := by decide +kernel
theorem dX0_add_29 : decode cX0_add 29 = .ok (.getfield 15, 3) := by decide +kernel
theorem dX0_add_32 : decode cX0_add 32 = .ok (.aload_n 0, 1) := by decide +kernel
theorem dX0_add_33 : decode cX0_add 33 = .ok (.getfield 22, 3) := by decide +kernel
theorem dX0_add_36 : decode cX0_add 36 = .ok (.lload_n 2, 1) := by decide +kernel
theorem dX0_add_37 : decode cX0_add 37 = .ok (.invokestatic 30, 3) := by decide +kernel
theorem dX0_add_40 : decode cX0_add 40 = .ok (.aload_n 0, 1) := by decide +kernel
theorem dX0_add_41 : decode cX0_add 41 = .ok (.getfield 19, 3) := by decide +kernel
theorem dX0_add_44 : decode cX0_add 44 = .ok (.aload_n 0, 1) := by decide +kernel
theorem dX0_add_45 : decode cX0_add 45 = .ok (.getfield 22, 3) := by decide +kernel
theorem dX0_add_48 : decode cX0_add 48 = .ok (.iload 4, 2) := by decide +kernel
theorem dX0_add_50 : decode cX0_add 50 = .ok (.invokestatic 26, 3) := by decide +kernel
theorem dX0_add_53 : decode cX0_add 53 = .ok (.aload_n 0, 1) := by decide +kernel
theorem dX0_add_54 : decode cX0_add 54 = .ok (.dup, 1) := by decide +kernel
theorem dX0_add_55 : decode cX0_add 55 = .ok (.getfield 22, 3) := by decide +kernel
theorem dX0_add_58 : decode cX0_add 58 = .ok (.iconst 1, 1) := by decide +kernel
theorem dX0_add_59 : decode cX0_add 59 = .ok (.iadd, 1) := by decide +kernel
theorem dX0_add_60 : decode cX0_add 60 = .ok (.putfield 22, 3) := by decide +kernel
theorem dX0_add_63 : decode cX0_add 63 = .ok (.return_, 1) := by decide +kernel
theorem dX0_skipToHere_0 : decode cX0_skipToHere 0 = .ok (.aload_n 0, 1) := by decide +kernel
theorem dX0_skipToHere_1 : decode cX0_skipToHere 1 = .ok (.getfield 15, 3) := by decide +kernel
theorem dX0_skipToHere_4 : decode cX0_skipToHere 4 = .ok (.iload_n 1, 1) := by decide +kernel
theorem dX0_skipToHere_5 : decode cX0_skipToHere 5 = .ok (.aload_n 0, 1) := by decide +kernel
theorem dX0_skipToHere_6 : decode cX0_skipToHere 6 = .ok (.getfield 22, 3) := by decide +kernel
theorem dX0_skipToHere_9 : decode cX0_skipToHere 9 = .ok (.iload_n 1, 1) := by decide +kernel
theorem dX0_skipToHere_10 : decode cX0_skipToHere 10 = .ok (.isub, 1) := by decide +kernel
theorem dX0_skipToHere_11 : decode cX0_skipToHere 11 = .ok (.iconst 1, 1) := by decide +kernel
theorem dX0_skipToHere_12 : decode cX0_skipToHere 12 = .ok (.isub, 1) := by decide +kernel
theorem dX0_skipToHere_13 : decode cX0_skipToHere 13 = .ok (.i2l, 1) := by decide +kernel
theorem dX0_skipToHere_14 : decode cX0_skipToHere 14 = .ok (.invokestatic 30, 3) := by decide +kernel
theorem dX0_skipToHere_17 : decode cX0_skipToHere 17 = .ok (.return_, 1) := by decide +kernel
theorem dX0_stepAt_0 : decode cX0_stepAt 0 = .ok (.aload_n 0, 1) := by decide +kernel
theorem dX0_stepAt_1 : decode cX0_stepAt 1 = .ok (.getfield 9, 3) := by decide +kernel
theorem dX0_stepAt_4 : decode cX0_stepAt 4 = .ok (.iload_n 1, 1) := by decide +kernel
theorem dX0_stepAt_5 : decode cX0_stepAt 5 = .ok (.invokestatic 33, 3) := by decide +kernel
theorem dX0_stepAt_8 : decode cX0_stepAt 8 = .ok (.ireturn, 1) := by decide +kernel
theorem dX0_withAt_0 : decode cX0_withAt 0 = .ok (.aload_n 0, 1) := by decide +kernel
theorem dX0_withAt_1 : decode cX0_withAt 1 = .ok (.getfield 15, 3) := by decide +kernel
theorem dX0_withAt_4 : decode cX0_withAt 4 = .ok (.iload_n 1, 1) := by decide +kernel
theorem dX0_withAt_5 : decode cX0_withAt 5 = .ok (.invokestatic 37, 3) := by decide +kernel
theorem dX0_withAt_8 : decode cX0_withAt 8 = .ok (.lreturn, 1) := by decide +kernel
theorem dX0_skipAt_0 : decode cX0_skipAt 0 = .ok (.lconst 0, 1) := by decide +kernel
theorem dX0_skipAt_1 : decode cX0_skipAt 1 = .ok (.ldc2_w 40, 3) := by decide +kernel
theorem dX0_skipAt_4 : decode cX0_skipAt 4 = .ok (.aload_n 0, 1) := by decide +kernel
theorem dX0_skipAt_5 : decode cX0_skipAt 5 = .ok (.getfield 15, 3) := by decide +kernel
theorem dX0_skipAt_8 : decode cX0_skipAt 8 = .ok (.iload_n 1, 1) := by decide +kernel
theorem dX0_skipAt_9 : decode cX0_skipAt 9 = .ok (.invokestatic 37, 3) := by decide +kernel
theorem dX0_skipAt_12 : decode cX0_skipAt 12 = .ok (.invokestatic 42, 3) := by decide +kernel
theorem dX0_skipAt_15 : decode cX0_skipAt 15 = .ok (.invokestatic 48, 3) := by decide +kernel
theorem dX0_skipAt_18 : decode cX0_skipAt 18 = .ok (.l2i, 1) := by decide +kernel
theorem dX0_skipAt_19 : decode cX0_skipAt 19 = .ok (.ireturn, 1) := by decide +kernel
theorem dX0_isNameAt_0 : decode cX0_isNameAt 0 = .ok (.aload_n 0, 1) := by decide +kernel
theorem dX0_isNameAt_1 : decode cX0_isNameAt 1 = .ok (.getfield 9, 3) := by decide +kernel
theorem dX0_isNameAt_4 : decode cX0_isNameAt 4 = .ok (.iload_n 1, 1) := by decide +kernel
theorem dX0_isNameAt_5 : decode cX0_isNameAt 5 = .ok (.invokestatic 33, 3) := by decide +kernel
theorem dX0_isNameAt_8 : decode cX0_isNameAt 8 = .ok (.istore_n 2, 1) := by decide +kernel
theorem dX0_isNameAt_9 : decode cX0_isNameAt 9 = .ok (.iload_n 2, 1) := by decide +kernel
theorem dX0_isNameAt_10 : decode cX0_isNameAt 10 = .ok (.iconst 3, 1) := by decide +kernel
theorem dX0_isNameAt_11 : decode cX0_isNameAt 11 = .ok (.if_icmp .eq 8, 3) := by decide +kernel
theorem dX0_isNameAt_14 : decode cX0_isNameAt 14 = .ok (.iload_n 2, 1) := by decide +kernel
theorem dX0_isNameAt_15 : decode cX0_isNameAt 15 = .ok (.iconst 2, 1) := by decide +kernel
theorem dX0_isNameAt_16 : decode cX0_isNameAt 16 = .ok (.if_icmp .ne 7, 3) := by decide +kernel
theorem dX0_isNameAt_19 : decode cX0_isNameAt 19 = .ok (.iconst 1, 1) := by decide +kernel
theorem dX0_isNameAt_20 : decode cX0_isNameAt 20 = .ok (.goto 4, 3) := by decide +kernel
theorem dX0_isNameAt_23 : decode cX0_isNameAt 23 = .ok (.iconst 0, 1) := by decide +kernel
theorem dX0_isNameAt_24 : decode cX0_isNameAt 24 = .ok (.ireturn, 1) := by decide +kernel
theorem dX0_placeAt_0 : decode cX0_placeAt 0 = .ok (.aload_n 0, 1) := by decide +kernel
theorem dX0_placeAt_1 : decode cX0_placeAt 1 = .ok (.getfield 19, 3) := by decide +kernel
theorem dX0_placeAt_4 : decode cX0_placeAt 4 = .ok (.iload_n 1, 1) := by decide +kernel
theorem dX0_placeAt_5 : decode cX0_placeAt 5 = .ok (.invokestatic 33, 3) := by decide +kernel
theorem dX0_placeAt_8 : decode cX0_placeAt 8 = .ok (.ireturn, 1) := by decide +kernel
theorem dX0_resolve_0 : decode cX0_resolve 0 = .ok (.aload_n 0, 1) := by decide +kernel
theorem dX0_resolve_1 : decode cX0_resolve 1 = .ok (.getfield 15, 3) := by decide +kernel
theorem dX0_resolve_4 : decode cX0_resolve 4 = .ok (.iload_n 1, 1) := by decide +kernel
theorem dX0_resolve_5 : decode cX0_resolve 5 = .ok (.iload_n 2, 1) := by decide +kernel
theorem dX0_resolve_6 : decode cX0_resolve 6 = .ok (.i2l, 1) := by decide +kernel
theorem dX0_resolve_7 : decode cX0_resolve 7 = .ok (.invokestatic 30, 3) := by decide +kernel
theorem dX0_resolve_10 : decode cX0_resolve 10 = .ok (.return_, 1) := by decide +kernel
theorem dX0_names_0 : decode cX0_names 0 = .ok (.iconst 0, 1) := by decide +kernel
theorem dX0_names_1 : decode cX0_names 1 = .ok (.istore_n 2, 1) := by decide +kernel
theorem dX0_names_2 : decode cX0_names 2 = .ok (.iload_n 2, 1) := by decide +kernel
theorem dX0_names_3 : decode cX0_names 3 = .ok (.aload_n 0, 1) := by decide +kernel
theorem dX0_names_4 : decode cX0_names 4 = .ok (.getfield 22, 3) := by decide +kernel
theorem dX0_names_7 : decode cX0_names 7 = .ok (.if_icmp .ge 37, 3) := by decide +kernel
theorem dX0_names_10 : decode cX0_names 10 = .ok (.aload_n 0, 1) := by decide +kernel
theorem dX0_names_11 : decode cX0_names 11 = .ok (.getfield 9, 3) := by decide +kernel
theorem dX0_names_14 : decode cX0_names 14 = .ok (.iload_n 2, 1) := by decide +kernel
theorem dX0_names_15 : decode cX0_names 15 = .ok (.invokestatic 33, 3) := by decide +kernel
theorem dX0_names_18 : decode cX0_names 18 = .ok (.iconst 3, 1) := by decide +kernel
theorem dX0_names_19 : decode cX0_names 19 = .ok (.if_icmp .ne 19, 3) := by decide +kernel
theorem dX0_names_22 : decode cX0_names 22 = .ok (.aload_n 0, 1) := by decide +kernel
theorem dX0_names_23 : decode cX0_names 23 = .ok (.getfield 15, 3) := by decide +kernel
theorem dX0_names_26 : decode cX0_names 26 = .ok (.iload_n 2, 1) := by decide +kernel
theorem dX0_names_27 : decode cX0_names 27 = .ok (.invokestatic 37, 3) := by decide +kernel
theorem dX0_names_30 : decode cX0_names 30 = .ok (.iload_n 1, 1) := by decide +kernel
theorem dX0_names_31 : decode cX0_names 31 = .ok (.i2l, 1) := by decide +kernel
theorem dX0_names_32 : decode cX0_names 32 = .ok (.lcmp, 1) := by decide +kernel
theorem dX0_names_33 : decode cX0_names 33 = .ok (.ifCond .ne 5, 3) := by decide +kernel
theorem dX0_names_36 : decode cX0_names 36 = .ok (.iconst 1, 1) := by decide +kernel
theorem dX0_names_37 : decode cX0_names 37 = .ok (.ireturn, 1) := by decide +kernel
theorem dX0_names_38 : decode cX0_names 38 = .ok (.iinc 2 1, 3) := by decide +kernel
theorem dX0_names_41 : decode cX0_names 41 = .ok (.goto (-39), 3) := by decide +kernel
theorem dX0_names_44 : decode cX0_names 44 = .ok (.iconst 0, 1) := by decide +kernel
theorem dX0_names_45 : decode cX0_names 45 = .ok (.ireturn, 1) := by decide +kernel
theorem dX1_init_0 : decode cX1_init 0 = .ok (.aload_n 0, 1) := by decide +kernel
theorem dX1_init_1 : decode cX1_init 1 = .ok (.invokespecial 3, 3) := by decide +kernel
theorem dX1_init_4 : decode cX1_init 4 = .ok (.aload_n 0, 1) := by decide +kernel
theorem dX1_init_5 : decode cX1_init 5 = .ok (.sipush 400, 3) := by decide +kernel
theorem dX1_init_8 : decode cX1_init 8 = .ok (.newarray .long, 2) := by decide +kernel
theorem dX1_init_10 : decode cX1_init 10 = .ok (.putfield 11, 3) := by decide +kernel
theorem dX1_init_13 : decode cX1_init 13 = .ok (.aload_n 0, 1) := by decide +kernel
theorem dX1_init_14 : decode cX1_init 14 = .ok (.iconst 0, 1) := by decide +kernel
theorem dX1_init_15 : decode cX1_init 15 = .ok (.putfield 15, 3) := by decide +kernel
theorem dX1_init_18 : decode cX1_init 18 = .ok (.return_, 1) := by decide +kernel
theorem dX1_clear_0 : decode cX1_clear 0 = .ok (.aload_n 0, 1) := by decide +kernel
theorem dX1_clear_1 : decode cX1_clear 1 = .ok (.iconst 0, 1) := by decide +kernel
theorem dX1_clear_2 : decode cX1_clear 2 = .ok (.putfield 15, 3) := by decide +kernel
theorem dX1_clear_5 : decode cX1_clear 5 = .ok (.return_, 1) := by decide +kernel
theorem dX1_note_0 : decode cX1_note 0 = .ok (.aload_n 0, 1) := by decide +kernel
theorem dX1_note_1 : decode cX1_note 1 = .ok (.getfield 15, 3) := by decide +kernel
theorem dX1_note_4 : decode cX1_note 4 = .ok (.ifCond .lt 76, 3) := by decide +kernel
theorem dX1_note_7 : decode cX1_note 7 = .ok (.aload_n 0, 1) := by decide +kernel
theorem dX1_note_8 : decode cX1_note 8 = .ok (.getfield 15, 3) := by decide +kernel
theorem dX1_note_11 : decode cX1_note 11 = .ok (.bipush 100, 2) := by decide +kernel
theorem dX1_note_13 : decode cX1_note 13 = .ok (.if_icmp .ge 67, 3) := by decide +kernel
theorem dX1_note_16 : decode cX1_note 16 = .ok (.aload_n 0, 1) := by decide +kernel
theorem dX1_note_17 : decode cX1_note 17 = .ok (.getfield 11, 3) := by decide +kernel
theorem dX1_note_20 : decode cX1_note 20 = .ok (.iconst 4, 1) := by decide +kernel
theorem dX1_note_21 : decode cX1_note 21 = .ok (.aload_n 0, 1) := by decide +kernel
theorem dX1_note_22 : decode cX1_note 22 = .ok (.getfield 15, 3) := by decide +kernel
theorem dX1_note_25 : decode cX1_note 25 = .ok (.imul, 1) := by decide +kernel
theorem dX1_note_26 : decode cX1_note 26 = .ok (.lload_n 1, 1) := by decide +kernel
theorem dX1_note_27 : decode cX1_note 27 = .ok (.invokestatic 19, 3) := by decide +kernel
theorem dX1_note_30 : decode cX1_note 30 = .ok (.aload_n 0, 1) := by decide +kernel
theorem dX1_note_31 : decode cX1_note 31 = .ok (.getfield 11, 3) := by decide +kernel
theorem dX1_note_34 : decode cX1_note 34 = .ok (.iconst 4, 1) := by decide +kernel
theorem dX1_note_35 : decode cX1_note 35 = .ok (.aload_n 0, 1) := by decide +kernel
theorem dX1_note_36 : decode cX1_note 36 = .ok (.getfield 15, 3) := by decide +kernel
theorem dX1_note_39 : decode cX1_note 39 = .ok (.imul, 1) := by decide +kernel
theorem dX1_note_40 : decode cX1_note 40 = .ok (.iconst 1, 1) := by decide +kernel
theorem dX1_note_41 : decode cX1_note 41 = .ok (.iadd, 1) := by decide +kernel
theorem dX1_note_42 : decode cX1_note 42 = .ok (.lload_n 3, 1) := by decide +kernel
theorem dX1_note_43 : decode cX1_note 43 = .ok (.invokestatic 19, 3) := by decide +kernel
theorem dX1_note_46 : decode cX1_note 46 = .ok (.aload_n 0, 1) := by decide +kernel
theorem dX1_note_47 : decode cX1_note 47 = .ok (.getfield 11, 3) := by decide +kernel
theorem dX1_note_50 : decode cX1_note 50 = .ok (.iconst 4, 1) := by decide +kernel
theorem dX1_note_51 : decode cX1_note 51 = .ok (.aload_n 0, 1) := by decide +kernel
theorem dX1_note_52 : decode cX1_note 52 = .ok (.getfield 15, 3) := by decide +kernel
theorem dX1_note_55 : decode cX1_note 55 = .ok (.imul, 1) := by decide +kernel
theorem dX1_note_56 : decode cX1_note 56 = .ok (.iconst 2, 1) := by decide +kernel
theorem dX1_note_57 : decode cX1_note 57 = .ok (.iadd, 1) := by decide +kernel
theorem dX1_note_58 : decode cX1_note 58 = .ok (.lload 5, 2) := by decide +kernel
theorem dX1_note_60 : decode cX1_note 60 = .ok (.invokestatic 19, 3) := by decide +kernel
theorem dX1_note_63 : decode cX1_note 63 = .ok (.aload_n 0, 1) := by decide +kernel
theorem dX1_note_64 : decode cX1_note 64 = .ok (.getfield 11, 3) := by decide +kernel
theorem dX1_note_67 : decode cX1_note 67 = .ok (.iconst 4, 1) := by decide +kernel
theorem dX1_note_68 : decode cX1_note 68 = .ok (.aload_n 0, 1) := by decide +kernel
theorem dX1_note_69 : decode cX1_note 69 = .ok (.getfield 15, 3) := by decide +kernel
theorem dX1_note_72 : decode cX1_note 72 = .ok (.imul, 1) := by decide +kernel
theorem dX1_note_73 : decode cX1_note 73 = .ok (.iconst 3, 1) := by decide +kernel
theorem dX1_note_74 : decode cX1_note 74 = .ok (.iadd, 1) := by decide +kernel
theorem dX1_note_75 : decode cX1_note 75 = .ok (.lload 7, 2) := by decide +kernel
theorem dX1_note_77 : decode cX1_note 77 = .ok (.invokestatic 19, 3) := by decide +kernel
theorem dX1_note_80 : decode cX1_note 80 = .ok (.aload_n 0, 1) := by decide +kernel
theorem dX1_note_81 : decode cX1_note 81 = .ok (.dup, 1) := by decide +kernel
theorem dX1_note_82 : decode cX1_note 82 = .ok (.getfield 15, 3) := by decide +kernel
theorem dX1_note_85 : decode cX1_note 85 = .ok (.iconst 1, 1) := by decide +kernel
theorem dX1_note_86 : decode cX1_note 86 = .ok (.iadd, 1) := by decide +kernel
theorem dX1_note_87 : decode cX1_note 87 = .ok (.putfield 15, 3) := by decide +kernel
theorem dX1_note_90 : decode cX1_note 90 = .ok (.return_, 1) := by decide +kernel
theorem dX1_keeps_0 : decode cX1_keeps 0 = .ok (.iload_n 1, 1) := by decide +kernel
theorem dX1_keeps_1 : decode cX1_keeps 1 = .ok (.ifCond .lt 21, 3) := by decide +kernel
theorem dX1_keeps_4 : decode cX1_keeps 4 = .ok (.iload_n 1, 1) := by decide +kernel
theorem dX1_keeps_5 : decode cX1_keeps 5 = .ok (.aload_n 0, 1) := by decide +kernel
theorem dX1_keeps_6 : decode cX1_keeps 6 = .ok (.getfield 15, 3) := by decide +kernel
theorem dX1_keeps_9 : decode cX1_keeps 9 = .ok (.if_icmp .ge 13, 3) := by decide +kernel
theorem dX1_keeps_12 : decode cX1_keeps 12 = .ok (.iload_n 1, 1) := by decide +kernel
theorem dX1_keeps_13 : decode cX1_keeps 13 = .ok (.bipush 100, 2) := by decide +kernel
theorem dX1_keeps_15 : decode cX1_keeps 15 = .ok (.if_icmp .ge 7, 3) := by decide +kernel
theorem dX1_keeps_18 : decode cX1_keeps 18 = .ok (.iconst 1, 1) := by decide +kernel
theorem dX1_keeps_19 : decode cX1_keeps 19 = .ok (.goto 4, 3) := by decide +kernel
theorem dX1_keeps_22 : decode cX1_keeps 22 = .ok (.iconst 0, 1) := by decide +kernel
theorem dX1_keeps_23 : decode cX1_keeps 23 = .ok (.ireturn, 1) := by decide +kernel
theorem dX1_told_0 : decode cX1_told 0 = .ok (.aload_n 0, 1) := by decide +kernel
theorem dX1_told_1 : decode cX1_told 1 = .ok (.getfield 11, 3) := by decide +kernel
theorem dX1_told_4 : decode cX1_told 4 = .ok (.iconst 4, 1) := by decide +kernel
theorem dX1_told_5 : decode cX1_told 5 = .ok (.iload_n 1, 1) := by decide +kernel
theorem dX1_told_6 : decode cX1_told 6 = .ok (.imul, 1) := by decide +kernel
theorem dX1_told_7 : decode cX1_told 7 = .ok (.iload_n 2, 1) := by decide +kernel
theorem dX1_told_8 : decode cX1_told 8 = .ok (.iadd, 1) := by decide +kernel
theorem dX1_told_9 : decode cX1_told 9 = .ok (.invokestatic 23, 3) := by decide +kernel
theorem dX1_told_12 : decode cX1_told 12 = .ok (.lreturn, 1) := by decide +kernel
theorem dX2_init_0 : decode cX2_init 0 = .ok (.aload_n 0, 1) := by decide +kernel
theorem dX2_init_1 : decode cX2_init 1 = .ok (.invokespecial 3, 3) := by decide +kernel
theorem dX2_init_4 : decode cX2_init 4 = .ok (.aload_n 0, 1) := by decide +kernel
theorem dX2_init_5 : decode cX2_init 5 = .ok (.new 9, 3) := by decide +kernel
theorem dX2_init_8 : decode cX2_init 8 = .ok (.dup, 1) := by decide +kernel
theorem dX2_init_9 : decode cX2_init 9 = .ok (.invokespecial 11, 3) := by decide +kernel
theorem dX2_init_12 : decode cX2_init 12 = .ok (.putfield 12, 3) := by decide +kernel
theorem dX2_init_15 : decode cX2_init 15 = .ok (.aload_n 0, 1) := by decide +kernel
theorem dX2_init_16 : decode cX2_init 16 = .ok (.sipush 200, 3) := by decide +kernel
theorem dX2_init_19 : decode cX2_init 19 = .ok (.newarray .long, 2) := by decide +kernel
theorem dX2_init_21 : decode cX2_init 21 = .ok (.putfield 18, 3) := by decide +kernel
theorem dX2_init_24 : decode cX2_init 24 = .ok (.aload_n 0, 1) := by decide +kernel
theorem dX2_init_25 : decode cX2_init 25 = .ok (.bipush 25, 2) := by decide +kernel
theorem dX2_init_27 : decode cX2_init 27 = .ok (.newarray .int, 2) := by decide +kernel
theorem dX2_init_29 : decode cX2_init 29 = .ok (.putfield 22, 3) := by decide +kernel
theorem dX2_init_32 : decode cX2_init 32 = .ok (.aload_n 0, 1) := by decide +kernel
theorem dX2_init_33 : decode cX2_init 33 = .ok (.lconst 0, 1) := by decide +kernel
theorem dX2_init_34 : decode cX2_init 34 = .ok (.putfield 26, 3) := by decide +kernel
theorem dX2_init_37 : decode cX2_init 37 = .ok (.aload_n 0, 1) := by decide +kernel
theorem dX2_init_38 : decode cX2_init 38 = .ok (.lconst 0, 1) := by decide +kernel
theorem dX2_init_39 : decode cX2_init 39 = .ok (.putfield 30, 3) := by decide +kernel
theorem dX2_init_42 : decode cX2_init 42 = .ok (.aload_n 0, 1) := by decide +kernel
theorem dX2_init_43 : decode cX2_init 43 = .ok (.iconst 0, 1) := by decide +kernel
theorem dX2_init_44 : decode cX2_init 44 = .ok (.putfield 33, 3) := by decide +kernel
theorem dX2_init_47 : decode cX2_init 47 = .ok (.aload_n 0, 1) := by decide +kernel
theorem dX2_init_48 : decode cX2_init 48 = .ok (.iconst 0, 1) := by decide +kernel
theorem dX2_init_49 : decode cX2_init 49 = .ok (.putfield 37, 3) := by decide +kernel
theorem dX2_init_52 : decode cX2_init 52 = .ok (.aload_n 0, 1) := by decide +kernel
theorem dX2_init_53 : decode cX2_init 53 = .ok (.lconst 0, 1) := by decide +kernel
theorem dX2_init_54 : decode cX2_init 54 = .ok (.putfield 40, 3) := by decide +kernel
theorem dX2_init_57 : decode cX2_init 57 = .ok (.aload_n 0, 1) := by decide +kernel
theorem dX2_init_58 : decode cX2_init 58 = .ok (.iconst 0, 1) := by decide +kernel
theorem dX2_init_59 : decode cX2_init 59 = .ok (.putfield 43, 3) := by decide +kernel
theorem dX2_init_62 : decode cX2_init 62 = .ok (.return_, 1) := by decide +kernel
theorem dX2_putToSleep_0 : decode cX2_putToSleep 0 = .ok (.aload_n 0, 1) := by decide +kernel
theorem dX2_putToSleep_1 : decode cX2_putToSleep 1 = .ok (.iconst 0, 1) := by decide +kernel
theorem dX2_putToSleep_2 : decode cX2_putToSleep 2 = .ok (.putfield 43, 3) := by decide +kernel
theorem dX2_putToSleep_5 : decode cX2_putToSleep 5 = .ok (.iconst 0, 1) := by decide +kernel
theorem dX2_putToSleep_6 : decode cX2_putToSleep 6 = .ok (.istore_n 1, 1) := by decide +kernel
theorem dX2_putToSleep_7 : decode cX2_putToSleep 7 = .ok (.iload_n 1, 1) := by decide +kernel
theorem dX2_putToSleep_8 : decode cX2_putToSleep 8 = .ok (.aload_n 0, 1) := by decide +kernel
theorem dX2_putToSleep_9 : decode cX2_putToSleep 9 = .ok (.getfield 22, 3) := by decide +kernel
theorem dX2_putToSleep_12 : decode cX2_putToSleep 12 = .ok (.arraylength, 1) := by decide +kernel
theorem dX2_putToSleep_13 : decode cX2_putToSleep 13 = .ok (.if_icmp .ge 16, 3) := by decide +kernel
theorem dX2_putToSleep_16 : decode cX2_putToSleep 16 = .ok (.aload_n 0, 1) := by decide +kernel
theorem dX2_putToSleep_17 : decode cX2_putToSleep 17 = .ok (.getfield 22, 3) := by decide +kernel
theorem dX2_putToSleep_20 : decode cX2_putToSleep 20 = .ok (.iload_n 1, 1) := by decide +kernel
theorem dX2_putToSleep_21 : decode cX2_putToSleep 21 = .ok (.iconst 0, 1) := by decide +kernel
theorem dX2_putToSleep_22 : decode cX2_putToSleep 22 = .ok (.iastore, 1) := by decide +kernel
theorem dX2_putToSleep_23 : decode cX2_putToSleep 23 = .ok (.iinc 1 1, 3) := by decide +kernel
theorem dX2_putToSleep_26 : decode cX2_putToSleep 26 = .ok (.goto (-19), 3) := by decide +kernel
theorem dX2_putToSleep_29 : decode cX2_putToSleep 29 = .ok (.return_, 1) := by decide +kernel
theorem dX2_entriesInAll_0 : decode cX2_entriesInAll 0 = .ok (.lconst 0, 1) := by decide +kernel
theorem dX2_entriesInAll_1 : decode cX2_entriesInAll 1 = .ok (.ldc2_w 47, 3) := by decide +kernel
theorem dX2_entriesInAll_4 : decode cX2_entriesInAll 4 = .ok (.aload_n 0, 1) := by decide +kernel
theorem dX2_entriesInAll_5 : decode cX2_entriesInAll 5 = .ok (.getfield 30, 3) := by decide +kernel
theorem dX2_entriesInAll_8 : decode cX2_entriesInAll 8 = .ok (.invokestatic 49, 3) := by decide +kernel
theorem dX2_entriesInAll_11 : decode cX2_entriesInAll 11 = .ok (.invokestatic 55, 3) := by decide +kernel
theorem dX2_entriesInAll_14 : decode cX2_entriesInAll 14 = .ok (.l2i, 1) := by decide +kernel
theorem dX2_entriesInAll_15 : decode cX2_entriesInAll 15 = .ok (.ireturn, 1) := by decide +kernel
theorem dX2_rowsInAll_0 : decode cX2_rowsInAll 0 = .ok (.aload_n 0, 1) := by decide +kernel
theorem dX2_rowsInAll_1 : decode cX2_rowsInAll 1 = .ok (.invokevirtual 58, 3) := by decide +kernel
theorem dX2_rowsInAll_4 : decode cX2_rowsInAll 4 = .ok (.bipush 8, 2) := by decide +kernel
theorem dX2_rowsInAll_6 : decode cX2_rowsInAll 6 = .ok (.iadd, 1) := by decide +kernel
theorem dX2_rowsInAll_7 : decode cX2_rowsInAll 7 = .ok (.iconst 1, 1) := by decide +kernel
theorem dX2_rowsInAll_8 : decode cX2_rowsInAll 8 = .ok (.isub, 1) := by decide +kernel
theorem dX2_rowsInAll_9 : decode cX2_rowsInAll 9 = .ok (.bipush 8, 2) := by decide +kernel
theorem dX2_rowsInAll_11 : decode cX2_rowsInAll 11 = .ok (.idiv, 1) := by decide +kernel
theorem dX2_rowsInAll_12 : decode cX2_rowsInAll 12 = .ok (.ireturn, 1) := by decide +kernel
theorem dX2_endOfRow_0 : decode cX2_endOfRow 0 = .ok (.aload_n 0, 1) := by decide +kernel
theorem dX2_endOfRow_1 : decode cX2_endOfRow 1 = .ok (.invokevirtual 58, 3) := by decide +kernel
theorem dX2_endOfRow_4 : decode cX2_endOfRow 4 = .ok (.bipush 8, 2) := by decide +kernel
theorem dX2_endOfRow_6 : decode cX2_endOfRow 6 = .ok (.iload_n 1, 1) := by decide +kernel
theorem dX2_endOfRow_7 : decode cX2_endOfRow 7 = .ok (.imul, 1) := by decide +kernel
theorem dX2_endOfRow_8 : decode cX2_endOfRow 8 = .ok (.bipush 8, 2) := by decide +kernel
theorem dX2_endOfRow_10 : decode cX2_endOfRow 10 = .ok (.iadd, 1) := by decide +kernel
theorem dX2_endOfRow_11 : decode cX2_endOfRow 11 = .ok (.invokestatic 62, 3) := by decide +kernel
theorem dX2_endOfRow_14 : decode cX2_endOfRow 14 = .ok (.ireturn, 1) := by decide +kernel
theorem dX2_clearEntries_0 : decode cX2_clearEntries 0 = .ok (.iconst 0, 1) := by decide +kernel
theorem dX2_clearEntries_1 : decode cX2_clearEntries 1 = .ok (.istore_n 1, 1) := by decide +kernel
theorem dX2_clearEntries_2 : decode cX2_clearEntries 2 = .ok (.iload_n 1, 1) := by decide +kernel
theorem dX2_clearEntries_3 : decode cX2_clearEntries 3 = .ok (.aload_n 0, 1) := by decide +kernel
theorem dX2_clearEntries_4 : decode cX2_clearEntries 4 = .ok (.getfield 18, 3) := by decide +kernel
theorem dX2_clearEntries_7 : decode cX2_clearEntries 7 = .ok (.arraylength, 1) := by decide +kernel
theorem dX2_clearEntries_8 : decode cX2_clearEntries 8 = .ok (.if_icmp .ge 16, 3) := by decide +kernel
theorem dX2_clearEntries_11 : decode cX2_clearEntries 11 = .ok (.aload_n 0, 1) := by decide +kernel
theorem dX2_clearEntries_12 : decode cX2_clearEntries 12 = .ok (.getfield 18, 3) := by decide +kernel
theorem dX2_clearEntries_15 : decode cX2_clearEntries 15 = .ok (.iload_n 1, 1) := by decide +kernel
theorem dX2_clearEntries_16 : decode cX2_clearEntries 16 = .ok (.lconst 0, 1) := by decide +kernel
theorem dX2_clearEntries_17 : decode cX2_clearEntries 17 = .ok (.lastore, 1) := by decide +kernel
theorem dX2_clearEntries_18 : decode cX2_clearEntries 18 = .ok (.iinc 1 1, 3) := by decide +kernel
theorem dX2_clearEntries_21 : decode cX2_clearEntries 21 = .ok (.goto (-19), 3) := by decide +kernel
theorem dX2_clearEntries_24 : decode cX2_clearEntries 24 = .ok (.return_, 1) := by decide +kernel
theorem dX2_readyEntries_0 : decode cX2_readyEntries 0 = .ok (.aload_n 0, 1) := by decide +kernel
theorem dX2_readyEntries_1 : decode cX2_readyEntries 1 = .ok (.getfield 43, 3) := by decide +kernel
theorem dX2_readyEntries_4 : decode cX2_readyEntries 4 = .ok (.iconst 2, 1) := by decide +kernel
theorem dX2_readyEntries_5 : decode cX2_readyEntries 5 = .ok (.if_icmp .eq 5, 3) := by decide +kernel
theorem dX2_readyEntries_8 : decode cX2_readyEntries 8 = .ok (.iconst 0, 1) := by decide +kernel
theorem dX2_readyEntries_9 : decode cX2_readyEntries 9 = .ok (.ireturn, 1) := by decide +kernel
theorem dX2_readyEntries_10 : decode cX2_readyEntries 10 = .ok (.aload_n 0, 1) := by decide +kernel
theorem dX2_readyEntries_11 : decode cX2_readyEntries 11 = .ok (.getfield 33, 3) := by decide +kernel
theorem dX2_readyEntries_14 : decode cX2_readyEntries 14 = .ok (.ifCond .ne 8, 3) := by decide +kernel
theorem dX2_readyEntries_17 : decode cX2_readyEntries 17 = .ok (.aload_n 0, 1) := by decide +kernel
theorem dX2_readyEntries_18 : decode cX2_readyEntries 18 = .ok (.invokevirtual 58, 3) := by decide +kernel
theorem dX2_readyEntries_21 : decode cX2_readyEntries 21 = .ok (.ireturn, 1) := by decide +kernel
theorem dX2_readyEntries_22 : decode cX2_readyEntries 22 = .ok (.iconst 0, 1) := by decide +kernel
theorem dX2_readyEntries_23 : decode cX2_readyEntries 23 = .ok (.istore_n 1, 1) := by decide +kernel
theorem dX2_readyEntries_24 : decode cX2_readyEntries 24 = .ok (.iconst 0, 1) := by decide +kernel
theorem dX2_readyEntries_25 : decode cX2_readyEntries 25 = .ok (.istore_n 2, 1) := by decide +kernel
theorem dX2_readyEntries_26 : decode cX2_readyEntries 26 = .ok (.iload_n 2, 1) := by decide +kernel
theorem dX2_readyEntries_27 : decode cX2_readyEntries 27 = .ok (.aload_n 0, 1) := by decide +kernel
theorem dX2_readyEntries_28 : decode cX2_readyEntries 28 = .ok (.invokevirtual 65, 3) := by decide +kernel
theorem dX2_readyEntries_31 : decode cX2_readyEntries 31 = .ok (.if_icmp .ge 34, 3) := by decide +kernel
theorem dX2_readyEntries_34 : decode cX2_readyEntries 34 = .ok (.aload_n 0, 1) := by decide +kernel
theorem dX2_readyEntries_35 : decode cX2_readyEntries 35 = .ok (.getfield 22, 3) := by decide +kernel
theorem dX2_readyEntries_38 : decode cX2_readyEntries 38 = .ok (.iload_n 2, 1) := by decide +kernel
theorem dX2_readyEntries_39 : decode cX2_readyEntries 39 = .ok (.invokestatic 68, 3) := by decide +kernel
theorem dX2_readyEntries_42 : decode cX2_readyEntries 42 = .ok (.iconst 2, 1) := by decide +kernel
theorem dX2_readyEntries_43 : decode cX2_readyEntries 43 = .ok (.if_icmp .ne 16, 3) := by decide +kernel
theorem dX2_readyEntries_46 : decode cX2_readyEntries 46 = .ok (.iload_n 1, 1) := by decide +kernel
theorem dX2_readyEntries_47 : decode cX2_readyEntries 47 = .ok (.aload_n 0, 1) := by decide +kernel
theorem dX2_readyEntries_48 : decode cX2_readyEntries 48 = .ok (.iload_n 2, 1) := by decide +kernel
theorem dX2_readyEntries_49 : decode cX2_readyEntries 49 = .ok (.invokevirtual 72, 3) := by decide +kernel
theorem dX2_readyEntries_52 : decode cX2_readyEntries 52 = .ok (.bipush 8, 2) := by decide +kernel
theorem dX2_readyEntries_54 : decode cX2_readyEntries 54 = .ok (.iload_n 2, 1) := by decide +kernel
theorem dX2_readyEntries_55 : decode cX2_readyEntries 55 = .ok (.imul, 1) := by decide +kernel
theorem dX2_readyEntries_56 : decode cX2_readyEntries 56 = .ok (.isub, 1) := by decide +kernel
theorem dX2_readyEntries_57 : decode cX2_readyEntries 57 = .ok (.iadd, 1) := by decide +kernel
theorem dX2_readyEntries_58 : decode cX2_readyEntries 58 = .ok (.istore_n 1, 1) := by decide +kernel
theorem dX2_readyEntries_59 : decode cX2_readyEntries 59 = .ok (.iinc 2 1, 3) := by decide +kernel
theorem dX2_readyEntries_62 : decode cX2_readyEntries 62 = .ok (.goto (-36), 3) := by decide +kernel
theorem dX2_readyEntries_65 : decode cX2_readyEntries 65 = .ok (.iload_n 1, 1) := by decide +kernel
theorem dX2_readyEntries_66 : decode cX2_readyEntries 66 = .ok (.ireturn, 1) := by decide +kernel
theorem dX3_init_0 : decode cX3_init 0 = .ok (.aload_n 0, 1) := by decide +kernel
theorem dX3_init_1 : decode cX3_init 1 = .ok (.invokespecial 3, 3) := by decide +kernel
theorem dX3_init_4 : decode cX3_init 4 = .ok (.aload_n 0, 1) := by decide +kernel
theorem dX3_init_5 : decode cX3_init 5 = .ok (.sipush 900, 3) := by decide +kernel
theorem dX3_init_8 : decode cX3_init 8 = .ok (.newarray .byte, 2) := by decide +kernel
theorem dX3_init_10 : decode cX3_init 10 = .ok (.putfield 9, 3) := by decide +kernel
theorem dX3_init_13 : decode cX3_init 13 = .ok (.aload_n 0, 1) := by decide +kernel
theorem dX3_init_14 : decode cX3_init 14 = .ok (.iconst 0, 1) := by decide +kernel
theorem dX3_init_15 : decode cX3_init 15 = .ok (.putfield 15, 3) := by decide +kernel
theorem dX3_init_18 : decode cX3_init 18 = .ok (.return_, 1) := by decide +kernel
theorem dX3_append_0 : decode cX3_append 0 = .ok (.lload_n 1, 1) := by decide +kernel
theorem dX3_append_1 : decode cX3_append 1 = .ok (.invokestatic 19, 3) := by decide +kernel
theorem dX3_append_4 : decode cX3_append 4 = .ok (.istore_n 3, 1) := by decide +kernel
theorem dX3_append_5 : decode cX3_append 5 = .ok (.aload_n 0, 1) := by decide +kernel
theorem dX3_append_6 : decode cX3_append 6 = .ok (.getfield 15, 3) := by decide +kernel
theorem dX3_append_9 : decode cX3_append 9 = .ok (.iload_n 3, 1) := by decide +kernel
theorem dX3_append_10 : decode cX3_append 10 = .ok (.iadd, 1) := by decide +kernel
theorem dX3_append_11 : decode cX3_append 11 = .ok (.sipush 900, 3) := by decide +kernel
theorem dX3_append_14 : decode cX3_append 14 = .ok (.if_icmp .le 5, 3) := by decide +kernel
theorem dX3_append_17 : decode cX3_append 17 = .ok (.iconst 0, 1) := by decide +kernel
theorem dX3_append_18 : decode cX3_append 18 = .ok (.ireturn, 1) := by decide +kernel
theorem dX3_append_19 : decode cX3_append 19 = .ok (.iconst 0, 1) := by decide +kernel
theorem dX3_append_20 : decode cX3_append 20 = .ok (.istore 4, 2) := by decide +kernel
theorem dX3_append_22 : decode cX3_append 22 = .ok (.iload 4, 2) := by decide +kernel
theorem dX3_append_24 : decode cX3_append 24 = .ok (.iload_n 3, 1) := by decide +kernel
theorem dX3_append_25 : decode cX3_append 25 = .ok (.if_icmp .ge 29, 3) := by decide +kernel
theorem dX3_append_28 : decode cX3_append 28 = .ok (.aload_n 0, 1) := by decide +kernel
theorem dX3_append_29 : decode cX3_append 29 = .ok (.aload_n 0, 1) := by decide +kernel
theorem dX3_append_30 : decode cX3_append 30 = .ok (.getfield 15, 3) := by decide +kernel
theorem dX3_append_33 : decode cX3_append 33 = .ok (.iload 4, 2) := by decide +kernel
theorem dX3_append_35 : decode cX3_append 35 = .ok (.iadd, 1) := by decide +kernel
theorem dX3_append_36 : decode cX3_append 36 = .ok (.lload_n 1, 1) := by decide +kernel
theorem dX3_append_37 : decode cX3_append 37 = .ok (.bipush 8, 2) := by decide +kernel
theorem dX3_append_39 : decode cX3_append 39 = .ok (.iload 4, 2) := by decide +kernel
theorem dX3_append_41 : decode cX3_append 41 = .ok (.imul, 1) := by decide +kernel
theorem dX3_append_42 : decode cX3_append 42 = .ok (.lushr, 1) := by decide +kernel
theorem dX3_append_43 : decode cX3_append 43 = .ok (.l2i, 1) := by decide +kernel
theorem dX3_append_44 : decode cX3_append 44 = .ok (.i2b, 1) := by decide +kernel
theorem dX3_append_45 : decode cX3_append 45 = .ok (.invokevirtual 23, 3) := by decide +kernel
theorem dX3_append_48 : decode cX3_append 48 = .ok (.iinc 4 1, 3) := by decide +kernel
theorem dX3_append_51 : decode cX3_append 51 = .ok (.goto (-29), 3) := by decide +kernel
theorem dX3_append_54 : decode cX3_append 54 = .ok (.aload_n 0, 1) := by decide +kernel
theorem dX3_append_55 : decode cX3_append 55 = .ok (.dup, 1) := by decide +kernel
theorem dX3_append_56 : decode cX3_append 56 = .ok (.getfield 15, 3) := by decide +kernel
theorem dX3_append_59 : decode cX3_append 59 = .ok (.iload_n 3, 1) := by decide +kernel
theorem dX3_append_60 : decode cX3_append 60 = .ok (.iadd, 1) := by decide +kernel
theorem dX3_append_61 : decode cX3_append 61 = .ok (.putfield 15, 3) := by decide +kernel
theorem dX3_append_64 : decode cX3_append 64 = .ok (.iconst 1, 1) := by decide +kernel
theorem dX3_append_65 : decode cX3_append 65 = .ok (.ireturn, 1) := by decide +kernel
theorem dX3_bytesIn_0 : decode cX3_bytesIn 0 = .ok (.iconst 0, 1) := by decide +kernel
theorem dX3_bytesIn_1 : decode cX3_bytesIn 1 = .ok (.istore_n 2, 1) := by decide +kernel
theorem dX3_bytesIn_2 : decode cX3_bytesIn 2 = .ok (.iload_n 2, 1) := by decide +kernel
theorem dX3_bytesIn_3 : decode cX3_bytesIn 3 = .ok (.bipush 8, 2) := by decide +kernel
theorem dX3_bytesIn_5 : decode cX3_bytesIn 5 = .ok (.if_icmp .ge 24, 3) := by decide +kernel
theorem dX3_bytesIn_8 : decode cX3_bytesIn 8 = .ok (.lload_n 0, 1) := by decide +kernel
theorem dX3_bytesIn_9 : decode cX3_bytesIn 9 = .ok (.bipush 8, 2) := by decide +kernel
theorem dX3_bytesIn_11 : decode cX3_bytesIn 11 = .ok (.iload_n 2, 1) := by decide +kernel
theorem dX3_bytesIn_12 : decode cX3_bytesIn 12 = .ok (.imul, 1) := by decide +kernel
theorem dX3_bytesIn_13 : decode cX3_bytesIn 13 = .ok (.lushr, 1) := by decide +kernel
theorem dX3_bytesIn_14 : decode cX3_bytesIn 14 = .ok (.ldc2_w 27, 3) := by decide +kernel
theorem dX3_bytesIn_17 : decode cX3_bytesIn 17 = .ok (.land, 1) := by decide +kernel
theorem dX3_bytesIn_18 : decode cX3_bytesIn 18 = .ok (.lconst 0, 1) := by decide +kernel
theorem dX3_bytesIn_19 : decode cX3_bytesIn 19 = .ok (.lcmp, 1) := by decide +kernel
theorem dX3_bytesIn_20 : decode cX3_bytesIn 20 = .ok (.ifCond .eq 9, 3) := by decide +kernel
theorem dX3_bytesIn_23 : decode cX3_bytesIn 23 = .ok (.iinc 2 1, 3) := by decide +kernel
theorem dX3_bytesIn_26 : decode cX3_bytesIn 26 = .ok (.goto (-24), 3) := by decide +kernel
theorem dX3_bytesIn_29 : decode cX3_bytesIn 29 = .ok (.iload_n 2, 1) := by decide +kernel
theorem dX3_bytesIn_30 : decode cX3_bytesIn 30 = .ok (.ireturn, 1) := by decide +kernel
theorem dX3_putByte_0 : decode cX3_putByte 0 = .ok (.iload_n 1, 1) := by decide +kernel
theorem dX3_putByte_1 : decode cX3_putByte 1 = .ok (.ifCond .lt 19, 3) := by decide +kernel
theorem dX3_putByte_4 : decode cX3_putByte 4 = .ok (.iload_n 1, 1) := by decide +kernel
theorem dX3_putByte_5 : decode cX3_putByte 5 = .ok (.aload_n 0, 1) := by decide +kernel
theorem dX3_putByte_6 : decode cX3_putByte 6 = .ok (.getfield 9, 3) := by decide +kernel
theorem dX3_putByte_9 : decode cX3_putByte 9 = .ok (.arraylength, 1) := by decide +kernel
theorem dX3_putByte_10 : decode cX3_putByte 10 = .ok (.if_icmp .ge 10, 3) := by decide +kernel
theorem dX3_putByte_13 : decode cX3_putByte 13 = .ok (.aload_n 0, 1) := by decide +kernel
theorem dX3_putByte_14 : decode cX3_putByte 14 = .ok (.getfield 9, 3) := by decide +kernel
theorem dX3_putByte_17 : decode cX3_putByte 17 = .ok (.iload_n 1, 1) := by decide +kernel
theorem dX3_putByte_18 : decode cX3_putByte 18 = .ok (.iload_n 2, 1) := by decide +kernel
theorem dX3_putByte_19 : decode cX3_putByte 19 = .ok (.bastore, 1) := by decide +kernel
theorem dX3_putByte_20 : decode cX3_putByte 20 = .ok (.return_, 1) := by decide +kernel
theorem dX3_byteAt_0 : decode cX3_byteAt 0 = .ok (.iload_n 1, 1) := by decide +kernel
theorem dX3_byteAt_1 : decode cX3_byteAt 1 = .ok (.ifCond .lt 33, 3) := by decide +kernel
theorem dX3_byteAt_4 : decode cX3_byteAt 4 = .ok (.iload_n 1, 1) := by decide +kernel
theorem dX3_byteAt_5 : decode cX3_byteAt 5 = .ok (.aload_n 0, 1) := by decide +kernel
theorem dX3_byteAt_6 : decode cX3_byteAt 6 = .ok (.getfield 15, 3) := by decide +kernel
theorem dX3_byteAt_9 : decode cX3_byteAt 9 = .ok (.if_icmp .ge 25, 3) := by decide +kernel
theorem dX3_byteAt_12 : decode cX3_byteAt 12 = .ok (.iload_n 1, 1) := by decide +kernel
theorem dX3_byteAt_13 : decode cX3_byteAt 13 = .ok (.aload_n 0, 1) := by decide +kernel
theorem dX3_byteAt_14 : decode cX3_byteAt 14 = .ok (.getfield 9, 3) := by decide +kernel
theorem dX3_byteAt_17 : decode cX3_byteAt 17 = .ok (.arraylength, 1) := by decide +kernel
theorem dX3_byteAt_18 : decode cX3_byteAt 18 = .ok (.if_icmp .ge 16, 3) := by decide +kernel
theorem dX3_byteAt_21 : decode cX3_byteAt 21 = .ok (.aload_n 0, 1) := by decide +kernel
theorem dX3_byteAt_22 : decode cX3_byteAt 22 = .ok (.getfield 9, 3) := by decide +kernel
theorem dX3_byteAt_25 : decode cX3_byteAt 25 = .ok (.iload_n 1, 1) := by decide +kernel
theorem dX3_byteAt_26 : decode cX3_byteAt 26 = .ok (.baload, 1) := by decide +kernel
theorem dX3_byteAt_27 : decode cX3_byteAt 27 = .ok (.sipush 255, 3) := by decide +kernel
theorem dX3_byteAt_30 : decode cX3_byteAt 30 = .ok (.iand, 1) := by decide +kernel
theorem dX3_byteAt_31 : decode cX3_byteAt 31 = .ok (.goto 4, 3) := by decide +kernel
theorem dX3_byteAt_34 : decode cX3_byteAt 34 = .ok (.iconst 0, 1) := by decide +kernel
theorem dX3_byteAt_35 : decode cX3_byteAt 35 = .ok (.ireturn, 1) := by decide +kernel
theorem dX3_empty_0 : decode cX3_empty 0 = .ok (.aload_n 0, 1) := by decide +kernel
theorem dX3_empty_1 : decode cX3_empty 1 = .ok (.iconst 0, 1) := by decide +kernel
theorem dX3_empty_2 : decode cX3_empty 2 = .ok (.putfield 15, 3) := by decide +kernel
theorem dX3_empty_5 : decode cX3_empty 5 = .ok (.return_, 1) := by decide +kernel
theorem dX4_init_0 : decode cX4_init 0 = .ok (.aload_n 0, 1) := by decide +kernel
theorem dX4_init_1 : decode cX4_init 1 = .ok (.invokespecial 3, 3) := by decide +kernel
theorem dX4_init_4 : decode cX4_init 4 = .ok (.aload_n 0, 1) := by decide +kernel
theorem dX4_init_5 : decode cX4_init 5 = .ok (.bipush 12, 2) := by decide +kernel
theorem dX4_init_7 : decode cX4_init 7 = .ok (.anewarray 9, 3) := by decide +kernel
theorem dX4_init_10 : decode cX4_init 10 = .ok (.putfield 11, 3) := by decide +kernel
theorem dX4_init_13 : decode cX4_init 13 = .ok (.iconst 0, 1) := by decide +kernel
theorem dX4_init_14 : decode cX4_init 14 = .ok (.istore_n 1, 1) := by decide +kernel
theorem dX4_init_15 : decode cX4_init 15 = .ok (.iload_n 1, 1) := by decide +kernel
theorem dX4_init_16 : decode cX4_init 16 = .ok (.aload_n 0, 1) := by decide +kernel
theorem dX4_init_17 : decode cX4_init 17 = .ok (.getfield 11, 3) := by decide +kernel
theorem dX4_init_20 : decode cX4_init 20 = .ok (.arraylength, 1) := by decide +kernel
theorem dX4_init_21 : decode cX4_init 21 = .ok (.if_icmp .ge 22, 3) := by decide +kernel
theorem dX4_init_24 : decode cX4_init 24 = .ok (.aload_n 0, 1) := by decide +kernel
theorem dX4_init_25 : decode cX4_init 25 = .ok (.getfield 11, 3) := by decide +kernel
theorem dX4_init_28 : decode cX4_init 28 = .ok (.iload_n 1, 1) := by decide +kernel
theorem dX4_init_29 : decode cX4_init 29 = .ok (.new 9, 3) := by decide +kernel
theorem dX4_init_32 : decode cX4_init 32 = .ok (.dup, 1) := by decide +kernel
theorem dX4_init_33 : decode cX4_init 33 = .ok (.invokespecial 17, 3) := by decide +kernel
theorem dX4_init_36 : decode cX4_init 36 = .ok (.aastore, 1) := by decide +kernel
theorem dX4_init_37 : decode cX4_init 37 = .ok (.iinc 1 1, 3) := by decide +kernel
theorem dX4_init_40 : decode cX4_init 40 = .ok (.goto (-25), 3) := by decide +kernel
theorem dX4_init_43 : decode cX4_init 43 = .ok (.aload_n 0, 1) := by decide +kernel
theorem dX4_init_44 : decode cX4_init 44 = .ok (.iconst 0, 1) := by decide +kernel
theorem dX4_init_45 : decode cX4_init 45 = .ok (.putfield 18, 3) := by decide +kernel
theorem dX4_init_48 : decode cX4_init 48 = .ok (.return_, 1) := by decide +kernel
theorem dX4_slotAt_0 : decode cX4_slotAt 0 = .ok (.iload_n 1, 1) := by decide +kernel
theorem dX4_slotAt_1 : decode cX4_slotAt 1 = .ok (.ifCond .lt 21, 3) := by decide +kernel
theorem dX4_slotAt_4 : decode cX4_slotAt 4 = .ok (.iload_n 1, 1) := by decide +kernel
theorem dX4_slotAt_5 : decode cX4_slotAt 5 = .ok (.aload_n 0, 1) := by decide +kernel
theorem dX4_slotAt_6 : decode cX4_slotAt 6 = .ok (.getfield 11, 3) := by decide +kernel
theorem dX4_slotAt_9 : decode cX4_slotAt 9 = .ok (.arraylength, 1) := by decide +kernel
theorem dX4_slotAt_10 : decode cX4_slotAt 10 = .ok (.if_icmp .ge 12, 3) := by decide +kernel
theorem dX4_slotAt_13 : decode cX4_slotAt 13 = .ok (.aload_n 0, 1) := by decide +kernel
theorem dX4_slotAt_14 : decode cX4_slotAt 14 = .ok (.getfield 11, 3) := by decide +kernel
theorem dX4_slotAt_17 : decode cX4_slotAt 17 = .ok (.iload_n 1, 1) := by decide +kernel
theorem dX4_slotAt_18 : decode cX4_slotAt 18 = .ok (.aaload, 1) := by decide +kernel
theorem dX4_slotAt_19 : decode cX4_slotAt 19 = .ok (.goto 4, 3) := by decide +kernel
theorem dX4_slotAt_22 : decode cX4_slotAt 22 = .ok (.aconst_null, 1) := by decide +kernel
theorem dX4_slotAt_23 : decode cX4_slotAt 23 = .ok (.areturn, 1) := by decide +kernel
theorem dX4_tableAt_0 : decode cX4_tableAt 0 = .ok (.iload_n 1, 1) := by decide +kernel
theorem dX4_tableAt_1 : decode cX4_tableAt 1 = .ok (.aload_n 0, 1) := by decide +kernel
theorem dX4_tableAt_2 : decode cX4_tableAt 2 = .ok (.getfield 18, 3) := by decide +kernel
theorem dX4_tableAt_5 : decode cX4_tableAt 5 = .ok (.if_icmp .ge 11, 3) := by decide +kernel
theorem dX4_tableAt_8 : decode cX4_tableAt 8 = .ok (.aload_n 0, 1) := by decide +kernel
theorem dX4_tableAt_9 : decode cX4_tableAt 9 = .ok (.iload_n 1, 1) := by decide +kernel
theorem dX4_tableAt_10 : decode cX4_tableAt 10 = .ok (.invokevirtual 22, 3) := by decide +kernel
theorem dX4_tableAt_13 : decode cX4_tableAt 13 = .ok (.goto 4, 3) := by decide +kernel
theorem dX4_tableAt_16 : decode cX4_tableAt 16 = .ok (.aconst_null, 1) := by decide +kernel
theorem dX4_tableAt_17 : decode cX4_tableAt 17 = .ok (.areturn, 1) := by decide +kernel
theorem dX4_numberOf_0 : decode cX4_numberOf 0 = .ok (.iconst 0, 1) := by decide +kernel
theorem dX4_numberOf_1 : decode cX4_numberOf 1 = .ok (.istore_n 3, 1) := by decide +kernel
theorem dX4_numberOf_2 : decode cX4_numberOf 2 = .ok (.iload_n 3, 1) := by decide +kernel
theorem dX4_numberOf_3 : decode cX4_numberOf 3 = .ok (.aload_n 0, 1) := by decide +kernel
theorem dX4_numberOf_4 : decode cX4_numberOf 4 = .ok (.getfield 18, 3) := by decide +kernel
theorem dX4_numberOf_7 : decode cX4_numberOf 7 = .ok (.if_icmp .ge 33, 3) := by decide +kernel
theorem dX4_numberOf_10 : decode cX4_numberOf 10 = .ok (.aload_n 0, 1) := by decide +kernel
theorem dX4_numberOf_11 : decode cX4_numberOf 11 = .ok (.iload_n 3, 1) := by decide +kernel
theorem dX4_numberOf_12 : decode cX4_numberOf 12 = .ok (.invokevirtual 22, 3) := by decide +kernel
theorem dX4_numberOf_15 : decode cX4_numberOf 15 = .ok (.astore 4, 2) := by decide +kernel
theorem dX4_numberOf_17 : decode cX4_numberOf 17 = .ok (.aload 4, 2) := by decide +kernel
theorem dX4_numberOf_19 : decode cX4_numberOf 19 = .ok (.ifnull 15, 3) := by decide +kernel
theorem dX4_numberOf_22 : decode cX4_numberOf 22 = .ok (.aload 4, 2) := by decide +kernel
theorem dX4_numberOf_24 : decode cX4_numberOf 24 = .ok (.getfield 26, 3) := by decide +kernel
theorem dX4_numberOf_27 : decode cX4_numberOf 27 = .ok (.lload_n 1, 1) := by decide +kernel
theorem dX4_numberOf_28 : decode cX4_numberOf 28 = .ok (.lcmp, 1) := by decide +kernel
theorem dX4_numberOf_29 : decode cX4_numberOf 29 = .ok (.ifCond .ne 5, 3) := by decide +kernel
theorem dX4_numberOf_32 : decode cX4_numberOf 32 = .ok (.iload_n 3, 1) := by decide +kernel
theorem dX4_numberOf_33 : decode cX4_numberOf 33 = .ok (.ireturn, 1) := by decide +kernel
theorem dX4_numberOf_34 : decode cX4_numberOf 34 = .ok (.iinc 3 1, 3) := by decide +kernel
theorem dX4_numberOf_37 : decode cX4_numberOf 37 = .ok (.goto (-35), 3) := by decide +kernel
theorem dX4_numberOf_40 : decode cX4_numberOf 40 = .ok (.bipush (-9), 2) := by decide +kernel
theorem dX4_numberOf_42 : decode cX4_numberOf 42 = .ok (.ireturn, 1) := by decide +kernel
theorem dX4_sizeOf_0 : decode cX4_sizeOf 0 = .ok (.aload_n 0, 1) := by decide +kernel
theorem dX4_sizeOf_1 : decode cX4_sizeOf 1 = .ok (.iload_n 1, 1) := by decide +kernel
theorem dX4_sizeOf_2 : decode cX4_sizeOf 2 = .ok (.invokevirtual 30, 3) := by decide +kernel
theorem dX4_sizeOf_5 : decode cX4_sizeOf 5 = .ok (.astore_n 2, 1) := by decide +kernel
theorem dX4_sizeOf_6 : decode cX4_sizeOf 6 = .ok (.aload_n 2, 1) := by decide +kernel
theorem dX4_sizeOf_7 : decode cX4_sizeOf 7 = .ok (.ifnonnull 7, 3) := by decide +kernel
theorem dX4_sizeOf_10 : decode cX4_sizeOf 10 = .ok (.lconst 0, 1) := by decide +kernel
theorem dX4_sizeOf_11 : decode cX4_sizeOf 11 = .ok (.goto 7, 3) := by decide +kernel
theorem dX4_sizeOf_14 : decode cX4_sizeOf 14 = .ok (.aload_n 2, 1) := by decide +kernel
theorem dX4_sizeOf_15 : decode cX4_sizeOf 15 = .ok (.getfield 33, 3) := by decide +kernel
theorem dX4_sizeOf_18 : decode cX4_sizeOf 18 = .ok (.lreturn, 1) := by decide +kernel
theorem dX4_putToSleep_0 : decode cX4_putToSleep 0 = .ok (.iconst 0, 1) := by decide +kernel
theorem dX4_putToSleep_1 : decode cX4_putToSleep 1 = .ok (.istore_n 1, 1) := by decide +kernel
theorem dX4_putToSleep_2 : decode cX4_putToSleep 2 = .ok (.iload_n 1, 1) := by decide +kernel
theorem dX4_putToSleep_3 : decode cX4_putToSleep 3 = .ok (.aload_n 0, 1) := by decide +kernel
theorem dX4_putToSleep_4 : decode cX4_putToSleep 4 = .ok (.getfield 18, 3) := by decide +kernel
theorem dX4_putToSleep_7 : decode cX4_putToSleep 7 = .ok (.if_icmp .ge 23, 3) := by decide +kernel
theorem dX4_putToSleep_10 : decode cX4_putToSleep 10 = .ok (.aload_n 0, 1) := by decide +kernel
theorem dX4_putToSleep_11 : decode cX4_putToSleep 11 = .ok (.iload_n 1, 1) := by decide +kernel
theorem dX4_putToSleep_12 : decode cX4_putToSleep 12 = .ok (.invokevirtual 22, 3) := by decide +kernel
theorem dX4_putToSleep_15 : decode cX4_putToSleep 15 = .ok (.astore_n 2, 1) := by decide +kernel
theorem dX4_putToSleep_16 : decode cX4_putToSleep 16 = .ok (.aload_n 2, 1) := by decide +kernel
theorem dX4_putToSleep_17 : decode cX4_putToSleep 17 = .ok (.ifnull 7, 3) := by decide +kernel
theorem dX4_putToSleep_20 : decode cX4_putToSleep 20 = .ok (.aload_n 2, 1) := by decide +kernel
theorem dX4_putToSleep_21 : decode cX4_putToSleep 21 = .ok (.invokevirtual 36, 3) := by decide +kernel
theorem dX4_putToSleep_24 : decode cX4_putToSleep 24 = .ok (.iinc 1 1, 3) := by decide +kernel
theorem dX4_putToSleep_27 : decode cX4_putToSleep 27 = .ok (.goto (-25), 3) := by decide +kernel
theorem dX4_putToSleep_30 : decode cX4_putToSleep 30 = .ok (.return_, 1) := by decide +kernel
theorem dX4_howManyAre_0 : decode cX4_howManyAre 0 = .ok (.iconst 0, 1) := by decide +kernel
theorem dX4_howManyAre_1 : decode cX4_howManyAre 1 = .ok (.istore_n 2, 1) := by decide +kernel
theorem dX4_howManyAre_2 : decode cX4_howManyAre 2 = .ok (.iconst 0, 1) := by decide +kernel
theorem dX4_howManyAre_3 : decode cX4_howManyAre 3 = .ok (.istore_n 3, 1) := by decide +kernel
theorem dX4_howManyAre_4 : decode cX4_howManyAre 4 = .ok (.iload_n 3, 1) := by decide +kernel
theorem dX4_howManyAre_5 : decode cX4_howManyAre 5 = .ok (.aload_n 0, 1) := by decide +kernel
theorem dX4_howManyAre_6 : decode cX4_howManyAre 6 = .ok (.getfield 18, 3) := by decide +kernel
theorem dX4_howManyAre_9 : decode cX4_howManyAre 9 = .ok (.if_icmp .ge 33, 3) := by decide +kernel
theorem dX4_howManyAre_12 : decode cX4_howManyAre 12 = .ok (.aload_n 0, 1) := by decide +kernel
theorem dX4_howManyAre_13 : decode cX4_howManyAre 13 = .ok (.iload_n 3, 1) := by decide +kernel
theorem dX4_howManyAre_14 : decode cX4_howManyAre 14 = .ok (.invokevirtual 22, 3) := by decide +kernel
theorem dX4_howManyAre_17 : decode cX4_howManyAre 17 = .ok (.astore 4, 2) := by decide +kernel
theorem dX4_howManyAre_19 : decode cX4_howManyAre 19 = .ok (.aload 4, 2) := by decide +kernel
theorem dX4_howManyAre_21 : decode cX4_howManyAre 21 = .ok (.ifnull 15, 3) := by decide +kernel
theorem dX4_howManyAre_24 : decode cX4_howManyAre 24 = .ok (.aload 4, 2) := by decide +kernel
theorem dX4_howManyAre_26 : decode cX4_howManyAre 26 = .ok (.getfield 39, 3) := by decide +kernel
theorem dX4_howManyAre_29 : decode cX4_howManyAre 29 = .ok (.iload_n 1, 1) := by decide +kernel
theorem dX4_howManyAre_30 : decode cX4_howManyAre 30 = .ok (.if_icmp .ne 6, 3) := by decide +kernel
theorem dX4_howManyAre_33 : decode cX4_howManyAre 33 = .ok (.iinc 2 1, 3) := by decide +kernel
theorem dX4_howManyAre_36 : decode cX4_howManyAre 36 = .ok (.iinc 3 1, 3) := by decide +kernel
theorem dX4_howManyAre_39 : decode cX4_howManyAre 39 = .ok (.goto (-35), 3) := by decide +kernel
theorem dX4_howManyAre_42 : decode cX4_howManyAre 42 = .ok (.iload_n 2, 1) := by decide +kernel
theorem dX4_howManyAre_43 : decode cX4_howManyAre 43 = .ok (.ireturn, 1) := by decide +kernel
theorem dX4_readyEntries_0 : decode cX4_readyEntries 0 = .ok (.iconst 0, 1) := by decide +kernel
theorem dX4_readyEntries_1 : decode cX4_readyEntries 1 = .ok (.istore_n 1, 1) := by decide +kernel
theorem dX4_readyEntries_2 : decode cX4_readyEntries 2 = .ok (.iconst 0, 1) := by decide +kernel
theorem dX4_readyEntries_3 : decode cX4_readyEntries 3 = .ok (.istore_n 2, 1) := by decide +kernel
theorem dX4_readyEntries_4 : decode cX4_readyEntries 4 = .ok (.iload_n 2, 1) := by decide +kernel
theorem dX4_readyEntries_5 : decode cX4_readyEntries 5 = .ok (.aload_n 0, 1) := by decide +kernel
theorem dX4_readyEntries_6 : decode cX4_readyEntries 6 = .ok (.getfield 18, 3) := by decide +kernel
theorem dX4_readyEntries_9 : decode cX4_readyEntries 9 = .ok (.if_icmp .ge 26, 3) := by decide +kernel
theorem dX4_readyEntries_12 : decode cX4_readyEntries 12 = .ok (.aload_n 0, 1) := by decide +kernel
theorem dX4_readyEntries_13 : decode cX4_readyEntries 13 = .ok (.iload_n 2, 1) := by decide +kernel
theorem dX4_readyEntries_14 : decode cX4_readyEntries 14 = .ok (.invokevirtual 22, 3) := by decide +kernel
theorem dX4_readyEntries_17 : decode cX4_readyEntries 17 = .ok (.astore_n 3, 1) := by decide +kernel
theorem dX4_readyEntries_18 : decode cX4_readyEntries 18 = .ok (.aload_n 3, 1) := by decide +kernel
theorem dX4_readyEntries_19 : decode cX4_readyEntries 19 = .ok (.ifnull 10, 3) := by decide +kernel
theorem dX4_readyEntries_22 : decode cX4_readyEntries 22 = .ok (.iload_n 1, 1) := by decide +kernel
theorem dX4_readyEntries_23 : decode cX4_readyEntries 23 = .ok (.aload_n 3, 1) := by decide +kernel
theorem dX4_readyEntries_24 : decode cX4_readyEntries 24 = .ok (.invokevirtual 42, 3) := by decide +kernel
theorem dX4_readyEntries_27 : decode cX4_readyEntries 27 = .ok (.iadd, 1) := by decide +kernel
theorem dX4_readyEntries_28 : decode cX4_readyEntries 28 = .ok (.istore_n 1, 1) := by decide +kernel
theorem dX4_readyEntries_29 : decode cX4_readyEntries 29 = .ok (.iinc 2 1, 3) := by decide +kernel
theorem dX4_readyEntries_32 : decode cX4_readyEntries 32 = .ok (.goto (-28), 3) := by decide +kernel
theorem dX4_readyEntries_35 : decode cX4_readyEntries 35 = .ok (.iload_n 1, 1) := by decide +kernel
theorem dX4_readyEntries_36 : decode cX4_readyEntries 36 = .ok (.ireturn, 1) := by decide +kernel
theorem dX5_init_0 : decode cX5_init 0 = .ok (.aload_n 0, 1) := by decide +kernel
theorem dX5_init_1 : decode cX5_init 1 = .ok (.invokespecial 3, 3) := by decide +kernel
theorem dX5_init_4 : decode cX5_init 4 = .ok (.aload_n 0, 1) := by decide +kernel
theorem dX5_init_5 : decode cX5_init 5 = .ok (.new 9, 3) := by decide +kernel
theorem dX5_init_8 : decode cX5_init 8 = .ok (.dup, 1) := by decide +kernel
theorem dX5_init_9 : decode cX5_init 9 = .ok (.aload_n 1, 1) := by decide +kernel
theorem dX5_init_10 : decode cX5_init 10 = .ok (.invokespecial 11, 3) := by decide +kernel
theorem dX5_init_13 : decode cX5_init 13 = .ok (.putfield 14, 3) := by decide +kernel
theorem dX5_init_16 : decode cX5_init 16 = .ok (.aload_n 0, 1) := by decide +kernel
theorem dX5_init_17 : decode cX5_init 17 = .ok (.aconst_null, 1) := by decide +kernel
theorem dX5_init_18 : decode cX5_init 18 = .ok (.putfield 20, 3) := by decide +kernel
theorem dX5_init_21 : decode cX5_init 21 = .ok (.aload_n 0, 1) := by decide +kernel
theorem dX5_init_22 : decode cX5_init 22 = .ok (.iconst 0, 1) := by decide +kernel
theorem dX5_init_23 : decode cX5_init 23 = .ok (.putfield 24, 3) := by decide +kernel
theorem dX5_init_26 : decode cX5_init 26 = .ok (.aload_n 0, 1) := by decide +kernel
theorem dX5_init_27 : decode cX5_init 27 = .ok (.bipush (-9), 2) := by decide +kernel
theorem dX5_init_29 : decode cX5_init 29 = .ok (.putfield 28, 3) := by decide +kernel
theorem dX5_init_32 : decode cX5_init 32 = .ok (.aload_n 0, 1) := by decide +kernel
theorem dX5_init_33 : decode cX5_init 33 = .ok (.bipush (-9), 2) := by decide +kernel
theorem dX5_init_35 : decode cX5_init 35 = .ok (.putfield 31, 3) := by decide +kernel
theorem dX5_init_38 : decode cX5_init 38 = .ok (.return_, 1) := by decide +kernel
theorem dX5_parse_0 : decode cX5_parse 0 = .ok (.aload_n 0, 1) := by decide +kernel
theorem dX5_parse_1 : decode cX5_parse 1 = .ok (.bipush (-9), 2) := by decide +kernel
theorem dX5_parse_3 : decode cX5_parse 3 = .ok (.putfield 28, 3) := by decide +kernel
theorem dX5_parse_6 : decode cX5_parse 6 = .ok (.aload_n 0, 1) := by decide +kernel
theorem dX5_parse_7 : decode cX5_parse 7 = .ok (.bipush (-9), 2) := by decide +kernel
theorem dX5_parse_9 : decode cX5_parse 9 = .ok (.putfield 31, 3) := by decide +kernel
theorem dX5_parse_12 : decode cX5_parse 12 = .ok (.aload_n 1, 1) := by decide +kernel
theorem dX5_parse_13 : decode cX5_parse 13 = .ok (.iconst 0, 1) := by decide +kernel
theorem dX5_parse_14 : decode cX5_parse 14 = .ok (.putfield 34, 3) := by decide +kernel
theorem dX5_parse_17 : decode cX5_parse 17 = .ok (.aload_n 0, 1) := by decide +kernel
theorem dX5_parse_18 : decode cX5_parse 18 = .ok (.getfield 14, 3) := by decide +kernel
theorem dX5_parse_21 : decode cX5_parse 21 = .ok (.invokevirtual 39, 3) := by decide +kernel
theorem dX5_parse_24 : decode cX5_parse 24 = .ok (.iconst 1, 1) := by decide +kernel
theorem dX5_parse_25 : decode cX5_parse 25 = .ok (.istore_n 2, 1) := by decide +kernel
theorem dX5_parse_26 : decode cX5_parse 26 = .ok (.iconst 0, 1) := by decide +kernel
theorem dX5_parse_27 : decode cX5_parse 27 = .ok (.istore_n 3, 1) := by decide +kernel
theorem dX5_parse_28 : decode cX5_parse 28 = .ok (.iload_n 3, 1) := by decide +kernel
theorem dX5_parse_29 : decode cX5_parse 29 = .ok (.bipush 12, 2) := by decide +kernel
theorem dX5_parse_31 : decode cX5_parse 31 = .ok (.if_icmp .ge 63, 3) := by decide +kernel
theorem dX5_parse_34 : decode cX5_parse 34 = .ok (.iload_n 2, 1) := by decide +kernel
theorem dX5_parse_35 : decode cX5_parse 35 = .ok (.ifCond .eq 59, 3) := by decide +kernel
theorem dX5_parse_38 : decode cX5_parse 38 = .ok (.aload_n 1, 1) := by decide +kernel
theorem dX5_parse_39 : decode cX5_parse 39 = .ok (.iload_n 3, 1) := by decide +kernel
theorem dX5_parse_40 : decode cX5_parse 40 = .ok (.invokevirtual 42, 3) := by decide +kernel
theorem dX5_parse_43 : decode cX5_parse 43 = .ok (.astore 4, 2) := by decide +kernel
theorem dX5_parse_45 : decode cX5_parse 45 = .ok (.aload 4, 2) := by decide +kernel
theorem dX5_parse_47 : decode cX5_parse 47 = .ok (.ifnull 13, 3) := by decide +kernel
theorem dX5_parse_50 : decode cX5_parse 50 = .ok (.aload_n 0, 1) := by decide +kernel
theorem dX5_parse_51 : decode cX5_parse 51 = .ok (.aload_n 1, 1) := by decide +kernel
theorem dX5_parse_52 : decode cX5_parse 52 = .ok (.aload 4, 2) := by decide +kernel
theorem dX5_parse_54 : decode cX5_parse 54 = .ok (.invokevirtual 46, 3) := by decide +kernel
theorem dX5_parse_57 : decode cX5_parse 57 = .ok (.ifCond .ne 8, 3) := by decide +kernel
theorem dX5_parse_60 : decode cX5_parse 60 = .ok (.aload_n 0, 1) := by decide +kernel
theorem dX5_parse_61 : decode cX5_parse 61 = .ok (.getfield 28, 3) := by decide +kernel
theorem dX5_parse_64 : decode cX5_parse 64 = .ok (.ireturn, 1) := by decide +kernel
theorem dX5_parse_65 : decode cX5_parse 65 = .ok (.aload_n 1, 1) := by decide +kernel
theorem dX5_parse_66 : decode cX5_parse 66 = .ok (.iload_n 3, 1) := by decide +kernel
theorem dX5_parse_67 : decode cX5_parse 67 = .ok (.iconst 1, 1) := by decide +kernel
theorem dX5_parse_68 : decode cX5_parse 68 = .ok (.iadd, 1) := by decide +kernel
theorem dX5_parse_69 : decode cX5_parse 69 = .ok (.putfield 34, 3) := by decide +kernel
theorem dX5_parse_72 : decode cX5_parse 72 = .ok (.aload_n 0, 1) := by decide +kernel
theorem dX5_parse_73 : decode cX5_parse 73 = .ok (.getfield 14, 3) := by decide +kernel
theorem dX5_parse_76 : decode cX5_parse 76 = .ok (.getfield 50, 3) := by decide +kernel
theorem dX5_parse_79 : decode cX5_parse 79 = .ok (.ifCond .eq 7, 3) := by decide +kernel
theorem dX5_parse_82 : decode cX5_parse 82 = .ok (.iconst 1, 1) := by decide +kernel
theorem dX5_parse_83 : decode cX5_parse 83 = .ok (.goto 4, 3) := by decide +kernel
theorem dX5_parse_86 : decode cX5_parse 86 = .ok (.iconst 0, 1) := by decide +kernel
theorem dX5_parse_87 : decode cX5_parse 87 = .ok (.istore_n 2, 1) := by decide +kernel
theorem dX5_parse_88 : decode cX5_parse 88 = .ok (.iinc 3 1, 3) := by decide +kernel
theorem dX5_parse_91 : decode cX5_parse 91 = .ok (.goto (-63), 3) := by decide +kernel
theorem dX5_parse_94 : decode cX5_parse 94 = .ok (.iload_n 2, 1) := by decide +kernel
theorem dX5_parse_95 : decode cX5_parse 95 = .ok (.ifCond .eq 11, 3) := by decide +kernel
theorem dX5_parse_98 : decode cX5_parse 98 = .ok (.aload_n 0, 1) := by decide +kernel
theorem dX5_parse_99 : decode cX5_parse 99 = .ok (.getfield 14, 3) := by decide +kernel
theorem dX5_parse_102 : decode cX5_parse 102 = .ok (.getfield 53, 3) := by decide +kernel
theorem dX5_parse_105 : decode cX5_parse 105 = .ok (.ireturn, 1) := by decide +kernel
theorem dX5_parse_106 : decode cX5_parse 106 = .ok (.aload_n 0, 1) := by decide +kernel
theorem dX5_parse_107 : decode cX5_parse 107 = .ok (.aload_n 1, 1) := by decide +kernel
theorem dX5_parse_108 : decode cX5_parse 108 = .ok (.invokevirtual 56, 3) := by decide +kernel
theorem dX5_parse_111 : decode cX5_parse 111 = .ok (.aload_n 0, 1) := by decide +kernel
theorem dX5_parse_112 : decode cX5_parse 112 = .ok (.getfield 31, 3) := by decide +kernel
theorem dX5_parse_115 : decode cX5_parse 115 = .ok (.ireturn, 1) := by decide +kernel
theorem dX5_faultHere_0 : decode cX5_faultHere 0 = .ok (.aload_n 0, 1) := by decide +kernel
theorem dX5_faultHere_1 : decode cX5_faultHere 1 = .ok (.aload_n 0, 1) := by decide +kernel
theorem dX5_faultHere_2 : decode cX5_faultHere 2 = .ok (.getfield 14, 3) := by decide +kernel
theorem dX5_faultHere_5 : decode cX5_faultHere 5 = .ok (.getfield 53, 3) := by decide +kernel
theorem dX5_faultHere_8 : decode cX5_faultHere 8 = .ok (.putfield 28, 3) := by decide +kernel
theorem dX5_faultHere_11 : decode cX5_faultHere 11 = .ok (.iconst 0, 1) := by decide +kernel
theorem dX5_faultHere_12 : decode cX5_faultHere 12 = .ok (.ireturn, 1) := by decide +kernel
theorem dX5_noteNameFault_0 : decode cX5_noteNameFault 0 = .ok (.aload_n 0, 1) := by decide +kernel
theorem dX5_noteNameFault_1 : decode cX5_noteNameFault 1 = .ok (.getfield 31, 3) := by decide +kernel
theorem dX5_noteNameFault_4 : decode cX5_noteNameFault 4 = .ok (.bipush (-9), 2) := by decide +kernel
theorem dX5_noteNameFault_6 : decode cX5_noteNameFault 6 = .ok (.if_icmp .eq 11, 3) := by decide +kernel
theorem dX5_noteNameFault_9 : decode cX5_noteNameFault 9 = .ok (.iload_n 1, 1) := by decide +kernel
theorem dX5_noteNameFault_10 : decode cX5_noteNameFault 10 = .ok (.aload_n 0, 1) := by decide +kernel
theorem dX5_noteNameFault_11 : decode cX5_noteNameFault 11 = .ok (.getfield 31, 3) := by decide +kernel
theorem dX5_noteNameFault_14 : decode cX5_noteNameFault 14 = .ok (.if_icmp .ge 8, 3) := by decide +kernel
theorem dX5_noteNameFault_17 : decode cX5_noteNameFault 17 = .ok (.aload_n 0, 1) := by decide +kernel
theorem dX5_noteNameFault_18 : decode cX5_noteNameFault 18 = .ok (.iload_n 1, 1) := by decide +kernel
theorem dX5_noteNameFault_19 : decode cX5_noteNameFault 19 = .ok (.putfield 31, 3) := by decide +kernel
theorem dX5_noteNameFault_22 : decode cX5_noteNameFault 22 = .ok (.return_, 1) := by decide +kernel
theorem dX5_expect_0 : decode cX5_expect 0 = .ok (.aload_n 0, 1) := by decide +kernel
theorem dX5_expect_1 : decode cX5_expect 1 = .ok (.getfield 14, 3) := by decide +kernel
theorem dX5_expect_4 : decode cX5_expect 4 = .ok (.getfield 50, 3) := by decide +kernel
theorem dX5_expect_7 : decode cX5_expect 7 = .ok (.iload_n 1, 1) := by decide +kernel
theorem dX5_expect_8 : decode cX5_expect 8 = .ok (.if_icmp .eq 8, 3) := by decide +kernel
theorem dX5_expect_11 : decode cX5_expect 11 = .ok (.aload_n 0, 1) := by decide +kernel
theorem dX5_expect_12 : decode cX5_expect 12 = .ok (.invokevirtual 60, 3) := by decide +kernel
theorem dX5_expect_15 : decode cX5_expect 15 = .ok (.ireturn, 1) := by decide +kernel
theorem dX5_expect_16 : decode cX5_expect 16 = .ok (.aload_n 0, 1) := by decide +kernel
theorem dX5_expect_17 : decode cX5_expect 17 = .ok (.getfield 14, 3) := by decide +kernel
theorem dX5_expect_20 : decode cX5_expect 20 = .ok (.invokevirtual 64, 3) := by decide +kernel
theorem dX5_expect_23 : decode cX5_expect 23 = .ok (.iconst 1, 1) := by decide +kernel
theorem dX5_expect_24 : decode cX5_expect 24 = .ok (.ireturn, 1) := by decide +kernel
theorem dX5_takeTable_0 : decode cX5_takeTable 0 = .ok (.aload_n 0, 1) := by decide +kernel
theorem dX5_takeTable_1 : decode cX5_takeTable 1 = .ok (.iconst 4, 1) := by decide +kernel
theorem dX5_takeTable_2 : decode cX5_takeTable 2 = .ok (.invokevirtual 67, 3) := by decide +kernel
theorem dX5_takeTable_5 : decode cX5_takeTable 5 = .ok (.ifCond .ne 5, 3) := by decide +kernel
theorem dX5_takeTable_8 : decode cX5_takeTable 8 = .ok (.iconst 0, 1) := by decide +kernel
theorem dX5_takeTable_9 : decode cX5_takeTable 9 = .ok (.ireturn, 1) := by decide +kernel
theorem dX5_takeTable_10 : decode cX5_takeTable 10 = .ok (.aload_n 0, 1) := by decide +kernel
theorem dX5_takeTable_11 : decode cX5_takeTable 11 = .ok (.getfield 14, 3) := by decide +kernel
theorem dX5_takeTable_14 : decode cX5_takeTable 14 = .ok (.getfield 50, 3) := by decide +kernel
theorem dX5_takeTable_17 : decode cX5_takeTable 17 = .ok (.iconst 2, 1) := by decide +kernel
theorem dX5_takeTable_18 : decode cX5_takeTable 18 = .ok (.if_icmp .ne 30, 3) := by decide +kernel
theorem dX5_takeTable_21 : decode cX5_takeTable 21 = .ok (.aload_n 1, 1) := by decide +kernel
theorem dX5_takeTable_22 : decode cX5_takeTable 22 = .ok (.aload_n 0, 1) := by decide +kernel
theorem dX5_takeTable_23 : decode cX5_takeTable 23 = .ok (.getfield 14, 3) := by decide +kernel
theorem dX5_takeTable_26 : decode cX5_takeTable 26 = .ok (.getfield 71, 3) := by decide +kernel
theorem dX5_takeTable_29 : decode cX5_takeTable 29 = .ok (.invokevirtual 75, 3) := by decide +kernel
theorem dX5_takeTable_32 : decode cX5_takeTable 32 = .ok (.bipush (-9), 2) := by decide +kernel
theorem dX5_takeTable_34 : decode cX5_takeTable 34 = .ok (.if_icmp .eq 14, 3) := by decide +kernel
theorem dX5_takeTable_37 : decode cX5_takeTable 37 = .ok (.aload_n 0, 1) := by decide +kernel
theorem dX5_takeTable_38 : decode cX5_takeTable 38 = .ok (.aload_n 0, 1) := by decide +kernel
theorem dX5_takeTable_39 : decode cX5_takeTable 39 = .ok (.getfield 14, 3) := by decide +kernel
theorem dX5_takeTable_42 : decode cX5_takeTable 42 = .ok (.getfield 53, 3) := by decide +kernel
theorem dX5_takeTable_45 : decode cX5_takeTable 45 = .ok (.invokevirtual 79, 3) := by decide +kernel
theorem dX5_takeTable_48 : decode cX5_takeTable 48 = .ok (.aload_n 2, 1) := by decide +kernel
theorem dX5_takeTable_49 : decode cX5_takeTable 49 = .ok (.aload_n 0, 1) := by decide +kernel
theorem dX5_takeTable_50 : decode cX5_takeTable 50 = .ok (.getfield 14, 3) := by decide +kernel
theorem dX5_takeTable_53 : decode cX5_takeTable 53 = .ok (.getfield 71, 3) := by decide +kernel
theorem dX5_takeTable_56 : decode cX5_takeTable 56 = .ok (.putfield 83, 3) := by decide +kernel
theorem dX5_takeTable_59 : decode cX5_takeTable 59 = .ok (.aload_n 2, 1) := by decide +kernel
theorem dX5_takeTable_60 : decode cX5_takeTable 60 = .ok (.getfield 88, 3) := by decide +kernel
theorem dX5_takeTable_63 : decode cX5_takeTable 63 = .ok (.invokevirtual 89, 3) := by decide +kernel
theorem dX5_takeTable_66 : decode cX5_takeTable 66 = .ok (.aload_n 0, 1) := by decide +kernel
theorem dX5_takeTable_67 : decode cX5_takeTable 67 = .ok (.aload_n 2, 1) := by decide +kernel
theorem dX5_takeTable_68 : decode cX5_takeTable 68 = .ok (.getfield 88, 3) := by decide +kernel
theorem dX5_takeTable_71 : decode cX5_takeTable 71 = .ok (.putfield 20, 3) := by decide +kernel
theorem dX5_takeTable_74 : decode cX5_takeTable 74 = .ok (.aload_n 0, 1) := by decide +kernel
theorem dX5_takeTable_75 : decode cX5_takeTable 75 = .ok (.iconst 0, 1) := by decide +kernel
theorem dX5_takeTable_76 : decode cX5_takeTable 76 = .ok (.putfield 24, 3) := by decide +kernel
theorem dX5_takeTable_79 : decode cX5_takeTable 79 = .ok (.aload_n 0, 1) := by decide +kernel
theorem dX5_takeTable_80 : decode cX5_takeTable 80 = .ok (.iconst 2, 1) := by decide +kernel
theorem dX5_takeTable_81 : decode cX5_takeTable 81 = .ok (.invokevirtual 67, 3) := by decide +kernel
theorem dX5_takeTable_84 : decode cX5_takeTable 84 = .ok (.ifCond .eq 67, 3) := by decide +kernel
theorem dX5_takeTable_87 : decode cX5_takeTable 87 = .ok (.aload_n 0, 1) := by decide +kernel
theorem dX5_takeTable_88 : decode cX5_takeTable 88 = .ok (.bipush 91, 2) := by decide +kernel
theorem dX5_takeTable_90 : decode cX5_takeTable 90 = .ok (.invokevirtual 67, 3) := by decide +kernel
theorem dX5_takeTable_93 : decode cX5_takeTable 93 = .ok (.ifCond .eq 58, 3) := by decide +kernel
theorem dX5_takeTable_96 : decode cX5_takeTable 96 = .ok (.aload_n 0, 1) := by decide +kernel
theorem dX5_takeTable_97 : decode cX5_takeTable 97 = .ok (.aload_n 1, 1) := by decide +kernel
theorem dX5_takeTable_98 : decode cX5_takeTable 98 = .ok (.aload_n 2, 1) := by decide +kernel
theorem dX5_takeTable_99 : decode cX5_takeTable 99 = .ok (.invokevirtual 94, 3) := by decide +kernel
theorem dX5_takeTable_102 : decode cX5_takeTable 102 = .ok (.ifCond .eq 49, 3) := by decide +kernel
theorem dX5_takeTable_105 : decode cX5_takeTable 105 = .ok (.aload_n 0, 1) := by decide +kernel
theorem dX5_takeTable_106 : decode cX5_takeTable 106 = .ok (.bipush 93, 2) := by decide +kernel
theorem dX5_takeTable_108 : decode cX5_takeTable 108 = .ok (.invokevirtual 67, 3) := by decide +kernel
theorem dX5_takeTable_111 : decode cX5_takeTable 111 = .ok (.ifCond .eq 40, 3) := by decide +kernel
theorem dX5_takeTable_114 : decode cX5_takeTable 114 = .ok (.aload_n 0, 1) := by decide +kernel
theorem dX5_takeTable_115 : decode cX5_takeTable 115 = .ok (.aload_n 2, 1) := by decide +kernel
theorem dX5_takeTable_116 : decode cX5_takeTable 116 = .ok (.invokevirtual 97, 3) := by decide +kernel
theorem dX5_takeTable_119 : decode cX5_takeTable 119 = .ok (.ifCond .eq 32, 3) := by decide +kernel
theorem dX5_takeTable_122 : decode cX5_takeTable 122 = .ok (.aload_n 0, 1) := by decide +kernel
theorem dX5_takeTable_123 : decode cX5_takeTable 123 = .ok (.bipush 61, 2) := by decide +kernel
theorem dX5_takeTable_125 : decode cX5_takeTable 125 = .ok (.invokevirtual 67, 3) := by decide +kernel
theorem dX5_takeTable_128 : decode cX5_takeTable 128 = .ok (.ifCond .eq 23, 3) := by decide +kernel
theorem dX5_takeTable_131 : decode cX5_takeTable 131 = .ok (.aload_n 0, 1) := by decide +kernel
theorem dX5_takeTable_132 : decode cX5_takeTable 132 = .ok (.iconst 0, 1) := by decide +kernel
theorem dX5_takeTable_133 : decode cX5_takeTable 133 = .ok (.invokevirtual 101, 3) := by decide +kernel
theorem dX5_takeTable_136 : decode cX5_takeTable 136 = .ok (.ifCond .eq 15, 3) := by decide +kernel
theorem dX5_takeTable_139 : decode cX5_takeTable 139 = .ok (.aload_n 0, 1) := by decide +kernel
theorem dX5_takeTable_140 : decode cX5_takeTable 140 = .ok (.aload_n 2, 1) := by decide +kernel
theorem dX5_takeTable_141 : decode cX5_takeTable 141 = .ok (.invokevirtual 104, 3) := by decide +kernel
theorem dX5_takeTable_144 : decode cX5_takeTable 144 = .ok (.ifCond .eq 7, 3) := by decide +kernel
theorem dX5_takeTable_147 : decode cX5_takeTable 147 = .ok (.iconst 1, 1) := by decide +kernel
theorem dX5_takeTable_148 : decode cX5_takeTable 148 = .ok (.goto 4, 3) := by decide +kernel
theorem dX5_takeTable_151 : decode cX5_takeTable 151 = .ok (.iconst 0, 1) := by decide +kernel
theorem dX5_takeTable_152 : decode cX5_takeTable 152 = .ok (.ireturn, 1) := by decide +kernel
theorem dX5_takeSize_0 : decode cX5_takeSize 0 = .ok (.lconst 0, 1) := by decide +kernel
theorem dX5_takeSize_1 : decode cX5_takeSize 1 = .ok (.lstore_n 3, 1) := by decide +kernel
theorem dX5_takeSize_2 : decode cX5_takeSize 2 = .ok (.bipush 43, 2) := by decide +kernel
theorem dX5_takeSize_4 : decode cX5_takeSize 4 = .ok (.istore 5, 2) := by decide +kernel
theorem dX5_takeSize_6 : decode cX5_takeSize 6 = .ok (.iconst 0, 1) := by decide +kernel
theorem dX5_takeSize_7 : decode cX5_takeSize 7 = .ok (.istore 6, 2) := by decide +kernel
theorem dX5_takeSize_9 : decode cX5_takeSize 9 = .ok (.iload 6, 2) := by decide +kernel
theorem dX5_takeSize_11 : decode cX5_takeSize 11 = .ok (.bipush 8, 2) := by decide +kernel
theorem dX5_takeSize_13 : decode cX5_takeSize 13 = .ok (.if_icmp .ge 158, 3) := by decide +kernel
theorem dX5_takeSize_16 : decode cX5_takeSize 16 = .ok (.aload_n 0, 1) := by decide +kernel
theorem dX5_takeSize_17 : decode cX5_takeSize 17 = .ok (.getfield 14, 3) := by decide +kernel
theorem dX5_takeSize_20 : decode cX5_takeSize 20 = .ok (.getfield 50, 3) := by decide +kernel
theorem dX5_takeSize_23 : decode cX5_takeSize 23 = .ok (.bipush 35, 2) := by decide +kernel
theorem dX5_takeSize_25 : decode cX5_takeSize 25 = .ok (.if_icmp .ne 7, 3) := by decide +kernel
theorem dX5_takeSize_28 : decode cX5_takeSize 28 = .ok (.iconst 1, 1) := by decide +kernel
theorem dX5_takeSize_29 : decode cX5_takeSize 29 = .ok (.goto 4, 3) := by decide +kernel
theorem dX5_takeSize_32 : decode cX5_takeSize 32 = .ok (.iconst 0, 1) := by decide +kernel
theorem dX5_takeSize_33 : decode cX5_takeSize 33 = .ok (.istore 7, 2) := by decide +kernel
theorem dX5_takeSize_35 : decode cX5_takeSize 35 = .ok (.iload 7, 2) := by decide +kernel
theorem dX5_takeSize_37 : decode cX5_takeSize 37 = .ok (.ifCond .eq 10, 3) := by decide +kernel
theorem dX5_takeSize_40 : decode cX5_takeSize 40 = .ok (.aload_n 0, 1) := by decide +kernel
theorem dX5_takeSize_41 : decode cX5_takeSize 41 = .ok (.getfield 14, 3) := by decide +kernel
theorem dX5_takeSize_44 : decode cX5_takeSize 44 = .ok (.invokevirtual 64, 3) := by decide +kernel
theorem dX5_takeSize_47 : decode cX5_takeSize 47 = .ok (.iload 7, 2) := by decide +kernel
theorem dX5_takeSize_49 : decode cX5_takeSize 49 = .ok (.ifCond .eq 11, 3) := by decide +kernel
theorem dX5_takeSize_52 : decode cX5_takeSize 52 = .ok (.aload_n 0, 1) := by decide +kernel
theorem dX5_takeSize_53 : decode cX5_takeSize 53 = .ok (.aload_n 1, 1) := by decide +kernel
theorem dX5_takeSize_54 : decode cX5_takeSize 54 = .ok (.invokevirtual 107, 3) := by decide +kernel
theorem dX5_takeSize_57 : decode cX5_takeSize 57 = .ok (.goto 10, 3) := by decide +kernel
theorem dX5_takeSize_60 : decode cX5_takeSize 60 = .ok (.aload_n 0, 1) := by decide +kernel
theorem dX5_takeSize_61 : decode cX5_takeSize 61 = .ok (.getfield 14, 3) := by decide +kernel
theorem dX5_takeSize_64 : decode cX5_takeSize 64 = .ok (.getfield 71, 3) := by decide +kernel
theorem dX5_takeSize_67 : decode cX5_takeSize 67 = .ok (.lstore 8, 2) := by decide +kernel
theorem dX5_takeSize_69 : decode cX5_takeSize 69 = .ok (.aload_n 0, 1) := by decide +kernel
theorem dX5_takeSize_70 : decode cX5_takeSize 70 = .ok (.iload 7, 2) := by decide +kernel
theorem dX5_takeSize_72 : decode cX5_takeSize 72 = .ok (.ifCond .eq 7, 3) := by decide +kernel
theorem dX5_takeSize_75 : decode cX5_takeSize 75 = .ok (.iconst 2, 1) := by decide +kernel
theorem dX5_takeSize_76 : decode cX5_takeSize 76 = .ok (.goto 4, 3) := by decide +kernel
theorem dX5_takeSize_79 : decode cX5_takeSize 79 = .ok (.iconst 1, 1) := by decide +kernel
theorem dX5_takeSize_80 : decode cX5_takeSize 80 = .ok (.invokevirtual 67, 3) := by decide +kernel
theorem dX5_takeSize_83 : decode cX5_takeSize 83 = .ok (.ifCond .ne 5, 3) := by decide +kernel
theorem dX5_takeSize_86 : decode cX5_takeSize 86 = .ok (.iconst 0, 1) := by decide +kernel
theorem dX5_takeSize_87 : decode cX5_takeSize 87 = .ok (.ireturn, 1) := by decide +kernel
theorem dX5_takeSize_88 : decode cX5_takeSize 88 = .ok (.iload 5, 2) := by decide +kernel
theorem dX5_takeSize_90 : decode cX5_takeSize 90 = .ok (.bipush 43, 2) := by decide +kernel
theorem dX5_takeSize_92 : decode cX5_takeSize 92 = .ok (.if_icmp .ne 10, 3) := by decide +kernel
theorem dX5_takeSize_95 : decode cX5_takeSize 95 = .ok (.lload_n 3, 1) := by decide +kernel
theorem dX5_takeSize_96 : decode cX5_takeSize 96 = .ok (.lload 8, 2) := by decide +kernel
theorem dX5_takeSize_98 : decode cX5_takeSize 98 = .ok (.ladd, 1) := by decide +kernel
theorem dX5_takeSize_99 : decode cX5_takeSize 99 = .ok (.goto 21, 3) := by decide +kernel
theorem dX5_takeSize_102 : decode cX5_takeSize 102 = .ok (.iload 5, 2) := by decide +kernel
theorem dX5_takeSize_104 : decode cX5_takeSize 104 = .ok (.bipush 45, 2) := by decide +kernel
theorem dX5_takeSize_106 : decode cX5_takeSize 106 = .ok (.if_icmp .ne 10, 3) := by decide +kernel
theorem dX5_takeSize_109 : decode cX5_takeSize 109 = .ok (.lload_n 3, 1) := by decide +kernel
theorem dX5_takeSize_110 : decode cX5_takeSize 110 = .ok (.lload 8, 2) := by decide +kernel
theorem dX5_takeSize_112 : decode cX5_takeSize 112 = .ok (.lsub, 1) := by decide +kernel
theorem dX5_takeSize_113 : decode cX5_takeSize 113 = .ok (.goto 7, 3) := by decide +kernel
theorem dX5_takeSize_116 : decode cX5_takeSize 116 = .ok (.lload_n 3, 1) := by decide +kernel
theorem dX5_takeSize_117 : decode cX5_takeSize 117 = .ok (.lload 8, 2) := by decide +kernel
theorem dX5_takeSize_119 : decode cX5_takeSize 119 = .ok (.lmul, 1) := by decide +kernel
theorem dX5_takeSize_120 : decode cX5_takeSize 120 = .ok (.lstore_n 3, 1) := by decide +kernel
theorem dX5_takeSize_121 : decode cX5_takeSize 121 = .ok (.aload_n 0, 1) := by decide +kernel
theorem dX5_takeSize_122 : decode cX5_takeSize 122 = .ok (.getfield 14, 3) := by decide +kernel
theorem dX5_takeSize_125 : decode cX5_takeSize 125 = .ok (.getfield 50, 3) := by decide +kernel
theorem dX5_takeSize_128 : decode cX5_takeSize 128 = .ok (.istore 5, 2) := by decide +kernel
theorem dX5_takeSize_130 : decode cX5_takeSize 130 = .ok (.iload 5, 2) := by decide +kernel
theorem dX5_takeSize_132 : decode cX5_takeSize 132 = .ok (.bipush 43, 2) := by decide +kernel
theorem dX5_takeSize_134 : decode cX5_takeSize 134 = .ok (.if_icmp .eq 24, 3) := by decide +kernel
theorem dX5_takeSize_137 : decode cX5_takeSize 137 = .ok (.iload 5, 2) := by decide +kernel
theorem dX5_takeSize_139 : decode cX5_takeSize 139 = .ok (.bipush 45, 2) := by decide +kernel
theorem dX5_takeSize_141 : decode cX5_takeSize 141 = .ok (.if_icmp .eq 17, 3) := by decide +kernel
theorem dX5_takeSize_144 : decode cX5_takeSize 144 = .ok (.iload 5, 2) := by decide +kernel
theorem dX5_takeSize_146 : decode cX5_takeSize 146 = .ok (.bipush 42, 2) := by decide +kernel
theorem dX5_takeSize_148 : decode cX5_takeSize 148 = .ok (.if_icmp .eq 10, 3) := by decide +kernel
theorem dX5_takeSize_151 : decode cX5_takeSize 151 = .ok (.aload_n 2, 1) := by decide +kernel
theorem dX5_takeSize_152 : decode cX5_takeSize 152 = .ok (.lload_n 3, 1) := by decide +kernel
theorem dX5_takeSize_153 : decode cX5_takeSize 153 = .ok (.putfield 111, 3) := by decide +kernel
theorem dX5_takeSize_156 : decode cX5_takeSize 156 = .ok (.iconst 1, 1) := by decide +kernel
theorem dX5_takeSize_157 : decode cX5_takeSize 157 = .ok (.ireturn, 1) := by decide +kernel
theorem dX5_takeSize_158 : decode cX5_takeSize 158 = .ok (.aload_n 0, 1) := by decide +kernel
theorem dX5_takeSize_159 : decode cX5_takeSize 159 = .ok (.getfield 14, 3) := by decide +kernel
theorem dX5_takeSize_162 : decode cX5_takeSize 162 = .ok (.invokevirtual 64, 3) := by decide +kernel
theorem dX5_takeSize_165 : decode cX5_takeSize 165 = .ok (.iinc 6 1, 3) := by decide +kernel
theorem dX5_takeSize_168 : decode cX5_takeSize 168 = .ok (.goto (-159), 3) := by decide +kernel
theorem dX5_takeSize_171 : decode cX5_takeSize 171 = .ok (.aload_n 0, 1) := by decide +kernel
theorem dX5_takeSize_172 : decode cX5_takeSize 172 = .ok (.invokevirtual 60, 3) := by decide +kernel
theorem dX5_takeSize_175 : decode cX5_takeSize 175 = .ok (.ireturn, 1) := by decide +kernel
theorem dX5_sizeToldAhead_0 : decode cX5_sizeToldAhead 0 = .ok (.aload_n 1, 1) := by decide +kernel
theorem dX5_sizeToldAhead_1 : decode cX5_sizeToldAhead 1 = .ok (.aload_n 0, 1) := by decide +kernel
theorem dX5_sizeToldAhead_2 : decode cX5_sizeToldAhead 2 = .ok (.getfield 14, 3) := by decide +kernel
theorem dX5_sizeToldAhead_5 : decode cX5_sizeToldAhead 5 = .ok (.getfield 71, 3) := by decide +kernel
theorem dX5_sizeToldAhead_8 : decode cX5_sizeToldAhead 8 = .ok (.invokevirtual 75, 3) := by decide +kernel
theorem dX5_sizeToldAhead_11 : decode cX5_sizeToldAhead 11 = .ok (.istore_n 2, 1) := by decide +kernel
theorem dX5_sizeToldAhead_12 : decode cX5_sizeToldAhead 12 = .ok (.aload_n 0, 1) := by decide +kernel
theorem dX5_sizeToldAhead_13 : decode cX5_sizeToldAhead 13 = .ok (.getfield 14, 3) := by decide +kernel
theorem dX5_sizeToldAhead_16 : decode cX5_sizeToldAhead 16 = .ok (.getfield 50, 3) := by decide +kernel
theorem dX5_sizeToldAhead_19 : decode cX5_sizeToldAhead 19 = .ok (.iconst 2, 1) := by decide +kernel
theorem dX5_sizeToldAhead_20 : decode cX5_sizeToldAhead 20 = .ok (.if_icmp .ne 20, 3) := by decide +kernel
theorem dX5_sizeToldAhead_23 : decode cX5_sizeToldAhead 23 = .ok (.iload_n 2, 1) := by decide +kernel
theorem dX5_sizeToldAhead_24 : decode cX5_sizeToldAhead 24 = .ok (.bipush (-9), 2) := by decide +kernel
theorem dX5_sizeToldAhead_26 : decode cX5_sizeToldAhead 26 = .ok (.if_icmp .ne 14, 3) := by decide +kernel
theorem dX5_sizeToldAhead_29 : decode cX5_sizeToldAhead 29 = .ok (.aload_n 0, 1) := by decide +kernel
theorem dX5_sizeToldAhead_30 : decode cX5_sizeToldAhead 30 = .ok (.aload_n 0, 1) := by decide +kernel
theorem dX5_sizeToldAhead_31 : decode cX5_sizeToldAhead 31 = .ok (.getfield 14, 3) := by decide +kernel
theorem dX5_sizeToldAhead_34 : decode cX5_sizeToldAhead 34 = .ok (.getfield 53, 3) := by decide +kernel
theorem dX5_sizeToldAhead_37 : decode cX5_sizeToldAhead 37 = .ok (.invokevirtual 79, 3) := by decide +kernel
theorem dX5_sizeToldAhead_40 : decode cX5_sizeToldAhead 40 = .ok (.aload_n 1, 1) := by decide +kernel
theorem dX5_sizeToldAhead_41 : decode cX5_sizeToldAhead 41 = .ok (.iload_n 2, 1) := by decide +kernel
theorem dX5_sizeToldAhead_42 : decode cX5_sizeToldAhead 42 = .ok (.invokevirtual 114, 3) := by decide +kernel
theorem dX5_sizeToldAhead_45 : decode cX5_sizeToldAhead 45 = .ok (.lreturn, 1) := by decide +kernel
theorem dX5_takeManner_0 : decode cX5_takeManner 0 = .ok (.aload_n 1, 1) := by decide +kernel
theorem dX5_takeManner_1 : decode cX5_takeManner 1 = .ok (.aload_n 0, 1) := by decide +kernel
theorem dX5_takeManner_2 : decode cX5_takeManner 2 = .ok (.getfield 14, 3) := by decide +kernel
theorem dX5_takeManner_5 : decode cX5_takeManner 5 = .ok (.getfield 50, 3) := by decide +kernel
theorem dX5_takeManner_8 : decode cX5_takeManner 8 = .ok (.bipush 6, 2) := by decide +kernel
theorem dX5_takeManner_10 : decode cX5_takeManner 10 = .ok (.if_icmp .ne 7, 3) := by decide +kernel
theorem dX5_takeManner_13 : decode cX5_takeManner 13 = .ok (.iconst 1, 1) := by decide +kernel
theorem dX5_takeManner_14 : decode cX5_takeManner 14 = .ok (.goto 4, 3) := by decide +kernel
theorem dX5_takeManner_17 : decode cX5_takeManner 17 = .ok (.iconst 0, 1) := by decide +kernel
theorem dX5_takeManner_18 : decode cX5_takeManner 18 = .ok (.putfield 118, 3) := by decide +kernel
theorem dX5_takeManner_21 : decode cX5_takeManner 21 = .ok (.aload_n 1, 1) := by decide +kernel
theorem dX5_takeManner_22 : decode cX5_takeManner 22 = .ok (.getfield 118, 3) := by decide +kernel
theorem dX5_takeManner_25 : decode cX5_takeManner 25 = .ok (.ifCond .eq 12, 3) := by decide +kernel
theorem dX5_takeManner_28 : decode cX5_takeManner 28 = .ok (.aload_n 0, 1) := by decide +kernel
theorem dX5_takeManner_29 : decode cX5_takeManner 29 = .ok (.bipush 6, 2) := by decide +kernel
theorem dX5_takeManner_31 : decode cX5_takeManner 31 = .ok (.invokevirtual 67, 3) := by decide +kernel
theorem dX5_takeManner_34 : decode cX5_takeManner 34 = .ok (.goto 8, 3) := by decide +kernel
theorem dX5_takeManner_37 : decode cX5_takeManner 37 = .ok (.aload_n 0, 1) := by decide +kernel
theorem dX5_takeManner_38 : decode cX5_takeManner 38 = .ok (.iconst 5, 1) := by decide +kernel
theorem dX5_takeManner_39 : decode cX5_takeManner 39 = .ok (.invokevirtual 67, 3) := by decide +kernel
theorem dX5_takeManner_42 : decode cX5_takeManner 42 = .ok (.ireturn, 1) := by decide +kernel
theorem dX5_takeEnd_0 : decode cX5_takeEnd 0 = .ok (.aload_n 1, 1) := by decide +kernel
theorem dX5_takeEnd_1 : decode cX5_takeEnd 1 = .ok (.aload_n 0, 1) := by decide +kernel
theorem dX5_takeEnd_2 : decode cX5_takeEnd 2 = .ok (.getfield 14, 3) := by decide +kernel
theorem dX5_takeEnd_5 : decode cX5_takeEnd 5 = .ok (.getfield 50, 3) := by decide +kernel
theorem dX5_takeEnd_8 : decode cX5_takeEnd 8 = .ok (.bipush 7, 2) := by decide +kernel
theorem dX5_takeEnd_10 : decode cX5_takeEnd 10 = .ok (.if_icmp .ne 7, 3) := by decide +kernel
theorem dX5_takeEnd_13 : decode cX5_takeEnd 13 = .ok (.iconst 1, 1) := by decide +kernel
theorem dX5_takeEnd_14 : decode cX5_takeEnd 14 = .ok (.goto 4, 3) := by decide +kernel
theorem dX5_takeEnd_17 : decode cX5_takeEnd 17 = .ok (.iconst 0, 1) := by decide +kernel
theorem dX5_takeEnd_18 : decode cX5_takeEnd 18 = .ok (.putfield 122, 3) := by decide +kernel
theorem dX5_takeEnd_21 : decode cX5_takeEnd 21 = .ok (.aload_n 1, 1) := by decide +kernel
theorem dX5_takeEnd_22 : decode cX5_takeEnd 22 = .ok (.getfield 122, 3) := by decide +kernel
theorem dX5_takeEnd_25 : decode cX5_takeEnd 25 = .ok (.ifCond .eq 75, 3) := by decide +kernel
theorem dX5_takeEnd_28 : decode cX5_takeEnd 28 = .ok (.aload_n 0, 1) := by decide +kernel
theorem dX5_takeEnd_29 : decode cX5_takeEnd 29 = .ok (.getfield 14, 3) := by decide +kernel
theorem dX5_takeEnd_32 : decode cX5_takeEnd 32 = .ok (.invokevirtual 64, 3) := by decide +kernel
theorem dX5_takeEnd_35 : decode cX5_takeEnd 35 = .ok (.aload_n 0, 1) := by decide +kernel
theorem dX5_takeEnd_36 : decode cX5_takeEnd 36 = .ok (.getfield 14, 3) := by decide +kernel
theorem dX5_takeEnd_39 : decode cX5_takeEnd 39 = .ok (.getfield 50, 3) := by decide +kernel
theorem dX5_takeEnd_42 : decode cX5_takeEnd 42 = .ok (.bipush 45, 2) := by decide +kernel
theorem dX5_takeEnd_44 : decode cX5_takeEnd 44 = .ok (.if_icmp .ne 7, 3) := by decide +kernel
theorem dX5_takeEnd_47 : decode cX5_takeEnd 47 = .ok (.iconst 1, 1) := by decide +kernel
theorem dX5_takeEnd_48 : decode cX5_takeEnd 48 = .ok (.goto 4, 3) := by decide +kernel
theorem dX5_takeEnd_51 : decode cX5_takeEnd 51 = .ok (.iconst 0, 1) := by decide +kernel
theorem dX5_takeEnd_52 : decode cX5_takeEnd 52 = .ok (.istore_n 2, 1) := by decide +kernel
theorem dX5_takeEnd_53 : decode cX5_takeEnd 53 = .ok (.iload_n 2, 1) := by decide +kernel
theorem dX5_takeEnd_54 : decode cX5_takeEnd 54 = .ok (.ifCond .eq 10, 3) := by decide +kernel
theorem dX5_takeEnd_57 : decode cX5_takeEnd 57 = .ok (.aload_n 0, 1) := by decide +kernel
theorem dX5_takeEnd_58 : decode cX5_takeEnd 58 = .ok (.getfield 14, 3) := by decide +kernel
theorem dX5_takeEnd_61 : decode cX5_takeEnd 61 = .ok (.invokevirtual 64, 3) := by decide +kernel
theorem dX5_takeEnd_64 : decode cX5_takeEnd 64 = .ok (.aload_n 1, 1) := by decide +kernel
theorem dX5_takeEnd_65 : decode cX5_takeEnd 65 = .ok (.iload_n 2, 1) := by decide +kernel
theorem dX5_takeEnd_66 : decode cX5_takeEnd 66 = .ok (.ifCond .eq 14, 3) := by decide +kernel
theorem dX5_takeEnd_69 : decode cX5_takeEnd 69 = .ok (.aload_n 0, 1) := by decide +kernel
theorem dX5_takeEnd_70 : decode cX5_takeEnd 70 = .ok (.getfield 14, 3) := by decide +kernel
theorem dX5_takeEnd_73 : decode cX5_takeEnd 73 = .ok (.getfield 71, 3) := by decide +kernel
theorem dX5_takeEnd_76 : decode cX5_takeEnd 76 = .ok (.lneg, 1) := by decide +kernel
theorem dX5_takeEnd_77 : decode cX5_takeEnd 77 = .ok (.goto 10, 3) := by decide +kernel
theorem dX5_takeEnd_80 : decode cX5_takeEnd 80 = .ok (.aload_n 0, 1) := by decide +kernel
theorem dX5_takeEnd_81 : decode cX5_takeEnd 81 = .ok (.getfield 14, 3) := by decide +kernel
theorem dX5_takeEnd_84 : decode cX5_takeEnd 84 = .ok (.getfield 71, 3) := by decide +kernel
theorem dX5_takeEnd_87 : decode cX5_takeEnd 87 = .ok (.putfield 125, 3) := by decide +kernel
theorem dX5_takeEnd_90 : decode cX5_takeEnd 90 = .ok (.aload_n 0, 1) := by decide +kernel
theorem dX5_takeEnd_91 : decode cX5_takeEnd 91 = .ok (.iconst 1, 1) := by decide +kernel
theorem dX5_takeEnd_92 : decode cX5_takeEnd 92 = .ok (.invokevirtual 67, 3) := by decide +kernel
theorem dX5_takeEnd_95 : decode cX5_takeEnd 95 = .ok (.ifCond .ne 5, 3) := by decide +kernel
theorem dX5_takeEnd_98 : decode cX5_takeEnd 98 = .ok (.iconst 0, 1) := by decide +kernel
theorem dX5_takeEnd_99 : decode cX5_takeEnd 99 = .ok (.ireturn, 1) := by decide +kernel
theorem dX5_takeEnd_100 : decode cX5_takeEnd 100 = .ok (.aload_n 0, 1) := by decide +kernel
theorem dX5_takeEnd_101 : decode cX5_takeEnd 101 = .ok (.bipush 59, 2) := by decide +kernel
theorem dX5_takeEnd_103 : decode cX5_takeEnd 103 = .ok (.invokevirtual 67, 3) := by decide +kernel
theorem dX5_takeEnd_106 : decode cX5_takeEnd 106 = .ok (.ireturn, 1) := by decide +kernel
theorem dX5_addStep_0 : decode cX5_addStep 0 = .ok (.aload_n 0, 1) := by decide +kernel
theorem dX5_addStep_1 : decode cX5_addStep 1 = .ok (.getfield 20, 3) := by decide +kernel
theorem dX5_addStep_4 : decode cX5_addStep 4 = .ok (.ifnull 14, 3) := by decide +kernel
theorem dX5_addStep_7 : decode cX5_addStep 7 = .ok (.aload_n 0, 1) := by decide +kernel
theorem dX5_addStep_8 : decode cX5_addStep 8 = .ok (.getfield 20, 3) := by decide +kernel
theorem dX5_addStep_11 : decode cX5_addStep 11 = .ok (.iload_n 1, 1) := by decide +kernel
theorem dX5_addStep_12 : decode cX5_addStep 12 = .ok (.lload_n 2, 1) := by decide +kernel
theorem dX5_addStep_13 : decode cX5_addStep 13 = .ok (.iload 4, 2) := by decide +kernel
theorem dX5_addStep_15 : decode cX5_addStep 15 = .ok (.invokevirtual 128, 3) := by decide +kernel
theorem dX5_addStep_18 : decode cX5_addStep 18 = .ok (.return_, 1) := by decide +kernel
theorem dX5_takeSum_0 : decode cX5_takeSum 0 = .ok (.aload_n 0, 1) := by decide +kernel
theorem dX5_takeSum_1 : decode cX5_takeSum 1 = .ok (.iload_n 1, 1) := by decide +kernel
theorem dX5_takeSum_2 : decode cX5_takeSum 2 = .ok (.invokevirtual 132, 3) := by decide +kernel
theorem dX5_takeSum_5 : decode cX5_takeSum 5 = .ok (.ifCond .ne 5, 3) := by decide +kernel
theorem dX5_takeSum_8 : decode cX5_takeSum 8 = .ok (.iconst 0, 1) := by decide +kernel
theorem dX5_takeSum_9 : decode cX5_takeSum 9 = .ok (.ireturn, 1) := by decide +kernel
theorem dX5_takeSum_10 : decode cX5_takeSum 10 = .ok (.iconst 0, 1) := by decide +kernel
theorem dX5_takeSum_11 : decode cX5_takeSum 11 = .ok (.istore_n 2, 1) := by decide +kernel
theorem dX5_takeSum_12 : decode cX5_takeSum 12 = .ok (.iload_n 2, 1) := by decide +kernel
theorem dX5_takeSum_13 : decode cX5_takeSum 13 = .ok (.sipush 900, 3) := by decide +kernel
theorem dX5_takeSum_16 : decode cX5_takeSum 16 = .ok (.if_icmp .ge 66, 3) := by decide +kernel
theorem dX5_takeSum_19 : decode cX5_takeSum 19 = .ok (.aload_n 0, 1) := by decide +kernel
theorem dX5_takeSum_20 : decode cX5_takeSum 20 = .ok (.getfield 14, 3) := by decide +kernel
theorem dX5_takeSum_23 : decode cX5_takeSum 23 = .ok (.getfield 50, 3) := by decide +kernel
theorem dX5_takeSum_26 : decode cX5_takeSum 26 = .ok (.bipush 43, 2) := by decide +kernel
theorem dX5_takeSum_28 : decode cX5_takeSum 28 = .ok (.if_icmp .eq 15, 3) := by decide +kernel
theorem dX5_takeSum_31 : decode cX5_takeSum 31 = .ok (.aload_n 0, 1) := by decide +kernel
theorem dX5_takeSum_32 : decode cX5_takeSum 32 = .ok (.getfield 14, 3) := by decide +kernel
theorem dX5_takeSum_35 : decode cX5_takeSum 35 = .ok (.getfield 50, 3) := by decide +kernel
theorem dX5_takeSum_38 : decode cX5_takeSum 38 = .ok (.bipush 45, 2) := by decide +kernel
theorem dX5_takeSum_40 : decode cX5_takeSum 40 = .ok (.if_icmp .ne 42, 3) := by decide +kernel
theorem dX5_takeSum_43 : decode cX5_takeSum 43 = .ok (.aload_n 0, 1) := by decide +kernel
theorem dX5_takeSum_44 : decode cX5_takeSum 44 = .ok (.getfield 14, 3) := by decide +kernel
theorem dX5_takeSum_47 : decode cX5_takeSum 47 = .ok (.getfield 50, 3) := by decide +kernel
theorem dX5_takeSum_50 : decode cX5_takeSum 50 = .ok (.istore_n 3, 1) := by decide +kernel
theorem dX5_takeSum_51 : decode cX5_takeSum 51 = .ok (.aload_n 0, 1) := by decide +kernel
theorem dX5_takeSum_52 : decode cX5_takeSum 52 = .ok (.getfield 14, 3) := by decide +kernel
theorem dX5_takeSum_55 : decode cX5_takeSum 55 = .ok (.invokevirtual 64, 3) := by decide +kernel
theorem dX5_takeSum_58 : decode cX5_takeSum 58 = .ok (.aload_n 0, 1) := by decide +kernel
theorem dX5_takeSum_59 : decode cX5_takeSum 59 = .ok (.iload_n 1, 1) := by decide +kernel
theorem dX5_takeSum_60 : decode cX5_takeSum 60 = .ok (.invokevirtual 132, 3) := by decide +kernel
theorem dX5_takeSum_63 : decode cX5_takeSum 63 = .ok (.ifCond .ne 5, 3) := by decide +kernel
theorem dX5_takeSum_66 : decode cX5_takeSum 66 = .ok (.iconst 0, 1) := by decide +kernel
theorem dX5_takeSum_67 : decode cX5_takeSum 67 = .ok (.ireturn, 1) := by decide +kernel
theorem dX5_takeSum_68 : decode cX5_takeSum 68 = .ok (.aload_n 0, 1) := by decide +kernel
theorem dX5_takeSum_69 : decode cX5_takeSum 69 = .ok (.iload_n 3, 1) := by decide +kernel
theorem dX5_takeSum_70 : decode cX5_takeSum 70 = .ok (.lconst 0, 1) := by decide +kernel
theorem dX5_takeSum_71 : decode cX5_takeSum 71 = .ok (.bipush (-9), 2) := by decide +kernel
theorem dX5_takeSum_73 : decode cX5_takeSum 73 = .ok (.invokevirtual 135, 3) := by decide +kernel
theorem dX5_takeSum_76 : decode cX5_takeSum 76 = .ok (.iinc 2 1, 3) := by decide +kernel
theorem dX5_takeSum_79 : decode cX5_takeSum 79 = .ok (.goto (-67), 3) := by decide +kernel
theorem dX5_takeSum_82 : decode cX5_takeSum 82 = .ok (.iconst 1, 1) := by decide +kernel
theorem dX5_takeSum_83 : decode cX5_takeSum 83 = .ok (.ireturn, 1) := by decide +kernel
theorem dX5_takeProduct_0 : decode cX5_takeProduct 0 = .ok (.aload_n 0, 1) := by decide +kernel
theorem dX5_takeProduct_1 : decode cX5_takeProduct 1 = .ok (.iload_n 1, 1) := by decide +kernel
theorem dX5_takeProduct_2 : decode cX5_takeProduct 2 = .ok (.invokevirtual 138, 3) := by decide +kernel
theorem dX5_takeProduct_5 : decode cX5_takeProduct 5 = .ok (.ifCond .ne 5, 3) := by decide +kernel
theorem dX5_takeProduct_8 : decode cX5_takeProduct 8 = .ok (.iconst 0, 1) := by decide +kernel
theorem dX5_takeProduct_9 : decode cX5_takeProduct 9 = .ok (.ireturn, 1) := by decide +kernel
theorem dX5_takeProduct_10 : decode cX5_takeProduct 10 = .ok (.iconst 0, 1) := by decide +kernel
theorem dX5_takeProduct_11 : decode cX5_takeProduct 11 = .ok (.istore_n 2, 1) := by decide +kernel
theorem dX5_takeProduct_12 : decode cX5_takeProduct 12 = .ok (.iload_n 2, 1) := by decide +kernel
theorem dX5_takeProduct_13 : decode cX5_takeProduct 13 = .ok (.sipush 900, 3) := by decide +kernel
theorem dX5_takeProduct_16 : decode cX5_takeProduct 16 = .ok (.if_icmp .ge 55, 3) := by decide +kernel
theorem dX5_takeProduct_19 : decode cX5_takeProduct 19 = .ok (.aload_n 0, 1) := by decide +kernel
theorem dX5_takeProduct_20 : decode cX5_takeProduct 20 = .ok (.getfield 14, 3) := by decide +kernel
theorem dX5_takeProduct_23 : decode cX5_takeProduct 23 = .ok (.getfield 50, 3) := by decide +kernel
theorem dX5_takeProduct_26 : decode cX5_takeProduct 26 = .ok (.invokestatic 141, 3) := by decide +kernel
theorem dX5_takeProduct_29 : decode cX5_takeProduct 29 = .ok (.ifCond .eq 42, 3) := by decide +kernel
theorem dX5_takeProduct_32 : decode cX5_takeProduct 32 = .ok (.aload_n 0, 1) := by decide +kernel
theorem dX5_takeProduct_33 : decode cX5_takeProduct 33 = .ok (.getfield 14, 3) := by decide +kernel
theorem dX5_takeProduct_36 : decode cX5_takeProduct 36 = .ok (.getfield 50, 3) := by decide +kernel
theorem dX5_takeProduct_39 : decode cX5_takeProduct 39 = .ok (.istore_n 3, 1) := by decide +kernel
theorem dX5_takeProduct_40 : decode cX5_takeProduct 40 = .ok (.aload_n 0, 1) := by decide +kernel
theorem dX5_takeProduct_41 : decode cX5_takeProduct 41 = .ok (.getfield 14, 3) := by decide +kernel
theorem dX5_takeProduct_44 : decode cX5_takeProduct 44 = .ok (.invokevirtual 64, 3) := by decide +kernel
theorem dX5_takeProduct_47 : decode cX5_takeProduct 47 = .ok (.aload_n 0, 1) := by decide +kernel
theorem dX5_takeProduct_48 : decode cX5_takeProduct 48 = .ok (.iload_n 1, 1) := by decide +kernel
theorem dX5_takeProduct_49 : decode cX5_takeProduct 49 = .ok (.invokevirtual 138, 3) := by decide +kernel
theorem dX5_takeProduct_52 : decode cX5_takeProduct 52 = .ok (.ifCond .ne 5, 3) := by decide +kernel
theorem dX5_takeProduct_55 : decode cX5_takeProduct 55 = .ok (.iconst 0, 1) := by decide +kernel
theorem dX5_takeProduct_56 : decode cX5_takeProduct 56 = .ok (.ireturn, 1) := by decide +kernel
theorem dX5_takeProduct_57 : decode cX5_takeProduct 57 = .ok (.aload_n 0, 1) := by decide +kernel
theorem dX5_takeProduct_58 : decode cX5_takeProduct 58 = .ok (.iload_n 3, 1) := by decide +kernel
theorem dX5_takeProduct_59 : decode cX5_takeProduct 59 = .ok (.lconst 0, 1) := by decide +kernel
theorem dX5_takeProduct_60 : decode cX5_takeProduct 60 = .ok (.bipush (-9), 2) := by decide +kernel
theorem dX5_takeProduct_62 : decode cX5_takeProduct 62 = .ok (.invokevirtual 135, 3) := by decide +kernel
theorem dX5_takeProduct_65 : decode cX5_takeProduct 65 = .ok (.iinc 2 1, 3) := by decide +kernel
theorem dX5_takeProduct_68 : decode cX5_takeProduct 68 = .ok (.goto (-56), 3) := by decide +kernel
theorem dX5_takeProduct_71 : decode cX5_takeProduct 71 = .ok (.iconst 1, 1) := by decide +kernel
theorem dX5_takeProduct_72 : decode cX5_takeProduct 72 = .ok (.ireturn, 1) := by decide +kernel
theorem dX5_isProductSign_0 : decode cX5_isProductSign 0 = .ok (.iload_n 0, 1) := by decide +kernel
theorem dX5_isProductSign_1 : decode cX5_isProductSign 1 = .ok (.bipush 42, 2) := by decide +kernel
theorem dX5_isProductSign_3 : decode cX5_isProductSign 3 = .ok (.if_icmp .eq 15, 3) := by decide +kernel
theorem dX5_isProductSign_6 : decode cX5_isProductSign 6 = .ok (.iload_n 0, 1) := by decide +kernel
theorem dX5_isProductSign_7 : decode cX5_isProductSign 7 = .ok (.bipush 47, 2) := by decide +kernel
theorem dX5_isProductSign_9 : decode cX5_isProductSign 9 = .ok (.if_icmp .eq 9, 3) := by decide +kernel
theorem dX5_isProductSign_12 : decode cX5_isProductSign 12 = .ok (.iload_n 0, 1) := by decide +kernel
theorem dX5_isProductSign_13 : decode cX5_isProductSign 13 = .ok (.bipush 37, 2) := by decide +kernel
theorem dX5_isProductSign_15 : decode cX5_isProductSign 15 = .ok (.if_icmp .ne 7, 3) := by decide +kernel
theorem dX5_isProductSign_18 : decode cX5_isProductSign 18 = .ok (.iconst 1, 1) := by decide +kernel
theorem dX5_isProductSign_19 : decode cX5_isProductSign 19 = .ok (.goto 4, 3) := by decide +kernel
theorem dX5_isProductSign_22 : decode cX5_isProductSign 22 = .ok (.iconst 0, 1) := by decide +kernel
theorem dX5_isProductSign_23 : decode cX5_isProductSign 23 = .ok (.ireturn, 1) := by decide +kernel
theorem dX5_takeUnit_0 : decode cX5_takeUnit 0 = .ok (.aload_n 0, 1) := by decide +kernel
theorem dX5_takeUnit_1 : decode cX5_takeUnit 1 = .ok (.getfield 24, 3) := by decide +kernel
theorem dX5_takeUnit_4 : decode cX5_takeUnit 4 = .ok (.bipush 24, 2) := by decide +kernel
theorem dX5_takeUnit_6 : decode cX5_takeUnit 6 = .ok (.if_icmp .ge 9, 3) := by decide +kernel
theorem dX5_takeUnit_9 : decode cX5_takeUnit 9 = .ok (.iload_n 1, 1) := by decide +kernel
theorem dX5_takeUnit_10 : decode cX5_takeUnit 10 = .ok (.bipush 10, 2) := by decide +kernel
theorem dX5_takeUnit_12 : decode cX5_takeUnit 12 = .ok (.if_icmp .le 8, 3) := by decide +kernel
theorem dX5_takeUnit_15 : decode cX5_takeUnit 15 = .ok (.aload_n 0, 1) := by decide +kernel
theorem dX5_takeUnit_16 : decode cX5_takeUnit 16 = .ok (.invokevirtual 60, 3) := by decide +kernel
theorem dX5_takeUnit_19 : decode cX5_takeUnit 19 = .ok (.ireturn, 1) := by decide +kernel
theorem dX5_takeUnit_20 : decode cX5_takeUnit 20 = .ok (.aload_n 0, 1) := by decide +kernel
theorem dX5_takeUnit_21 : decode cX5_takeUnit 21 = .ok (.dup, 1) := by decide +kernel
theorem dX5_takeUnit_22 : decode cX5_takeUnit 22 = .ok (.getfield 24, 3) := by decide +kernel
theorem dX5_takeUnit_25 : decode cX5_takeUnit 25 = .ok (.iconst 1, 1) := by decide +kernel
theorem dX5_takeUnit_26 : decode cX5_takeUnit 26 = .ok (.iadd, 1) := by decide +kernel
theorem dX5_takeUnit_27 : decode cX5_takeUnit 27 = .ok (.putfield 24, 3) := by decide +kernel
theorem dX5_takeUnit_30 : decode cX5_takeUnit 30 = .ok (.aload_n 0, 1) := by decide +kernel
theorem dX5_takeUnit_31 : decode cX5_takeUnit 31 = .ok (.getfield 14, 3) := by decide +kernel
theorem dX5_takeUnit_34 : decode cX5_takeUnit 34 = .ok (.getfield 50, 3) := by decide +kernel
theorem dX5_takeUnit_37 : decode cX5_takeUnit 37 = .ok (.lookupswitch 167 #[(1, 59), (2, 126), (8, 79), (35, 94), (40, 161), (45, 132)], 59) := by decide +kernel
theorem dX5_takeUnit_96 : decode cX5_takeUnit 96 = .ok (.aload_n 0, 1) := by decide +kernel
theorem dX5_takeUnit_97 : decode cX5_takeUnit 97 = .ok (.iconst 0, 1) := by decide +kernel
theorem dX5_takeUnit_98 : decode cX5_takeUnit 98 = .ok (.aload_n 0, 1) := by decide +kernel
theorem dX5_takeUnit_99 : decode cX5_takeUnit 99 = .ok (.getfield 14, 3) := by decide +kernel
theorem dX5_takeUnit_102 : decode cX5_takeUnit 102 = .ok (.getfield 71, 3) := by decide +kernel
theorem dX5_takeUnit_105 : decode cX5_takeUnit 105 = .ok (.bipush (-9), 2) := by decide +kernel
theorem dX5_takeUnit_107 : decode cX5_takeUnit 107 = .ok (.invokevirtual 135, 3) := by decide +kernel
theorem dX5_takeUnit_110 : decode cX5_takeUnit 110 = .ok (.aload_n 0, 1) := by decide +kernel
theorem dX5_takeUnit_111 : decode cX5_takeUnit 111 = .ok (.iconst 1, 1) := by decide +kernel
theorem dX5_takeUnit_112 : decode cX5_takeUnit 112 = .ok (.invokevirtual 67, 3) := by decide +kernel
theorem dX5_takeUnit_115 : decode cX5_takeUnit 115 = .ok (.ireturn, 1) := by decide +kernel
theorem dX5_takeUnit_116 : decode cX5_takeUnit 116 = .ok (.aload_n 0, 1) := by decide +kernel
theorem dX5_takeUnit_117 : decode cX5_takeUnit 117 = .ok (.iconst 1, 1) := by decide +kernel
theorem dX5_takeUnit_118 : decode cX5_takeUnit 118 = .ok (.lconst 0, 1) := by decide +kernel
theorem dX5_takeUnit_119 : decode cX5_takeUnit 119 = .ok (.bipush (-9), 2) := by decide +kernel
theorem dX5_takeUnit_121 : decode cX5_takeUnit 121 = .ok (.invokevirtual 135, 3) := by decide +kernel
theorem dX5_takeUnit_124 : decode cX5_takeUnit 124 = .ok (.aload_n 0, 1) := by decide +kernel
theorem dX5_takeUnit_125 : decode cX5_takeUnit 125 = .ok (.bipush 8, 2) := by decide +kernel
theorem dX5_takeUnit_127 : decode cX5_takeUnit 127 = .ok (.invokevirtual 67, 3) := by decide +kernel
theorem dX5_takeUnit_130 : decode cX5_takeUnit 130 = .ok (.ireturn, 1) := by decide +kernel
theorem dX5_takeUnit_131 : decode cX5_takeUnit 131 = .ok (.aload_n 0, 1) := by decide +kernel
theorem dX5_takeUnit_132 : decode cX5_takeUnit 132 = .ok (.getfield 14, 3) := by decide +kernel
theorem dX5_takeUnit_135 : decode cX5_takeUnit 135 = .ok (.invokevirtual 64, 3) := by decide +kernel
theorem dX5_takeUnit_138 : decode cX5_takeUnit 138 = .ok (.aload_n 0, 1) := by decide +kernel
theorem dX5_takeUnit_139 : decode cX5_takeUnit 139 = .ok (.iconst 2, 1) := by decide +kernel
theorem dX5_takeUnit_140 : decode cX5_takeUnit 140 = .ok (.aload_n 0, 1) := by decide +kernel
theorem dX5_takeUnit_141 : decode cX5_takeUnit 141 = .ok (.getfield 14, 3) := by decide +kernel
theorem dX5_takeUnit_144 : decode cX5_takeUnit 144 = .ok (.getfield 71, 3) := by decide +kernel
theorem dX5_takeUnit_147 : decode cX5_takeUnit 147 = .ok (.aload_n 0, 1) := by decide +kernel
theorem dX5_takeUnit_148 : decode cX5_takeUnit 148 = .ok (.getfield 14, 3) := by decide +kernel
theorem dX5_takeUnit_151 : decode cX5_takeUnit 151 = .ok (.getfield 53, 3) := by decide +kernel
theorem dX5_takeUnit_154 : decode cX5_takeUnit 154 = .ok (.invokevirtual 135, 3) := by decide +kernel
theorem dX5_takeUnit_157 : decode cX5_takeUnit 157 = .ok (.aload_n 0, 1) := by decide +kernel
theorem dX5_takeUnit_158 : decode cX5_takeUnit 158 = .ok (.iconst 2, 1) := by decide +kernel
theorem dX5_takeUnit_159 : decode cX5_takeUnit 159 = .ok (.invokevirtual 67, 3) := by decide +kernel
theorem dX5_takeUnit_162 : decode cX5_takeUnit 162 = .ok (.ireturn, 1) := by decide +kernel
theorem dX5_takeUnit_163 : decode cX5_takeUnit 163 = .ok (.aload_n 0, 1) := by decide +kernel
theorem dX5_takeUnit_164 : decode cX5_takeUnit 164 = .ok (.iload_n 1, 1) := by decide +kernel
theorem dX5_takeUnit_165 : decode cX5_takeUnit 165 = .ok (.invokevirtual 144, 3) := by decide +kernel
theorem dX5_takeUnit_168 : decode cX5_takeUnit 168 = .ok (.ireturn, 1) := by decide +kernel
theorem dX5_takeUnit_169 : decode cX5_takeUnit 169 = .ok (.aload_n 0, 1) := by decide +kernel
theorem dX5_takeUnit_170 : decode cX5_takeUnit 170 = .ok (.getfield 14, 3) := by decide +kernel
theorem dX5_takeUnit_173 : decode cX5_takeUnit 173 = .ok (.invokevirtual 64, 3) := by decide +kernel
theorem dX5_takeUnit_176 : decode cX5_takeUnit 176 = .ok (.aload_n 0, 1) := by decide +kernel
theorem dX5_takeUnit_177 : decode cX5_takeUnit 177 = .ok (.iload_n 1, 1) := by decide +kernel
theorem dX5_takeUnit_178 : decode cX5_takeUnit 178 = .ok (.iconst 1, 1) := by decide +kernel
theorem dX5_takeUnit_179 : decode cX5_takeUnit 179 = .ok (.iadd, 1) := by decide +kernel
theorem dX5_takeUnit_180 : decode cX5_takeUnit 180 = .ok (.invokevirtual 138, 3) := by decide +kernel
theorem dX5_takeUnit_183 : decode cX5_takeUnit 183 = .ok (.ifCond .ne 5, 3) := by decide +kernel
theorem dX5_takeUnit_186 : decode cX5_takeUnit 186 = .ok (.iconst 0, 1) := by decide +kernel
theorem dX5_takeUnit_187 : decode cX5_takeUnit 187 = .ok (.ireturn, 1) := by decide +kernel
theorem dX5_takeUnit_188 : decode cX5_takeUnit 188 = .ok (.aload_n 0, 1) := by decide +kernel
theorem dX5_takeUnit_189 : decode cX5_takeUnit 189 = .ok (.iconst 4, 1) := by decide +kernel
theorem dX5_takeUnit_190 : decode cX5_takeUnit 190 = .ok (.lconst 0, 1) := by decide +kernel
theorem dX5_takeUnit_191 : decode cX5_takeUnit 191 = .ok (.bipush (-9), 2) := by decide +kernel
theorem dX5_takeUnit_193 : decode cX5_takeUnit 193 = .ok (.invokevirtual 135, 3) := by decide +kernel
theorem dX5_takeUnit_196 : decode cX5_takeUnit 196 = .ok (.iconst 1, 1) := by decide +kernel
theorem dX5_takeUnit_197 : decode cX5_takeUnit 197 = .ok (.ireturn, 1) := by decide +kernel
theorem dX5_takeUnit_198 : decode cX5_takeUnit 198 = .ok (.aload_n 0, 1) := by decide +kernel
theorem dX5_takeUnit_199 : decode cX5_takeUnit 199 = .ok (.iload_n 1, 1) := by decide +kernel
theorem dX5_takeUnit_200 : decode cX5_takeUnit 200 = .ok (.invokevirtual 147, 3) := by decide +kernel
theorem dX5_takeUnit_203 : decode cX5_takeUnit 203 = .ok (.ireturn, 1) := by decide +kernel
theorem dX5_takeUnit_204 : decode cX5_takeUnit 204 = .ok (.aload_n 0, 1) := by decide +kernel
theorem dX5_takeUnit_205 : decode cX5_takeUnit 205 = .ok (.invokevirtual 60, 3) := by decide +kernel
theorem dX5_takeUnit_208 : decode cX5_takeUnit 208 = .ok (.ireturn, 1) := by decide +kernel
theorem dX5_takeEntry_0 : decode cX5_takeEntry 0 = .ok (.aload_n 0, 1) := by decide +kernel
theorem dX5_takeEntry_1 : decode cX5_takeEntry 1 = .ok (.getfield 14, 3) := by decide +kernel
theorem dX5_takeEntry_4 : decode cX5_takeEntry 4 = .ok (.getfield 71, 3) := by decide +kernel
theorem dX5_takeEntry_7 : decode cX5_takeEntry 7 = .ok (.lstore_n 2, 1) := by decide +kernel
theorem dX5_takeEntry_8 : decode cX5_takeEntry 8 = .ok (.aload_n 0, 1) := by decide +kernel
theorem dX5_takeEntry_9 : decode cX5_takeEntry 9 = .ok (.getfield 14, 3) := by decide +kernel
theorem dX5_takeEntry_12 : decode cX5_takeEntry 12 = .ok (.getfield 53, 3) := by decide +kernel
theorem dX5_takeEntry_15 : decode cX5_takeEntry 15 = .ok (.istore 4, 2) := by decide +kernel
theorem dX5_takeEntry_17 : decode cX5_takeEntry 17 = .ok (.aload_n 0, 1) := by decide +kernel
theorem dX5_takeEntry_18 : decode cX5_takeEntry 18 = .ok (.iconst 2, 1) := by decide +kernel
theorem dX5_takeEntry_19 : decode cX5_takeEntry 19 = .ok (.invokevirtual 67, 3) := by decide +kernel
theorem dX5_takeEntry_22 : decode cX5_takeEntry 22 = .ok (.ifCond .eq 31, 3) := by decide +kernel
theorem dX5_takeEntry_25 : decode cX5_takeEntry 25 = .ok (.aload_n 0, 1) := by decide +kernel
theorem dX5_takeEntry_26 : decode cX5_takeEntry 26 = .ok (.bipush 91, 2) := by decide +kernel
theorem dX5_takeEntry_28 : decode cX5_takeEntry 28 = .ok (.invokevirtual 67, 3) := by decide +kernel
theorem dX5_takeEntry_31 : decode cX5_takeEntry 31 = .ok (.ifCond .eq 22, 3) := by decide +kernel
theorem dX5_takeEntry_34 : decode cX5_takeEntry 34 = .ok (.aload_n 0, 1) := by decide +kernel
theorem dX5_takeEntry_35 : decode cX5_takeEntry 35 = .ok (.iload_n 1, 1) := by decide +kernel
theorem dX5_takeEntry_36 : decode cX5_takeEntry 36 = .ok (.iconst 1, 1) := by decide +kernel
theorem dX5_takeEntry_37 : decode cX5_takeEntry 37 = .ok (.iadd, 1) := by decide +kernel
theorem dX5_takeEntry_38 : decode cX5_takeEntry 38 = .ok (.invokevirtual 101, 3) := by decide +kernel
theorem dX5_takeEntry_41 : decode cX5_takeEntry 41 = .ok (.ifCond .eq 12, 3) := by decide +kernel
theorem dX5_takeEntry_44 : decode cX5_takeEntry 44 = .ok (.aload_n 0, 1) := by decide +kernel
theorem dX5_takeEntry_45 : decode cX5_takeEntry 45 = .ok (.bipush 93, 2) := by decide +kernel
theorem dX5_takeEntry_47 : decode cX5_takeEntry 47 = .ok (.invokevirtual 67, 3) := by decide +kernel
theorem dX5_takeEntry_50 : decode cX5_takeEntry 50 = .ok (.ifCond .ne 5, 3) := by decide +kernel
theorem dX5_takeEntry_53 : decode cX5_takeEntry 53 = .ok (.iconst 0, 1) := by decide +kernel
theorem dX5_takeEntry_54 : decode cX5_takeEntry 54 = .ok (.ireturn, 1) := by decide +kernel
theorem dX5_takeEntry_55 : decode cX5_takeEntry 55 = .ok (.aload_n 0, 1) := by decide +kernel
theorem dX5_takeEntry_56 : decode cX5_takeEntry 56 = .ok (.iconst 3, 1) := by decide +kernel
theorem dX5_takeEntry_57 : decode cX5_takeEntry 57 = .ok (.lload_n 2, 1) := by decide +kernel
theorem dX5_takeEntry_58 : decode cX5_takeEntry 58 = .ok (.iload 4, 2) := by decide +kernel
theorem dX5_takeEntry_60 : decode cX5_takeEntry 60 = .ok (.invokevirtual 135, 3) := by decide +kernel
theorem dX5_takeEntry_63 : decode cX5_takeEntry 63 = .ok (.iconst 1, 1) := by decide +kernel
theorem dX5_takeEntry_64 : decode cX5_takeEntry 64 = .ok (.ireturn, 1) := by decide +kernel
theorem dX5_takeGroup_0 : decode cX5_takeGroup 0 = .ok (.aload_n 0, 1) := by decide +kernel
theorem dX5_takeGroup_1 : decode cX5_takeGroup 1 = .ok (.bipush 40, 2) := by decide +kernel
theorem dX5_takeGroup_3 : decode cX5_takeGroup 3 = .ok (.invokevirtual 67, 3) := by decide +kernel
theorem dX5_takeGroup_6 : decode cX5_takeGroup 6 = .ok (.ifCond .eq 13, 3) := by decide +kernel
theorem dX5_takeGroup_9 : decode cX5_takeGroup 9 = .ok (.aload_n 0, 1) := by decide +kernel
theorem dX5_takeGroup_10 : decode cX5_takeGroup 10 = .ok (.iload_n 1, 1) := by decide +kernel
theorem dX5_takeGroup_11 : decode cX5_takeGroup 11 = .ok (.iconst 1, 1) := by decide +kernel
theorem dX5_takeGroup_12 : decode cX5_takeGroup 12 = .ok (.iadd, 1) := by decide +kernel
theorem dX5_takeGroup_13 : decode cX5_takeGroup 13 = .ok (.invokevirtual 101, 3) := by decide +kernel
theorem dX5_takeGroup_16 : decode cX5_takeGroup 16 = .ok (.ifCond .ne 5, 3) := by decide +kernel
theorem dX5_takeGroup_19 : decode cX5_takeGroup 19 = .ok (.iconst 0, 1) := by decide +kernel
theorem dX5_takeGroup_20 : decode cX5_takeGroup 20 = .ok (.ireturn, 1) := by decide +kernel
theorem dX5_takeGroup_21 : decode cX5_takeGroup 21 = .ok (.aload_n 0, 1) := by decide +kernel
theorem dX5_takeGroup_22 : decode cX5_takeGroup 22 = .ok (.getfield 14, 3) := by decide +kernel
theorem dX5_takeGroup_25 : decode cX5_takeGroup 25 = .ok (.getfield 50, 3) := by decide +kernel
theorem dX5_takeGroup_28 : decode cX5_takeGroup 28 = .ok (.bipush 60, 2) := by decide +kernel
theorem dX5_takeGroup_30 : decode cX5_takeGroup 30 = .ok (.if_icmp .ne 34, 3) := by decide +kernel
theorem dX5_takeGroup_33 : decode cX5_takeGroup 33 = .ok (.aload_n 0, 1) := by decide +kernel
theorem dX5_takeGroup_34 : decode cX5_takeGroup 34 = .ok (.getfield 14, 3) := by decide +kernel
theorem dX5_takeGroup_37 : decode cX5_takeGroup 37 = .ok (.invokevirtual 64, 3) := by decide +kernel
theorem dX5_takeGroup_40 : decode cX5_takeGroup 40 = .ok (.aload_n 0, 1) := by decide +kernel
theorem dX5_takeGroup_41 : decode cX5_takeGroup 41 = .ok (.iload_n 1, 1) := by decide +kernel
theorem dX5_takeGroup_42 : decode cX5_takeGroup 42 = .ok (.iconst 1, 1) := by decide +kernel
theorem dX5_takeGroup_43 : decode cX5_takeGroup 43 = .ok (.iadd, 1) := by decide +kernel
theorem dX5_takeGroup_44 : decode cX5_takeGroup 44 = .ok (.invokevirtual 101, 3) := by decide +kernel
theorem dX5_takeGroup_47 : decode cX5_takeGroup 47 = .ok (.ifCond .ne 5, 3) := by decide +kernel
theorem dX5_takeGroup_50 : decode cX5_takeGroup 50 = .ok (.iconst 0, 1) := by decide +kernel
theorem dX5_takeGroup_51 : decode cX5_takeGroup 51 = .ok (.ireturn, 1) := by decide +kernel
theorem dX5_takeGroup_52 : decode cX5_takeGroup 52 = .ok (.aload_n 0, 1) := by decide +kernel
theorem dX5_takeGroup_53 : decode cX5_takeGroup 53 = .ok (.bipush 60, 2) := by decide +kernel
theorem dX5_takeGroup_55 : decode cX5_takeGroup 55 = .ok (.lconst 0, 1) := by decide +kernel
theorem dX5_takeGroup_56 : decode cX5_takeGroup 56 = .ok (.bipush (-9), 2) := by decide +kernel
theorem dX5_takeGroup_58 : decode cX5_takeGroup 58 = .ok (.invokevirtual 135, 3) := by decide +kernel
theorem dX5_takeGroup_61 : decode cX5_takeGroup 61 = .ok (.goto 25, 3) := by decide +kernel
theorem dX5_takeGroup_64 : decode cX5_takeGroup 64 = .ok (.aload_n 0, 1) := by decide +kernel
theorem dX5_takeGroup_65 : decode cX5_takeGroup 65 = .ok (.getfield 14, 3) := by decide +kernel
theorem dX5_takeGroup_68 : decode cX5_takeGroup 68 = .ok (.getfield 50, 3) := by decide +kernel
theorem dX5_takeGroup_71 : decode cX5_takeGroup 71 = .ok (.bipush 63, 2) := by decide +kernel
theorem dX5_takeGroup_73 : decode cX5_takeGroup 73 = .ok (.if_icmp .ne 13, 3) := by decide +kernel
theorem dX5_takeGroup_76 : decode cX5_takeGroup 76 = .ok (.aload_n 0, 1) := by decide +kernel
theorem dX5_takeGroup_77 : decode cX5_takeGroup 77 = .ok (.iload_n 1, 1) := by decide +kernel
theorem dX5_takeGroup_78 : decode cX5_takeGroup 78 = .ok (.invokevirtual 150, 3) := by decide +kernel
theorem dX5_takeGroup_81 : decode cX5_takeGroup 81 = .ok (.ifCond .ne 5, 3) := by decide +kernel
theorem dX5_takeGroup_84 : decode cX5_takeGroup 84 = .ok (.iconst 0, 1) := by decide +kernel
theorem dX5_takeGroup_85 : decode cX5_takeGroup 85 = .ok (.ireturn, 1) := by decide +kernel
theorem dX5_takeGroup_86 : decode cX5_takeGroup 86 = .ok (.aload_n 0, 1) := by decide +kernel
theorem dX5_takeGroup_87 : decode cX5_takeGroup 87 = .ok (.bipush 41, 2) := by decide +kernel
theorem dX5_takeGroup_89 : decode cX5_takeGroup 89 = .ok (.invokevirtual 67, 3) := by decide +kernel
theorem dX5_takeGroup_92 : decode cX5_takeGroup 92 = .ok (.ireturn, 1) := by decide +kernel
theorem dX5_takeChoice_0 : decode cX5_takeChoice 0 = .ok (.aload_n 0, 1) := by decide +kernel
theorem dX5_takeChoice_1 : decode cX5_takeChoice 1 = .ok (.getfield 20, 3) := by decide +kernel
theorem dX5_takeChoice_4 : decode cX5_takeChoice 4 = .ok (.ifnull 12, 3) := by decide +kernel
theorem dX5_takeChoice_7 : decode cX5_takeChoice 7 = .ok (.aload_n 0, 1) := by decide +kernel
theorem dX5_takeChoice_8 : decode cX5_takeChoice 8 = .ok (.bipush 63, 2) := by decide +kernel
theorem dX5_takeChoice_10 : decode cX5_takeChoice 10 = .ok (.invokevirtual 67, 3) := by decide +kernel
theorem dX5_takeChoice_13 : decode cX5_takeChoice 13 = .ok (.ifCond .ne 5, 3) := by decide +kernel
theorem dX5_takeChoice_16 : decode cX5_takeChoice 16 = .ok (.iconst 0, 1) := by decide +kernel
theorem dX5_takeChoice_17 : decode cX5_takeChoice 17 = .ok (.ireturn, 1) := by decide +kernel
theorem dX5_takeChoice_18 : decode cX5_takeChoice 18 = .ok (.aload_n 0, 1) := by decide +kernel
theorem dX5_takeChoice_19 : decode cX5_takeChoice 19 = .ok (.getfield 20, 3) := by decide +kernel
theorem dX5_takeChoice_22 : decode cX5_takeChoice 22 = .ok (.getfield 153, 3) := by decide +kernel
theorem dX5_takeChoice_25 : decode cX5_takeChoice 25 = .ok (.istore_n 2, 1) := by decide +kernel
theorem dX5_takeChoice_26 : decode cX5_takeChoice 26 = .ok (.aload_n 0, 1) := by decide +kernel
theorem dX5_takeChoice_27 : decode cX5_takeChoice 27 = .ok (.getfield 20, 3) := by decide +kernel
theorem dX5_takeChoice_30 : decode cX5_takeChoice 30 = .ok (.bipush 6, 2) := by decide +kernel
theorem dX5_takeChoice_32 : decode cX5_takeChoice 32 = .ok (.lconst 0, 1) := by decide +kernel
theorem dX5_takeChoice_33 : decode cX5_takeChoice 33 = .ok (.bipush (-9), 2) := by decide +kernel
theorem dX5_takeChoice_35 : decode cX5_takeChoice 35 = .ok (.invokevirtual 128, 3) := by decide +kernel
theorem dX5_takeChoice_38 : decode cX5_takeChoice 38 = .ok (.aload_n 0, 1) := by decide +kernel
theorem dX5_takeChoice_39 : decode cX5_takeChoice 39 = .ok (.iload_n 1, 1) := by decide +kernel
theorem dX5_takeChoice_40 : decode cX5_takeChoice 40 = .ok (.iconst 1, 1) := by decide +kernel
theorem dX5_takeChoice_41 : decode cX5_takeChoice 41 = .ok (.iadd, 1) := by decide +kernel
theorem dX5_takeChoice_42 : decode cX5_takeChoice 42 = .ok (.invokevirtual 101, 3) := by decide +kernel
theorem dX5_takeChoice_45 : decode cX5_takeChoice 45 = .ok (.ifCond .eq 12, 3) := by decide +kernel
theorem dX5_takeChoice_48 : decode cX5_takeChoice 48 = .ok (.aload_n 0, 1) := by decide +kernel
theorem dX5_takeChoice_49 : decode cX5_takeChoice 49 = .ok (.bipush 58, 2) := by decide +kernel
theorem dX5_takeChoice_51 : decode cX5_takeChoice 51 = .ok (.invokevirtual 67, 3) := by decide +kernel
theorem dX5_takeChoice_54 : decode cX5_takeChoice 54 = .ok (.ifCond .ne 5, 3) := by decide +kernel
theorem dX5_takeChoice_57 : decode cX5_takeChoice 57 = .ok (.iconst 0, 1) := by decide +kernel
theorem dX5_takeChoice_58 : decode cX5_takeChoice 58 = .ok (.ireturn, 1) := by decide +kernel
theorem dX5_takeChoice_59 : decode cX5_takeChoice 59 = .ok (.aload_n 0, 1) := by decide +kernel
theorem dX5_takeChoice_60 : decode cX5_takeChoice 60 = .ok (.getfield 20, 3) := by decide +kernel
theorem dX5_takeChoice_63 : decode cX5_takeChoice 63 = .ok (.getfield 153, 3) := by decide +kernel
theorem dX5_takeChoice_66 : decode cX5_takeChoice 66 = .ok (.istore_n 3, 1) := by decide +kernel
theorem dX5_takeChoice_67 : decode cX5_takeChoice 67 = .ok (.aload_n 0, 1) := by decide +kernel
theorem dX5_takeChoice_68 : decode cX5_takeChoice 68 = .ok (.getfield 20, 3) := by decide +kernel
theorem dX5_takeChoice_71 : decode cX5_takeChoice 71 = .ok (.iconst 5, 1) := by decide +kernel
theorem dX5_takeChoice_72 : decode cX5_takeChoice 72 = .ok (.lconst 0, 1) := by decide +kernel
theorem dX5_takeChoice_73 : decode cX5_takeChoice 73 = .ok (.bipush (-9), 2) := by decide +kernel
theorem dX5_takeChoice_75 : decode cX5_takeChoice 75 = .ok (.invokevirtual 128, 3) := by decide +kernel
theorem dX5_takeChoice_78 : decode cX5_takeChoice 78 = .ok (.aload_n 0, 1) := by decide +kernel
theorem dX5_takeChoice_79 : decode cX5_takeChoice 79 = .ok (.getfield 20, 3) := by decide +kernel
theorem dX5_takeChoice_82 : decode cX5_takeChoice 82 = .ok (.iload_n 2, 1) := by decide +kernel
theorem dX5_takeChoice_83 : decode cX5_takeChoice 83 = .ok (.invokevirtual 156, 3) := by decide +kernel
theorem dX5_takeChoice_86 : decode cX5_takeChoice 86 = .ok (.aload_n 0, 1) := by decide +kernel
theorem dX5_takeChoice_87 : decode cX5_takeChoice 87 = .ok (.iload_n 1, 1) := by decide +kernel
theorem dX5_takeChoice_88 : decode cX5_takeChoice 88 = .ok (.iconst 1, 1) := by decide +kernel
theorem dX5_takeChoice_89 : decode cX5_takeChoice 89 = .ok (.iadd, 1) := by decide +kernel
theorem dX5_takeChoice_90 : decode cX5_takeChoice 90 = .ok (.invokevirtual 101, 3) := by decide +kernel
theorem dX5_takeChoice_93 : decode cX5_takeChoice 93 = .ok (.ifCond .ne 5, 3) := by decide +kernel
theorem dX5_takeChoice_96 : decode cX5_takeChoice 96 = .ok (.iconst 0, 1) := by decide +kernel
theorem dX5_takeChoice_97 : decode cX5_takeChoice 97 = .ok (.ireturn, 1) := by decide +kernel
theorem dX5_takeChoice_98 : decode cX5_takeChoice 98 = .ok (.aload_n 0, 1) := by decide +kernel
theorem dX5_takeChoice_99 : decode cX5_takeChoice 99 = .ok (.getfield 20, 3) := by decide +kernel
theorem dX5_takeChoice_102 : decode cX5_takeChoice 102 = .ok (.iload_n 3, 1) := by decide +kernel
theorem dX5_takeChoice_103 : decode cX5_takeChoice 103 = .ok (.invokevirtual 156, 3) := by decide +kernel
theorem dX5_takeChoice_106 : decode cX5_takeChoice 106 = .ok (.iconst 1, 1) := by decide +kernel
theorem dX5_takeChoice_107 : decode cX5_takeChoice 107 = .ok (.ireturn, 1) := by decide +kernel
theorem dX5_resolveNames_0 : decode cX5_resolveNames 0 = .ok (.iconst 0, 1) := by decide +kernel
theorem dX5_resolveNames_1 : decode cX5_resolveNames 1 = .ok (.istore_n 2, 1) := by decide +kernel
theorem dX5_resolveNames_2 : decode cX5_resolveNames 2 = .ok (.iload_n 2, 1) := by decide +kernel
theorem dX5_resolveNames_3 : decode cX5_resolveNames 3 = .ok (.aload_n 1, 1) := by decide +kernel
theorem dX5_resolveNames_4 : decode cX5_resolveNames 4 = .ok (.getfield 34, 3) := by decide +kernel
theorem dX5_resolveNames_7 : decode cX5_resolveNames 7 = .ok (.if_icmp .ge 28, 3) := by decide +kernel
theorem dX5_resolveNames_10 : decode cX5_resolveNames 10 = .ok (.aload_n 1, 1) := by decide +kernel
theorem dX5_resolveNames_11 : decode cX5_resolveNames 11 = .ok (.iload_n 2, 1) := by decide +kernel
theorem dX5_resolveNames_12 : decode cX5_resolveNames 12 = .ok (.invokevirtual 42, 3) := by decide +kernel
theorem dX5_resolveNames_15 : decode cX5_resolveNames 15 = .ok (.astore_n 3, 1) := by decide +kernel
theorem dX5_resolveNames_16 : decode cX5_resolveNames 16 = .ok (.aload_n 3, 1) := by decide +kernel
theorem dX5_resolveNames_17 : decode cX5_resolveNames 17 = .ok (.ifnull 12, 3) := by decide +kernel
theorem dX5_resolveNames_20 : decode cX5_resolveNames 20 = .ok (.aload_n 0, 1) := by decide +kernel
theorem dX5_resolveNames_21 : decode cX5_resolveNames 21 = .ok (.aload_n 3, 1) := by decide +kernel
theorem dX5_resolveNames_22 : decode cX5_resolveNames 22 = .ok (.getfield 88, 3) := by decide +kernel
theorem dX5_resolveNames_25 : decode cX5_resolveNames 25 = .ok (.aload_n 1, 1) := by decide +kernel
theorem dX5_resolveNames_26 : decode cX5_resolveNames 26 = .ok (.invokevirtual 159, 3) := by decide +kernel
theorem dX5_resolveNames_29 : decode cX5_resolveNames 29 = .ok (.iinc 2 1, 3) := by decide +kernel
theorem dX5_resolveNames_32 : decode cX5_resolveNames 32 = .ok (.goto (-30), 3) := by decide +kernel
theorem dX5_resolveNames_35 : decode cX5_resolveNames 35 = .ok (.return_, 1) := by decide +kernel
theorem dX5_resolveNamesIn_0 : decode cX5_resolveNamesIn 0 = .ok (.iconst 0, 1) := by decide +kernel
theorem dX5_resolveNamesIn_1 : decode cX5_resolveNamesIn 1 = .ok (.istore_n 3, 1) := by decide +kernel
theorem dX5_resolveNamesIn_2 : decode cX5_resolveNamesIn 2 = .ok (.iload_n 3, 1) := by decide +kernel
theorem dX5_resolveNamesIn_3 : decode cX5_resolveNamesIn 3 = .ok (.aload_n 1, 1) := by decide +kernel
theorem dX5_resolveNamesIn_4 : decode cX5_resolveNamesIn 4 = .ok (.getfield 153, 3) := by decide +kernel
theorem dX5_resolveNamesIn_7 : decode cX5_resolveNamesIn 7 = .ok (.if_icmp .ge 51, 3) := by decide +kernel
theorem dX5_resolveNamesIn_10 : decode cX5_resolveNamesIn 10 = .ok (.aload_n 1, 1) := by decide +kernel
theorem dX5_resolveNamesIn_11 : decode cX5_resolveNamesIn 11 = .ok (.iload_n 3, 1) := by decide +kernel
theorem dX5_resolveNamesIn_12 : decode cX5_resolveNamesIn 12 = .ok (.invokevirtual 163, 3) := by decide +kernel
theorem dX5_resolveNamesIn_15 : decode cX5_resolveNamesIn 15 = .ok (.ifCond .eq 37, 3) := by decide +kernel
theorem dX5_resolveNamesIn_18 : decode cX5_resolveNamesIn 18 = .ok (.aload_n 2, 1) := by decide +kernel
theorem dX5_resolveNamesIn_19 : decode cX5_resolveNamesIn 19 = .ok (.aload_n 1, 1) := by decide +kernel
theorem dX5_resolveNamesIn_20 : decode cX5_resolveNamesIn 20 = .ok (.iload_n 3, 1) := by decide +kernel
theorem dX5_resolveNamesIn_21 : decode cX5_resolveNamesIn 21 = .ok (.invokevirtual 166, 3) := by decide +kernel
theorem dX5_resolveNamesIn_24 : decode cX5_resolveNamesIn 24 = .ok (.invokevirtual 75, 3) := by decide +kernel
theorem dX5_resolveNamesIn_27 : decode cX5_resolveNamesIn 27 = .ok (.istore 4, 2) := by decide +kernel
theorem dX5_resolveNamesIn_29 : decode cX5_resolveNamesIn 29 = .ok (.iload 4, 2) := by decide +kernel
theorem dX5_resolveNamesIn_31 : decode cX5_resolveNamesIn 31 = .ok (.bipush (-9), 2) := by decide +kernel
theorem dX5_resolveNamesIn_33 : decode cX5_resolveNamesIn 33 = .ok (.if_icmp .ne 12, 3) := by decide +kernel
theorem dX5_resolveNamesIn_36 : decode cX5_resolveNamesIn 36 = .ok (.aload_n 0, 1) := by decide +kernel
theorem dX5_resolveNamesIn_37 : decode cX5_resolveNamesIn 37 = .ok (.aload_n 1, 1) := by decide +kernel
theorem dX5_resolveNamesIn_38 : decode cX5_resolveNamesIn 38 = .ok (.iload_n 3, 1) := by decide +kernel
theorem dX5_resolveNamesIn_39 : decode cX5_resolveNamesIn 39 = .ok (.invokevirtual 169, 3) := by decide +kernel
theorem dX5_resolveNamesIn_42 : decode cX5_resolveNamesIn 42 = .ok (.invokevirtual 79, 3) := by decide +kernel
theorem dX5_resolveNamesIn_45 : decode cX5_resolveNamesIn 45 = .ok (.aload_n 1, 1) := by decide +kernel
theorem dX5_resolveNamesIn_46 : decode cX5_resolveNamesIn 46 = .ok (.iload_n 3, 1) := by decide +kernel
theorem dX5_resolveNamesIn_47 : decode cX5_resolveNamesIn 47 = .ok (.iload 4, 2) := by decide +kernel
theorem dX5_resolveNamesIn_49 : decode cX5_resolveNamesIn 49 = .ok (.invokevirtual 173, 3) := by decide +kernel
theorem dX5_resolveNamesIn_52 : decode cX5_resolveNamesIn 52 = .ok (.iinc 3 1, 3) := by decide +kernel
theorem dX5_resolveNamesIn_55 : decode cX5_resolveNamesIn 55 = .ok (.goto (-53), 3) := by decide +kernel
theorem dX5_resolveNamesIn_58 : decode cX5_resolveNamesIn 58 = .ok (.return_, 1) := by decide +kernel
theorem dX6_init_0 : decode cX6_init 0 = .ok (.aload_n 0, 1) := by decide +kernel
theorem dX6_init_1 : decode cX6_init 1 = .ok (.invokespecial 3, 3) := by decide +kernel
theorem dX6_init_4 : decode cX6_init 4 = .ok (.aload_n 0, 1) := by decide +kernel
theorem dX6_init_5 : decode cX6_init 5 = .ok (.aload_n 1, 1) := by decide +kernel
theorem dX6_init_6 : decode cX6_init 6 = .ok (.putfield 9, 3) := by decide +kernel
theorem dX6_init_9 : decode cX6_init 9 = .ok (.aload_n 0, 1) := by decide +kernel
theorem dX6_init_10 : decode cX6_init 10 = .ok (.iconst 0, 1) := by decide +kernel
theorem dX6_init_11 : decode cX6_init 11 = .ok (.putfield 15, 3) := by decide +kernel
theorem dX6_init_14 : decode cX6_init 14 = .ok (.aload_n 0, 1) := by decide +kernel
theorem dX6_init_15 : decode cX6_init 15 = .ok (.iconst 0, 1) := by decide +kernel
theorem dX6_init_16 : decode cX6_init 16 = .ok (.putfield 19, 3) := by decide +kernel
theorem dX6_init_19 : decode cX6_init 19 = .ok (.aload_n 0, 1) := by decide +kernel
theorem dX6_init_20 : decode cX6_init 20 = .ok (.iconst 0, 1) := by decide +kernel
theorem dX6_init_21 : decode cX6_init 21 = .ok (.putfield 22, 3) := by decide +kernel
theorem dX6_init_24 : decode cX6_init 24 = .ok (.aload_n 0, 1) := by decide +kernel
theorem dX6_init_25 : decode cX6_init 25 = .ok (.lconst 0, 1) := by decide +kernel
theorem dX6_init_26 : decode cX6_init 26 = .ok (.putfield 25, 3) := by decide +kernel
theorem dX6_init_29 : decode cX6_init 29 = .ok (.return_, 1) := by decide +kernel
theorem dX6_start_0 : decode cX6_start 0 = .ok (.aload_n 0, 1) := by decide +kernel
theorem dX6_start_1 : decode cX6_start 1 = .ok (.iconst 0, 1) := by decide +kernel
theorem dX6_start_2 : decode cX6_start 2 = .ok (.putfield 15, 3) := by decide +kernel
theorem dX6_start_5 : decode cX6_start 5 = .ok (.aload_n 0, 1) := by decide +kernel
theorem dX6_start_6 : decode cX6_start 6 = .ok (.invokevirtual 29, 3) := by decide +kernel
theorem dX6_start_9 : decode cX6_start 9 = .ok (.return_, 1) := by decide +kernel
theorem dX6_advance_0 : decode cX6_advance 0 = .ok (.aload_n 0, 1) := by decide +kernel
theorem dX6_advance_1 : decode cX6_advance 1 = .ok (.invokevirtual 32, 3) := by decide +kernel
theorem dX6_advance_4 : decode cX6_advance 4 = .ok (.aload_n 0, 1) := by decide +kernel
theorem dX6_advance_5 : decode cX6_advance 5 = .ok (.aload_n 0, 1) := by decide +kernel
theorem dX6_advance_6 : decode cX6_advance 6 = .ok (.getfield 15, 3) := by decide +kernel
theorem dX6_advance_9 : decode cX6_advance 9 = .ok (.putfield 22, 3) := by decide +kernel
theorem dX6_advance_12 : decode cX6_advance 12 = .ok (.aload_n 0, 1) := by decide +kernel
theorem dX6_advance_13 : decode cX6_advance 13 = .ok (.lconst 0, 1) := by decide +kernel
theorem dX6_advance_14 : decode cX6_advance 14 = .ok (.putfield 25, 3) := by decide +kernel
theorem dX6_advance_17 : decode cX6_advance 17 = .ok (.aload_n 0, 1) := by decide +kernel
theorem dX6_advance_18 : decode cX6_advance 18 = .ok (.getfield 9, 3) := by decide +kernel
theorem dX6_advance_21 : decode cX6_advance 21 = .ok (.aload_n 0, 1) := by decide +kernel
theorem dX6_advance_22 : decode cX6_advance 22 = .ok (.getfield 15, 3) := by decide +kernel
theorem dX6_advance_25 : decode cX6_advance 25 = .ok (.invokevirtual 35, 3) := by decide +kernel
theorem dX6_advance_28 : decode cX6_advance 28 = .ok (.istore_n 1, 1) := by decide +kernel
theorem dX6_advance_29 : decode cX6_advance 29 = .ok (.iload_n 1, 1) := by decide +kernel
theorem dX6_advance_30 : decode cX6_advance 30 = .ok (.invokestatic 41, 3) := by decide +kernel
theorem dX6_advance_33 : decode cX6_advance 33 = .ok (.ifCond .eq 24, 3) := by decide +kernel
theorem dX6_advance_36 : decode cX6_advance 36 = .ok (.aload_n 0, 1) := by decide +kernel
theorem dX6_advance_37 : decode cX6_advance 37 = .ok (.aload_n 0, 1) := by decide +kernel
theorem dX6_advance_38 : decode cX6_advance 38 = .ok (.invokevirtual 45, 3) := by decide +kernel
theorem dX6_advance_41 : decode cX6_advance 41 = .ok (.bipush 6, 2) := by decide +kernel
theorem dX6_advance_43 : decode cX6_advance 43 = .ok (.if_icmp .le 7, 3) := by decide +kernel
theorem dX6_advance_46 : decode cX6_advance 46 = .ok (.iconst 3, 1) := by decide +kernel
theorem dX6_advance_47 : decode cX6_advance 47 = .ok (.goto 4, 3) := by decide +kernel
theorem dX6_advance_50 : decode cX6_advance 50 = .ok (.iconst 1, 1) := by decide +kernel
theorem dX6_advance_51 : decode cX6_advance 51 = .ok (.putfield 19, 3) := by decide +kernel
theorem dX6_advance_54 : decode cX6_advance 54 = .ok (.goto 70, 3) := by decide +kernel
theorem dX6_advance_57 : decode cX6_advance 57 = .ok (.iload_n 1, 1) := by decide +kernel
theorem dX6_advance_58 : decode cX6_advance 58 = .ok (.invokestatic 49, 3) := by decide +kernel
theorem dX6_advance_61 : decode cX6_advance 61 = .ok (.ifCond .eq 29, 3) := by decide +kernel
theorem dX6_advance_64 : decode cX6_advance 64 = .ok (.aload_n 0, 1) := by decide +kernel
theorem dX6_advance_65 : decode cX6_advance 65 = .ok (.aload_n 0, 1) := by decide +kernel
theorem dX6_advance_66 : decode cX6_advance 66 = .ok (.invokevirtual 52, 3) := by decide +kernel
theorem dX6_advance_69 : decode cX6_advance 69 = .ok (.iconst 5, 1) := by decide +kernel
theorem dX6_advance_70 : decode cX6_advance 70 = .ok (.if_icmp .le 7, 3) := by decide +kernel
theorem dX6_advance_73 : decode cX6_advance 73 = .ok (.iconst 3, 1) := by decide +kernel
theorem dX6_advance_74 : decode cX6_advance 74 = .ok (.goto 10, 3) := by decide +kernel
theorem dX6_advance_77 : decode cX6_advance 77 = .ok (.aload_n 0, 1) := by decide +kernel
theorem dX6_advance_78 : decode cX6_advance 78 = .ok (.getfield 25, 3) := by decide +kernel
theorem dX6_advance_81 : decode cX6_advance 81 = .ok (.invokestatic 55, 3) := by decide +kernel
theorem dX6_advance_84 : decode cX6_advance 84 = .ok (.putfield 19, 3) := by decide +kernel
theorem dX6_advance_87 : decode cX6_advance 87 = .ok (.goto 37, 3) := by decide +kernel
theorem dX6_advance_90 : decode cX6_advance 90 = .ok (.aload_n 0, 1) := by decide +kernel
theorem dX6_advance_91 : decode cX6_advance 91 = .ok (.iload_n 1, 1) := by decide +kernel
theorem dX6_advance_92 : decode cX6_advance 92 = .ok (.invokestatic 59, 3) := by decide +kernel
theorem dX6_advance_95 : decode cX6_advance 95 = .ok (.ifCond .eq 7, 3) := by decide +kernel
theorem dX6_advance_98 : decode cX6_advance 98 = .ok (.iload_n 1, 1) := by decide +kernel
theorem dX6_advance_99 : decode cX6_advance 99 = .ok (.goto 12, 3) := by decide +kernel
theorem dX6_advance_102 : decode cX6_advance 102 = .ok (.iload_n 1, 1) := by decide +kernel
theorem dX6_advance_103 : decode cX6_advance 103 = .ok (.ifCond .ne 7, 3) := by decide +kernel
theorem dX6_advance_106 : decode cX6_advance 106 = .ok (.iconst 0, 1) := by decide +kernel
theorem dX6_advance_107 : decode cX6_advance 107 = .ok (.goto 4, 3) := by decide +kernel
theorem dX6_advance_110 : decode cX6_advance 110 = .ok (.iconst 3, 1) := by decide +kernel
theorem dX6_advance_111 : decode cX6_advance 111 = .ok (.putfield 19, 3) := by decide +kernel
theorem dX6_advance_114 : decode cX6_advance 114 = .ok (.aload_n 0, 1) := by decide +kernel
theorem dX6_advance_115 : decode cX6_advance 115 = .ok (.dup, 1) := by decide +kernel
theorem dX6_advance_116 : decode cX6_advance 116 = .ok (.getfield 15, 3) := by decide +kernel
theorem dX6_advance_119 : decode cX6_advance 119 = .ok (.iconst 1, 1) := by decide +kernel
theorem dX6_advance_120 : decode cX6_advance 120 = .ok (.iadd, 1) := by decide +kernel
theorem dX6_advance_121 : decode cX6_advance 121 = .ok (.putfield 15, 3) := by decide +kernel
theorem dX6_advance_124 : decode cX6_advance 124 = .ok (.return_, 1) := by decide +kernel
theorem dX6_skipBlanks_0 : decode cX6_skipBlanks 0 = .ok (.aload_n 0, 1) := by decide +kernel
theorem dX6_skipBlanks_1 : decode cX6_skipBlanks 1 = .ok (.getfield 15, 3) := by decide +kernel
theorem dX6_skipBlanks_4 : decode cX6_skipBlanks 4 = .ok (.sipush 900, 3) := by decide +kernel
theorem dX6_skipBlanks_7 : decode cX6_skipBlanks 7 = .ok (.if_icmp .ge 48, 3) := by decide +kernel
theorem dX6_skipBlanks_10 : decode cX6_skipBlanks 10 = .ok (.aload_n 0, 1) := by decide +kernel
theorem dX6_skipBlanks_11 : decode cX6_skipBlanks 11 = .ok (.getfield 9, 3) := by decide +kernel
theorem dX6_skipBlanks_14 : decode cX6_skipBlanks 14 = .ok (.aload_n 0, 1) := by decide +kernel
theorem dX6_skipBlanks_15 : decode cX6_skipBlanks 15 = .ok (.getfield 15, 3) := by decide +kernel
theorem dX6_skipBlanks_18 : decode cX6_skipBlanks 18 = .ok (.invokevirtual 35, 3) := by decide +kernel
theorem dX6_skipBlanks_21 : decode cX6_skipBlanks 21 = .ok (.bipush 32, 2) := by decide +kernel
theorem dX6_skipBlanks_23 : decode cX6_skipBlanks 23 = .ok (.if_icmp .eq 19, 3) := by decide +kernel
theorem dX6_skipBlanks_26 : decode cX6_skipBlanks 26 = .ok (.aload_n 0, 1) := by decide +kernel
theorem dX6_skipBlanks_27 : decode cX6_skipBlanks 27 = .ok (.getfield 9, 3) := by decide +kernel
theorem dX6_skipBlanks_30 : decode cX6_skipBlanks 30 = .ok (.aload_n 0, 1) := by decide +kernel
theorem dX6_skipBlanks_31 : decode cX6_skipBlanks 31 = .ok (.getfield 15, 3) := by decide +kernel
theorem dX6_skipBlanks_34 : decode cX6_skipBlanks 34 = .ok (.invokevirtual 35, 3) := by decide +kernel
theorem dX6_skipBlanks_37 : decode cX6_skipBlanks 37 = .ok (.bipush 10, 2) := by decide +kernel
theorem dX6_skipBlanks_39 : decode cX6_skipBlanks 39 = .ok (.if_icmp .ne 16, 3) := by decide +kernel
theorem dX6_skipBlanks_42 : decode cX6_skipBlanks 42 = .ok (.aload_n 0, 1) := by decide +kernel
theorem dX6_skipBlanks_43 : decode cX6_skipBlanks 43 = .ok (.dup, 1) := by decide +kernel
theorem dX6_skipBlanks_44 : decode cX6_skipBlanks 44 = .ok (.getfield 15, 3) := by decide +kernel
theorem dX6_skipBlanks_47 : decode cX6_skipBlanks 47 = .ok (.iconst 1, 1) := by decide +kernel
theorem dX6_skipBlanks_48 : decode cX6_skipBlanks 48 = .ok (.iadd, 1) := by decide +kernel
theorem dX6_skipBlanks_49 : decode cX6_skipBlanks 49 = .ok (.putfield 15, 3) := by decide +kernel
theorem dX6_skipBlanks_52 : decode cX6_skipBlanks 52 = .ok (.goto (-52), 3) := by decide +kernel
theorem dX6_skipBlanks_55 : decode cX6_skipBlanks 55 = .ok (.return_, 1) := by decide +kernel
theorem dX6_takeDigits_0 : decode cX6_takeDigits 0 = .ok (.iconst 0, 1) := by decide +kernel
theorem dX6_takeDigits_1 : decode cX6_takeDigits 1 = .ok (.istore_n 1, 1) := by decide +kernel
theorem dX6_takeDigits_2 : decode cX6_takeDigits 2 = .ok (.iload_n 1, 1) := by decide +kernel
theorem dX6_takeDigits_3 : decode cX6_takeDigits 3 = .ok (.sipush 900, 3) := by decide +kernel
theorem dX6_takeDigits_6 : decode cX6_takeDigits 6 = .ok (.if_icmp .ge 64, 3) := by decide +kernel
theorem dX6_takeDigits_9 : decode cX6_takeDigits 9 = .ok (.aload_n 0, 1) := by decide +kernel
theorem dX6_takeDigits_10 : decode cX6_takeDigits 10 = .ok (.getfield 9, 3) := by decide +kernel
theorem dX6_takeDigits_13 : decode cX6_takeDigits 13 = .ok (.aload_n 0, 1) := by decide +kernel
theorem dX6_takeDigits_14 : decode cX6_takeDigits 14 = .ok (.getfield 15, 3) := by decide +kernel
theorem dX6_takeDigits_17 : decode cX6_takeDigits 17 = .ok (.invokevirtual 35, 3) := by decide +kernel
theorem dX6_takeDigits_20 : decode cX6_takeDigits 20 = .ok (.invokestatic 41, 3) := by decide +kernel
theorem dX6_takeDigits_23 : decode cX6_takeDigits 23 = .ok (.ifCond .eq 47, 3) := by decide +kernel
theorem dX6_takeDigits_26 : decode cX6_takeDigits 26 = .ok (.aload_n 0, 1) := by decide +kernel
theorem dX6_takeDigits_27 : decode cX6_takeDigits 27 = .ok (.aload_n 0, 1) := by decide +kernel
theorem dX6_takeDigits_28 : decode cX6_takeDigits 28 = .ok (.getfield 25, 3) := by decide +kernel
theorem dX6_takeDigits_31 : decode cX6_takeDigits 31 = .ok (.ldc2_w 62, 3) := by decide +kernel
theorem dX6_takeDigits_34 : decode cX6_takeDigits 34 = .ok (.lmul, 1) := by decide +kernel
theorem dX6_takeDigits_35 : decode cX6_takeDigits 35 = .ok (.aload_n 0, 1) := by decide +kernel
theorem dX6_takeDigits_36 : decode cX6_takeDigits 36 = .ok (.getfield 9, 3) := by decide +kernel
theorem dX6_takeDigits_39 : decode cX6_takeDigits 39 = .ok (.aload_n 0, 1) := by decide +kernel
theorem dX6_takeDigits_40 : decode cX6_takeDigits 40 = .ok (.getfield 15, 3) := by decide +kernel
theorem dX6_takeDigits_43 : decode cX6_takeDigits 43 = .ok (.invokevirtual 35, 3) := by decide +kernel
theorem dX6_takeDigits_46 : decode cX6_takeDigits 46 = .ok (.bipush 48, 2) := by decide +kernel
theorem dX6_takeDigits_48 : decode cX6_takeDigits 48 = .ok (.isub, 1) := by decide +kernel
theorem dX6_takeDigits_49 : decode cX6_takeDigits 49 = .ok (.i2l, 1) := by decide +kernel
theorem dX6_takeDigits_50 : decode cX6_takeDigits 50 = .ok (.ladd, 1) := by decide +kernel
theorem dX6_takeDigits_51 : decode cX6_takeDigits 51 = .ok (.putfield 25, 3) := by decide +kernel
theorem dX6_takeDigits_54 : decode cX6_takeDigits 54 = .ok (.aload_n 0, 1) := by decide +kernel
theorem dX6_takeDigits_55 : decode cX6_takeDigits 55 = .ok (.dup, 1) := by decide +kernel
theorem dX6_takeDigits_56 : decode cX6_takeDigits 56 = .ok (.getfield 15, 3) := by decide +kernel
theorem dX6_takeDigits_59 : decode cX6_takeDigits 59 = .ok (.iconst 1, 1) := by decide +kernel
theorem dX6_takeDigits_60 : decode cX6_takeDigits 60 = .ok (.iadd, 1) := by decide +kernel
theorem dX6_takeDigits_61 : decode cX6_takeDigits 61 = .ok (.putfield 15, 3) := by decide +kernel
theorem dX6_takeDigits_64 : decode cX6_takeDigits 64 = .ok (.iinc 1 1, 3) := by decide +kernel
theorem dX6_takeDigits_67 : decode cX6_takeDigits 67 = .ok (.goto (-65), 3) := by decide +kernel
theorem dX6_takeDigits_70 : decode cX6_takeDigits 70 = .ok (.iload_n 1, 1) := by decide +kernel
theorem dX6_takeDigits_71 : decode cX6_takeDigits 71 = .ok (.ireturn, 1) := by decide +kernel
theorem dX6_takeLetters_0 : decode cX6_takeLetters 0 = .ok (.iconst 0, 1) := by decide +kernel
theorem dX6_takeLetters_1 : decode cX6_takeLetters 1 = .ok (.istore_n 1, 1) := by decide +kernel
theorem dX6_takeLetters_2 : decode cX6_takeLetters 2 = .ok (.iload_n 1, 1) := by decide +kernel
theorem dX6_takeLetters_3 : decode cX6_takeLetters 3 = .ok (.sipush 900, 3) := by decide +kernel
theorem dX6_takeLetters_6 : decode cX6_takeLetters 6 = .ok (.if_icmp .ge 67, 3) := by decide +kernel
theorem dX6_takeLetters_9 : decode cX6_takeLetters 9 = .ok (.aload_n 0, 1) := by decide +kernel
theorem dX6_takeLetters_10 : decode cX6_takeLetters 10 = .ok (.getfield 9, 3) := by decide +kernel
theorem dX6_takeLetters_13 : decode cX6_takeLetters 13 = .ok (.aload_n 0, 1) := by decide +kernel
theorem dX6_takeLetters_14 : decode cX6_takeLetters 14 = .ok (.getfield 15, 3) := by decide +kernel
theorem dX6_takeLetters_17 : decode cX6_takeLetters 17 = .ok (.invokevirtual 35, 3) := by decide +kernel
theorem dX6_takeLetters_20 : decode cX6_takeLetters 20 = .ok (.invokestatic 49, 3) := by decide +kernel
theorem dX6_takeLetters_23 : decode cX6_takeLetters 23 = .ok (.ifCond .eq 50, 3) := by decide +kernel
theorem dX6_takeLetters_26 : decode cX6_takeLetters 26 = .ok (.iload_n 1, 1) := by decide +kernel
theorem dX6_takeLetters_27 : decode cX6_takeLetters 27 = .ok (.iconst 5, 1) := by decide +kernel
theorem dX6_takeLetters_28 : decode cX6_takeLetters 28 = .ok (.if_icmp .ge 29, 3) := by decide +kernel
theorem dX6_takeLetters_31 : decode cX6_takeLetters 31 = .ok (.aload_n 0, 1) := by decide +kernel
theorem dX6_takeLetters_32 : decode cX6_takeLetters 32 = .ok (.dup, 1) := by decide +kernel
theorem dX6_takeLetters_33 : decode cX6_takeLetters 33 = .ok (.getfield 25, 3) := by decide +kernel
theorem dX6_takeLetters_36 : decode cX6_takeLetters 36 = .ok (.aload_n 0, 1) := by decide +kernel
theorem dX6_takeLetters_37 : decode cX6_takeLetters 37 = .ok (.getfield 9, 3) := by decide +kernel
theorem dX6_takeLetters_40 : decode cX6_takeLetters 40 = .ok (.aload_n 0, 1) := by decide +kernel
theorem dX6_takeLetters_41 : decode cX6_takeLetters 41 = .ok (.getfield 15, 3) := by decide +kernel
theorem dX6_takeLetters_44 : decode cX6_takeLetters 44 = .ok (.invokevirtual 35, 3) := by decide +kernel
theorem dX6_takeLetters_47 : decode cX6_takeLetters 47 = .ok (.i2l, 1) := by decide +kernel
theorem dX6_takeLetters_48 : decode cX6_takeLetters 48 = .ok (.bipush 8, 2) := by decide +kernel
theorem dX6_takeLetters_50 : decode cX6_takeLetters 50 = .ok (.iload_n 1, 1) := by decide +kernel
theorem dX6_takeLetters_51 : decode cX6_takeLetters 51 = .ok (.imul, 1) := by decide +kernel
theorem dX6_takeLetters_52 : decode cX6_takeLetters 52 = .ok (.lshl, 1) := by decide +kernel
theorem dX6_takeLetters_53 : decode cX6_takeLetters 53 = .ok (.lor, 1) := by decide +kernel
theorem dX6_takeLetters_54 : decode cX6_takeLetters 54 = .ok (.putfield 25, 3) := by decide +kernel
theorem dX6_takeLetters_57 : decode cX6_takeLetters 57 = .ok (.aload_n 0, 1) := by decide +kernel
theorem dX6_takeLetters_58 : decode cX6_takeLetters 58 = .ok (.dup, 1) := by decide +kernel
theorem dX6_takeLetters_59 : decode cX6_takeLetters 59 = .ok (.getfield 15, 3) := by decide +kernel
theorem dX6_takeLetters_62 : decode cX6_takeLetters 62 = .ok (.iconst 1, 1) := by decide +kernel
theorem dX6_takeLetters_63 : decode cX6_takeLetters 63 = .ok (.iadd, 1) := by decide +kernel
theorem dX6_takeLetters_64 : decode cX6_takeLetters 64 = .ok (.putfield 15, 3) := by decide +kernel
theorem dX6_takeLetters_67 : decode cX6_takeLetters 67 = .ok (.iinc 1 1, 3) := by decide +kernel
theorem dX6_takeLetters_70 : decode cX6_takeLetters 70 = .ok (.goto (-68), 3) := by decide +kernel
theorem dX6_takeLetters_73 : decode cX6_takeLetters 73 = .ok (.iload_n 1, 1) := by decide +kernel
theorem dX6_takeLetters_74 : decode cX6_takeLetters 74 = .ok (.ireturn, 1) := by decide +kernel
theorem dX6_isDigit_0 : decode cX6_isDigit 0 = .ok (.iload_n 0, 1) := by decide +kernel
theorem dX6_isDigit_1 : decode cX6_isDigit 1 = .ok (.bipush 48, 2) := by decide +kernel
theorem dX6_isDigit_3 : decode cX6_isDigit 3 = .ok (.if_icmp .lt 13, 3) := by decide +kernel
theorem dX6_isDigit_6 : decode cX6_isDigit 6 = .ok (.iload_n 0, 1) := by decide +kernel
theorem dX6_isDigit_7 : decode cX6_isDigit 7 = .ok (.bipush 57, 2) := by decide +kernel
theorem dX6_isDigit_9 : decode cX6_isDigit 9 = .ok (.if_icmp .gt 7, 3) := by decide +kernel
theorem dX6_isDigit_12 : decode cX6_isDigit 12 = .ok (.iconst 1, 1) := by decide +kernel
theorem dX6_isDigit_13 : decode cX6_isDigit 13 = .ok (.goto 4, 3) := by decide +kernel
theorem dX6_isDigit_16 : decode cX6_isDigit 16 = .ok (.iconst 0, 1) := by decide +kernel
theorem dX6_isDigit_17 : decode cX6_isDigit 17 = .ok (.ireturn, 1) := by decide +kernel
theorem dX6_isLetter_0 : decode cX6_isLetter 0 = .ok (.iload_n 0, 1) := by decide +kernel
theorem dX6_isLetter_1 : decode cX6_isLetter 1 = .ok (.bipush 97, 2) := by decide +kernel
theorem dX6_isLetter_3 : decode cX6_isLetter 3 = .ok (.if_icmp .lt 13, 3) := by decide +kernel
theorem dX6_isLetter_6 : decode cX6_isLetter 6 = .ok (.iload_n 0, 1) := by decide +kernel
theorem dX6_isLetter_7 : decode cX6_isLetter 7 = .ok (.bipush 122, 2) := by decide +kernel
theorem dX6_isLetter_9 : decode cX6_isLetter 9 = .ok (.if_icmp .gt 7, 3) := by decide +kernel
theorem dX6_isLetter_12 : decode cX6_isLetter 12 = .ok (.iconst 1, 1) := by decide +kernel
theorem dX6_isLetter_13 : decode cX6_isLetter 13 = .ok (.goto 4, 3) := by decide +kernel
theorem dX6_isLetter_16 : decode cX6_isLetter 16 = .ok (.iconst 0, 1) := by decide +kernel
theorem dX6_isLetter_17 : decode cX6_isLetter 17 = .ok (.ireturn, 1) := by decide +kernel
theorem dX6_isSign_0 : decode cX6_isSign 0 = .ok (.iload_n 0, 1) := by decide +kernel
theorem dX6_isSign_1 : decode cX6_isSign 1 = .ok (.tableswitch 253 35 93 #[251, 253, 251, 253, 253, 251, 251, 251, 251, 253, 251, 253, 251, 253, 253, 253, 253, 253, 253, 253, 253, 253, 253, 251, 251, 251, 251, 253, 251, 253, 253, 253, 253, 253, 253, 253, 253, 253, 253, 253, 253, 253, 253, 253, 253, 253, 253, 253, 253, 253, 253, 253, 253, 253, 253, 253, 251, 253, 251], 251) := by decide +kernel
theorem dX6_isSign_252 : decode cX6_isSign 252 = .ok (.iconst 1, 1) := by decide +kernel
theorem dX6_isSign_253 : decode cX6_isSign 253 = .ok (.ireturn, 1) := by decide +kernel
theorem dX6_isSign_254 : decode cX6_isSign 254 = .ok (.iconst 0, 1) := by decide +kernel
theorem dX6_isSign_255 : decode cX6_isSign 255 = .ok (.ireturn, 1) := by decide +kernel
theorem dX6_kindOfWord_0 : decode cX6_kindOfWord 0 = .ok (.lload_n 0, 1) := by decide +kernel
theorem dX6_kindOfWord_1 : decode cX6_kindOfWord 1 = .ok (.ldc2_w 64, 3) := by decide +kernel
theorem dX6_kindOfWord_4 : decode cX6_kindOfWord 4 = .ok (.lcmp, 1) := by decide +kernel
theorem dX6_kindOfWord_5 : decode cX6_kindOfWord 5 = .ok (.ifCond .ne 5, 3) := by decide +kernel
theorem dX6_kindOfWord_8 : decode cX6_kindOfWord 8 = .ok (.iconst 4, 1) := by decide +kernel
theorem dX6_kindOfWord_9 : decode cX6_kindOfWord 9 = .ok (.ireturn, 1) := by decide +kernel
theorem dX6_kindOfWord_10 : decode cX6_kindOfWord 10 = .ok (.lload_n 0, 1) := by decide +kernel
theorem dX6_kindOfWord_11 : decode cX6_kindOfWord 11 = .ok (.ldc2_w 66, 3) := by decide +kernel
theorem dX6_kindOfWord_14 : decode cX6_kindOfWord 14 = .ok (.lcmp, 1) := by decide +kernel
theorem dX6_kindOfWord_15 : decode cX6_kindOfWord 15 = .ok (.ifCond .ne 5, 3) := by decide +kernel
theorem dX6_kindOfWord_18 : decode cX6_kindOfWord 18 = .ok (.iconst 5, 1) := by decide +kernel
theorem dX6_kindOfWord_19 : decode cX6_kindOfWord 19 = .ok (.ireturn, 1) := by decide +kernel
theorem dX6_kindOfWord_20 : decode cX6_kindOfWord 20 = .ok (.lload_n 0, 1) := by decide +kernel
theorem dX6_kindOfWord_21 : decode cX6_kindOfWord 21 = .ok (.ldc2_w 68, 3) := by decide +kernel
theorem dX6_kindOfWord_24 : decode cX6_kindOfWord 24 = .ok (.lcmp, 1) := by decide +kernel
theorem dX6_kindOfWord_25 : decode cX6_kindOfWord 25 = .ok (.ifCond .ne 6, 3) := by decide +kernel
theorem dX6_kindOfWord_28 : decode cX6_kindOfWord 28 = .ok (.bipush 6, 2) := by decide +kernel
theorem dX6_kindOfWord_30 : decode cX6_kindOfWord 30 = .ok (.ireturn, 1) := by decide +kernel
theorem dX6_kindOfWord_31 : decode cX6_kindOfWord 31 = .ok (.lload_n 0, 1) := by decide +kernel
theorem dX6_kindOfWord_32 : decode cX6_kindOfWord 32 = .ok (.ldc2_w 70, 3) := by decide +kernel
theorem dX6_kindOfWord_35 : decode cX6_kindOfWord 35 = .ok (.lcmp, 1) := by decide +kernel
theorem dX6_kindOfWord_36 : decode cX6_kindOfWord 36 = .ok (.ifCond .ne 6, 3) := by decide +kernel
theorem dX6_kindOfWord_39 : decode cX6_kindOfWord 39 = .ok (.bipush 7, 2) := by decide +kernel
theorem dX6_kindOfWord_41 : decode cX6_kindOfWord 41 = .ok (.ireturn, 1) := by decide +kernel
theorem dX6_kindOfWord_42 : decode cX6_kindOfWord 42 = .ok (.lload_n 0, 1) := by decide +kernel
theorem dX6_kindOfWord_43 : decode cX6_kindOfWord 43 = .ok (.ldc2_w 72, 3) := by decide +kernel
theorem dX6_kindOfWord_46 : decode cX6_kindOfWord 46 = .ok (.lcmp, 1) := by decide +kernel
theorem dX6_kindOfWord_47 : decode cX6_kindOfWord 47 = .ok (.ifCond .ne 8, 3) := by decide +kernel
theorem dX6_kindOfWord_50 : decode cX6_kindOfWord 50 = .ok (.bipush 8, 2) := by decide +kernel
theorem dX6_kindOfWord_52 : decode cX6_kindOfWord 52 = .ok (.goto 4, 3) := by decide +kernel
theorem dX6_kindOfWord_55 : decode cX6_kindOfWord 55 = .ok (.iconst 2, 1) := by decide +kernel
theorem dX6_kindOfWord_56 : decode cX6_kindOfWord 56 = .ok (.ireturn, 1) := by decide +kernel
theorem dX7_init_0 : decode cX7_init 0 = .ok (.aload_n 0, 1) := by decide +kernel
theorem dX7_init_1 : decode cX7_init 1 = .ok (.invokespecial 1, 3) := by decide +kernel
theorem dX7_init_4 : decode cX7_init 4 = .ok (.aload_n 0, 1) := by decide +kernel
theorem dX7_init_5 : decode cX7_init 5 = .ok (.lconst 0, 1) := by decide +kernel
theorem dX7_init_6 : decode cX7_init 6 = .ok (.putfield 7, 3) := by decide +kernel
theorem dX7_init_9 : decode cX7_init 9 = .ok (.aload_n 0, 1) := by decide +kernel
theorem dX7_init_10 : decode cX7_init 10 = .ok (.lconst 0, 1) := by decide +kernel
theorem dX7_init_11 : decode cX7_init 11 = .ok (.putfield 13, 3) := by decide +kernel
theorem dX7_init_14 : decode cX7_init 14 = .ok (.return_, 1) := by decide +kernel
theorem dX7_clear_0 : decode cX7_clear 0 = .ok (.aload_n 0, 1) := by decide +kernel
theorem dX7_clear_1 : decode cX7_clear 1 = .ok (.lconst 0, 1) := by decide +kernel
theorem dX7_clear_2 : decode cX7_clear 2 = .ok (.putfield 7, 3) := by decide +kernel
theorem dX7_clear_5 : decode cX7_clear 5 = .ok (.aload_n 0, 1) := by decide +kernel
theorem dX7_clear_6 : decode cX7_clear 6 = .ok (.lconst 0, 1) := by decide +kernel
theorem dX7_clear_7 : decode cX7_clear 7 = .ok (.putfield 13, 3) := by decide +kernel
theorem dX7_clear_10 : decode cX7_clear 10 = .ok (.return_, 1) := by decide +kernel
theorem dX7_add_0 : decode cX7_add 0 = .ok (.aload_n 0, 1) := by decide +kernel
theorem dX7_add_1 : decode cX7_add 1 = .ok (.getfield 7, 3) := by decide +kernel
theorem dX7_add_4 : decode cX7_add 4 = .ok (.lload_n 1, 1) := by decide +kernel
theorem dX7_add_5 : decode cX7_add 5 = .ok (.ladd, 1) := by decide +kernel
theorem dX7_add_6 : decode cX7_add 6 = .ok (.lstore_n 3, 1) := by decide +kernel
theorem dX7_add_7 : decode cX7_add 7 = .ok (.aload_n 0, 1) := by decide +kernel
theorem dX7_add_8 : decode cX7_add 8 = .ok (.getfield 7, 3) := by decide +kernel
theorem dX7_add_11 : decode cX7_add 11 = .ok (.lload_n 1, 1) := by decide +kernel
theorem dX7_add_12 : decode cX7_add 12 = .ok (.land, 1) := by decide +kernel
theorem dX7_add_13 : decode cX7_add 13 = .ok (.aload_n 0, 1) := by decide +kernel
theorem dX7_add_14 : decode cX7_add 14 = .ok (.getfield 7, 3) := by decide +kernel
theorem dX7_add_17 : decode cX7_add 17 = .ok (.lload_n 1, 1) := by decide +kernel
theorem dX7_add_18 : decode cX7_add 18 = .ok (.lor, 1) := by decide +kernel
theorem dX7_add_19 : decode cX7_add 19 = .ok (.lload_n 3, 1) := by decide +kernel
theorem dX7_add_20 : decode cX7_add 20 = .ok (.ldc2_w 16, 3) := by decide +kernel
theorem dX7_add_23 : decode cX7_add 23 = .ok (.lxor, 1) := by decide +kernel
theorem dX7_add_24 : decode cX7_add 24 = .ok (.land, 1) := by decide +kernel
theorem dX7_add_25 : decode cX7_add 25 = .ok (.lor, 1) := by decide +kernel
theorem dX7_add_26 : decode cX7_add 26 = .ok (.bipush 63, 2) := by decide +kernel
theorem dX7_add_28 : decode cX7_add 28 = .ok (.lushr, 1) := by decide +kernel
theorem dX7_add_29 : decode cX7_add 29 = .ok (.lstore 5, 2) := by decide +kernel
theorem dX7_add_31 : decode cX7_add 31 = .ok (.aload_n 0, 1) := by decide +kernel
theorem dX7_add_32 : decode cX7_add 32 = .ok (.lload_n 3, 1) := by decide +kernel
theorem dX7_add_33 : decode cX7_add 33 = .ok (.putfield 7, 3) := by decide +kernel
theorem dX7_add_36 : decode cX7_add 36 = .ok (.aload_n 0, 1) := by decide +kernel
theorem dX7_add_37 : decode cX7_add 37 = .ok (.dup, 1) := by decide +kernel
theorem dX7_add_38 : decode cX7_add 38 = .ok (.getfield 13, 3) := by decide +kernel
theorem dX7_add_41 : decode cX7_add 41 = .ok (.lload_n 1, 1) := by decide +kernel
theorem dX7_add_42 : decode cX7_add 42 = .ok (.bipush 63, 2) := by decide +kernel
theorem dX7_add_44 : decode cX7_add 44 = .ok (.lshr, 1) := by decide +kernel
theorem dX7_add_45 : decode cX7_add 45 = .ok (.lload 5, 2) := by decide +kernel
theorem dX7_add_47 : decode cX7_add 47 = .ok (.ladd, 1) := by decide +kernel
theorem dX7_add_48 : decode cX7_add 48 = .ok (.ladd, 1) := by decide +kernel
theorem dX7_add_49 : decode cX7_add 49 = .ok (.putfield 13, 3) := by decide +kernel
theorem dX7_add_52 : decode cX7_add 52 = .ok (.return_, 1) := by decide +kernel
theorem dX7_is_0 : decode cX7_is 0 = .ok (.aload_n 0, 1) := by decide +kernel
theorem dX7_is_1 : decode cX7_is 1 = .ok (.getfield 7, 3) := by decide +kernel
theorem dX7_is_4 : decode cX7_is 4 = .ok (.lload_n 1, 1) := by decide +kernel
theorem dX7_is_5 : decode cX7_is 5 = .ok (.lcmp, 1) := by decide +kernel
theorem dX7_is_6 : decode cX7_is 6 = .ok (.ifCond .ne 19, 3) := by decide +kernel
theorem dX7_is_9 : decode cX7_is 9 = .ok (.aload_n 0, 1) := by decide +kernel
theorem dX7_is_10 : decode cX7_is 10 = .ok (.getfield 13, 3) := by decide +kernel
theorem dX7_is_13 : decode cX7_is 13 = .ok (.lload_n 1, 1) := by decide +kernel
theorem dX7_is_14 : decode cX7_is 14 = .ok (.bipush 63, 2) := by decide +kernel
theorem dX7_is_16 : decode cX7_is 16 = .ok (.lshr, 1) := by decide +kernel
theorem dX7_is_17 : decode cX7_is 17 = .ok (.lcmp, 1) := by decide +kernel
theorem dX7_is_18 : decode cX7_is 18 = .ok (.ifCond .ne 7, 3) := by decide +kernel
theorem dX7_is_21 : decode cX7_is 21 = .ok (.iconst 1, 1) := by decide +kernel
theorem dX7_is_22 : decode cX7_is 22 = .ok (.goto 4, 3) := by decide +kernel
theorem dX7_is_25 : decode cX7_is 25 = .ok (.iconst 0, 1) := by decide +kernel
theorem dX7_is_26 : decode cX7_is 26 = .ok (.ireturn, 1) := by decide +kernel
theorem dX7_part_0 : decode cX7_part 0 = .ok (.iload_n 1, 1) := by decide +kernel
theorem dX7_part_1 : decode cX7_part 1 = .ok (.ifCond .ne 10, 3) := by decide +kernel
theorem dX7_part_4 : decode cX7_part 4 = .ok (.aload_n 0, 1) := by decide +kernel
theorem dX7_part_5 : decode cX7_part 5 = .ok (.getfield 7, 3) := by decide +kernel
theorem dX7_part_8 : decode cX7_part 8 = .ok (.goto 22, 3) := by decide +kernel
theorem dX7_part_11 : decode cX7_part 11 = .ok (.iload_n 1, 1) := by decide +kernel
theorem dX7_part_12 : decode cX7_part 12 = .ok (.iconst 1, 1) := by decide +kernel
theorem dX7_part_13 : decode cX7_part 13 = .ok (.if_icmp .ne 13, 3) := by decide +kernel
theorem dX7_part_16 : decode cX7_part 16 = .ok (.aload_n 0, 1) := by decide +kernel
theorem dX7_part_17 : decode cX7_part 17 = .ok (.getfield 7, 3) := by decide +kernel
theorem dX7_part_20 : decode cX7_part 20 = .ok (.bipush 32, 2) := by decide +kernel
theorem dX7_part_22 : decode cX7_part 22 = .ok (.lushr, 1) := by decide +kernel
theorem dX7_part_23 : decode cX7_part 23 = .ok (.goto 7, 3) := by decide +kernel
theorem dX7_part_26 : decode cX7_part 26 = .ok (.aload_n 0, 1) := by decide +kernel
theorem dX7_part_27 : decode cX7_part 27 = .ok (.getfield 13, 3) := by decide +kernel
theorem dX7_part_30 : decode cX7_part 30 = .ok (.lstore_n 2, 1) := by decide +kernel
theorem dX7_part_31 : decode cX7_part 31 = .ok (.lload_n 2, 1) := by decide +kernel
theorem dX7_part_32 : decode cX7_part 32 = .ok (.ldc2_w 18, 3) := by decide +kernel
theorem dX7_part_35 : decode cX7_part 35 = .ok (.land, 1) := by decide +kernel
theorem dX7_part_36 : decode cX7_part 36 = .ok (.lreturn, 1) := by decide +kernel
theorem dX8_init_0 : decode cX8_init 0 = .ok (.aload_n 0, 1) := by decide +kernel
theorem dX8_init_1 : decode cX8_init 1 = .ok (.invokespecial 3, 3) := by decide +kernel
theorem dX8_init_4 : decode cX8_init 4 = .ok (.aload_n 0, 1) := by decide +kernel
theorem dX8_init_5 : decode cX8_init 5 = .ok (.new 9, 3) := by decide +kernel
theorem dX8_init_8 : decode cX8_init 8 = .ok (.dup, 1) := by decide +kernel
theorem dX8_init_9 : decode cX8_init 9 = .ok (.invokespecial 11, 3) := by decide +kernel
theorem dX8_init_12 : decode cX8_init 12 = .ok (.putfield 12, 3) := by decide +kernel
theorem dX8_init_15 : decode cX8_init 15 = .ok (.aload_n 0, 1) := by decide +kernel
theorem dX8_init_16 : decode cX8_init 16 = .ok (.new 9, 3) := by decide +kernel
theorem dX8_init_19 : decode cX8_init 19 = .ok (.dup, 1) := by decide +kernel
theorem dX8_init_20 : decode cX8_init 20 = .ok (.invokespecial 11, 3) := by decide +kernel
theorem dX8_init_23 : decode cX8_init 23 = .ok (.putfield 18, 3) := by decide +kernel
theorem dX8_init_26 : decode cX8_init 26 = .ok (.aload_n 0, 1) := by decide +kernel
theorem dX8_init_27 : decode cX8_init 27 = .ok (.new 21, 3) := by decide +kernel
theorem dX8_init_30 : decode cX8_init 30 = .ok (.dup, 1) := by decide +kernel
theorem dX8_init_31 : decode cX8_init 31 = .ok (.invokespecial 23, 3) := by decide +kernel
theorem dX8_init_34 : decode cX8_init 34 = .ok (.putfield 24, 3) := by decide +kernel
theorem dX8_init_37 : decode cX8_init 37 = .ok (.aload_n 0, 1) := by decide +kernel
theorem dX8_init_38 : decode cX8_init 38 = .ok (.lconst 0, 1) := by decide +kernel
theorem dX8_init_39 : decode cX8_init 39 = .ok (.putfield 28, 3) := by decide +kernel
theorem dX8_init_42 : decode cX8_init 42 = .ok (.aload_n 0, 1) := by decide +kernel
theorem dX8_init_43 : decode cX8_init 43 = .ok (.new 21, 3) := by decide +kernel
theorem dX8_init_46 : decode cX8_init 46 = .ok (.dup, 1) := by decide +kernel
theorem dX8_init_47 : decode cX8_init 47 = .ok (.invokespecial 23, 3) := by decide +kernel
theorem dX8_init_50 : decode cX8_init 50 = .ok (.putfield 32, 3) := by decide +kernel
theorem dX8_init_53 : decode cX8_init 53 = .ok (.aload_n 0, 1) := by decide +kernel
theorem dX8_init_54 : decode cX8_init 54 = .ok (.aload_n 1, 1) := by decide +kernel
theorem dX8_init_55 : decode cX8_init 55 = .ok (.putfield 35, 3) := by decide +kernel
theorem dX8_init_58 : decode cX8_init 58 = .ok (.aload_n 0, 1) := by decide +kernel
theorem dX8_init_59 : decode cX8_init 59 = .ok (.sipush 288, 3) := by decide +kernel
theorem dX8_init_62 : decode cX8_init 62 = .ok (.newarray .long, 2) := by decide +kernel
theorem dX8_init_64 : decode cX8_init 64 = .ok (.putfield 39, 3) := by decide +kernel
theorem dX8_init_67 : decode cX8_init 67 = .ok (.aload_n 0, 1) := by decide +kernel
theorem dX8_init_68 : decode cX8_init 68 = .ok (.iconst 0, 1) := by decide +kernel
theorem dX8_init_69 : decode cX8_init 69 = .ok (.putfield 43, 3) := by decide +kernel
theorem dX8_init_72 : decode cX8_init 72 = .ok (.aload_n 0, 1) := by decide +kernel
theorem dX8_init_73 : decode cX8_init 73 = .ok (.iconst 0, 1) := by decide +kernel
theorem dX8_init_74 : decode cX8_init 74 = .ok (.putfield 47, 3) := by decide +kernel
theorem dX8_init_77 : decode cX8_init 77 = .ok (.aload_n 0, 1) := by decide +kernel
theorem dX8_init_78 : decode cX8_init 78 = .ok (.bipush 12, 2) := by decide +kernel
theorem dX8_init_80 : decode cX8_init 80 = .ok (.newarray .int, 2) := by decide +kernel
theorem dX8_init_82 : decode cX8_init 82 = .ok (.putfield 50, 3) := by decide +kernel
theorem dX8_init_85 : decode cX8_init 85 = .ok (.aload_n 0, 1) := by decide +kernel
theorem dX8_init_86 : decode cX8_init 86 = .ok (.iconst 0, 1) := by decide +kernel
theorem dX8_init_87 : decode cX8_init 87 = .ok (.putfield 54, 3) := by decide +kernel
theorem dX8_init_90 : decode cX8_init 90 = .ok (.aload_n 0, 1) := by decide +kernel
theorem dX8_init_91 : decode cX8_init 91 = .ok (.iconst 0, 1) := by decide +kernel
theorem dX8_init_92 : decode cX8_init 92 = .ok (.putfield 57, 3) := by decide +kernel
theorem dX8_init_95 : decode cX8_init 95 = .ok (.return_, 1) := by decide +kernel
theorem dX8_open_0 : decode cX8_open 0 = .ok (.aload_n 0, 1) := by decide +kernel
theorem dX8_open_1 : decode cX8_open 1 = .ok (.aload_n 1, 1) := by decide +kernel
theorem dX8_open_2 : decode cX8_open 2 = .ok (.putfield 35, 3) := by decide +kernel
theorem dX8_open_5 : decode cX8_open 5 = .ok (.aload_n 0, 1) := by decide +kernel
theorem dX8_open_6 : decode cX8_open 6 = .ok (.getfield 12, 3) := by decide +kernel
theorem dX8_open_9 : decode cX8_open 9 = .ok (.invokevirtual 61, 3) := by decide +kernel
theorem dX8_open_12 : decode cX8_open 12 = .ok (.aload_n 0, 1) := by decide +kernel
theorem dX8_open_13 : decode cX8_open 13 = .ok (.getfield 18, 3) := by decide +kernel
theorem dX8_open_16 : decode cX8_open 16 = .ok (.invokevirtual 61, 3) := by decide +kernel
theorem dX8_open_19 : decode cX8_open 19 = .ok (.aload_n 0, 1) := by decide +kernel
theorem dX8_open_20 : decode cX8_open 20 = .ok (.invokevirtual 64, 3) := by decide +kernel
theorem dX8_open_23 : decode cX8_open 23 = .ok (.return_, 1) := by decide +kernel
theorem dX8_startCall_0 : decode cX8_startCall 0 = .ok (.aload_n 0, 1) := by decide +kernel
theorem dX8_startCall_1 : decode cX8_startCall 1 = .ok (.iconst 0, 1) := by decide +kernel
theorem dX8_startCall_2 : decode cX8_startCall 2 = .ok (.putfield 43, 3) := by decide +kernel
theorem dX8_startCall_5 : decode cX8_startCall 5 = .ok (.aload_n 0, 1) := by decide +kernel
theorem dX8_startCall_6 : decode cX8_startCall 6 = .ok (.iconst 0, 1) := by decide +kernel
theorem dX8_startCall_7 : decode cX8_startCall 7 = .ok (.putfield 54, 3) := by decide +kernel
theorem dX8_startCall_10 : decode cX8_startCall 10 = .ok (.aload_n 0, 1) := by decide +kernel
theorem dX8_startCall_11 : decode cX8_startCall 11 = .ok (.iconst 0, 1) := by decide +kernel
theorem dX8_startCall_12 : decode cX8_startCall 12 = .ok (.putfield 57, 3) := by decide +kernel
theorem dX8_startCall_15 : decode cX8_startCall 15 = .ok (.return_, 1) := by decide +kernel
theorem dX8_reasonAt_0 : decode cX8_reasonAt 0 = .ok (.iload_n 1, 1) := by decide +kernel
theorem dX8_reasonAt_1 : decode cX8_reasonAt 1 = .ok (.ifCond .lt 11, 3) := by decide +kernel
theorem dX8_reasonAt_4 : decode cX8_reasonAt 4 = .ok (.iload_n 1, 1) := by decide +kernel
theorem dX8_reasonAt_5 : decode cX8_reasonAt 5 = .ok (.aload_n 0, 1) := by decide +kernel
theorem dX8_reasonAt_6 : decode cX8_reasonAt 6 = .ok (.getfield 54, 3) := by decide +kernel
theorem dX8_reasonAt_9 : decode cX8_reasonAt 9 = .ok (.if_icmp .lt 8, 3) := by decide +kernel
theorem dX8_reasonAt_12 : decode cX8_reasonAt 12 = .ok (.bipush (-9), 2) := by decide +kernel
theorem dX8_reasonAt_14 : decode cX8_reasonAt 14 = .ok (.goto 18, 3) := by decide +kernel
theorem dX8_reasonAt_17 : decode cX8_reasonAt 17 = .ok (.aload_n 0, 1) := by decide +kernel
theorem dX8_reasonAt_18 : decode cX8_reasonAt 18 = .ok (.getfield 50, 3) := by decide +kernel
theorem dX8_reasonAt_21 : decode cX8_reasonAt 21 = .ok (.aload_n 0, 1) := by decide +kernel
theorem dX8_reasonAt_22 : decode cX8_reasonAt 22 = .ok (.getfield 54, 3) := by decide +kernel
theorem dX8_reasonAt_25 : decode cX8_reasonAt 25 = .ok (.iconst 1, 1) := by decide +kernel
theorem dX8_reasonAt_26 : decode cX8_reasonAt 26 = .ok (.isub, 1) := by decide +kernel
theorem dX8_reasonAt_27 : decode cX8_reasonAt 27 = .ok (.iload_n 1, 1) := by decide +kernel
theorem dX8_reasonAt_28 : decode cX8_reasonAt 28 = .ok (.isub, 1) := by decide +kernel
theorem dX8_reasonAt_29 : decode cX8_reasonAt 29 = .ok (.invokestatic 67, 3) := by decide +kernel
theorem dX8_reasonAt_32 : decode cX8_reasonAt 32 = .ok (.ireturn, 1) := by decide +kernel
theorem dX8_askFor_0 : decode cX8_askFor 0 = .ok (.aload_n 0, 1) := by decide +kernel
theorem dX8_askFor_1 : decode cX8_askFor 1 = .ok (.iload_n 1, 1) := by decide +kernel
theorem dX8_askFor_2 : decode cX8_askFor 2 = .ok (.lload_n 2, 1) := by decide +kernel
theorem dX8_askFor_3 : decode cX8_askFor 3 = .ok (.bipush (-9), 2) := by decide +kernel
theorem dX8_askFor_5 : decode cX8_askFor 5 = .ok (.invokevirtual 71, 3) := by decide +kernel
theorem dX8_askFor_8 : decode cX8_askFor 8 = .ok (.ireturn, 1) := by decide +kernel
theorem dX8_addUp_0 : decode cX8_addUp 0 = .ok (.aload_n 0, 1) := by decide +kernel
theorem dX8_addUp_1 : decode cX8_addUp 1 = .ok (.getfield 24, 3) := by decide +kernel
theorem dX8_addUp_4 : decode cX8_addUp 4 = .ok (.invokevirtual 75, 3) := by decide +kernel
theorem dX8_addUp_7 : decode cX8_addUp 7 = .ok (.iload_n 2, 1) := by decide +kernel
theorem dX8_addUp_8 : decode cX8_addUp 8 = .ok (.i2l, 1) := by decide +kernel
theorem dX8_addUp_9 : decode cX8_addUp 9 = .ok (.lstore 4, 2) := by decide +kernel
theorem dX8_addUp_11 : decode cX8_addUp 11 = .ok (.lload 4, 2) := by decide +kernel
theorem dX8_addUp_13 : decode cX8_addUp 13 = .ok (.iload_n 3, 1) := by decide +kernel
theorem dX8_addUp_14 : decode cX8_addUp 14 = .ok (.i2l, 1) := by decide +kernel
theorem dX8_addUp_15 : decode cX8_addUp 15 = .ok (.lcmp, 1) := by decide +kernel
theorem dX8_addUp_16 : decode cX8_addUp 16 = .ok (.ifCond .gt 37, 3) := by decide +kernel
theorem dX8_addUp_19 : decode cX8_addUp 19 = .ok (.aload_n 0, 1) := by decide +kernel
theorem dX8_addUp_20 : decode cX8_addUp 20 = .ok (.iload_n 1, 1) := by decide +kernel
theorem dX8_addUp_21 : decode cX8_addUp 21 = .ok (.lload 4, 2) := by decide +kernel
theorem dX8_addUp_23 : decode cX8_addUp 23 = .ok (.bipush (-9), 2) := by decide +kernel
theorem dX8_addUp_25 : decode cX8_addUp 25 = .ok (.invokevirtual 71, 3) := by decide +kernel
theorem dX8_addUp_28 : decode cX8_addUp 28 = .ok (.ifCond .ne 5, 3) := by decide +kernel
theorem dX8_addUp_31 : decode cX8_addUp 31 = .ok (.iconst 0, 1) := by decide +kernel
theorem dX8_addUp_32 : decode cX8_addUp 32 = .ok (.ireturn, 1) := by decide +kernel
theorem dX8_addUp_33 : decode cX8_addUp 33 = .ok (.aload_n 0, 1) := by decide +kernel
theorem dX8_addUp_34 : decode cX8_addUp 34 = .ok (.getfield 24, 3) := by decide +kernel
theorem dX8_addUp_37 : decode cX8_addUp 37 = .ok (.aload_n 0, 1) := by decide +kernel
theorem dX8_addUp_38 : decode cX8_addUp 38 = .ok (.getfield 28, 3) := by decide +kernel
theorem dX8_addUp_41 : decode cX8_addUp 41 = .ok (.invokevirtual 76, 3) := by decide +kernel
theorem dX8_addUp_44 : decode cX8_addUp 44 = .ok (.lload 4, 2) := by decide +kernel
theorem dX8_addUp_46 : decode cX8_addUp 46 = .ok (.lconst 1, 1) := by decide +kernel
theorem dX8_addUp_47 : decode cX8_addUp 47 = .ok (.ladd, 1) := by decide +kernel
theorem dX8_addUp_48 : decode cX8_addUp 48 = .ok (.lstore 4, 2) := by decide +kernel
theorem dX8_addUp_50 : decode cX8_addUp 50 = .ok (.goto (-39), 3) := by decide +kernel
theorem dX8_addUp_53 : decode cX8_addUp 53 = .ok (.iconst 1, 1) := by decide +kernel
theorem dX8_addUp_54 : decode cX8_addUp 54 = .ok (.ireturn, 1) := by decide +kernel
theorem dX8_search_0 : decode cX8_search 0 = .ok (.aload_n 0, 1) := by decide +kernel
theorem dX8_search_1 : decode cX8_search 1 = .ok (.getfield 35, 3) := by decide +kernel
theorem dX8_search_4 : decode cX8_search 4 = .ok (.iload_n 1, 1) := by decide +kernel
theorem dX8_search_5 : decode cX8_search 5 = .ok (.invokevirtual 80, 3) := by decide +kernel
theorem dX8_search_8 : decode cX8_search 8 = .ok (.astore 4, 2) := by decide +kernel
theorem dX8_search_10 : decode cX8_search 10 = .ok (.aload 4, 2) := by decide +kernel
theorem dX8_search_12 : decode cX8_search 12 = .ok (.ifnull 15, 3) := by decide +kernel
theorem dX8_search_15 : decode cX8_search 15 = .ok (.aload_n 0, 1) := by decide +kernel
theorem dX8_search_16 : decode cX8_search 16 = .ok (.aload 4, 2) := by decide +kernel
theorem dX8_search_18 : decode cX8_search 18 = .ok (.iload_n 1, 1) := by decide +kernel
theorem dX8_search_19 : decode cX8_search 19 = .ok (.bipush (-9), 2) := by decide +kernel
theorem dX8_search_21 : decode cX8_search 21 = .ok (.invokevirtual 86, 3) := by decide +kernel
theorem dX8_search_24 : decode cX8_search 24 = .ok (.ifCond .ne 6, 3) := by decide +kernel
theorem dX8_search_27 : decode cX8_search 27 = .ok (.bipush (-10), 2) := by decide +kernel
theorem dX8_search_29 : decode cX8_search 29 = .ok (.ireturn, 1) := by decide +kernel
theorem dX8_search_30 : decode cX8_search 30 = .ok (.iconst 0, 1) := by decide +kernel
theorem dX8_search_31 : decode cX8_search 31 = .ok (.istore 5, 2) := by decide +kernel
theorem dX8_search_33 : decode cX8_search 33 = .ok (.iload 5, 2) := by decide +kernel
theorem dX8_search_35 : decode cX8_search 35 = .ok (.aload 4, 2) := by decide +kernel
theorem dX8_search_37 : decode cX8_search 37 = .ok (.invokevirtual 90, 3) := by decide +kernel
theorem dX8_search_40 : decode cX8_search 40 = .ok (.if_icmp .ge 37, 3) := by decide +kernel
theorem dX8_search_43 : decode cX8_search 43 = .ok (.aload_n 0, 1) := by decide +kernel
theorem dX8_search_44 : decode cX8_search 44 = .ok (.iload_n 1, 1) := by decide +kernel
theorem dX8_search_45 : decode cX8_search 45 = .ok (.iload 5, 2) := by decide +kernel
theorem dX8_search_47 : decode cX8_search 47 = .ok (.i2l, 1) := by decide +kernel
theorem dX8_search_48 : decode cX8_search 48 = .ok (.bipush (-9), 2) := by decide +kernel
theorem dX8_search_50 : decode cX8_search 50 = .ok (.invokevirtual 71, 3) := by decide +kernel
theorem dX8_search_53 : decode cX8_search 53 = .ok (.ifCond .ne 6, 3) := by decide +kernel
theorem dX8_search_56 : decode cX8_search 56 = .ok (.bipush (-10), 2) := by decide +kernel
theorem dX8_search_58 : decode cX8_search 58 = .ok (.ireturn, 1) := by decide +kernel
theorem dX8_search_59 : decode cX8_search 59 = .ok (.aload_n 0, 1) := by decide +kernel
theorem dX8_search_60 : decode cX8_search 60 = .ok (.getfield 28, 3) := by decide +kernel
theorem dX8_search_63 : decode cX8_search 63 = .ok (.lload_n 2, 1) := by decide +kernel
theorem dX8_search_64 : decode cX8_search 64 = .ok (.lcmp, 1) := by decide +kernel
theorem dX8_search_65 : decode cX8_search 65 = .ok (.ifCond .ne 6, 3) := by decide +kernel
theorem dX8_search_68 : decode cX8_search 68 = .ok (.iload 5, 2) := by decide +kernel
theorem dX8_search_70 : decode cX8_search 70 = .ok (.ireturn, 1) := by decide +kernel
theorem dX8_search_71 : decode cX8_search 71 = .ok (.iinc 5 1, 3) := by decide +kernel
theorem dX8_search_74 : decode cX8_search 74 = .ok (.goto (-41), 3) := by decide +kernel
theorem dX8_search_77 : decode cX8_search 77 = .ok (.bipush (-9), 2) := by decide +kernel
theorem dX8_search_79 : decode cX8_search 79 = .ok (.ireturn, 1) := by decide +kernel
theorem dX8_ask_0 : decode cX8_ask 0 = .ok (.aload_n 0, 1) := by decide +kernel
theorem dX8_ask_1 : decode cX8_ask 1 = .ok (.getfield 35, 3) := by decide +kernel
theorem dX8_ask_4 : decode cX8_ask 4 = .ok (.iload_n 1, 1) := by decide +kernel
theorem dX8_ask_5 : decode cX8_ask 5 = .ok (.invokevirtual 80, 3) := by decide +kernel
theorem dX8_ask_8 : decode cX8_ask 8 = .ok (.astore 5, 2) := by decide +kernel
theorem dX8_ask_10 : decode cX8_ask 10 = .ok (.aload 5, 2) := by decide +kernel
theorem dX8_ask_12 : decode cX8_ask 12 = .ok (.ifnull 15, 3) := by decide +kernel
theorem dX8_ask_15 : decode cX8_ask 15 = .ok (.aload_n 0, 1) := by decide +kernel
theorem dX8_ask_16 : decode cX8_ask 16 = .ok (.aload 5, 2) := by decide +kernel
theorem dX8_ask_18 : decode cX8_ask 18 = .ok (.iload_n 1, 1) := by decide +kernel
theorem dX8_ask_19 : decode cX8_ask 19 = .ok (.iload 4, 2) := by decide +kernel
theorem dX8_ask_21 : decode cX8_ask 21 = .ok (.invokevirtual 86, 3) := by decide +kernel
theorem dX8_ask_24 : decode cX8_ask 24 = .ok (.ifCond .ne 5, 3) := by decide +kernel
theorem dX8_ask_27 : decode cX8_ask 27 = .ok (.iconst 0, 1) := by decide +kernel
theorem dX8_ask_28 : decode cX8_ask 28 = .ok (.ireturn, 1) := by decide +kernel
theorem dX8_ask_29 : decode cX8_ask 29 = .ok (.lload_n 2, 1) := by decide +kernel
theorem dX8_ask_30 : decode cX8_ask 30 = .ok (.lconst 0, 1) := by decide +kernel
theorem dX8_ask_31 : decode cX8_ask 31 = .ok (.lcmp, 1) := by decide +kernel
theorem dX8_ask_32 : decode cX8_ask 32 = .ok (.ifCond .lt 14, 3) := by decide +kernel
theorem dX8_ask_35 : decode cX8_ask 35 = .ok (.lload_n 2, 1) := by decide +kernel
theorem dX8_ask_36 : decode cX8_ask 36 = .ok (.aload 5, 2) := by decide +kernel
theorem dX8_ask_38 : decode cX8_ask 38 = .ok (.invokevirtual 90, 3) := by decide +kernel
theorem dX8_ask_41 : decode cX8_ask 41 = .ok (.i2l, 1) := by decide +kernel
theorem dX8_ask_42 : decode cX8_ask 42 = .ok (.lcmp, 1) := by decide +kernel
theorem dX8_ask_43 : decode cX8_ask 43 = .ok (.ifCond .lt 9, 3) := by decide +kernel
theorem dX8_ask_46 : decode cX8_ask 46 = .ok (.aload_n 0, 1) := by decide +kernel
theorem dX8_ask_47 : decode cX8_ask 47 = .ok (.iconst 2, 1) := by decide +kernel
theorem dX8_ask_48 : decode cX8_ask 48 = .ok (.invokevirtual 96, 3) := by decide +kernel
theorem dX8_ask_51 : decode cX8_ask 51 = .ok (.ireturn, 1) := by decide +kernel
theorem dX8_ask_52 : decode cX8_ask 52 = .ok (.lload_n 2, 1) := by decide +kernel
theorem dX8_ask_53 : decode cX8_ask 53 = .ok (.l2i, 1) := by decide +kernel
theorem dX8_ask_54 : decode cX8_ask 54 = .ok (.istore 6, 2) := by decide +kernel
theorem dX8_ask_56 : decode cX8_ask 56 = .ok (.aload 5, 2) := by decide +kernel
theorem dX8_ask_58 : decode cX8_ask 58 = .ok (.getfield 100, 3) := by decide +kernel
theorem dX8_ask_61 : decode cX8_ask 61 = .ok (.iconst 1, 1) := by decide +kernel
theorem dX8_ask_62 : decode cX8_ask 62 = .ok (.if_icmp .ne 7, 3) := by decide +kernel
theorem dX8_ask_65 : decode cX8_ask 65 = .ok (.iconst 1, 1) := by decide +kernel
theorem dX8_ask_66 : decode cX8_ask 66 = .ok (.goto 4, 3) := by decide +kernel
theorem dX8_ask_69 : decode cX8_ask 69 = .ok (.iconst 0, 1) := by decide +kernel
theorem dX8_ask_70 : decode cX8_ask 70 = .ok (.istore 7, 2) := by decide +kernel
theorem dX8_ask_72 : decode cX8_ask 72 = .ok (.aload 5, 2) := by decide +kernel
theorem dX8_ask_74 : decode cX8_ask 74 = .ok (.getfield 103, 3) := by decide +kernel
theorem dX8_ask_77 : decode cX8_ask 77 = .ok (.ifCond .eq 52, 3) := by decide +kernel
theorem dX8_ask_80 : decode cX8_ask 80 = .ok (.iload 7, 2) := by decide +kernel
theorem dX8_ask_82 : decode cX8_ask 82 = .ok (.ifCond .ne 47, 3) := by decide +kernel
theorem dX8_ask_85 : decode cX8_ask 85 = .ok (.iload 6, 2) := by decide +kernel
theorem dX8_ask_87 : decode cX8_ask 87 = .ok (.bipush 8, 2) := by decide +kernel
theorem dX8_ask_89 : decode cX8_ask 89 = .ok (.idiv, 1) := by decide +kernel
theorem dX8_ask_90 : decode cX8_ask 90 = .ok (.istore 8, 2) := by decide +kernel
theorem dX8_ask_92 : decode cX8_ask 92 = .ok (.aload_n 0, 1) := by decide +kernel
theorem dX8_ask_93 : decode cX8_ask 93 = .ok (.aload 5, 2) := by decide +kernel
theorem dX8_ask_95 : decode cX8_ask 95 = .ok (.iload_n 1, 1) := by decide +kernel
theorem dX8_ask_96 : decode cX8_ask 96 = .ok (.iload 8, 2) := by decide +kernel
theorem dX8_ask_98 : decode cX8_ask 98 = .ok (.iload 4, 2) := by decide +kernel
theorem dX8_ask_100 : decode cX8_ask 100 = .ok (.invokevirtual 106, 3) := by decide +kernel
theorem dX8_ask_103 : decode cX8_ask 103 = .ok (.ifCond .ne 5, 3) := by decide +kernel
theorem dX8_ask_106 : decode cX8_ask 106 = .ok (.iconst 0, 1) := by decide +kernel
theorem dX8_ask_107 : decode cX8_ask 107 = .ok (.ireturn, 1) := by decide +kernel
theorem dX8_ask_108 : decode cX8_ask 108 = .ok (.aload 5, 2) := by decide +kernel
theorem dX8_ask_110 : decode cX8_ask 110 = .ok (.getfield 110, 3) := by decide +kernel
theorem dX8_ask_113 : decode cX8_ask 113 = .ok (.iload 8, 2) := by decide +kernel
theorem dX8_ask_115 : decode cX8_ask 115 = .ok (.invokestatic 67, 3) := by decide +kernel
theorem dX8_ask_118 : decode cX8_ask 118 = .ok (.iconst 1, 1) := by decide +kernel
theorem dX8_ask_119 : decode cX8_ask 119 = .ok (.if_icmp .ne 7, 3) := by decide +kernel
theorem dX8_ask_122 : decode cX8_ask 122 = .ok (.iconst 1, 1) := by decide +kernel
theorem dX8_ask_123 : decode cX8_ask 123 = .ok (.goto 4, 3) := by decide +kernel
theorem dX8_ask_126 : decode cX8_ask 126 = .ok (.iconst 0, 1) := by decide +kernel
theorem dX8_ask_127 : decode cX8_ask 127 = .ok (.istore 7, 2) := by decide +kernel
theorem dX8_ask_129 : decode cX8_ask 129 = .ok (.aload_n 0, 1) := by decide +kernel
theorem dX8_ask_130 : decode cX8_ask 130 = .ok (.aload 5, 2) := by decide +kernel
theorem dX8_ask_132 : decode cX8_ask 132 = .ok (.getfield 113, 3) := by decide +kernel
theorem dX8_ask_135 : decode cX8_ask 135 = .ok (.iload 6, 2) := by decide +kernel
theorem dX8_ask_137 : decode cX8_ask 137 = .ok (.invokestatic 116, 3) := by decide +kernel
theorem dX8_ask_140 : decode cX8_ask 140 = .ok (.putfield 28, 3) := by decide +kernel
theorem dX8_ask_143 : decode cX8_ask 143 = .ok (.iload 7, 2) := by decide +kernel
theorem dX8_ask_145 : decode cX8_ask 145 = .ok (.ifCond .eq 22, 3) := by decide +kernel
theorem dX8_ask_148 : decode cX8_ask 148 = .ok (.aload_n 0, 1) := by decide +kernel
theorem dX8_ask_149 : decode cX8_ask 149 = .ok (.getfield 18, 3) := by decide +kernel
theorem dX8_ask_152 : decode cX8_ask 152 = .ok (.iload_n 1, 1) := by decide +kernel
theorem dX8_ask_153 : decode cX8_ask 153 = .ok (.i2l, 1) := by decide +kernel
theorem dX8_ask_154 : decode cX8_ask 154 = .ok (.iload 6, 2) := by decide +kernel
theorem dX8_ask_156 : decode cX8_ask 156 = .ok (.i2l, 1) := by decide +kernel
theorem dX8_ask_157 : decode cX8_ask 157 = .ok (.iload 4, 2) := by decide +kernel
theorem dX8_ask_159 : decode cX8_ask 159 = .ok (.i2l, 1) := by decide +kernel
theorem dX8_ask_160 : decode cX8_ask 160 = .ok (.aload_n 0, 1) := by decide +kernel
theorem dX8_ask_161 : decode cX8_ask 161 = .ok (.getfield 28, 3) := by decide +kernel
theorem dX8_ask_164 : decode cX8_ask 164 = .ok (.invokevirtual 119, 3) := by decide +kernel
theorem dX8_ask_167 : decode cX8_ask 167 = .ok (.iconst 1, 1) := by decide +kernel
theorem dX8_ask_168 : decode cX8_ask 168 = .ok (.ireturn, 1) := by decide +kernel
theorem dX8_awaken_0 : decode cX8_awaken 0 = .ok (.aload_n 1, 1) := by decide +kernel
theorem dX8_awaken_1 : decode cX8_awaken 1 = .ok (.getfield 100, 3) := by decide +kernel
theorem dX8_awaken_4 : decode cX8_awaken 4 = .ok (.iconst 3, 1) := by decide +kernel
theorem dX8_awaken_5 : decode cX8_awaken 5 = .ok (.if_icmp .ne 10, 3) := by decide +kernel
theorem dX8_awaken_8 : decode cX8_awaken 8 = .ok (.aload_n 0, 1) := by decide +kernel
theorem dX8_awaken_9 : decode cX8_awaken 9 = .ok (.bipush 6, 2) := by decide +kernel
theorem dX8_awaken_11 : decode cX8_awaken 11 = .ok (.invokevirtual 96, 3) := by decide +kernel
theorem dX8_awaken_14 : decode cX8_awaken 14 = .ok (.ireturn, 1) := by decide +kernel
theorem dX8_awaken_15 : decode cX8_awaken 15 = .ok (.aload_n 1, 1) := by decide +kernel
theorem dX8_awaken_16 : decode cX8_awaken 16 = .ok (.getfield 100, 3) := by decide +kernel
theorem dX8_awaken_19 : decode cX8_awaken 19 = .ok (.ifCond .ne 13, 3) := by decide +kernel
theorem dX8_awaken_22 : decode cX8_awaken 22 = .ok (.aload_n 0, 1) := by decide +kernel
theorem dX8_awaken_23 : decode cX8_awaken 23 = .ok (.aload_n 1, 1) := by decide +kernel
theorem dX8_awaken_24 : decode cX8_awaken 24 = .ok (.iload_n 2, 1) := by decide +kernel
theorem dX8_awaken_25 : decode cX8_awaken 25 = .ok (.iload_n 3, 1) := by decide +kernel
theorem dX8_awaken_26 : decode cX8_awaken 26 = .ok (.invokevirtual 123, 3) := by decide +kernel
theorem dX8_awaken_29 : decode cX8_awaken 29 = .ok (.ifCond .eq 7, 3) := by decide +kernel
theorem dX8_awaken_32 : decode cX8_awaken 32 = .ok (.iconst 1, 1) := by decide +kernel
theorem dX8_awaken_33 : decode cX8_awaken 33 = .ok (.goto 4, 3) := by decide +kernel
theorem dX8_awaken_36 : decode cX8_awaken 36 = .ok (.iconst 0, 1) := by decide +kernel
theorem dX8_awaken_37 : decode cX8_awaken 37 = .ok (.ireturn, 1) := by decide +kernel
theorem dX8_awakenRow_0 : decode cX8_awakenRow 0 = .ok (.aload_n 1, 1) := by decide +kernel
theorem dX8_awakenRow_1 : decode cX8_awakenRow 1 = .ok (.getfield 110, 3) := by decide +kernel
theorem dX8_awakenRow_4 : decode cX8_awakenRow 4 = .ok (.iload_n 3, 1) := by decide +kernel
theorem dX8_awakenRow_5 : decode cX8_awakenRow 5 = .ok (.invokestatic 67, 3) := by decide +kernel
theorem dX8_awakenRow_8 : decode cX8_awakenRow 8 = .ok (.istore 5, 2) := by decide +kernel
theorem dX8_awakenRow_10 : decode cX8_awakenRow 10 = .ok (.iload 5, 2) := by decide +kernel
theorem dX8_awakenRow_12 : decode cX8_awakenRow 12 = .ok (.iconst 3, 1) := by decide +kernel
theorem dX8_awakenRow_13 : decode cX8_awakenRow 13 = .ok (.if_icmp .ne 10, 3) := by decide +kernel
theorem dX8_awakenRow_16 : decode cX8_awakenRow 16 = .ok (.aload_n 0, 1) := by decide +kernel
theorem dX8_awakenRow_17 : decode cX8_awakenRow 17 = .ok (.bipush 6, 2) := by decide +kernel
theorem dX8_awakenRow_19 : decode cX8_awakenRow 19 = .ok (.invokevirtual 96, 3) := by decide +kernel
theorem dX8_awakenRow_22 : decode cX8_awakenRow 22 = .ok (.ireturn, 1) := by decide +kernel
theorem dX8_awakenRow_23 : decode cX8_awakenRow 23 = .ok (.iload 5, 2) := by decide +kernel
theorem dX8_awakenRow_25 : decode cX8_awakenRow 25 = .ok (.ifCond .ne 15, 3) := by decide +kernel
theorem dX8_awakenRow_28 : decode cX8_awakenRow 28 = .ok (.aload_n 0, 1) := by decide +kernel
theorem dX8_awakenRow_29 : decode cX8_awakenRow 29 = .ok (.aload_n 1, 1) := by decide +kernel
theorem dX8_awakenRow_30 : decode cX8_awakenRow 30 = .ok (.iload_n 2, 1) := by decide +kernel
theorem dX8_awakenRow_31 : decode cX8_awakenRow 31 = .ok (.iload_n 3, 1) := by decide +kernel
theorem dX8_awakenRow_32 : decode cX8_awakenRow 32 = .ok (.iload 4, 2) := by decide +kernel
theorem dX8_awakenRow_34 : decode cX8_awakenRow 34 = .ok (.invokevirtual 126, 3) := by decide +kernel
theorem dX8_awakenRow_37 : decode cX8_awakenRow 37 = .ok (.ifCond .eq 7, 3) := by decide +kernel
theorem dX8_awakenRow_40 : decode cX8_awakenRow 40 = .ok (.iconst 1, 1) := by decide +kernel
theorem dX8_awakenRow_41 : decode cX8_awakenRow 41 = .ok (.goto 4, 3) := by decide +kernel
theorem dX8_awakenRow_44 : decode cX8_awakenRow 44 = .ok (.iconst 0, 1) := by decide +kernel
theorem dX8_awakenRow_45 : decode cX8_awakenRow 45 = .ok (.ireturn, 1) := by decide +kernel
theorem dX8_wake_0 : decode cX8_wake 0 = .ok (.aload_n 0, 1) := by decide +kernel
theorem dX8_wake_1 : decode cX8_wake 1 = .ok (.getfield 47, 3) := by decide +kernel
theorem dX8_wake_4 : decode cX8_wake 4 = .ok (.bipush 12, 2) := by decide +kernel
theorem dX8_wake_6 : decode cX8_wake 6 = .ok (.if_icmp .lt 10, 3) := by decide +kernel
theorem dX8_wake_9 : decode cX8_wake 9 = .ok (.aload_n 0, 1) := by decide +kernel
theorem dX8_wake_10 : decode cX8_wake 10 = .ok (.bipush 8, 2) := by decide +kernel
theorem dX8_wake_12 : decode cX8_wake 12 = .ok (.invokevirtual 96, 3) := by decide +kernel
theorem dX8_wake_15 : decode cX8_wake 15 = .ok (.ireturn, 1) := by decide +kernel
theorem dX8_wake_16 : decode cX8_wake 16 = .ok (.aload_n 0, 1) := by decide +kernel
theorem dX8_wake_17 : decode cX8_wake 17 = .ok (.dup, 1) := by decide +kernel
theorem dX8_wake_18 : decode cX8_wake 18 = .ok (.getfield 47, 3) := by decide +kernel
theorem dX8_wake_21 : decode cX8_wake 21 = .ok (.iconst 1, 1) := by decide +kernel
theorem dX8_wake_22 : decode cX8_wake 22 = .ok (.iadd, 1) := by decide +kernel
theorem dX8_wake_23 : decode cX8_wake 23 = .ok (.putfield 47, 3) := by decide +kernel
theorem dX8_wake_26 : decode cX8_wake 26 = .ok (.aload_n 1, 1) := by decide +kernel
theorem dX8_wake_27 : decode cX8_wake 27 = .ok (.iconst 1, 1) := by decide +kernel
theorem dX8_wake_28 : decode cX8_wake 28 = .ok (.putfield 100, 3) := by decide +kernel
theorem dX8_wake_31 : decode cX8_wake 31 = .ok (.aload_n 0, 1) := by decide +kernel
theorem dX8_wake_32 : decode cX8_wake 32 = .ok (.getfield 12, 3) := by decide +kernel
theorem dX8_wake_35 : decode cX8_wake 35 = .ok (.iload_n 2, 1) := by decide +kernel
theorem dX8_wake_36 : decode cX8_wake 36 = .ok (.i2l, 1) := by decide +kernel
theorem dX8_wake_37 : decode cX8_wake 37 = .ok (.ldc2_w 129, 3) := by decide +kernel
theorem dX8_wake_40 : decode cX8_wake 40 = .ok (.iload_n 3, 1) := by decide +kernel
theorem dX8_wake_41 : decode cX8_wake 41 = .ok (.i2l, 1) := by decide +kernel
theorem dX8_wake_42 : decode cX8_wake 42 = .ok (.lconst 0, 1) := by decide +kernel
theorem dX8_wake_43 : decode cX8_wake 43 = .ok (.invokevirtual 119, 3) := by decide +kernel
theorem dX8_wake_46 : decode cX8_wake 46 = .ok (.aload_n 0, 1) := by decide +kernel
theorem dX8_wake_47 : decode cX8_wake 47 = .ok (.aload_n 1, 1) := by decide +kernel
theorem dX8_wake_48 : decode cX8_wake 48 = .ok (.invokevirtual 131, 3) := by decide +kernel
theorem dX8_wake_51 : decode cX8_wake 51 = .ok (.ifCond .eq 24, 3) := by decide +kernel
theorem dX8_wake_54 : decode cX8_wake 54 = .ok (.aload_n 0, 1) := by decide +kernel
theorem dX8_wake_55 : decode cX8_wake 55 = .ok (.aload_n 1, 1) := by decide +kernel
theorem dX8_wake_56 : decode cX8_wake 56 = .ok (.iload_n 2, 1) := by decide +kernel
theorem dX8_wake_57 : decode cX8_wake 57 = .ok (.invokevirtual 135, 3) := by decide +kernel
theorem dX8_wake_60 : decode cX8_wake 60 = .ok (.ifCond .eq 15, 3) := by decide +kernel
theorem dX8_wake_63 : decode cX8_wake 63 = .ok (.aload_n 0, 1) := by decide +kernel
theorem dX8_wake_64 : decode cX8_wake 64 = .ok (.aload_n 1, 1) := by decide +kernel
theorem dX8_wake_65 : decode cX8_wake 65 = .ok (.invokevirtual 139, 3) := by decide +kernel
theorem dX8_wake_68 : decode cX8_wake 68 = .ok (.ifCond .eq 7, 3) := by decide +kernel
theorem dX8_wake_71 : decode cX8_wake 71 = .ok (.iconst 1, 1) := by decide +kernel
theorem dX8_wake_72 : decode cX8_wake 72 = .ok (.goto 4, 3) := by decide +kernel
theorem dX8_wake_75 : decode cX8_wake 75 = .ok (.iconst 0, 1) := by decide +kernel
theorem dX8_wake_76 : decode cX8_wake 76 = .ok (.istore 4, 2) := by decide +kernel
theorem dX8_wake_78 : decode cX8_wake 78 = .ok (.aload_n 0, 1) := by decide +kernel
theorem dX8_wake_79 : decode cX8_wake 79 = .ok (.dup, 1) := by decide +kernel
theorem dX8_wake_80 : decode cX8_wake 80 = .ok (.getfield 47, 3) := by decide +kernel
theorem dX8_wake_83 : decode cX8_wake 83 = .ok (.iconst 1, 1) := by decide +kernel
theorem dX8_wake_84 : decode cX8_wake 84 = .ok (.isub, 1) := by decide +kernel
theorem dX8_wake_85 : decode cX8_wake 85 = .ok (.putfield 47, 3) := by decide +kernel
theorem dX8_wake_88 : decode cX8_wake 88 = .ok (.aload_n 1, 1) := by decide +kernel
theorem dX8_wake_89 : decode cX8_wake 89 = .ok (.iload 4, 2) := by decide +kernel
theorem dX8_wake_91 : decode cX8_wake 91 = .ok (.ifCond .eq 7, 3) := by decide +kernel
theorem dX8_wake_94 : decode cX8_wake 94 = .ok (.iconst 2, 1) := by decide +kernel
theorem dX8_wake_95 : decode cX8_wake 95 = .ok (.goto 4, 3) := by decide +kernel
theorem dX8_wake_98 : decode cX8_wake 98 = .ok (.iconst 3, 1) := by decide +kernel
theorem dX8_wake_99 : decode cX8_wake 99 = .ok (.putfield 100, 3) := by decide +kernel
theorem dX8_wake_102 : decode cX8_wake 102 = .ok (.iload 4, 2) := by decide +kernel
theorem dX8_wake_104 : decode cX8_wake 104 = .ok (.ifCond .ne 10, 3) := by decide +kernel
theorem dX8_wake_107 : decode cX8_wake 107 = .ok (.aload_n 0, 1) := by decide +kernel
theorem dX8_wake_108 : decode cX8_wake 108 = .ok (.invokevirtual 142, 3) := by decide +kernel
theorem dX8_wake_111 : decode cX8_wake 111 = .ok (.ifCond .eq 7, 3) := by decide +kernel
theorem dX8_wake_114 : decode cX8_wake 114 = .ok (.iconst 1, 1) := by decide +kernel
theorem dX8_wake_115 : decode cX8_wake 115 = .ok (.goto 4, 3) := by decide +kernel
theorem dX8_wake_118 : decode cX8_wake 118 = .ok (.iconst 0, 1) := by decide +kernel
theorem dX8_wake_119 : decode cX8_wake 119 = .ok (.ireturn, 1) := by decide +kernel
theorem dX8_layOut_0 : decode cX8_layOut 0 = .ok (.aload_n 1, 1) := by decide +kernel
theorem dX8_layOut_1 : decode cX8_layOut 1 = .ok (.getfield 146, 3) := by decide +kernel
theorem dX8_layOut_4 : decode cX8_layOut 4 = .ok (.lconst 0, 1) := by decide +kernel
theorem dX8_layOut_5 : decode cX8_layOut 5 = .ok (.lcmp, 1) := by decide +kernel
theorem dX8_layOut_6 : decode cX8_layOut 6 = .ok (.ifCond .ge 9, 3) := by decide +kernel
theorem dX8_layOut_9 : decode cX8_layOut 9 = .ok (.aload_n 0, 1) := by decide +kernel
theorem dX8_layOut_10 : decode cX8_layOut 10 = .ok (.iconst 3, 1) := by decide +kernel
theorem dX8_layOut_11 : decode cX8_layOut 11 = .ok (.invokevirtual 96, 3) := by decide +kernel
theorem dX8_layOut_14 : decode cX8_layOut 14 = .ok (.ireturn, 1) := by decide +kernel
theorem dX8_layOut_15 : decode cX8_layOut 15 = .ok (.aload_n 1, 1) := by decide +kernel
theorem dX8_layOut_16 : decode cX8_layOut 16 = .ok (.getfield 146, 3) := by decide +kernel
theorem dX8_layOut_19 : decode cX8_layOut 19 = .ok (.ldc2_w 149, 3) := by decide +kernel
theorem dX8_layOut_22 : decode cX8_layOut 22 = .ok (.lcmp, 1) := by decide +kernel
theorem dX8_layOut_23 : decode cX8_layOut 23 = .ok (.ifCond .le 9, 3) := by decide +kernel
theorem dX8_layOut_26 : decode cX8_layOut 26 = .ok (.aload_n 0, 1) := by decide +kernel
theorem dX8_layOut_27 : decode cX8_layOut 27 = .ok (.iconst 4, 1) := by decide +kernel
theorem dX8_layOut_28 : decode cX8_layOut 28 = .ok (.invokevirtual 96, 3) := by decide +kernel
theorem dX8_layOut_31 : decode cX8_layOut 31 = .ok (.ireturn, 1) := by decide +kernel
theorem dX8_layOut_32 : decode cX8_layOut 32 = .ok (.aload_n 1, 1) := by decide +kernel
theorem dX8_layOut_33 : decode cX8_layOut 33 = .ok (.invokevirtual 151, 3) := by decide +kernel
theorem dX8_layOut_36 : decode cX8_layOut 36 = .ok (.iconst 1, 1) := by decide +kernel
theorem dX8_layOut_37 : decode cX8_layOut 37 = .ok (.ireturn, 1) := by decide +kernel
theorem dX8_fill_0 : decode cX8_fill 0 = .ok (.aload_n 1, 1) := by decide +kernel
theorem dX8_fill_1 : decode cX8_fill 1 = .ok (.getfield 103, 3) := by decide +kernel
theorem dX8_fill_4 : decode cX8_fill 4 = .ok (.ifCond .ne 15, 3) := by decide +kernel
theorem dX8_fill_7 : decode cX8_fill 7 = .ok (.aload_n 0, 1) := by decide +kernel
theorem dX8_fill_8 : decode cX8_fill 8 = .ok (.aload_n 1, 1) := by decide +kernel
theorem dX8_fill_9 : decode cX8_fill 9 = .ok (.iload_n 2, 1) := by decide +kernel
theorem dX8_fill_10 : decode cX8_fill 10 = .ok (.iconst 0, 1) := by decide +kernel
theorem dX8_fill_11 : decode cX8_fill 11 = .ok (.aload_n 1, 1) := by decide +kernel
theorem dX8_fill_12 : decode cX8_fill 12 = .ok (.invokevirtual 90, 3) := by decide +kernel
theorem dX8_fill_15 : decode cX8_fill 15 = .ok (.invokevirtual 154, 3) := by decide +kernel
theorem dX8_fill_18 : decode cX8_fill 18 = .ok (.ireturn, 1) := by decide +kernel
theorem dX8_fill_19 : decode cX8_fill 19 = .ok (.iconst 0, 1) := by decide +kernel
theorem dX8_fill_20 : decode cX8_fill 20 = .ok (.istore_n 3, 1) := by decide +kernel
theorem dX8_fill_21 : decode cX8_fill 21 = .ok (.aload_n 1, 1) := by decide +kernel
theorem dX8_fill_22 : decode cX8_fill 22 = .ok (.getfield 157, 3) := by decide +kernel
theorem dX8_fill_25 : decode cX8_fill 25 = .ok (.ifCond .eq 31, 3) := by decide +kernel
theorem dX8_fill_28 : decode cX8_fill 28 = .ok (.iload_n 3, 1) := by decide +kernel
theorem dX8_fill_29 : decode cX8_fill 29 = .ok (.aload_n 1, 1) := by decide +kernel
theorem dX8_fill_30 : decode cX8_fill 30 = .ok (.invokevirtual 160, 3) := by decide +kernel
theorem dX8_fill_33 : decode cX8_fill 33 = .ok (.if_icmp .ge 23, 3) := by decide +kernel
theorem dX8_fill_36 : decode cX8_fill 36 = .ok (.aload_n 0, 1) := by decide +kernel
theorem dX8_fill_37 : decode cX8_fill 37 = .ok (.aload_n 1, 1) := by decide +kernel
theorem dX8_fill_38 : decode cX8_fill 38 = .ok (.iload_n 2, 1) := by decide +kernel
theorem dX8_fill_39 : decode cX8_fill 39 = .ok (.iload_n 3, 1) := by decide +kernel
theorem dX8_fill_40 : decode cX8_fill 40 = .ok (.bipush (-9), 2) := by decide +kernel
theorem dX8_fill_42 : decode cX8_fill 42 = .ok (.invokevirtual 126, 3) := by decide +kernel
theorem dX8_fill_45 : decode cX8_fill 45 = .ok (.ifCond .ne 5, 3) := by decide +kernel
theorem dX8_fill_48 : decode cX8_fill 48 = .ok (.iconst 0, 1) := by decide +kernel
theorem dX8_fill_49 : decode cX8_fill 49 = .ok (.ireturn, 1) := by decide +kernel
theorem dX8_fill_50 : decode cX8_fill 50 = .ok (.iinc 3 1, 3) := by decide +kernel
theorem dX8_fill_53 : decode cX8_fill 53 = .ok (.goto (-32), 3) := by decide +kernel
theorem dX8_fill_56 : decode cX8_fill 56 = .ok (.iconst 1, 1) := by decide +kernel
theorem dX8_fill_57 : decode cX8_fill 57 = .ok (.ireturn, 1) := by decide +kernel
theorem dX8_keepsPromise_0 : decode cX8_keepsPromise 0 = .ok (.aload_n 1, 1) := by decide +kernel
theorem dX8_keepsPromise_1 : decode cX8_keepsPromise 1 = .ok (.getfield 157, 3) := by decide +kernel
theorem dX8_keepsPromise_4 : decode cX8_keepsPromise 4 = .ok (.ifCond .ne 5, 3) := by decide +kernel
theorem dX8_keepsPromise_7 : decode cX8_keepsPromise 7 = .ok (.iconst 1, 1) := by decide +kernel
theorem dX8_keepsPromise_8 : decode cX8_keepsPromise 8 = .ok (.ireturn, 1) := by decide +kernel
theorem dX8_keepsPromise_9 : decode cX8_keepsPromise 9 = .ok (.aload_n 0, 1) := by decide +kernel
theorem dX8_keepsPromise_10 : decode cX8_keepsPromise 10 = .ok (.getfield 32, 3) := by decide +kernel
theorem dX8_keepsPromise_13 : decode cX8_keepsPromise 13 = .ok (.invokevirtual 75, 3) := by decide +kernel
theorem dX8_keepsPromise_16 : decode cX8_keepsPromise 16 = .ok (.iconst 0, 1) := by decide +kernel
theorem dX8_keepsPromise_17 : decode cX8_keepsPromise 17 = .ok (.istore_n 2, 1) := by decide +kernel
theorem dX8_keepsPromise_18 : decode cX8_keepsPromise 18 = .ok (.iload_n 2, 1) := by decide +kernel
theorem dX8_keepsPromise_19 : decode cX8_keepsPromise 19 = .ok (.aload_n 1, 1) := by decide +kernel
theorem dX8_keepsPromise_20 : decode cX8_keepsPromise 20 = .ok (.invokevirtual 90, 3) := by decide +kernel
theorem dX8_keepsPromise_23 : decode cX8_keepsPromise 23 = .ok (.if_icmp .ge 24, 3) := by decide +kernel
theorem dX8_keepsPromise_26 : decode cX8_keepsPromise 26 = .ok (.aload_n 0, 1) := by decide +kernel
theorem dX8_keepsPromise_27 : decode cX8_keepsPromise 27 = .ok (.getfield 32, 3) := by decide +kernel
theorem dX8_keepsPromise_30 : decode cX8_keepsPromise 30 = .ok (.aload_n 1, 1) := by decide +kernel
theorem dX8_keepsPromise_31 : decode cX8_keepsPromise 31 = .ok (.getfield 113, 3) := by decide +kernel
theorem dX8_keepsPromise_34 : decode cX8_keepsPromise 34 = .ok (.iload_n 2, 1) := by decide +kernel
theorem dX8_keepsPromise_35 : decode cX8_keepsPromise 35 = .ok (.invokestatic 116, 3) := by decide +kernel
theorem dX8_keepsPromise_38 : decode cX8_keepsPromise 38 = .ok (.invokevirtual 76, 3) := by decide +kernel
theorem dX8_keepsPromise_41 : decode cX8_keepsPromise 41 = .ok (.iinc 2 1, 3) := by decide +kernel
theorem dX8_keepsPromise_44 : decode cX8_keepsPromise 44 = .ok (.goto (-26), 3) := by decide +kernel
theorem dX8_keepsPromise_47 : decode cX8_keepsPromise 47 = .ok (.aload_n 0, 1) := by decide +kernel
theorem dX8_keepsPromise_48 : decode cX8_keepsPromise 48 = .ok (.getfield 32, 3) := by decide +kernel
theorem dX8_keepsPromise_51 : decode cX8_keepsPromise 51 = .ok (.aload_n 1, 1) := by decide +kernel
theorem dX8_keepsPromise_52 : decode cX8_keepsPromise 52 = .ok (.getfield 163, 3) := by decide +kernel
theorem dX8_keepsPromise_55 : decode cX8_keepsPromise 55 = .ok (.invokevirtual 166, 3) := by decide +kernel
theorem dX8_keepsPromise_58 : decode cX8_keepsPromise 58 = .ok (.ifCond .ne 11, 3) := by decide +kernel
theorem dX8_keepsPromise_61 : decode cX8_keepsPromise 61 = .ok (.aload_n 0, 1) := by decide +kernel
theorem dX8_keepsPromise_62 : decode cX8_keepsPromise 62 = .ok (.iconst 5, 1) := by decide +kernel
theorem dX8_keepsPromise_63 : decode cX8_keepsPromise 63 = .ok (.invokevirtual 96, 3) := by decide +kernel
theorem dX8_keepsPromise_66 : decode cX8_keepsPromise 66 = .ok (.ifCond .eq 7, 3) := by decide +kernel
theorem dX8_keepsPromise_69 : decode cX8_keepsPromise 69 = .ok (.iconst 1, 1) := by decide +kernel
theorem dX8_keepsPromise_70 : decode cX8_keepsPromise 70 = .ok (.goto 4, 3) := by decide +kernel
theorem dX8_keepsPromise_73 : decode cX8_keepsPromise 73 = .ok (.iconst 0, 1) := by decide +kernel
theorem dX8_keepsPromise_74 : decode cX8_keepsPromise 74 = .ok (.ireturn, 1) := by decide +kernel
theorem dX8_makeRow_0 : decode cX8_makeRow 0 = .ok (.aload_n 0, 1) := by decide +kernel
theorem dX8_makeRow_1 : decode cX8_makeRow 1 = .ok (.getfield 47, 3) := by decide +kernel
theorem dX8_makeRow_4 : decode cX8_makeRow 4 = .ok (.bipush 12, 2) := by decide +kernel
theorem dX8_makeRow_6 : decode cX8_makeRow 6 = .ok (.if_icmp .lt 10, 3) := by decide +kernel
theorem dX8_makeRow_9 : decode cX8_makeRow 9 = .ok (.aload_n 0, 1) := by decide +kernel
theorem dX8_makeRow_10 : decode cX8_makeRow 10 = .ok (.bipush 8, 2) := by decide +kernel
theorem dX8_makeRow_12 : decode cX8_makeRow 12 = .ok (.invokevirtual 96, 3) := by decide +kernel
theorem dX8_makeRow_15 : decode cX8_makeRow 15 = .ok (.ireturn, 1) := by decide +kernel
theorem dX8_makeRow_16 : decode cX8_makeRow 16 = .ok (.aload_n 0, 1) := by decide +kernel
theorem dX8_makeRow_17 : decode cX8_makeRow 17 = .ok (.dup, 1) := by decide +kernel
theorem dX8_makeRow_18 : decode cX8_makeRow 18 = .ok (.getfield 47, 3) := by decide +kernel
theorem dX8_makeRow_21 : decode cX8_makeRow 21 = .ok (.iconst 1, 1) := by decide +kernel
theorem dX8_makeRow_22 : decode cX8_makeRow 22 = .ok (.iadd, 1) := by decide +kernel
theorem dX8_makeRow_23 : decode cX8_makeRow 23 = .ok (.putfield 47, 3) := by decide +kernel
theorem dX8_makeRow_26 : decode cX8_makeRow 26 = .ok (.aload_n 1, 1) := by decide +kernel
theorem dX8_makeRow_27 : decode cX8_makeRow 27 = .ok (.getfield 110, 3) := by decide +kernel
theorem dX8_makeRow_30 : decode cX8_makeRow 30 = .ok (.iload_n 3, 1) := by decide +kernel
theorem dX8_makeRow_31 : decode cX8_makeRow 31 = .ok (.iconst 1, 1) := by decide +kernel
theorem dX8_makeRow_32 : decode cX8_makeRow 32 = .ok (.invokestatic 170, 3) := by decide +kernel
theorem dX8_makeRow_35 : decode cX8_makeRow 35 = .ok (.aload_n 0, 1) := by decide +kernel
theorem dX8_makeRow_36 : decode cX8_makeRow 36 = .ok (.getfield 12, 3) := by decide +kernel
theorem dX8_makeRow_39 : decode cX8_makeRow 39 = .ok (.iload_n 2, 1) := by decide +kernel
theorem dX8_makeRow_40 : decode cX8_makeRow 40 = .ok (.i2l, 1) := by decide +kernel
theorem dX8_makeRow_41 : decode cX8_makeRow 41 = .ok (.iload_n 3, 1) := by decide +kernel
theorem dX8_makeRow_42 : decode cX8_makeRow 42 = .ok (.i2l, 1) := by decide +kernel
theorem dX8_makeRow_43 : decode cX8_makeRow 43 = .ok (.iload 4, 2) := by decide +kernel
theorem dX8_makeRow_45 : decode cX8_makeRow 45 = .ok (.i2l, 1) := by decide +kernel
theorem dX8_makeRow_46 : decode cX8_makeRow 46 = .ok (.lconst 0, 1) := by decide +kernel
theorem dX8_makeRow_47 : decode cX8_makeRow 47 = .ok (.invokevirtual 119, 3) := by decide +kernel
theorem dX8_makeRow_50 : decode cX8_makeRow 50 = .ok (.aload_n 0, 1) := by decide +kernel
theorem dX8_makeRow_51 : decode cX8_makeRow 51 = .ok (.aload_n 1, 1) := by decide +kernel
theorem dX8_makeRow_52 : decode cX8_makeRow 52 = .ok (.iload_n 2, 1) := by decide +kernel
theorem dX8_makeRow_53 : decode cX8_makeRow 53 = .ok (.bipush 8, 2) := by decide +kernel
theorem dX8_makeRow_55 : decode cX8_makeRow 55 = .ok (.iload_n 3, 1) := by decide +kernel
theorem dX8_makeRow_56 : decode cX8_makeRow 56 = .ok (.imul, 1) := by decide +kernel
theorem dX8_makeRow_57 : decode cX8_makeRow 57 = .ok (.aload_n 1, 1) := by decide +kernel
theorem dX8_makeRow_58 : decode cX8_makeRow 58 = .ok (.iload_n 3, 1) := by decide +kernel
theorem dX8_makeRow_59 : decode cX8_makeRow 59 = .ok (.invokevirtual 174, 3) := by decide +kernel
theorem dX8_makeRow_62 : decode cX8_makeRow 62 = .ok (.invokevirtual 154, 3) := by decide +kernel
theorem dX8_makeRow_65 : decode cX8_makeRow 65 = .ok (.istore 5, 2) := by decide +kernel
theorem dX8_makeRow_67 : decode cX8_makeRow 67 = .ok (.aload_n 0, 1) := by decide +kernel
theorem dX8_makeRow_68 : decode cX8_makeRow 68 = .ok (.dup, 1) := by decide +kernel
theorem dX8_makeRow_69 : decode cX8_makeRow 69 = .ok (.getfield 47, 3) := by decide +kernel
theorem dX8_makeRow_72 : decode cX8_makeRow 72 = .ok (.iconst 1, 1) := by decide +kernel
theorem dX8_makeRow_73 : decode cX8_makeRow 73 = .ok (.isub, 1) := by decide +kernel
theorem dX8_makeRow_74 : decode cX8_makeRow 74 = .ok (.putfield 47, 3) := by decide +kernel
theorem dX8_makeRow_77 : decode cX8_makeRow 77 = .ok (.aload_n 1, 1) := by decide +kernel
theorem dX8_makeRow_78 : decode cX8_makeRow 78 = .ok (.getfield 110, 3) := by decide +kernel
theorem dX8_makeRow_81 : decode cX8_makeRow 81 = .ok (.iload_n 3, 1) := by decide +kernel
theorem dX8_makeRow_82 : decode cX8_makeRow 82 = .ok (.iload 5, 2) := by decide +kernel
theorem dX8_makeRow_84 : decode cX8_makeRow 84 = .ok (.ifCond .eq 7, 3) := by decide +kernel
theorem dX8_makeRow_87 : decode cX8_makeRow 87 = .ok (.iconst 2, 1) := by decide +kernel
theorem dX8_makeRow_88 : decode cX8_makeRow 88 = .ok (.goto 4, 3) := by decide +kernel
theorem dX8_makeRow_91 : decode cX8_makeRow 91 = .ok (.iconst 3, 1) := by decide +kernel
theorem dX8_makeRow_92 : decode cX8_makeRow 92 = .ok (.invokestatic 170, 3) := by decide +kernel
theorem dX8_makeRow_95 : decode cX8_makeRow 95 = .ok (.iload 5, 2) := by decide +kernel
theorem dX8_makeRow_97 : decode cX8_makeRow 97 = .ok (.ifCond .ne 10, 3) := by decide +kernel
theorem dX8_makeRow_100 : decode cX8_makeRow 100 = .ok (.aload_n 0, 1) := by decide +kernel
theorem dX8_makeRow_101 : decode cX8_makeRow 101 = .ok (.invokevirtual 142, 3) := by decide +kernel
theorem dX8_makeRow_104 : decode cX8_makeRow 104 = .ok (.ifCond .eq 7, 3) := by decide +kernel
theorem dX8_makeRow_107 : decode cX8_makeRow 107 = .ok (.iconst 1, 1) := by decide +kernel
theorem dX8_makeRow_108 : decode cX8_makeRow 108 = .ok (.goto 4, 3) := by decide +kernel
theorem dX8_makeRow_111 : decode cX8_makeRow 111 = .ok (.iconst 0, 1) := by decide +kernel
theorem dX8_makeRow_112 : decode cX8_makeRow 112 = .ok (.ireturn, 1) := by decide +kernel
theorem dX8_makeEntries_0 : decode cX8_makeEntries 0 = .ok (.iload_n 3, 1) := by decide +kernel
theorem dX8_makeEntries_1 : decode cX8_makeEntries 1 = .ok (.istore 5, 2) := by decide +kernel
theorem dX8_makeEntries_3 : decode cX8_makeEntries 3 = .ok (.iload 5, 2) := by decide +kernel
theorem dX8_makeEntries_5 : decode cX8_makeEntries 5 = .ok (.iload 4, 2) := by decide +kernel
theorem dX8_makeEntries_7 : decode cX8_makeEntries 7 = .ok (.if_icmp .ge 38, 3) := by decide +kernel
theorem dX8_makeEntries_10 : decode cX8_makeEntries 10 = .ok (.aload_n 0, 1) := by decide +kernel
theorem dX8_makeEntries_11 : decode cX8_makeEntries 11 = .ok (.aload_n 1, 1) := by decide +kernel
theorem dX8_makeEntries_12 : decode cX8_makeEntries 12 = .ok (.getfield 178, 3) := by decide +kernel
theorem dX8_makeEntries_15 : decode cX8_makeEntries 15 = .ok (.iload_n 2, 1) := by decide +kernel
theorem dX8_makeEntries_16 : decode cX8_makeEntries 16 = .ok (.iload 5, 2) := by decide +kernel
theorem dX8_makeEntries_18 : decode cX8_makeEntries 18 = .ok (.invokevirtual 182, 3) := by decide +kernel
theorem dX8_makeEntries_21 : decode cX8_makeEntries 21 = .ok (.ifCond .ne 5, 3) := by decide +kernel
theorem dX8_makeEntries_24 : decode cX8_makeEntries 24 = .ok (.iconst 0, 1) := by decide +kernel
theorem dX8_makeEntries_25 : decode cX8_makeEntries 25 = .ok (.ireturn, 1) := by decide +kernel
theorem dX8_makeEntries_26 : decode cX8_makeEntries 26 = .ok (.aload_n 1, 1) := by decide +kernel
theorem dX8_makeEntries_27 : decode cX8_makeEntries 27 = .ok (.getfield 113, 3) := by decide +kernel
theorem dX8_makeEntries_30 : decode cX8_makeEntries 30 = .ok (.iload 5, 2) := by decide +kernel
theorem dX8_makeEntries_32 : decode cX8_makeEntries 32 = .ok (.aload_n 0, 1) := by decide +kernel
theorem dX8_makeEntries_33 : decode cX8_makeEntries 33 = .ok (.invokevirtual 186, 3) := by decide +kernel
theorem dX8_makeEntries_36 : decode cX8_makeEntries 36 = .ok (.invokestatic 190, 3) := by decide +kernel
theorem dX8_makeEntries_39 : decode cX8_makeEntries 39 = .ok (.iinc 5 1, 3) := by decide +kernel
theorem dX8_makeEntries_42 : decode cX8_makeEntries 42 = .ok (.goto (-39), 3) := by decide +kernel
theorem dX8_makeEntries_45 : decode cX8_makeEntries 45 = .ok (.iconst 1, 1) := by decide +kernel
theorem dX8_makeEntries_46 : decode cX8_makeEntries 46 = .ok (.ireturn, 1) := by decide +kernel
theorem dX8_workOut_0 : decode cX8_workOut 0 = .ok (.iconst 0, 1) := by decide +kernel
theorem dX8_workOut_1 : decode cX8_workOut 1 = .ok (.istore 4, 2) := by decide +kernel
theorem dX8_workOut_3 : decode cX8_workOut 3 = .ok (.iload 4, 2) := by decide +kernel
theorem dX8_workOut_5 : decode cX8_workOut 5 = .ok (.aload_n 1, 1) := by decide +kernel
theorem dX8_workOut_6 : decode cX8_workOut 6 = .ok (.getfield 193, 3) := by decide +kernel
theorem dX8_workOut_9 : decode cX8_workOut 9 = .ok (.if_icmp .ge 200, 3) := by decide +kernel
theorem dX8_workOut_12 : decode cX8_workOut 12 = .ok (.aload_n 1, 1) := by decide +kernel
theorem dX8_workOut_13 : decode cX8_workOut 13 = .ok (.iload 4, 2) := by decide +kernel
theorem dX8_workOut_15 : decode cX8_workOut 15 = .ok (.invokevirtual 198, 3) := by decide +kernel
theorem dX8_workOut_18 : decode cX8_workOut 18 = .ok (.istore 5, 2) := by decide +kernel
theorem dX8_workOut_20 : decode cX8_workOut 20 = .ok (.iload 5, 2) := by decide +kernel
theorem dX8_workOut_22 : decode cX8_workOut 22 = .ok (.tableswitch 170 0 6 #[42, 55, 64, 85, 117, 129, 143], 42) := by decide +kernel
theorem dX8_workOut_64 : decode cX8_workOut 64 = .ok (.aload_n 0, 1) := by decide +kernel
theorem dX8_workOut_65 : decode cX8_workOut 65 = .ok (.aload_n 1, 1) := by decide +kernel
theorem dX8_workOut_66 : decode cX8_workOut 66 = .ok (.iload 4, 2) := by decide +kernel
theorem dX8_workOut_68 : decode cX8_workOut 68 = .ok (.invokevirtual 201, 3) := by decide +kernel
theorem dX8_workOut_71 : decode cX8_workOut 71 = .ok (.invokevirtual 205, 3) := by decide +kernel
theorem dX8_workOut_74 : decode cX8_workOut 74 = .ok (.goto 129, 3) := by decide +kernel
theorem dX8_workOut_77 : decode cX8_workOut 77 = .ok (.aload_n 0, 1) := by decide +kernel
theorem dX8_workOut_78 : decode cX8_workOut 78 = .ok (.iload_n 3, 1) := by decide +kernel
theorem dX8_workOut_79 : decode cX8_workOut 79 = .ok (.i2l, 1) := by decide +kernel
theorem dX8_workOut_80 : decode cX8_workOut 80 = .ok (.invokevirtual 205, 3) := by decide +kernel
theorem dX8_workOut_83 : decode cX8_workOut 83 = .ok (.goto 120, 3) := by decide +kernel
theorem dX8_workOut_86 : decode cX8_workOut 86 = .ok (.aload_n 0, 1) := by decide +kernel
theorem dX8_workOut_87 : decode cX8_workOut 87 = .ok (.aload_n 0, 1) := by decide +kernel
theorem dX8_workOut_88 : decode cX8_workOut 88 = .ok (.getfield 35, 3) := by decide +kernel
theorem dX8_workOut_91 : decode cX8_workOut 91 = .ok (.aload_n 1, 1) := by decide +kernel
theorem dX8_workOut_92 : decode cX8_workOut 92 = .ok (.iload 4, 2) := by decide +kernel
theorem dX8_workOut_94 : decode cX8_workOut 94 = .ok (.invokevirtual 201, 3) := by decide +kernel
theorem dX8_workOut_97 : decode cX8_workOut 97 = .ok (.l2i, 1) := by decide +kernel
theorem dX8_workOut_98 : decode cX8_workOut 98 = .ok (.invokevirtual 208, 3) := by decide +kernel
theorem dX8_workOut_101 : decode cX8_workOut 101 = .ok (.invokevirtual 205, 3) := by decide +kernel
theorem dX8_workOut_104 : decode cX8_workOut 104 = .ok (.goto 99, 3) := by decide +kernel
theorem dX8_workOut_107 : decode cX8_workOut 107 = .ok (.aload_n 0, 1) := by decide +kernel
theorem dX8_workOut_108 : decode cX8_workOut 108 = .ok (.aload_n 1, 1) := by decide +kernel
theorem dX8_workOut_109 : decode cX8_workOut 109 = .ok (.iload 4, 2) := by decide +kernel
theorem dX8_workOut_111 : decode cX8_workOut 111 = .ok (.invokevirtual 201, 3) := by decide +kernel
theorem dX8_workOut_114 : decode cX8_workOut 114 = .ok (.l2i, 1) := by decide +kernel
theorem dX8_workOut_115 : decode cX8_workOut 115 = .ok (.aload_n 0, 1) := by decide +kernel
theorem dX8_workOut_116 : decode cX8_workOut 116 = .ok (.invokevirtual 186, 3) := by decide +kernel
theorem dX8_workOut_119 : decode cX8_workOut 119 = .ok (.iload_n 2, 1) := by decide +kernel
theorem dX8_workOut_120 : decode cX8_workOut 120 = .ok (.invokevirtual 71, 3) := by decide +kernel
theorem dX8_workOut_123 : decode cX8_workOut 123 = .ok (.ifCond .ne 5, 3) := by decide +kernel
theorem dX8_workOut_126 : decode cX8_workOut 126 = .ok (.iconst 0, 1) := by decide +kernel
theorem dX8_workOut_127 : decode cX8_workOut 127 = .ok (.ireturn, 1) := by decide +kernel
theorem dX8_workOut_128 : decode cX8_workOut 128 = .ok (.aload_n 0, 1) := by decide +kernel
theorem dX8_workOut_129 : decode cX8_workOut 129 = .ok (.aload_n 0, 1) := by decide +kernel
theorem dX8_workOut_130 : decode cX8_workOut 130 = .ok (.getfield 28, 3) := by decide +kernel
theorem dX8_workOut_133 : decode cX8_workOut 133 = .ok (.invokevirtual 205, 3) := by decide +kernel
theorem dX8_workOut_136 : decode cX8_workOut 136 = .ok (.goto 67, 3) := by decide +kernel
theorem dX8_workOut_139 : decode cX8_workOut 139 = .ok (.aload_n 0, 1) := by decide +kernel
theorem dX8_workOut_140 : decode cX8_workOut 140 = .ok (.aload_n 0, 1) := by decide +kernel
theorem dX8_workOut_141 : decode cX8_workOut 141 = .ok (.invokevirtual 186, 3) := by decide +kernel
theorem dX8_workOut_144 : decode cX8_workOut 144 = .ok (.lneg, 1) := by decide +kernel
theorem dX8_workOut_145 : decode cX8_workOut 145 = .ok (.invokevirtual 205, 3) := by decide +kernel
theorem dX8_workOut_148 : decode cX8_workOut 148 = .ok (.goto 55, 3) := by decide +kernel
theorem dX8_workOut_151 : decode cX8_workOut 151 = .ok (.iload 4, 2) := by decide +kernel
theorem dX8_workOut_153 : decode cX8_workOut 153 = .ok (.aload_n 1, 1) := by decide +kernel
theorem dX8_workOut_154 : decode cX8_workOut 154 = .ok (.iload 4, 2) := by decide +kernel
theorem dX8_workOut_156 : decode cX8_workOut 156 = .ok (.invokevirtual 211, 3) := by decide +kernel
theorem dX8_workOut_159 : decode cX8_workOut 159 = .ok (.iadd, 1) := by decide +kernel
theorem dX8_workOut_160 : decode cX8_workOut 160 = .ok (.istore 4, 2) := by decide +kernel
theorem dX8_workOut_162 : decode cX8_workOut 162 = .ok (.goto 41, 3) := by decide +kernel
theorem dX8_workOut_165 : decode cX8_workOut 165 = .ok (.iload 4, 2) := by decide +kernel
theorem dX8_workOut_167 : decode cX8_workOut 167 = .ok (.aload_n 0, 1) := by decide +kernel
theorem dX8_workOut_168 : decode cX8_workOut 168 = .ok (.invokevirtual 186, 3) := by decide +kernel
theorem dX8_workOut_171 : decode cX8_workOut 171 = .ok (.lconst 0, 1) := by decide +kernel
theorem dX8_workOut_172 : decode cX8_workOut 172 = .ok (.lcmp, 1) := by decide +kernel
theorem dX8_workOut_173 : decode cX8_workOut 173 = .ok (.ifCond .ne 12, 3) := by decide +kernel
theorem dX8_workOut_176 : decode cX8_workOut 176 = .ok (.aload_n 1, 1) := by decide +kernel
theorem dX8_workOut_177 : decode cX8_workOut 177 = .ok (.iload 4, 2) := by decide +kernel
theorem dX8_workOut_179 : decode cX8_workOut 179 = .ok (.invokevirtual 211, 3) := by decide +kernel
theorem dX8_workOut_182 : decode cX8_workOut 182 = .ok (.goto 4, 3) := by decide +kernel
theorem dX8_workOut_185 : decode cX8_workOut 185 = .ok (.iconst 0, 1) := by decide +kernel
theorem dX8_workOut_186 : decode cX8_workOut 186 = .ok (.iadd, 1) := by decide +kernel
theorem dX8_workOut_187 : decode cX8_workOut 187 = .ok (.istore 4, 2) := by decide +kernel
theorem dX8_workOut_189 : decode cX8_workOut 189 = .ok (.goto 14, 3) := by decide +kernel
theorem dX8_workOut_192 : decode cX8_workOut 192 = .ok (.aload_n 0, 1) := by decide +kernel
theorem dX8_workOut_193 : decode cX8_workOut 193 = .ok (.iload 5, 2) := by decide +kernel
theorem dX8_workOut_195 : decode cX8_workOut 195 = .ok (.invokevirtual 214, 3) := by decide +kernel
theorem dX8_workOut_198 : decode cX8_workOut 198 = .ok (.ifCond .ne 5, 3) := by decide +kernel
theorem dX8_workOut_201 : decode cX8_workOut 201 = .ok (.iconst 0, 1) := by decide +kernel
theorem dX8_workOut_202 : decode cX8_workOut 202 = .ok (.ireturn, 1) := by decide +kernel
theorem dX8_workOut_203 : decode cX8_workOut 203 = .ok (.iinc 4 1, 3) := by decide +kernel
theorem dX8_workOut_206 : decode cX8_workOut 206 = .ok (.goto (-203), 3) := by decide +kernel
theorem dX8_workOut_209 : decode cX8_workOut 209 = .ok (.iconst 1, 1) := by decide +kernel
theorem dX8_workOut_210 : decode cX8_workOut 210 = .ok (.ireturn, 1) := by decide +kernel
theorem dX8_workOutPair_0 : decode cX8_workOutPair 0 = .ok (.aload_n 0, 1) := by decide +kernel
theorem dX8_workOutPair_1 : decode cX8_workOutPair 1 = .ok (.invokevirtual 186, 3) := by decide +kernel
theorem dX8_workOutPair_4 : decode cX8_workOutPair 4 = .ok (.lstore_n 2, 1) := by decide +kernel
theorem dX8_workOutPair_5 : decode cX8_workOutPair 5 = .ok (.aload_n 0, 1) := by decide +kernel
theorem dX8_workOutPair_6 : decode cX8_workOutPair 6 = .ok (.invokevirtual 186, 3) := by decide +kernel
theorem dX8_workOutPair_9 : decode cX8_workOutPair 9 = .ok (.lstore 4, 2) := by decide +kernel
theorem dX8_workOutPair_11 : decode cX8_workOutPair 11 = .ok (.iload_n 1, 1) := by decide +kernel
theorem dX8_workOutPair_12 : decode cX8_workOutPair 12 = .ok (.lookupswitch 92 #[(42, 64), (43, 44), (45, 54), (60, 74)], 44) := by decide +kernel
theorem dX8_workOutPair_56 : decode cX8_workOutPair 56 = .ok (.aload_n 0, 1) := by decide +kernel
theorem dX8_workOutPair_57 : decode cX8_workOutPair 57 = .ok (.lload 4, 2) := by decide +kernel
theorem dX8_workOutPair_59 : decode cX8_workOutPair 59 = .ok (.lload_n 2, 1) := by decide +kernel
theorem dX8_workOutPair_60 : decode cX8_workOutPair 60 = .ok (.ladd, 1) := by decide +kernel
theorem dX8_workOutPair_61 : decode cX8_workOutPair 61 = .ok (.invokevirtual 205, 3) := by decide +kernel
theorem dX8_workOutPair_64 : decode cX8_workOutPair 64 = .ok (.iconst 1, 1) := by decide +kernel
theorem dX8_workOutPair_65 : decode cX8_workOutPair 65 = .ok (.ireturn, 1) := by decide +kernel
theorem dX8_workOutPair_66 : decode cX8_workOutPair 66 = .ok (.aload_n 0, 1) := by decide +kernel
theorem dX8_workOutPair_67 : decode cX8_workOutPair 67 = .ok (.lload 4, 2) := by decide +kernel
theorem dX8_workOutPair_69 : decode cX8_workOutPair 69 = .ok (.lload_n 2, 1) := by decide +kernel
theorem dX8_workOutPair_70 : decode cX8_workOutPair 70 = .ok (.lsub, 1) := by decide +kernel
theorem dX8_workOutPair_71 : decode cX8_workOutPair 71 = .ok (.invokevirtual 205, 3) := by decide +kernel
theorem dX8_workOutPair_74 : decode cX8_workOutPair 74 = .ok (.iconst 1, 1) := by decide +kernel
theorem dX8_workOutPair_75 : decode cX8_workOutPair 75 = .ok (.ireturn, 1) := by decide +kernel
theorem dX8_workOutPair_76 : decode cX8_workOutPair 76 = .ok (.aload_n 0, 1) := by decide +kernel
theorem dX8_workOutPair_77 : decode cX8_workOutPair 77 = .ok (.lload 4, 2) := by decide +kernel
theorem dX8_workOutPair_79 : decode cX8_workOutPair 79 = .ok (.lload_n 2, 1) := by decide +kernel
theorem dX8_workOutPair_80 : decode cX8_workOutPair 80 = .ok (.lmul, 1) := by decide +kernel
theorem dX8_workOutPair_81 : decode cX8_workOutPair 81 = .ok (.invokevirtual 205, 3) := by decide +kernel
theorem dX8_workOutPair_84 : decode cX8_workOutPair 84 = .ok (.iconst 1, 1) := by decide +kernel
theorem dX8_workOutPair_85 : decode cX8_workOutPair 85 = .ok (.ireturn, 1) := by decide +kernel
theorem dX8_workOutPair_86 : decode cX8_workOutPair 86 = .ok (.aload_n 0, 1) := by decide +kernel
theorem dX8_workOutPair_87 : decode cX8_workOutPair 87 = .ok (.lload 4, 2) := by decide +kernel
theorem dX8_workOutPair_89 : decode cX8_workOutPair 89 = .ok (.lload_n 2, 1) := by decide +kernel
theorem dX8_workOutPair_90 : decode cX8_workOutPair 90 = .ok (.lcmp, 1) := by decide +kernel
theorem dX8_workOutPair_91 : decode cX8_workOutPair 91 = .ok (.ifCond .ge 7, 3) := by decide +kernel
theorem dX8_workOutPair_94 : decode cX8_workOutPair 94 = .ok (.lconst 1, 1) := by decide +kernel
theorem dX8_workOutPair_95 : decode cX8_workOutPair 95 = .ok (.goto 4, 3) := by decide +kernel
theorem dX8_workOutPair_98 : decode cX8_workOutPair 98 = .ok (.lconst 0, 1) := by decide +kernel
theorem dX8_workOutPair_99 : decode cX8_workOutPair 99 = .ok (.invokevirtual 205, 3) := by decide +kernel
theorem dX8_workOutPair_102 : decode cX8_workOutPair 102 = .ok (.iconst 1, 1) := by decide +kernel
theorem dX8_workOutPair_103 : decode cX8_workOutPair 103 = .ok (.ireturn, 1) := by decide +kernel
theorem dX8_workOutPair_104 : decode cX8_workOutPair 104 = .ok (.lload_n 2, 1) := by decide +kernel
theorem dX8_workOutPair_105 : decode cX8_workOutPair 105 = .ok (.lconst 0, 1) := by decide +kernel
theorem dX8_workOutPair_106 : decode cX8_workOutPair 106 = .ok (.lcmp, 1) := by decide +kernel
theorem dX8_workOutPair_107 : decode cX8_workOutPair 107 = .ok (.ifCond .ne 9, 3) := by decide +kernel
theorem dX8_workOutPair_110 : decode cX8_workOutPair 110 = .ok (.aload_n 0, 1) := by decide +kernel
theorem dX8_workOutPair_111 : decode cX8_workOutPair 111 = .ok (.iconst 1, 1) := by decide +kernel
theorem dX8_workOutPair_112 : decode cX8_workOutPair 112 = .ok (.invokevirtual 96, 3) := by decide +kernel
theorem dX8_workOutPair_115 : decode cX8_workOutPair 115 = .ok (.ireturn, 1) := by decide +kernel
theorem dX8_workOutPair_116 : decode cX8_workOutPair 116 = .ok (.aload_n 0, 1) := by decide +kernel
theorem dX8_workOutPair_117 : decode cX8_workOutPair 117 = .ok (.iload_n 1, 1) := by decide +kernel
theorem dX8_workOutPair_118 : decode cX8_workOutPair 118 = .ok (.bipush 47, 2) := by decide +kernel
theorem dX8_workOutPair_120 : decode cX8_workOutPair 120 = .ok (.if_icmp .ne 10, 3) := by decide +kernel
theorem dX8_workOutPair_123 : decode cX8_workOutPair 123 = .ok (.lload 4, 2) := by decide +kernel
theorem dX8_workOutPair_125 : decode cX8_workOutPair 125 = .ok (.lload_n 2, 1) := by decide +kernel
theorem dX8_workOutPair_126 : decode cX8_workOutPair 126 = .ok (.ldiv, 1) := by decide +kernel
theorem dX8_workOutPair_127 : decode cX8_workOutPair 127 = .ok (.goto 7, 3) := by decide +kernel
theorem dX8_workOutPair_130 : decode cX8_workOutPair 130 = .ok (.lload 4, 2) := by decide +kernel
theorem dX8_workOutPair_132 : decode cX8_workOutPair 132 = .ok (.lload_n 2, 1) := by decide +kernel
theorem dX8_workOutPair_133 : decode cX8_workOutPair 133 = .ok (.lrem, 1) := by decide +kernel
theorem dX8_workOutPair_134 : decode cX8_workOutPair 134 = .ok (.invokevirtual 205, 3) := by decide +kernel
theorem dX8_workOutPair_137 : decode cX8_workOutPair 137 = .ok (.iconst 1, 1) := by decide +kernel
theorem dX8_workOutPair_138 : decode cX8_workOutPair 138 = .ok (.ireturn, 1) := by decide +kernel
theorem dX8_push_0 : decode cX8_push 0 = .ok (.aload_n 0, 1) := by decide +kernel
theorem dX8_push_1 : decode cX8_push 1 = .ok (.getfield 39, 3) := by decide +kernel
theorem dX8_push_4 : decode cX8_push 4 = .ok (.aload_n 0, 1) := by decide +kernel
theorem dX8_push_5 : decode cX8_push 5 = .ok (.getfield 43, 3) := by decide +kernel
theorem dX8_push_8 : decode cX8_push 8 = .ok (.lload_n 1, 1) := by decide +kernel
theorem dX8_push_9 : decode cX8_push 9 = .ok (.invokestatic 190, 3) := by decide +kernel
theorem dX8_push_12 : decode cX8_push 12 = .ok (.aload_n 0, 1) := by decide +kernel
theorem dX8_push_13 : decode cX8_push 13 = .ok (.dup, 1) := by decide +kernel
theorem dX8_push_14 : decode cX8_push 14 = .ok (.getfield 43, 3) := by decide +kernel
theorem dX8_push_17 : decode cX8_push 17 = .ok (.iconst 1, 1) := by decide +kernel
theorem dX8_push_18 : decode cX8_push 18 = .ok (.iadd, 1) := by decide +kernel
theorem dX8_push_19 : decode cX8_push 19 = .ok (.putfield 43, 3) := by decide +kernel
theorem dX8_push_22 : decode cX8_push 22 = .ok (.return_, 1) := by decide +kernel
theorem dX8_pop_0 : decode cX8_pop 0 = .ok (.aload_n 0, 1) := by decide +kernel
theorem dX8_pop_1 : decode cX8_pop 1 = .ok (.dup, 1) := by decide +kernel
theorem dX8_pop_2 : decode cX8_pop 2 = .ok (.getfield 43, 3) := by decide +kernel
theorem dX8_pop_5 : decode cX8_pop 5 = .ok (.iconst 1, 1) := by decide +kernel
theorem dX8_pop_6 : decode cX8_pop 6 = .ok (.isub, 1) := by decide +kernel
theorem dX8_pop_7 : decode cX8_pop 7 = .ok (.putfield 43, 3) := by decide +kernel
theorem dX8_pop_10 : decode cX8_pop 10 = .ok (.aload_n 0, 1) := by decide +kernel
theorem dX8_pop_11 : decode cX8_pop 11 = .ok (.getfield 39, 3) := by decide +kernel
theorem dX8_pop_14 : decode cX8_pop 14 = .ok (.aload_n 0, 1) := by decide +kernel
theorem dX8_pop_15 : decode cX8_pop 15 = .ok (.getfield 43, 3) := by decide +kernel
theorem dX8_pop_18 : decode cX8_pop 18 = .ok (.invokestatic 116, 3) := by decide +kernel
theorem dX8_pop_21 : decode cX8_pop 21 = .ok (.lreturn, 1) := by decide +kernel
theorem dX8_fail_0 : decode cX8_fail 0 = .ok (.aload_n 0, 1) := by decide +kernel
theorem dX8_fail_1 : decode cX8_fail 1 = .ok (.iload_n 1, 1) := by decide +kernel
theorem dX8_fail_2 : decode cX8_fail 2 = .ok (.invokevirtual 217, 3) := by decide +kernel
theorem dX8_fail_5 : decode cX8_fail 5 = .ok (.iconst 0, 1) := by decide +kernel
theorem dX8_fail_6 : decode cX8_fail 6 = .ok (.ireturn, 1) := by decide +kernel
theorem dX8_failWithReason_0 : decode cX8_failWithReason 0 = .ok (.aload_n 0, 1) := by decide +kernel
theorem dX8_failWithReason_1 : decode cX8_failWithReason 1 = .ok (.getfield 57, 3) := by decide +kernel
theorem dX8_failWithReason_4 : decode cX8_failWithReason 4 = .ok (.ifCond .eq 9, 3) := by decide +kernel
theorem dX8_failWithReason_7 : decode cX8_failWithReason 7 = .ok (.aload_n 0, 1) := by decide +kernel
theorem dX8_failWithReason_8 : decode cX8_failWithReason 8 = .ok (.bipush 7, 2) := by decide +kernel
theorem dX8_failWithReason_10 : decode cX8_failWithReason 10 = .ok (.invokevirtual 217, 3) := by decide +kernel
theorem dX8_failWithReason_13 : decode cX8_failWithReason 13 = .ok (.aload_n 0, 1) := by decide +kernel
theorem dX8_failWithReason_14 : decode cX8_failWithReason 14 = .ok (.iconst 1, 1) := by decide +kernel
theorem dX8_failWithReason_15 : decode cX8_failWithReason 15 = .ok (.putfield 57, 3) := by decide +kernel
theorem dX8_failWithReason_18 : decode cX8_failWithReason 18 = .ok (.iconst 0, 1) := by decide +kernel
theorem dX8_failWithReason_19 : decode cX8_failWithReason 19 = .ok (.ireturn, 1) := by decide +kernel
theorem dX8_addReason_0 : decode cX8_addReason 0 = .ok (.aload_n 0, 1) := by decide +kernel
theorem dX8_addReason_1 : decode cX8_addReason 1 = .ok (.getfield 50, 3) := by decide +kernel
theorem dX8_addReason_4 : decode cX8_addReason 4 = .ok (.aload_n 0, 1) := by decide +kernel
theorem dX8_addReason_5 : decode cX8_addReason 5 = .ok (.getfield 54, 3) := by decide +kernel
theorem dX8_addReason_8 : decode cX8_addReason 8 = .ok (.iload_n 1, 1) := by decide +kernel
theorem dX8_addReason_9 : decode cX8_addReason 9 = .ok (.invokestatic 170, 3) := by decide +kernel
theorem dX8_addReason_12 : decode cX8_addReason 12 = .ok (.aload_n 0, 1) := by decide +kernel
theorem dX8_addReason_13 : decode cX8_addReason 13 = .ok (.dup, 1) := by decide +kernel
theorem dX8_addReason_14 : decode cX8_addReason 14 = .ok (.getfield 54, 3) := by decide +kernel
theorem dX8_addReason_17 : decode cX8_addReason 17 = .ok (.iconst 1, 1) := by decide +kernel
theorem dX8_addReason_18 : decode cX8_addReason 18 = .ok (.iadd, 1) := by decide +kernel
theorem dX8_addReason_19 : decode cX8_addReason 19 = .ok (.putfield 54, 3) := by decide +kernel
theorem dX8_addReason_22 : decode cX8_addReason 22 = .ok (.return_, 1) := by decide +kernel
theorem dX9_init_0 : decode cX9_init 0 = .ok (.aload_n 0, 1) := by decide +kernel
theorem dX9_init_1 : decode cX9_init 1 = .ok (.invokespecial 3, 3) := by decide +kernel
theorem dX9_init_4 : decode cX9_init 4 = .ok (.aload_n 0, 1) := by decide +kernel
theorem dX9_init_5 : decode cX9_init 5 = .ok (.new 9, 3) := by decide +kernel
theorem dX9_init_8 : decode cX9_init 8 = .ok (.dup, 1) := by decide +kernel
theorem dX9_init_9 : decode cX9_init 9 = .ok (.invokespecial 11, 3) := by decide +kernel
theorem dX9_init_12 : decode cX9_init 12 = .ok (.putfield 12, 3) := by decide +kernel
theorem dX9_init_15 : decode cX9_init 15 = .ok (.aload_n 0, 1) := by decide +kernel
theorem dX9_init_16 : decode cX9_init 16 = .ok (.new 16, 3) := by decide +kernel
theorem dX9_init_19 : decode cX9_init 19 = .ok (.dup, 1) := by decide +kernel
theorem dX9_init_20 : decode cX9_init 20 = .ok (.aload_n 0, 1) := by decide +kernel
theorem dX9_init_21 : decode cX9_init 21 = .ok (.getfield 12, 3) := by decide +kernel
theorem dX9_init_24 : decode cX9_init 24 = .ok (.invokespecial 18, 3) := by decide +kernel
theorem dX9_init_27 : decode cX9_init 27 = .ok (.putfield 21, 3) := by decide +kernel
theorem dX9_init_30 : decode cX9_init 30 = .ok (.aload_n 0, 1) := by decide +kernel
theorem dX9_init_31 : decode cX9_init 31 = .ok (.new 25, 3) := by decide +kernel
theorem dX9_init_34 : decode cX9_init 34 = .ok (.dup, 1) := by decide +kernel
theorem dX9_init_35 : decode cX9_init 35 = .ok (.invokespecial 27, 3) := by decide +kernel
theorem dX9_init_38 : decode cX9_init 38 = .ok (.putfield 28, 3) := by decide +kernel
theorem dX9_init_41 : decode cX9_init 41 = .ok (.aload_n 0, 1) := by decide +kernel
theorem dX9_init_42 : decode cX9_init 42 = .ok (.new 25, 3) := by decide +kernel
theorem dX9_init_45 : decode cX9_init 45 = .ok (.dup, 1) := by decide +kernel
theorem dX9_init_46 : decode cX9_init 46 = .ok (.invokespecial 27, 3) := by decide +kernel
theorem dX9_init_49 : decode cX9_init 49 = .ok (.putfield 32, 3) := by decide +kernel
theorem dX9_init_52 : decode cX9_init 52 = .ok (.aload_n 0, 1) := by decide +kernel
theorem dX9_init_53 : decode cX9_init 53 = .ok (.new 35, 3) := by decide +kernel
theorem dX9_init_56 : decode cX9_init 56 = .ok (.dup, 1) := by decide +kernel
theorem dX9_init_57 : decode cX9_init 57 = .ok (.aload_n 0, 1) := by decide +kernel
theorem dX9_init_58 : decode cX9_init 58 = .ok (.getfield 28, 3) := by decide +kernel
theorem dX9_init_61 : decode cX9_init 61 = .ok (.invokespecial 37, 3) := by decide +kernel
theorem dX9_init_64 : decode cX9_init 64 = .ok (.putfield 40, 3) := by decide +kernel
theorem dX9_init_67 : decode cX9_init 67 = .ok (.return_, 1) := by decide +kernel
theorem dX9_feed_0 : decode cX9_feed 0 = .ok (.aload_n 0, 1) := by decide +kernel
theorem dX9_feed_1 : decode cX9_feed 1 = .ok (.getfield 12, 3) := by decide +kernel
theorem dX9_feed_4 : decode cX9_feed 4 = .ok (.lload_n 1, 1) := by decide +kernel
theorem dX9_feed_5 : decode cX9_feed 5 = .ok (.invokevirtual 44, 3) := by decide +kernel
theorem dX9_feed_8 : decode cX9_feed 8 = .ok (.ifCond .eq 13, 3) := by decide +kernel
theorem dX9_feed_11 : decode cX9_feed 11 = .ok (.aload_n 0, 1) := by decide +kernel
theorem dX9_feed_12 : decode cX9_feed 12 = .ok (.getfield 12, 3) := by decide +kernel
theorem dX9_feed_15 : decode cX9_feed 15 = .ok (.getfield 48, 3) := by decide +kernel
theorem dX9_feed_18 : decode cX9_feed 18 = .ok (.goto 5, 3) := by decide +kernel
theorem dX9_feed_21 : decode cX9_feed 21 = .ok (.bipush (-4), 2) := by decide +kernel
theorem dX9_feed_23 : decode cX9_feed 23 = .ok (.ireturn, 1) := by decide +kernel
theorem dX9_read_0 : decode cX9_read 0 = .ok (.aload_n 0, 1) := by decide +kernel
theorem dX9_read_1 : decode cX9_read 1 = .ok (.getfield 21, 3) := by decide +kernel
theorem dX9_read_4 : decode cX9_read 4 = .ok (.aload_n 0, 1) := by decide +kernel
theorem dX9_read_5 : decode cX9_read 5 = .ok (.getfield 32, 3) := by decide +kernel
theorem dX9_read_8 : decode cX9_read 8 = .ok (.invokevirtual 52, 3) := by decide +kernel
theorem dX9_read_11 : decode cX9_read 11 = .ok (.istore_n 1, 1) := by decide +kernel
theorem dX9_read_12 : decode cX9_read 12 = .ok (.iload_n 1, 1) := by decide +kernel
theorem dX9_read_13 : decode cX9_read 13 = .ok (.bipush (-9), 2) := by decide +kernel
theorem dX9_read_15 : decode cX9_read 15 = .ok (.if_icmp .eq 8, 3) := by decide +kernel
theorem dX9_read_18 : decode cX9_read 18 = .ok (.bipush (-100), 2) := by decide +kernel
theorem dX9_read_20 : decode cX9_read 20 = .ok (.iload_n 1, 1) := by decide +kernel
theorem dX9_read_21 : decode cX9_read 21 = .ok (.isub, 1) := by decide +kernel
theorem dX9_read_22 : decode cX9_read 22 = .ok (.ireturn, 1) := by decide +kernel
theorem dX9_read_23 : decode cX9_read 23 = .ok (.aload_n 0, 1) := by decide +kernel
theorem dX9_read_24 : decode cX9_read 24 = .ok (.getfield 28, 3) := by decide +kernel
theorem dX9_read_27 : decode cX9_read 27 = .ok (.astore_n 2, 1) := by decide +kernel
theorem dX9_read_28 : decode cX9_read 28 = .ok (.aload_n 0, 1) := by decide +kernel
theorem dX9_read_29 : decode cX9_read 29 = .ok (.aload_n 0, 1) := by decide +kernel
theorem dX9_read_30 : decode cX9_read 30 = .ok (.getfield 32, 3) := by decide +kernel
theorem dX9_read_33 : decode cX9_read 33 = .ok (.putfield 28, 3) := by decide +kernel
theorem dX9_read_36 : decode cX9_read 36 = .ok (.aload_n 0, 1) := by decide +kernel
theorem dX9_read_37 : decode cX9_read 37 = .ok (.aload_n 2, 1) := by decide +kernel
theorem dX9_read_38 : decode cX9_read 38 = .ok (.putfield 32, 3) := by decide +kernel
theorem dX9_read_41 : decode cX9_read 41 = .ok (.aload_n 0, 1) := by decide +kernel
theorem dX9_read_42 : decode cX9_read 42 = .ok (.getfield 28, 3) := by decide +kernel
theorem dX9_read_45 : decode cX9_read 45 = .ok (.invokevirtual 56, 3) := by decide +kernel
theorem dX9_read_48 : decode cX9_read 48 = .ok (.aload_n 0, 1) := by decide +kernel
theorem dX9_read_49 : decode cX9_read 49 = .ok (.getfield 40, 3) := by decide +kernel
theorem dX9_read_52 : decode cX9_read 52 = .ok (.aload_n 0, 1) := by decide +kernel
theorem dX9_read_53 : decode cX9_read 53 = .ok (.getfield 28, 3) := by decide +kernel
theorem dX9_read_56 : decode cX9_read 56 = .ok (.invokevirtual 59, 3) := by decide +kernel
theorem dX9_read_59 : decode cX9_read 59 = .ok (.aload_n 0, 1) := by decide +kernel
theorem dX9_read_60 : decode cX9_read 60 = .ok (.getfield 12, 3) := by decide +kernel
theorem dX9_read_63 : decode cX9_read 63 = .ok (.invokevirtual 62, 3) := by decide +kernel
theorem dX9_read_66 : decode cX9_read 66 = .ok (.aload_n 0, 1) := by decide +kernel
theorem dX9_read_67 : decode cX9_read 67 = .ok (.getfield 28, 3) := by decide +kernel
theorem dX9_read_70 : decode cX9_read 70 = .ok (.getfield 65, 3) := by decide +kernel
theorem dX9_read_73 : decode cX9_read 73 = .ok (.ireturn, 1) := by decide +kernel
theorem dX9_cut_0 : decode cX9_cut 0 = .ok (.aload_n 0, 1) := by decide +kernel
theorem dX9_cut_1 : decode cX9_cut 1 = .ok (.getfield 12, 3) := by decide +kernel
theorem dX9_cut_4 : decode cX9_cut 4 = .ok (.getfield 48, 3) := by decide +kernel
theorem dX9_cut_7 : decode cX9_cut 7 = .ok (.istore_n 1, 1) := by decide +kernel
theorem dX9_cut_8 : decode cX9_cut 8 = .ok (.aload_n 0, 1) := by decide +kernel
theorem dX9_cut_9 : decode cX9_cut 9 = .ok (.getfield 12, 3) := by decide +kernel
theorem dX9_cut_12 : decode cX9_cut 12 = .ok (.invokevirtual 62, 3) := by decide +kernel
theorem dX9_cut_15 : decode cX9_cut 15 = .ok (.iload_n 1, 1) := by decide +kernel
theorem dX9_cut_16 : decode cX9_cut 16 = .ok (.ireturn, 1) := by decide +kernel
theorem dX9_named_0 : decode cX9_named 0 = .ok (.aload_n 0, 1) := by decide +kernel
theorem dX9_named_1 : decode cX9_named 1 = .ok (.getfield 28, 3) := by decide +kernel
theorem dX9_named_4 : decode cX9_named 4 = .ok (.lload_n 1, 1) := by decide +kernel
theorem dX9_named_5 : decode cX9_named 5 = .ok (.invokevirtual 68, 3) := by decide +kernel
theorem dX9_named_8 : decode cX9_named 8 = .ok (.ireturn, 1) := by decide +kernel
theorem dX9_size_0 : decode cX9_size 0 = .ok (.aload_n 0, 1) := by decide +kernel
theorem dX9_size_1 : decode cX9_size 1 = .ok (.getfield 28, 3) := by decide +kernel
theorem dX9_size_4 : decode cX9_size 4 = .ok (.iload_n 1, 1) := by decide +kernel
theorem dX9_size_5 : decode cX9_size 5 = .ok (.invokevirtual 72, 3) := by decide +kernel
theorem dX9_size_8 : decode cX9_size 8 = .ok (.astore_n 2, 1) := by decide +kernel
theorem dX9_size_9 : decode cX9_size 9 = .ok (.aload_n 2, 1) := by decide +kernel
theorem dX9_size_10 : decode cX9_size 10 = .ok (.ifnonnull 7, 3) := by decide +kernel
theorem dX9_size_13 : decode cX9_size 13 = .ok (.iconst (-1), 1) := by decide +kernel
theorem dX9_size_14 : decode cX9_size 14 = .ok (.goto 8, 3) := by decide +kernel
theorem dX9_size_17 : decode cX9_size 17 = .ok (.aload_n 2, 1) := by decide +kernel
theorem dX9_size_18 : decode cX9_size 18 = .ok (.getfield 76, 3) := by decide +kernel
theorem dX9_size_21 : decode cX9_size 21 = .ok (.l2i, 1) := by decide +kernel
theorem dX9_size_22 : decode cX9_size 22 = .ok (.ireturn, 1) := by decide +kernel
theorem dX9_state_0 : decode cX9_state 0 = .ok (.aload_n 0, 1) := by decide +kernel
theorem dX9_state_1 : decode cX9_state 1 = .ok (.getfield 28, 3) := by decide +kernel
theorem dX9_state_4 : decode cX9_state 4 = .ok (.iload_n 1, 1) := by decide +kernel
theorem dX9_state_5 : decode cX9_state 5 = .ok (.invokevirtual 72, 3) := by decide +kernel
theorem dX9_state_8 : decode cX9_state 8 = .ok (.astore_n 2, 1) := by decide +kernel
theorem dX9_state_9 : decode cX9_state 9 = .ok (.aload_n 2, 1) := by decide +kernel
theorem dX9_state_10 : decode cX9_state 10 = .ok (.ifnonnull 7, 3) := by decide +kernel
theorem dX9_state_13 : decode cX9_state 13 = .ok (.iconst (-1), 1) := by decide +kernel
theorem dX9_state_14 : decode cX9_state 14 = .ok (.goto 7, 3) := by decide +kernel
theorem dX9_state_17 : decode cX9_state 17 = .ok (.aload_n 2, 1) := by decide +kernel
theorem dX9_state_18 : decode cX9_state 18 = .ok (.getfield 82, 3) := by decide +kernel
theorem dX9_state_21 : decode cX9_state 21 = .ok (.ireturn, 1) := by decide +kernel
theorem dX9_row_0 : decode cX9_row 0 = .ok (.aload_n 0, 1) := by decide +kernel
theorem dX9_row_1 : decode cX9_row 1 = .ok (.getfield 28, 3) := by decide +kernel
theorem dX9_row_4 : decode cX9_row 4 = .ok (.iload_n 1, 1) := by decide +kernel
theorem dX9_row_5 : decode cX9_row 5 = .ok (.invokevirtual 72, 3) := by decide +kernel
theorem dX9_row_8 : decode cX9_row 8 = .ok (.astore_n 3, 1) := by decide +kernel
theorem dX9_row_9 : decode cX9_row 9 = .ok (.aload_n 3, 1) := by decide +kernel
theorem dX9_row_10 : decode cX9_row 10 = .ok (.ifnonnull 5, 3) := by decide +kernel
theorem dX9_row_13 : decode cX9_row 13 = .ok (.iconst (-1), 1) := by decide +kernel
theorem dX9_row_14 : decode cX9_row 14 = .ok (.ireturn, 1) := by decide +kernel
theorem dX9_row_15 : decode cX9_row 15 = .ok (.aload_n 3, 1) := by decide +kernel
theorem dX9_row_16 : decode cX9_row 16 = .ok (.getfield 85, 3) := by decide +kernel
theorem dX9_row_19 : decode cX9_row 19 = .ok (.ifCond .eq 11, 3) := by decide +kernel
theorem dX9_row_22 : decode cX9_row 22 = .ok (.aload_n 3, 1) := by decide +kernel
theorem dX9_row_23 : decode cX9_row 23 = .ok (.getfield 82, 3) := by decide +kernel
theorem dX9_row_26 : decode cX9_row 26 = .ok (.iconst 2, 1) := by decide +kernel
theorem dX9_row_27 : decode cX9_row 27 = .ok (.if_icmp .eq 6, 3) := by decide +kernel
theorem dX9_row_30 : decode cX9_row 30 = .ok (.bipush (-3), 2) := by decide +kernel
theorem dX9_row_32 : decode cX9_row 32 = .ok (.ireturn, 1) := by decide +kernel
theorem dX9_row_33 : decode cX9_row 33 = .ok (.iload_n 2, 1) := by decide +kernel
theorem dX9_row_34 : decode cX9_row 34 = .ok (.ifCond .lt 11, 3) := by decide +kernel
theorem dX9_row_37 : decode cX9_row 37 = .ok (.iload_n 2, 1) := by decide +kernel
theorem dX9_row_38 : decode cX9_row 38 = .ok (.aload_n 3, 1) := by decide +kernel
theorem dX9_row_39 : decode cX9_row 39 = .ok (.invokevirtual 89, 3) := by decide +kernel
theorem dX9_row_42 : decode cX9_row 42 = .ok (.if_icmp .lt 8, 3) := by decide +kernel
theorem dX9_row_45 : decode cX9_row 45 = .ok (.bipush (-2), 2) := by decide +kernel
theorem dX9_row_47 : decode cX9_row 47 = .ok (.goto 11, 3) := by decide +kernel
theorem dX9_row_50 : decode cX9_row 50 = .ok (.aload_n 3, 1) := by decide +kernel
theorem dX9_row_51 : decode cX9_row 51 = .ok (.getfield 93, 3) := by decide +kernel
theorem dX9_row_54 : decode cX9_row 54 = .ok (.iload_n 2, 1) := by decide +kernel
theorem dX9_row_55 : decode cX9_row 55 = .ok (.invokestatic 97, 3) := by decide +kernel
theorem dX9_row_58 : decode cX9_row 58 = .ok (.ireturn, 1) := by decide +kernel
theorem dX9_entry_0 : decode cX9_entry 0 = .ok (.aload_n 0, 1) := by decide +kernel
theorem dX9_entry_1 : decode cX9_entry 1 = .ok (.getfield 40, 3) := by decide +kernel
theorem dX9_entry_4 : decode cX9_entry 4 = .ok (.invokevirtual 101, 3) := by decide +kernel
theorem dX9_entry_7 : decode cX9_entry 7 = .ok (.aload_n 0, 1) := by decide +kernel
theorem dX9_entry_8 : decode cX9_entry 8 = .ok (.getfield 40, 3) := by decide +kernel
theorem dX9_entry_11 : decode cX9_entry 11 = .ok (.iload_n 1, 1) := by decide +kernel
theorem dX9_entry_12 : decode cX9_entry 12 = .ok (.iload_n 2, 1) := by decide +kernel
theorem dX9_entry_13 : decode cX9_entry 13 = .ok (.i2l, 1) := by decide +kernel
theorem dX9_entry_14 : decode cX9_entry 14 = .ok (.invokevirtual 104, 3) := by decide +kernel
theorem dX9_entry_17 : decode cX9_entry 17 = .ok (.ifCond .eq 13, 3) := by decide +kernel
theorem dX9_entry_20 : decode cX9_entry 20 = .ok (.aload_n 0, 1) := by decide +kernel
theorem dX9_entry_21 : decode cX9_entry 21 = .ok (.getfield 40, 3) := by decide +kernel
theorem dX9_entry_24 : decode cX9_entry 24 = .ok (.getfield 108, 3) := by decide +kernel
theorem dX9_entry_27 : decode cX9_entry 27 = .ok (.goto 4, 3) := by decide +kernel
theorem dX9_entry_30 : decode cX9_entry 30 = .ok (.lconst 0, 1) := by decide +kernel
theorem dX9_entry_31 : decode cX9_entry 31 = .ok (.lreturn, 1) := by decide +kernel
theorem dX9_reason_0 : decode cX9_reason 0 = .ok (.aload_n 0, 1) := by decide +kernel
theorem dX9_reason_1 : decode cX9_reason 1 = .ok (.getfield 40, 3) := by decide +kernel
theorem dX9_reason_4 : decode cX9_reason 4 = .ok (.iload_n 1, 1) := by decide +kernel
theorem dX9_reason_5 : decode cX9_reason 5 = .ok (.invokevirtual 111, 3) := by decide +kernel
theorem dX9_reason_8 : decode cX9_reason 8 = .ok (.ireturn, 1) := by decide +kernel
theorem dX9_sum_0 : decode cX9_sum 0 = .ok (.aload_n 0, 1) := by decide +kernel
theorem dX9_sum_1 : decode cX9_sum 1 = .ok (.getfield 28, 3) := by decide +kernel
theorem dX9_sum_4 : decode cX9_sum 4 = .ok (.iload_n 1, 1) := by decide +kernel
theorem dX9_sum_5 : decode cX9_sum 5 = .ok (.invokevirtual 72, 3) := by decide +kernel
theorem dX9_sum_8 : decode cX9_sum 8 = .ok (.ifnonnull 7, 3) := by decide +kernel
theorem dX9_sum_11 : decode cX9_sum 11 = .ok (.ldc2_w 115, 3) := by decide +kernel
theorem dX9_sum_14 : decode cX9_sum 14 = .ok (.lreturn, 1) := by decide +kernel
theorem dX9_sum_15 : decode cX9_sum 15 = .ok (.iload_n 3, 1) := by decide +kernel
theorem dX9_sum_16 : decode cX9_sum 16 = .ok (.i2l, 1) := by decide +kernel
theorem dX9_sum_17 : decode cX9_sum 17 = .ok (.iload_n 2, 1) := by decide +kernel
theorem dX9_sum_18 : decode cX9_sum 18 = .ok (.i2l, 1) := by decide +kernel
theorem dX9_sum_19 : decode cX9_sum 19 = .ok (.lsub, 1) := by decide +kernel
theorem dX9_sum_20 : decode cX9_sum 20 = .ok (.lstore 5, 2) := by decide +kernel
theorem dX9_sum_22 : decode cX9_sum 22 = .ok (.iload 4, 2) := by decide +kernel
theorem dX9_sum_24 : decode cX9_sum 24 = .ok (.ifCond .lt 25, 3) := by decide +kernel
theorem dX9_sum_27 : decode cX9_sum 27 = .ok (.iload 4, 2) := by decide +kernel
theorem dX9_sum_29 : decode cX9_sum 29 = .ok (.iconst 2, 1) := by decide +kernel
theorem dX9_sum_30 : decode cX9_sum 30 = .ok (.if_icmp .gt 19, 3) := by decide +kernel
theorem dX9_sum_33 : decode cX9_sum 33 = .ok (.lload 5, 2) := by decide +kernel
theorem dX9_sum_35 : decode cX9_sum 35 = .ok (.lconst 0, 1) := by decide +kernel
theorem dX9_sum_36 : decode cX9_sum 36 = .ok (.lcmp, 1) := by decide +kernel
theorem dX9_sum_37 : decode cX9_sum 37 = .ok (.ifCond .lt 12, 3) := by decide +kernel
theorem dX9_sum_40 : decode cX9_sum 40 = .ok (.lload 5, 2) := by decide +kernel
theorem dX9_sum_42 : decode cX9_sum 42 = .ok (.ldc2_w 117, 3) := by decide +kernel
theorem dX9_sum_45 : decode cX9_sum 45 = .ok (.lcmp, 1) := by decide +kernel
theorem dX9_sum_46 : decode cX9_sum 46 = .ok (.ifCond .le 7, 3) := by decide +kernel
theorem dX9_sum_49 : decode cX9_sum 49 = .ok (.ldc2_w 119, 3) := by decide +kernel
theorem dX9_sum_52 : decode cX9_sum 52 = .ok (.lreturn, 1) := by decide +kernel
theorem dX9_sum_53 : decode cX9_sum 53 = .ok (.aload_n 0, 1) := by decide +kernel
theorem dX9_sum_54 : decode cX9_sum 54 = .ok (.getfield 40, 3) := by decide +kernel
theorem dX9_sum_57 : decode cX9_sum 57 = .ok (.invokevirtual 101, 3) := by decide +kernel
theorem dX9_sum_60 : decode cX9_sum 60 = .ok (.aload_n 0, 1) := by decide +kernel
theorem dX9_sum_61 : decode cX9_sum 61 = .ok (.getfield 40, 3) := by decide +kernel
theorem dX9_sum_64 : decode cX9_sum 64 = .ok (.iload_n 1, 1) := by decide +kernel
theorem dX9_sum_65 : decode cX9_sum 65 = .ok (.iload_n 2, 1) := by decide +kernel
theorem dX9_sum_66 : decode cX9_sum 66 = .ok (.iload_n 3, 1) := by decide +kernel
theorem dX9_sum_67 : decode cX9_sum 67 = .ok (.invokevirtual 121, 3) := by decide +kernel
theorem dX9_sum_70 : decode cX9_sum 70 = .ok (.ifCond .eq 18, 3) := by decide +kernel
theorem dX9_sum_73 : decode cX9_sum 73 = .ok (.aload_n 0, 1) := by decide +kernel
theorem dX9_sum_74 : decode cX9_sum 74 = .ok (.getfield 40, 3) := by decide +kernel
theorem dX9_sum_77 : decode cX9_sum 77 = .ok (.getfield 125, 3) := by decide +kernel
theorem dX9_sum_80 : decode cX9_sum 80 = .ok (.iload 4, 2) := by decide +kernel
theorem dX9_sum_82 : decode cX9_sum 82 = .ok (.invokevirtual 129, 3) := by decide +kernel
theorem dX9_sum_85 : decode cX9_sum 85 = .ok (.goto 4, 3) := by decide +kernel
theorem dX9_sum_88 : decode cX9_sum 88 = .ok (.lconst 0, 1) := by decide +kernel
theorem dX9_sum_89 : decode cX9_sum 89 = .ok (.lreturn, 1) := by decide +kernel
theorem dX9_find_0 : decode cX9_find 0 = .ok (.aload_n 0, 1) := by decide +kernel
theorem dX9_find_1 : decode cX9_find 1 = .ok (.getfield 28, 3) := by decide +kernel
theorem dX9_find_4 : decode cX9_find 4 = .ok (.iload_n 1, 1) := by decide +kernel
theorem dX9_find_5 : decode cX9_find 5 = .ok (.invokevirtual 72, 3) := by decide +kernel
theorem dX9_find_8 : decode cX9_find 8 = .ok (.ifnonnull 5, 3) := by decide +kernel
theorem dX9_find_11 : decode cX9_find 11 = .ok (.iconst (-1), 1) := by decide +kernel
theorem dX9_find_12 : decode cX9_find 12 = .ok (.ireturn, 1) := by decide +kernel
theorem dX9_find_13 : decode cX9_find 13 = .ok (.aload_n 0, 1) := by decide +kernel
theorem dX9_find_14 : decode cX9_find 14 = .ok (.getfield 40, 3) := by decide +kernel
theorem dX9_find_17 : decode cX9_find 17 = .ok (.invokevirtual 101, 3) := by decide +kernel
theorem dX9_find_20 : decode cX9_find 20 = .ok (.aload_n 0, 1) := by decide +kernel
theorem dX9_find_21 : decode cX9_find 21 = .ok (.getfield 40, 3) := by decide +kernel
theorem dX9_find_24 : decode cX9_find 24 = .ok (.iload_n 1, 1) := by decide +kernel
theorem dX9_find_25 : decode cX9_find 25 = .ok (.lload_n 2, 1) := by decide +kernel
theorem dX9_find_26 : decode cX9_find 26 = .ok (.invokevirtual 135, 3) := by decide +kernel
theorem dX9_find_29 : decode cX9_find 29 = .ok (.ireturn, 1) := by decide +kernel
theorem dX9_drop_0 : decode cX9_drop 0 = .ok (.aload_n 0, 1) := by decide +kernel
theorem dX9_drop_1 : decode cX9_drop 1 = .ok (.getfield 28, 3) := by decide +kernel
theorem dX9_drop_4 : decode cX9_drop 4 = .ok (.iload_n 1, 1) := by decide +kernel
theorem dX9_drop_5 : decode cX9_drop 5 = .ok (.invokevirtual 72, 3) := by decide +kernel
theorem dX9_drop_8 : decode cX9_drop 8 = .ok (.astore_n 2, 1) := by decide +kernel
theorem dX9_drop_9 : decode cX9_drop 9 = .ok (.aload_n 2, 1) := by decide +kernel
theorem dX9_drop_10 : decode cX9_drop 10 = .ok (.ifnonnull 5, 3) := by decide +kernel
theorem dX9_drop_13 : decode cX9_drop 13 = .ok (.iconst (-1), 1) := by decide +kernel
theorem dX9_drop_14 : decode cX9_drop 14 = .ok (.ireturn, 1) := by decide +kernel
theorem dX9_drop_15 : decode cX9_drop 15 = .ok (.aload_n 2, 1) := by decide +kernel
theorem dX9_drop_16 : decode cX9_drop 16 = .ok (.getfield 82, 3) := by decide +kernel
theorem dX9_drop_19 : decode cX9_drop 19 = .ok (.iconst 2, 1) := by decide +kernel
theorem dX9_drop_20 : decode cX9_drop 20 = .ok (.if_icmp .eq 6, 3) := by decide +kernel
theorem dX9_drop_23 : decode cX9_drop 23 = .ok (.bipush (-3), 2) := by decide +kernel
theorem dX9_drop_25 : decode cX9_drop 25 = .ok (.ireturn, 1) := by decide +kernel
theorem dX9_drop_26 : decode cX9_drop 26 = .ok (.aload_n 2, 1) := by decide +kernel
theorem dX9_drop_27 : decode cX9_drop 27 = .ok (.invokevirtual 139, 3) := by decide +kernel
theorem dX9_drop_30 : decode cX9_drop 30 = .ok (.aload_n 2, 1) := by decide +kernel
theorem dX9_drop_31 : decode cX9_drop 31 = .ok (.getfield 76, 3) := by decide +kernel
theorem dX9_drop_34 : decode cX9_drop 34 = .ok (.l2i, 1) := by decide +kernel
theorem dX9_drop_35 : decode cX9_drop 35 = .ok (.ireturn, 1) := by decide +kernel
theorem dX9_builds_0 : decode cX9_builds 0 = .ok (.aload_n 0, 1) := by decide +kernel
theorem dX9_builds_1 : decode cX9_builds 1 = .ok (.getfield 40, 3) := by decide +kernel
theorem dX9_builds_4 : decode cX9_builds 4 = .ok (.getfield 140, 3) := by decide +kernel
theorem dX9_builds_7 : decode cX9_builds 7 = .ok (.getfield 144, 3) := by decide +kernel
theorem dX9_builds_10 : decode cX9_builds 10 = .ok (.ireturn, 1) := by decide +kernel
theorem dX9_build_0 : decode cX9_build 0 = .ok (.aload_n 0, 1) := by decide +kernel
theorem dX9_build_1 : decode cX9_build 1 = .ok (.getfield 40, 3) := by decide +kernel
theorem dX9_build_4 : decode cX9_build 4 = .ok (.getfield 140, 3) := by decide +kernel
theorem dX9_build_7 : decode cX9_build 7 = .ok (.astore_n 3, 1) := by decide +kernel
theorem dX9_build_8 : decode cX9_build 8 = .ok (.aload_n 3, 1) := by decide +kernel
theorem dX9_build_9 : decode cX9_build 9 = .ok (.iload_n 1, 1) := by decide +kernel
theorem dX9_build_10 : decode cX9_build 10 = .ok (.invokevirtual 149, 3) := by decide +kernel
theorem dX9_build_13 : decode cX9_build 13 = .ok (.ifCond .ne 5, 3) := by decide +kernel
theorem dX9_build_16 : decode cX9_build 16 = .ok (.iconst (-1), 1) := by decide +kernel
theorem dX9_build_17 : decode cX9_build 17 = .ok (.ireturn, 1) := by decide +kernel
theorem dX9_build_18 : decode cX9_build 18 = .ok (.iload_n 2, 1) := by decide +kernel
theorem dX9_build_19 : decode cX9_build 19 = .ok (.ifCond .lt 8, 3) := by decide +kernel
theorem dX9_build_22 : decode cX9_build 22 = .ok (.iload_n 2, 1) := by decide +kernel
theorem dX9_build_23 : decode cX9_build 23 = .ok (.iconst 2, 1) := by decide +kernel
theorem dX9_build_24 : decode cX9_build 24 = .ok (.if_icmp .le 8, 3) := by decide +kernel
theorem dX9_build_27 : decode cX9_build 27 = .ok (.bipush (-2), 2) := by decide +kernel
theorem dX9_build_29 : decode cX9_build 29 = .ok (.goto 10, 3) := by decide +kernel
theorem dX9_build_32 : decode cX9_build 32 = .ok (.aload_n 3, 1) := by decide +kernel
theorem dX9_build_33 : decode cX9_build 33 = .ok (.iload_n 1, 1) := by decide +kernel
theorem dX9_build_34 : decode cX9_build 34 = .ok (.iload_n 2, 1) := by decide +kernel
theorem dX9_build_35 : decode cX9_build 35 = .ok (.invokevirtual 153, 3) := by decide +kernel
theorem dX9_build_38 : decode cX9_build 38 = .ok (.l2i, 1) := by decide +kernel
theorem dX9_build_39 : decode cX9_build 39 = .ok (.ireturn, 1) := by decide +kernel
theorem dX9_halves_0 : decode cX9_halves 0 = .ok (.aload_n 0, 1) := by decide +kernel
theorem dX9_halves_1 : decode cX9_halves 1 = .ok (.getfield 40, 3) := by decide +kernel
theorem dX9_halves_4 : decode cX9_halves 4 = .ok (.getfield 156, 3) := by decide +kernel
theorem dX9_halves_7 : decode cX9_halves 7 = .ok (.getfield 144, 3) := by decide +kernel
theorem dX9_halves_10 : decode cX9_halves 10 = .ok (.ireturn, 1) := by decide +kernel
theorem dX9_half_0 : decode cX9_half 0 = .ok (.aload_n 0, 1) := by decide +kernel
theorem dX9_half_1 : decode cX9_half 1 = .ok (.getfield 40, 3) := by decide +kernel
theorem dX9_half_4 : decode cX9_half 4 = .ok (.getfield 156, 3) := by decide +kernel
theorem dX9_half_7 : decode cX9_half 7 = .ok (.astore_n 3, 1) := by decide +kernel
theorem dX9_half_8 : decode cX9_half 8 = .ok (.aload_n 3, 1) := by decide +kernel
theorem dX9_half_9 : decode cX9_half 9 = .ok (.iload_n 1, 1) := by decide +kernel
theorem dX9_half_10 : decode cX9_half 10 = .ok (.invokevirtual 149, 3) := by decide +kernel
theorem dX9_half_13 : decode cX9_half 13 = .ok (.ifCond .ne 7, 3) := by decide +kernel
theorem dX9_half_16 : decode cX9_half 16 = .ok (.ldc2_w 115, 3) := by decide +kernel
theorem dX9_half_19 : decode cX9_half 19 = .ok (.lreturn, 1) := by decide +kernel
theorem dX9_half_20 : decode cX9_half 20 = .ok (.iload_n 2, 1) := by decide +kernel
theorem dX9_half_21 : decode cX9_half 21 = .ok (.ifCond .lt 8, 3) := by decide +kernel
theorem dX9_half_24 : decode cX9_half 24 = .ok (.iload_n 2, 1) := by decide +kernel
theorem dX9_half_25 : decode cX9_half 25 = .ok (.iconst 3, 1) := by decide +kernel
theorem dX9_half_26 : decode cX9_half 26 = .ok (.if_icmp .le 9, 3) := by decide +kernel
theorem dX9_half_29 : decode cX9_half 29 = .ok (.ldc2_w 119, 3) := by decide +kernel
theorem dX9_half_32 : decode cX9_half 32 = .ok (.goto 9, 3) := by decide +kernel
theorem dX9_half_35 : decode cX9_half 35 = .ok (.aload_n 3, 1) := by decide +kernel
theorem dX9_half_36 : decode cX9_half 36 = .ok (.iload_n 1, 1) := by decide +kernel
theorem dX9_half_37 : decode cX9_half 37 = .ok (.iload_n 2, 1) := by decide +kernel
theorem dX9_half_38 : decode cX9_half 38 = .ok (.invokevirtual 153, 3) := by decide +kernel
theorem dX9_half_41 : decode cX9_half 41 = .ok (.lreturn, 1) := by decide +kernel
theorem dX9_reads_0 : decode cX9_reads 0 = .ok (.aload_n 0, 1) := by decide +kernel
theorem dX9_reads_1 : decode cX9_reads 1 = .ok (.getfield 28, 3) := by decide +kernel
theorem dX9_reads_4 : decode cX9_reads 4 = .ok (.iload_n 1, 1) := by decide +kernel
theorem dX9_reads_5 : decode cX9_reads 5 = .ok (.invokevirtual 72, 3) := by decide +kernel
theorem dX9_reads_8 : decode cX9_reads 8 = .ok (.astore_n 3, 1) := by decide +kernel
theorem dX9_reads_9 : decode cX9_reads 9 = .ok (.aload_n 3, 1) := by decide +kernel
theorem dX9_reads_10 : decode cX9_reads 10 = .ok (.ifnull 14, 3) := by decide +kernel
theorem dX9_reads_13 : decode cX9_reads 13 = .ok (.aload_n 0, 1) := by decide +kernel
theorem dX9_reads_14 : decode cX9_reads 14 = .ok (.getfield 28, 3) := by decide +kernel
theorem dX9_reads_17 : decode cX9_reads 17 = .ok (.iload_n 2, 1) := by decide +kernel
theorem dX9_reads_18 : decode cX9_reads 18 = .ok (.invokevirtual 72, 3) := by decide +kernel
theorem dX9_reads_21 : decode cX9_reads 21 = .ok (.ifnonnull 5, 3) := by decide +kernel
theorem dX9_reads_24 : decode cX9_reads 24 = .ok (.iconst (-1), 1) := by decide +kernel
theorem dX9_reads_25 : decode cX9_reads 25 = .ok (.ireturn, 1) := by decide +kernel
theorem dX9_reads_26 : decode cX9_reads 26 = .ok (.aload_n 3, 1) := by decide +kernel
theorem dX9_reads_27 : decode cX9_reads 27 = .ok (.getfield 159, 3) := by decide +kernel
theorem dX9_reads_30 : decode cX9_reads 30 = .ok (.iload_n 2, 1) := by decide +kernel
theorem dX9_reads_31 : decode cX9_reads 31 = .ok (.invokevirtual 163, 3) := by decide +kernel
theorem dX9_reads_34 : decode cX9_reads 34 = .ok (.ifCond .eq 7, 3) := by decide +kernel
theorem dX9_reads_37 : decode cX9_reads 37 = .ok (.iconst 1, 1) := by decide +kernel
theorem dX9_reads_38 : decode cX9_reads 38 = .ok (.goto 4, 3) := by decide +kernel
theorem dX9_reads_41 : decode cX9_reads 41 = .ok (.iconst 0, 1) := by decide +kernel
theorem dX9_reads_42 : decode cX9_reads 42 = .ok (.ireturn, 1) := by decide +kernel
theorem dX9_count_0 : decode cX9_count 0 = .ok (.iload_n 1, 1) := by decide +kernel
theorem dX9_count_1 : decode cX9_count 1 = .ok (.tableswitch 77 0 4 #[35, 43, 52, 61, 69], 35) := by decide +kernel
theorem dX9_count_36 : decode cX9_count 36 = .ok (.aload_n 0, 1) := by decide +kernel
theorem dX9_count_37 : decode cX9_count 37 = .ok (.getfield 28, 3) := by decide +kernel
theorem dX9_count_40 : decode cX9_count 40 = .ok (.getfield 65, 3) := by decide +kernel
theorem dX9_count_43 : decode cX9_count 43 = .ok (.ireturn, 1) := by decide +kernel
theorem dX9_count_44 : decode cX9_count 44 = .ok (.aload_n 0, 1) := by decide +kernel
theorem dX9_count_45 : decode cX9_count 45 = .ok (.getfield 28, 3) := by decide +kernel
theorem dX9_count_48 : decode cX9_count 48 = .ok (.iconst 2, 1) := by decide +kernel
theorem dX9_count_49 : decode cX9_count 49 = .ok (.invokevirtual 168, 3) := by decide +kernel
theorem dX9_count_52 : decode cX9_count 52 = .ok (.ireturn, 1) := by decide +kernel
theorem dX9_count_53 : decode cX9_count 53 = .ok (.aload_n 0, 1) := by decide +kernel
theorem dX9_count_54 : decode cX9_count 54 = .ok (.getfield 28, 3) := by decide +kernel
theorem dX9_count_57 : decode cX9_count 57 = .ok (.iconst 3, 1) := by decide +kernel
theorem dX9_count_58 : decode cX9_count 58 = .ok (.invokevirtual 168, 3) := by decide +kernel
theorem dX9_count_61 : decode cX9_count 61 = .ok (.ireturn, 1) := by decide +kernel
theorem dX9_count_62 : decode cX9_count 62 = .ok (.aload_n 0, 1) := by decide +kernel
theorem dX9_count_63 : decode cX9_count 63 = .ok (.getfield 28, 3) := by decide +kernel
theorem dX9_count_66 : decode cX9_count 66 = .ok (.invokevirtual 171, 3) := by decide +kernel
theorem dX9_count_69 : decode cX9_count 69 = .ok (.ireturn, 1) := by decide +kernel
theorem dX9_count_70 : decode cX9_count 70 = .ok (.aload_n 0, 1) := by decide +kernel
theorem dX9_count_71 : decode cX9_count 71 = .ok (.getfield 12, 3) := by decide +kernel
theorem dX9_count_74 : decode cX9_count 74 = .ok (.getfield 48, 3) := by decide +kernel
theorem dX9_count_77 : decode cX9_count 77 = .ok (.ireturn, 1) := by decide +kernel
theorem dX9_count_78 : decode cX9_count 78 = .ok (.bipush (-2), 2) := by decide +kernel
theorem dX9_count_80 : decode cX9_count 80 = .ok (.ireturn, 1) := by decide +kernel
theorem dX9_at_0 : decode cX9_at 0 = .ok (.iload_n 1, 1) := by decide +kernel
theorem dX9_at_1 : decode cX9_at 1 = .ok (.ifCond .lt 15, 3) := by decide +kernel
theorem dX9_at_4 : decode cX9_at 4 = .ok (.iload_n 1, 1) := by decide +kernel
theorem dX9_at_5 : decode cX9_at 5 = .ok (.aload_n 0, 1) := by decide +kernel
theorem dX9_at_6 : decode cX9_at 6 = .ok (.arraylength, 1) := by decide +kernel
theorem dX9_at_7 : decode cX9_at 7 = .ok (.if_icmp .ge 9, 3) := by decide +kernel
theorem dX9_at_10 : decode cX9_at 10 = .ok (.aload_n 0, 1) := by decide +kernel
theorem dX9_at_11 : decode cX9_at 11 = .ok (.iload_n 1, 1) := by decide +kernel
theorem dX9_at_12 : decode cX9_at 12 = .ok (.iaload, 1) := by decide +kernel
theorem dX9_at_13 : decode cX9_at 13 = .ok (.goto 4, 3) := by decide +kernel
theorem dX9_at_16 : decode cX9_at 16 = .ok (.iconst 0, 1) := by decide +kernel
theorem dX9_at_17 : decode cX9_at 17 = .ok (.ireturn, 1) := by decide +kernel
theorem dX9_at__0 : decode cX9_at_ 0 = .ok (.iload_n 1, 1) := by decide +kernel
theorem dX9_at__1 : decode cX9_at_ 1 = .ok (.ifCond .lt 15, 3) := by decide +kernel
theorem dX9_at__4 : decode cX9_at_ 4 = .ok (.iload_n 1, 1) := by decide +kernel
theorem dX9_at__5 : decode cX9_at_ 5 = .ok (.aload_n 0, 1) := by decide +kernel
theorem dX9_at__6 : decode cX9_at_ 6 = .ok (.arraylength, 1) := by decide +kernel
theorem dX9_at__7 : decode cX9_at_ 7 = .ok (.if_icmp .ge 9, 3) := by decide +kernel
theorem dX9_at__10 : decode cX9_at_ 10 = .ok (.aload_n 0, 1) := by decide +kernel
theorem dX9_at__11 : decode cX9_at_ 11 = .ok (.iload_n 1, 1) := by decide +kernel
theorem dX9_at__12 : decode cX9_at_ 12 = .ok (.laload, 1) := by decide +kernel
theorem dX9_at__13 : decode cX9_at_ 13 = .ok (.goto 4, 3) := by decide +kernel
theorem dX9_at__16 : decode cX9_at_ 16 = .ok (.lconst 0, 1) := by decide +kernel
theorem dX9_at__17 : decode cX9_at_ 17 = .ok (.lreturn, 1) := by decide +kernel
theorem dX9_put_0 : decode cX9_put 0 = .ok (.iload_n 1, 1) := by decide +kernel
theorem dX9_put_1 : decode cX9_put 1 = .ok (.ifCond .lt 13, 3) := by decide +kernel
theorem dX9_put_4 : decode cX9_put 4 = .ok (.iload_n 1, 1) := by decide +kernel
theorem dX9_put_5 : decode cX9_put 5 = .ok (.aload_n 0, 1) := by decide +kernel
theorem dX9_put_6 : decode cX9_put 6 = .ok (.arraylength, 1) := by decide +kernel
theorem dX9_put_7 : decode cX9_put 7 = .ok (.if_icmp .ge 7, 3) := by decide +kernel
theorem dX9_put_10 : decode cX9_put 10 = .ok (.aload_n 0, 1) := by decide +kernel
theorem dX9_put_11 : decode cX9_put 11 = .ok (.iload_n 1, 1) := by decide +kernel
theorem dX9_put_12 : decode cX9_put 12 = .ok (.iload_n 2, 1) := by decide +kernel
theorem dX9_put_13 : decode cX9_put 13 = .ok (.iastore, 1) := by decide +kernel
theorem dX9_put_14 : decode cX9_put 14 = .ok (.return_, 1) := by decide +kernel
theorem dX9_put__0 : decode cX9_put_ 0 = .ok (.iload_n 1, 1) := by decide +kernel
theorem dX9_put__1 : decode cX9_put_ 1 = .ok (.ifCond .lt 13, 3) := by decide +kernel
theorem dX9_put__4 : decode cX9_put_ 4 = .ok (.iload_n 1, 1) := by decide +kernel
theorem dX9_put__5 : decode cX9_put_ 5 = .ok (.aload_n 0, 1) := by decide +kernel
theorem dX9_put__6 : decode cX9_put_ 6 = .ok (.arraylength, 1) := by decide +kernel
theorem dX9_put__7 : decode cX9_put_ 7 = .ok (.if_icmp .ge 7, 3) := by decide +kernel
theorem dX9_put__10 : decode cX9_put_ 10 = .ok (.aload_n 0, 1) := by decide +kernel
theorem dX9_put__11 : decode cX9_put_ 11 = .ok (.iload_n 1, 1) := by decide +kernel
theorem dX9_put__12 : decode cX9_put_ 12 = .ok (.lload_n 2, 1) := by decide +kernel
theorem dX9_put__13 : decode cX9_put_ 13 = .ok (.lastore, 1) := by decide +kernel
theorem dX9_put__14 : decode cX9_put_ 14 = .ok (.return_, 1) := by decide +kernel
theorem dJ9_max_f86c9_0 : decode cJ9_max_f86c9 0 = .ok (.lload_n 0, 1) := by decide +kernel
theorem dJ9_max_f86c9_1 : decode cJ9_max_f86c9 1 = .ok (.lload_n 2, 1) := by decide +kernel
theorem dJ9_max_f86c9_2 : decode cJ9_max_f86c9 2 = .ok (.lcmp, 1) := by decide +kernel
theorem dJ9_max_f86c9_3 : decode cJ9_max_f86c9 3 = .ok (.ifCond .lt 7, 3) := by decide +kernel
theorem dJ9_max_f86c9_6 : decode cJ9_max_f86c9 6 = .ok (.lload_n 0, 1) := by decide +kernel
theorem dJ9_max_f86c9_7 : decode cJ9_max_f86c9 7 = .ok (.goto 4, 3) := by decide +kernel
theorem dJ9_max_f86c9_10 : decode cJ9_max_f86c9 10 = .ok (.lload_n 2, 1) := by decide +kernel
theorem dJ9_max_f86c9_11 : decode cJ9_max_f86c9 11 = .ok (.lreturn, 1) := by decide +kernel
theorem dJ9_min_7cf53_0 : decode cJ9_min_7cf53 0 = .ok (.iload_n 0, 1) := by decide +kernel
theorem dJ9_min_7cf53_1 : decode cJ9_min_7cf53 1 = .ok (.iload_n 1, 1) := by decide +kernel
theorem dJ9_min_7cf53_2 : decode cJ9_min_7cf53 2 = .ok (.if_icmp .gt 7, 3) := by decide +kernel
theorem dJ9_min_7cf53_5 : decode cJ9_min_7cf53 5 = .ok (.iload_n 0, 1) := by decide +kernel
theorem dJ9_min_7cf53_6 : decode cJ9_min_7cf53 6 = .ok (.goto 4, 3) := by decide +kernel
theorem dJ9_min_7cf53_9 : decode cJ9_min_7cf53 9 = .ok (.iload_n 1, 1) := by decide +kernel
theorem dJ9_min_7cf53_10 : decode cJ9_min_7cf53 10 = .ok (.ireturn, 1) := by decide +kernel
theorem dJ9_min_f86c9_0 : decode cJ9_min_f86c9 0 = .ok (.lload_n 0, 1) := by decide +kernel
theorem dJ9_min_f86c9_1 : decode cJ9_min_f86c9 1 = .ok (.lload_n 2, 1) := by decide +kernel
theorem dJ9_min_f86c9_2 : decode cJ9_min_f86c9 2 = .ok (.lcmp, 1) := by decide +kernel
theorem dJ9_min_f86c9_3 : decode cJ9_min_f86c9 3 = .ok (.ifCond .gt 7, 3) := by decide +kernel
theorem dJ9_min_f86c9_6 : decode cJ9_min_f86c9 6 = .ok (.lload_n 0, 1) := by decide +kernel
theorem dJ9_min_f86c9_7 : decode cJ9_min_f86c9 7 = .ok (.goto 4, 3) := by decide +kernel
theorem dJ9_min_f86c9_10 : decode cJ9_min_f86c9 10 = .ok (.lload_n 2, 1) := by decide +kernel
theorem dJ9_min_f86c9_11 : decode cJ9_min_f86c9 11 = .ok (.lreturn, 1) := by decide +kernel
theorem dL_law_0 : decode cL_law 0 = .ok (.new 7, 3) := by decide +kernel
theorem dL_law_3 : decode cL_law 3 = .ok (.dup, 1) := by decide +kernel
theorem dL_law_4 : decode cL_law 4 = .ok (.invokespecial 9, 3) := by decide +kernel
theorem dL_law_7 : decode cL_law 7 = .ok (.astore_n 1, 1) := by decide +kernel
theorem dL_law_8 : decode cL_law 8 = .ok (.new 10, 3) := by decide +kernel
theorem dL_law_11 : decode cL_law 11 = .ok (.dup, 1) := by decide +kernel
theorem dL_law_12 : decode cL_law 12 = .ok (.invokespecial 12, 3) := by decide +kernel
theorem dL_law_15 : decode cL_law 15 = .ok (.astore_n 2, 1) := by decide +kernel
theorem dL_law_16 : decode cL_law 16 = .ok (.iconst 0, 1) := by decide +kernel
theorem dL_law_17 : decode cL_law 17 = .ok (.istore_n 3, 1) := by decide +kernel
theorem dL_law_18 : decode cL_law 18 = .ok (.iload_n 3, 1) := by decide +kernel
theorem dL_law_19 : decode cL_law 19 = .ok (.aload_n 0, 1) := by decide +kernel
theorem dL_law_20 : decode cL_law 20 = .ok (.arraylength, 1) := by decide +kernel
theorem dL_law_21 : decode cL_law 21 = .ok (.iconst 5, 1) := by decide +kernel
theorem dL_law_22 : decode cL_law 22 = .ok (.isub, 1) := by decide +kernel
theorem dL_law_23 : decode cL_law 23 = .ok (.if_icmp .gt 660, 3) := by decide +kernel
theorem dL_law_26 : decode cL_law 26 = .ok (.aload_n 0, 1) := by decide +kernel
theorem dL_law_27 : decode cL_law 27 = .ok (.iload_n 3, 1) := by decide +kernel
theorem dL_law_28 : decode cL_law 28 = .ok (.iaload, 1) := by decide +kernel
theorem dL_law_29 : decode cL_law 29 = .ok (.bipush 31, 2) := by decide +kernel
theorem dL_law_31 : decode cL_law 31 = .ok (.iand, 1) := by decide +kernel
theorem dL_law_32 : decode cL_law 32 = .ok (.tableswitch 645 0 17 #[88, 141, 154, 167, 220, 243, 266, 299, 333, 356, 410, 473, 496, 509, 542, 555, 589, 622], 88) := by decide +kernel
theorem dL_law_120 : decode cL_law 120 = .ok (.aload_n 1, 1) := by decide +kernel
theorem dL_law_121 : decode cL_law 121 = .ok (.aload_n 0, 1) := by decide +kernel
theorem dL_law_122 : decode cL_law 122 = .ok (.iload_n 3, 1) := by decide +kernel
theorem dL_law_123 : decode cL_law 123 = .ok (.iconst 1, 1) := by decide +kernel
theorem dL_law_124 : decode cL_law 124 = .ok (.iadd, 1) := by decide +kernel
theorem dL_law_125 : decode cL_law 125 = .ok (.iaload, 1) := by decide +kernel
theorem dL_law_126 : decode cL_law 126 = .ok (.i2l, 1) := by decide +kernel
theorem dL_law_127 : decode cL_law 127 = .ok (.bipush 32, 2) := by decide +kernel
theorem dL_law_129 : decode cL_law 129 = .ok (.lshl, 1) := by decide +kernel
theorem dL_law_130 : decode cL_law 130 = .ok (.aload_n 0, 1) := by decide +kernel
theorem dL_law_131 : decode cL_law 131 = .ok (.iload_n 3, 1) := by decide +kernel
theorem dL_law_132 : decode cL_law 132 = .ok (.iconst 2, 1) := by decide +kernel
theorem dL_law_133 : decode cL_law 133 = .ok (.iadd, 1) := by decide +kernel
theorem dL_law_134 : decode cL_law 134 = .ok (.iaload, 1) := by decide +kernel
theorem dL_law_135 : decode cL_law 135 = .ok (.i2l, 1) := by decide +kernel
theorem dL_law_136 : decode cL_law 136 = .ok (.ldc2_w 13, 3) := by decide +kernel
theorem dL_law_139 : decode cL_law 139 = .ok (.land, 1) := by decide +kernel
theorem dL_law_140 : decode cL_law 140 = .ok (.lor, 1) := by decide +kernel
theorem dL_law_141 : decode cL_law 141 = .ok (.invokevirtual 15, 3) := by decide +kernel
theorem dL_law_144 : decode cL_law 144 = .ok (.aload_n 2, 1) := by decide +kernel
theorem dL_law_145 : decode cL_law 145 = .ok (.aload_n 0, 1) := by decide +kernel
theorem dL_law_146 : decode cL_law 146 = .ok (.iload_n 3, 1) := by decide +kernel
theorem dL_law_147 : decode cL_law 147 = .ok (.iconst 1, 1) := by decide +kernel
theorem dL_law_148 : decode cL_law 148 = .ok (.iadd, 1) := by decide +kernel
theorem dL_law_149 : decode cL_law 149 = .ok (.iaload, 1) := by decide +kernel
theorem dL_law_150 : decode cL_law 150 = .ok (.i2l, 1) := by decide +kernel
theorem dL_law_151 : decode cL_law 151 = .ok (.bipush 32, 2) := by decide +kernel
theorem dL_law_153 : decode cL_law 153 = .ok (.lshl, 1) := by decide +kernel
theorem dL_law_154 : decode cL_law 154 = .ok (.aload_n 0, 1) := by decide +kernel
theorem dL_law_155 : decode cL_law 155 = .ok (.iload_n 3, 1) := by decide +kernel
theorem dL_law_156 : decode cL_law 156 = .ok (.iconst 2, 1) := by decide +kernel
theorem dL_law_157 : decode cL_law 157 = .ok (.iadd, 1) := by decide +kernel
theorem dL_law_158 : decode cL_law 158 = .ok (.iaload, 1) := by decide +kernel
theorem dL_law_159 : decode cL_law 159 = .ok (.i2l, 1) := by decide +kernel
theorem dL_law_160 : decode cL_law 160 = .ok (.ldc2_w 13, 3) := by decide +kernel
theorem dL_law_163 : decode cL_law 163 = .ok (.land, 1) := by decide +kernel
theorem dL_law_164 : decode cL_law 164 = .ok (.lor, 1) := by decide +kernel
theorem dL_law_165 : decode cL_law 165 = .ok (.invokevirtual 19, 3) := by decide +kernel
theorem dL_law_168 : decode cL_law 168 = .ok (.if_icmp .eq 509, 3) := by decide +kernel
theorem dL_law_171 : decode cL_law 171 = .ok (.iconst 0, 1) := by decide +kernel
theorem dL_law_172 : decode cL_law 172 = .ok (.ireturn, 1) := by decide +kernel
theorem dL_law_173 : decode cL_law 173 = .ok (.aload_n 1, 1) := by decide +kernel
theorem dL_law_174 : decode cL_law 174 = .ok (.invokevirtual 20, 3) := by decide +kernel
theorem dL_law_177 : decode cL_law 177 = .ok (.aload_n 2, 1) := by decide +kernel
theorem dL_law_178 : decode cL_law 178 = .ok (.invokevirtual 24, 3) := by decide +kernel
theorem dL_law_181 : decode cL_law 181 = .ok (.if_icmp .eq 496, 3) := by decide +kernel
theorem dL_law_184 : decode cL_law 184 = .ok (.iconst 0, 1) := by decide +kernel
theorem dL_law_185 : decode cL_law 185 = .ok (.ireturn, 1) := by decide +kernel
theorem dL_law_186 : decode cL_law 186 = .ok (.aload_n 1, 1) := by decide +kernel
theorem dL_law_187 : decode cL_law 187 = .ok (.invokevirtual 25, 3) := by decide +kernel
theorem dL_law_190 : decode cL_law 190 = .ok (.aload_n 2, 1) := by decide +kernel
theorem dL_law_191 : decode cL_law 191 = .ok (.invokevirtual 28, 3) := by decide +kernel
theorem dL_law_194 : decode cL_law 194 = .ok (.if_icmp .eq 483, 3) := by decide +kernel
theorem dL_law_197 : decode cL_law 197 = .ok (.iconst 0, 1) := by decide +kernel
theorem dL_law_198 : decode cL_law 198 = .ok (.ireturn, 1) := by decide +kernel
theorem dL_law_199 : decode cL_law 199 = .ok (.aload_n 1, 1) := by decide +kernel
theorem dL_law_200 : decode cL_law 200 = .ok (.aload_n 0, 1) := by decide +kernel
theorem dL_law_201 : decode cL_law 201 = .ok (.iload_n 3, 1) := by decide +kernel
theorem dL_law_202 : decode cL_law 202 = .ok (.iconst 1, 1) := by decide +kernel
theorem dL_law_203 : decode cL_law 203 = .ok (.iadd, 1) := by decide +kernel
theorem dL_law_204 : decode cL_law 204 = .ok (.iaload, 1) := by decide +kernel
theorem dL_law_205 : decode cL_law 205 = .ok (.i2l, 1) := by decide +kernel
theorem dL_law_206 : decode cL_law 206 = .ok (.bipush 32, 2) := by decide +kernel
theorem dL_law_208 : decode cL_law 208 = .ok (.lshl, 1) := by decide +kernel
theorem dL_law_209 : decode cL_law 209 = .ok (.aload_n 0, 1) := by decide +kernel
theorem dL_law_210 : decode cL_law 210 = .ok (.iload_n 3, 1) := by decide +kernel
theorem dL_law_211 : decode cL_law 211 = .ok (.iconst 2, 1) := by decide +kernel
theorem dL_law_212 : decode cL_law 212 = .ok (.iadd, 1) := by decide +kernel
theorem dL_law_213 : decode cL_law 213 = .ok (.iaload, 1) := by decide +kernel
theorem dL_law_214 : decode cL_law 214 = .ok (.i2l, 1) := by decide +kernel
theorem dL_law_215 : decode cL_law 215 = .ok (.ldc2_w 13, 3) := by decide +kernel
theorem dL_law_218 : decode cL_law 218 = .ok (.land, 1) := by decide +kernel
theorem dL_law_219 : decode cL_law 219 = .ok (.lor, 1) := by decide +kernel
theorem dL_law_220 : decode cL_law 220 = .ok (.invokevirtual 29, 3) := by decide +kernel
theorem dL_law_223 : decode cL_law 223 = .ok (.aload_n 2, 1) := by decide +kernel
theorem dL_law_224 : decode cL_law 224 = .ok (.aload_n 0, 1) := by decide +kernel
theorem dL_law_225 : decode cL_law 225 = .ok (.iload_n 3, 1) := by decide +kernel
theorem dL_law_226 : decode cL_law 226 = .ok (.iconst 1, 1) := by decide +kernel
theorem dL_law_227 : decode cL_law 227 = .ok (.iadd, 1) := by decide +kernel
theorem dL_law_228 : decode cL_law 228 = .ok (.iaload, 1) := by decide +kernel
theorem dL_law_229 : decode cL_law 229 = .ok (.i2l, 1) := by decide +kernel
theorem dL_law_230 : decode cL_law 230 = .ok (.bipush 32, 2) := by decide +kernel
theorem dL_law_232 : decode cL_law 232 = .ok (.lshl, 1) := by decide +kernel
theorem dL_law_233 : decode cL_law 233 = .ok (.aload_n 0, 1) := by decide +kernel
theorem dL_law_234 : decode cL_law 234 = .ok (.iload_n 3, 1) := by decide +kernel
theorem dL_law_235 : decode cL_law 235 = .ok (.iconst 2, 1) := by decide +kernel
theorem dL_law_236 : decode cL_law 236 = .ok (.iadd, 1) := by decide +kernel
theorem dL_law_237 : decode cL_law 237 = .ok (.iaload, 1) := by decide +kernel
theorem dL_law_238 : decode cL_law 238 = .ok (.i2l, 1) := by decide +kernel
theorem dL_law_239 : decode cL_law 239 = .ok (.ldc2_w 13, 3) := by decide +kernel
theorem dL_law_242 : decode cL_law 242 = .ok (.land, 1) := by decide +kernel
theorem dL_law_243 : decode cL_law 243 = .ok (.lor, 1) := by decide +kernel
theorem dL_law_244 : decode cL_law 244 = .ok (.invokevirtual 32, 3) := by decide +kernel
theorem dL_law_247 : decode cL_law 247 = .ok (.if_icmp .eq 430, 3) := by decide +kernel
theorem dL_law_250 : decode cL_law 250 = .ok (.iconst 0, 1) := by decide +kernel
theorem dL_law_251 : decode cL_law 251 = .ok (.ireturn, 1) := by decide +kernel
theorem dL_law_252 : decode cL_law 252 = .ok (.aload_n 1, 1) := by decide +kernel
theorem dL_law_253 : decode cL_law 253 = .ok (.aload_n 0, 1) := by decide +kernel
theorem dL_law_254 : decode cL_law 254 = .ok (.iload_n 3, 1) := by decide +kernel
theorem dL_law_255 : decode cL_law 255 = .ok (.iconst 1, 1) := by decide +kernel
theorem dL_law_256 : decode cL_law 256 = .ok (.iadd, 1) := by decide +kernel
theorem dL_law_257 : decode cL_law 257 = .ok (.iaload, 1) := by decide +kernel
theorem dL_law_258 : decode cL_law 258 = .ok (.invokevirtual 33, 3) := by decide +kernel
theorem dL_law_261 : decode cL_law 261 = .ok (.aload_n 2, 1) := by decide +kernel
theorem dL_law_262 : decode cL_law 262 = .ok (.aload_n 0, 1) := by decide +kernel
theorem dL_law_263 : decode cL_law 263 = .ok (.iload_n 3, 1) := by decide +kernel
theorem dL_law_264 : decode cL_law 264 = .ok (.iconst 1, 1) := by decide +kernel
theorem dL_law_265 : decode cL_law 265 = .ok (.iadd, 1) := by decide +kernel
theorem dL_law_266 : decode cL_law 266 = .ok (.iaload, 1) := by decide +kernel
theorem dL_law_267 : decode cL_law 267 = .ok (.invokevirtual 37, 3) := by decide +kernel
theorem dL_law_270 : decode cL_law 270 = .ok (.if_icmp .eq 407, 3) := by decide +kernel
theorem dL_law_273 : decode cL_law 273 = .ok (.iconst 0, 1) := by decide +kernel
theorem dL_law_274 : decode cL_law 274 = .ok (.ireturn, 1) := by decide +kernel
theorem dL_law_275 : decode cL_law 275 = .ok (.aload_n 1, 1) := by decide +kernel
theorem dL_law_276 : decode cL_law 276 = .ok (.aload_n 0, 1) := by decide +kernel
theorem dL_law_277 : decode cL_law 277 = .ok (.iload_n 3, 1) := by decide +kernel
theorem dL_law_278 : decode cL_law 278 = .ok (.iconst 1, 1) := by decide +kernel
theorem dL_law_279 : decode cL_law 279 = .ok (.iadd, 1) := by decide +kernel
theorem dL_law_280 : decode cL_law 280 = .ok (.iaload, 1) := by decide +kernel
theorem dL_law_281 : decode cL_law 281 = .ok (.invokevirtual 38, 3) := by decide +kernel
theorem dL_law_284 : decode cL_law 284 = .ok (.aload_n 2, 1) := by decide +kernel
theorem dL_law_285 : decode cL_law 285 = .ok (.aload_n 0, 1) := by decide +kernel
theorem dL_law_286 : decode cL_law 286 = .ok (.iload_n 3, 1) := by decide +kernel
theorem dL_law_287 : decode cL_law 287 = .ok (.iconst 1, 1) := by decide +kernel
theorem dL_law_288 : decode cL_law 288 = .ok (.iadd, 1) := by decide +kernel
theorem dL_law_289 : decode cL_law 289 = .ok (.iaload, 1) := by decide +kernel
theorem dL_law_290 : decode cL_law 290 = .ok (.invokevirtual 41, 3) := by decide +kernel
theorem dL_law_293 : decode cL_law 293 = .ok (.if_icmp .eq 384, 3) := by decide +kernel
theorem dL_law_296 : decode cL_law 296 = .ok (.iconst 0, 1) := by decide +kernel
theorem dL_law_297 : decode cL_law 297 = .ok (.ireturn, 1) := by decide +kernel
theorem dL_law_298 : decode cL_law 298 = .ok (.aload_n 1, 1) := by decide +kernel
theorem dL_law_299 : decode cL_law 299 = .ok (.aload_n 0, 1) := by decide +kernel
theorem dL_law_300 : decode cL_law 300 = .ok (.iload_n 3, 1) := by decide +kernel
theorem dL_law_301 : decode cL_law 301 = .ok (.iconst 1, 1) := by decide +kernel
theorem dL_law_302 : decode cL_law 302 = .ok (.iadd, 1) := by decide +kernel
theorem dL_law_303 : decode cL_law 303 = .ok (.iaload, 1) := by decide +kernel
theorem dL_law_304 : decode cL_law 304 = .ok (.aload_n 0, 1) := by decide +kernel
theorem dL_law_305 : decode cL_law 305 = .ok (.iload_n 3, 1) := by decide +kernel
theorem dL_law_306 : decode cL_law 306 = .ok (.iconst 2, 1) := by decide +kernel
theorem dL_law_307 : decode cL_law 307 = .ok (.iadd, 1) := by decide +kernel
theorem dL_law_308 : decode cL_law 308 = .ok (.iaload, 1) := by decide +kernel
theorem dL_law_309 : decode cL_law 309 = .ok (.invokevirtual 42, 3) := by decide +kernel
theorem dL_law_312 : decode cL_law 312 = .ok (.aload_n 2, 1) := by decide +kernel
theorem dL_law_313 : decode cL_law 313 = .ok (.aload_n 0, 1) := by decide +kernel
theorem dL_law_314 : decode cL_law 314 = .ok (.iload_n 3, 1) := by decide +kernel
theorem dL_law_315 : decode cL_law 315 = .ok (.iconst 1, 1) := by decide +kernel
theorem dL_law_316 : decode cL_law 316 = .ok (.iadd, 1) := by decide +kernel
theorem dL_law_317 : decode cL_law 317 = .ok (.iaload, 1) := by decide +kernel
theorem dL_law_318 : decode cL_law 318 = .ok (.aload_n 0, 1) := by decide +kernel
theorem dL_law_319 : decode cL_law 319 = .ok (.iload_n 3, 1) := by decide +kernel
theorem dL_law_320 : decode cL_law 320 = .ok (.iconst 2, 1) := by decide +kernel
theorem dL_law_321 : decode cL_law 321 = .ok (.iadd, 1) := by decide +kernel
theorem dL_law_322 : decode cL_law 322 = .ok (.iaload, 1) := by decide +kernel
theorem dL_law_323 : decode cL_law 323 = .ok (.invokevirtual 46, 3) := by decide +kernel
theorem dL_law_326 : decode cL_law 326 = .ok (.if_icmp .eq 351, 3) := by decide +kernel
theorem dL_law_329 : decode cL_law 329 = .ok (.iconst 0, 1) := by decide +kernel
theorem dL_law_330 : decode cL_law 330 = .ok (.ireturn, 1) := by decide +kernel
theorem dL_law_331 : decode cL_law 331 = .ok (.aload_n 1, 1) := by decide +kernel
theorem dL_law_332 : decode cL_law 332 = .ok (.aload_n 0, 1) := by decide +kernel
theorem dL_law_333 : decode cL_law 333 = .ok (.iload_n 3, 1) := by decide +kernel
theorem dL_law_334 : decode cL_law 334 = .ok (.iconst 1, 1) := by decide +kernel
theorem dL_law_335 : decode cL_law 335 = .ok (.iadd, 1) := by decide +kernel
theorem dL_law_336 : decode cL_law 336 = .ok (.iaload, 1) := by decide +kernel
theorem dL_law_337 : decode cL_law 337 = .ok (.aload_n 0, 1) := by decide +kernel
theorem dL_law_338 : decode cL_law 338 = .ok (.iload_n 3, 1) := by decide +kernel
theorem dL_law_339 : decode cL_law 339 = .ok (.iconst 2, 1) := by decide +kernel
theorem dL_law_340 : decode cL_law 340 = .ok (.iadd, 1) := by decide +kernel
theorem dL_law_341 : decode cL_law 341 = .ok (.iaload, 1) := by decide +kernel
theorem dL_law_342 : decode cL_law 342 = .ok (.invokevirtual 47, 3) := by decide +kernel
theorem dL_law_345 : decode cL_law 345 = .ok (.aload_n 2, 1) := by decide +kernel
theorem dL_law_346 : decode cL_law 346 = .ok (.aload_n 0, 1) := by decide +kernel
theorem dL_law_347 : decode cL_law 347 = .ok (.iload_n 3, 1) := by decide +kernel
theorem dL_law_348 : decode cL_law 348 = .ok (.iconst 1, 1) := by decide +kernel
theorem dL_law_349 : decode cL_law 349 = .ok (.iadd, 1) := by decide +kernel
theorem dL_law_350 : decode cL_law 350 = .ok (.iaload, 1) := by decide +kernel
theorem dL_law_351 : decode cL_law 351 = .ok (.aload_n 0, 1) := by decide +kernel
theorem dL_law_352 : decode cL_law 352 = .ok (.iload_n 3, 1) := by decide +kernel
theorem dL_law_353 : decode cL_law 353 = .ok (.iconst 2, 1) := by decide +kernel
theorem dL_law_354 : decode cL_law 354 = .ok (.iadd, 1) := by decide +kernel
theorem dL_law_355 : decode cL_law 355 = .ok (.iaload, 1) := by decide +kernel
theorem dL_law_356 : decode cL_law 356 = .ok (.invokevirtual 51, 3) := by decide +kernel
theorem dL_law_359 : decode cL_law 359 = .ok (.lcmp, 1) := by decide +kernel
theorem dL_law_360 : decode cL_law 360 = .ok (.ifCond .eq 317, 3) := by decide +kernel
theorem dL_law_363 : decode cL_law 363 = .ok (.iconst 0, 1) := by decide +kernel
theorem dL_law_364 : decode cL_law 364 = .ok (.ireturn, 1) := by decide +kernel
theorem dL_law_365 : decode cL_law 365 = .ok (.aload_n 1, 1) := by decide +kernel
theorem dL_law_366 : decode cL_law 366 = .ok (.aload_n 0, 1) := by decide +kernel
theorem dL_law_367 : decode cL_law 367 = .ok (.iload_n 3, 1) := by decide +kernel
theorem dL_law_368 : decode cL_law 368 = .ok (.iconst 1, 1) := by decide +kernel
theorem dL_law_369 : decode cL_law 369 = .ok (.iadd, 1) := by decide +kernel
theorem dL_law_370 : decode cL_law 370 = .ok (.iaload, 1) := by decide +kernel
theorem dL_law_371 : decode cL_law 371 = .ok (.invokevirtual 52, 3) := by decide +kernel
theorem dL_law_374 : decode cL_law 374 = .ok (.aload_n 2, 1) := by decide +kernel
theorem dL_law_375 : decode cL_law 375 = .ok (.aload_n 0, 1) := by decide +kernel
theorem dL_law_376 : decode cL_law 376 = .ok (.iload_n 3, 1) := by decide +kernel
theorem dL_law_377 : decode cL_law 377 = .ok (.iconst 1, 1) := by decide +kernel
theorem dL_law_378 : decode cL_law 378 = .ok (.iadd, 1) := by decide +kernel
theorem dL_law_379 : decode cL_law 379 = .ok (.iaload, 1) := by decide +kernel
theorem dL_law_380 : decode cL_law 380 = .ok (.invokevirtual 55, 3) := by decide +kernel
theorem dL_law_383 : decode cL_law 383 = .ok (.if_icmp .eq 294, 3) := by decide +kernel
theorem dL_law_386 : decode cL_law 386 = .ok (.iconst 0, 1) := by decide +kernel
theorem dL_law_387 : decode cL_law 387 = .ok (.ireturn, 1) := by decide +kernel
theorem dL_law_388 : decode cL_law 388 = .ok (.aload_n 1, 1) := by decide +kernel
theorem dL_law_389 : decode cL_law 389 = .ok (.aload_n 0, 1) := by decide +kernel
theorem dL_law_390 : decode cL_law 390 = .ok (.iload_n 3, 1) := by decide +kernel
theorem dL_law_391 : decode cL_law 391 = .ok (.iconst 1, 1) := by decide +kernel
theorem dL_law_392 : decode cL_law 392 = .ok (.iadd, 1) := by decide +kernel
theorem dL_law_393 : decode cL_law 393 = .ok (.iaload, 1) := by decide +kernel
theorem dL_law_394 : decode cL_law 394 = .ok (.aload_n 0, 1) := by decide +kernel
theorem dL_law_395 : decode cL_law 395 = .ok (.iload_n 3, 1) := by decide +kernel
theorem dL_law_396 : decode cL_law 396 = .ok (.iconst 2, 1) := by decide +kernel
theorem dL_law_397 : decode cL_law 397 = .ok (.iadd, 1) := by decide +kernel
theorem dL_law_398 : decode cL_law 398 = .ok (.iaload, 1) := by decide +kernel
theorem dL_law_399 : decode cL_law 399 = .ok (.aload_n 0, 1) := by decide +kernel
theorem dL_law_400 : decode cL_law 400 = .ok (.iload_n 3, 1) := by decide +kernel
theorem dL_law_401 : decode cL_law 401 = .ok (.iconst 3, 1) := by decide +kernel
theorem dL_law_402 : decode cL_law 402 = .ok (.iadd, 1) := by decide +kernel
theorem dL_law_403 : decode cL_law 403 = .ok (.iaload, 1) := by decide +kernel
theorem dL_law_404 : decode cL_law 404 = .ok (.aload_n 0, 1) := by decide +kernel
theorem dL_law_405 : decode cL_law 405 = .ok (.iload_n 3, 1) := by decide +kernel
theorem dL_law_406 : decode cL_law 406 = .ok (.iconst 4, 1) := by decide +kernel
theorem dL_law_407 : decode cL_law 407 = .ok (.iadd, 1) := by decide +kernel
theorem dL_law_408 : decode cL_law 408 = .ok (.iaload, 1) := by decide +kernel
theorem dL_law_409 : decode cL_law 409 = .ok (.invokevirtual 56, 3) := by decide +kernel
theorem dL_law_412 : decode cL_law 412 = .ok (.aload_n 2, 1) := by decide +kernel
theorem dL_law_413 : decode cL_law 413 = .ok (.aload_n 0, 1) := by decide +kernel
theorem dL_law_414 : decode cL_law 414 = .ok (.iload_n 3, 1) := by decide +kernel
theorem dL_law_415 : decode cL_law 415 = .ok (.iconst 1, 1) := by decide +kernel
theorem dL_law_416 : decode cL_law 416 = .ok (.iadd, 1) := by decide +kernel
theorem dL_law_417 : decode cL_law 417 = .ok (.iaload, 1) := by decide +kernel
theorem dL_law_418 : decode cL_law 418 = .ok (.aload_n 0, 1) := by decide +kernel
theorem dL_law_419 : decode cL_law 419 = .ok (.iload_n 3, 1) := by decide +kernel
theorem dL_law_420 : decode cL_law 420 = .ok (.iconst 2, 1) := by decide +kernel
theorem dL_law_421 : decode cL_law 421 = .ok (.iadd, 1) := by decide +kernel
theorem dL_law_422 : decode cL_law 422 = .ok (.iaload, 1) := by decide +kernel
theorem dL_law_423 : decode cL_law 423 = .ok (.aload_n 0, 1) := by decide +kernel
theorem dL_law_424 : decode cL_law 424 = .ok (.iload_n 3, 1) := by decide +kernel
theorem dL_law_425 : decode cL_law 425 = .ok (.iconst 3, 1) := by decide +kernel
theorem dL_law_426 : decode cL_law 426 = .ok (.iadd, 1) := by decide +kernel
theorem dL_law_427 : decode cL_law 427 = .ok (.iaload, 1) := by decide +kernel
theorem dL_law_428 : decode cL_law 428 = .ok (.aload_n 0, 1) := by decide +kernel
theorem dL_law_429 : decode cL_law 429 = .ok (.iload_n 3, 1) := by decide +kernel
theorem dL_law_430 : decode cL_law 430 = .ok (.iconst 4, 1) := by decide +kernel
theorem dL_law_431 : decode cL_law 431 = .ok (.iadd, 1) := by decide +kernel
theorem dL_law_432 : decode cL_law 432 = .ok (.iaload, 1) := by decide +kernel
theorem dL_law_433 : decode cL_law 433 = .ok (.invokevirtual 60, 3) := by decide +kernel
theorem dL_law_436 : decode cL_law 436 = .ok (.lcmp, 1) := by decide +kernel
theorem dL_law_437 : decode cL_law 437 = .ok (.ifCond .eq 240, 3) := by decide +kernel
theorem dL_law_440 : decode cL_law 440 = .ok (.iconst 0, 1) := by decide +kernel
theorem dL_law_441 : decode cL_law 441 = .ok (.ireturn, 1) := by decide +kernel
theorem dL_law_442 : decode cL_law 442 = .ok (.aload_n 1, 1) := by decide +kernel
theorem dL_law_443 : decode cL_law 443 = .ok (.aload_n 0, 1) := by decide +kernel
theorem dL_law_444 : decode cL_law 444 = .ok (.iload_n 3, 1) := by decide +kernel
theorem dL_law_445 : decode cL_law 445 = .ok (.iconst 1, 1) := by decide +kernel
theorem dL_law_446 : decode cL_law 446 = .ok (.iadd, 1) := by decide +kernel
theorem dL_law_447 : decode cL_law 447 = .ok (.iaload, 1) := by decide +kernel
theorem dL_law_448 : decode cL_law 448 = .ok (.aload_n 0, 1) := by decide +kernel
theorem dL_law_449 : decode cL_law 449 = .ok (.iload_n 3, 1) := by decide +kernel
theorem dL_law_450 : decode cL_law 450 = .ok (.iconst 2, 1) := by decide +kernel
theorem dL_law_451 : decode cL_law 451 = .ok (.iadd, 1) := by decide +kernel
theorem dL_law_452 : decode cL_law 452 = .ok (.iaload, 1) := by decide +kernel
theorem dL_law_453 : decode cL_law 453 = .ok (.i2l, 1) := by decide +kernel
theorem dL_law_454 : decode cL_law 454 = .ok (.bipush 32, 2) := by decide +kernel
theorem dL_law_456 : decode cL_law 456 = .ok (.lshl, 1) := by decide +kernel
theorem dL_law_457 : decode cL_law 457 = .ok (.aload_n 0, 1) := by decide +kernel
theorem dL_law_458 : decode cL_law 458 = .ok (.iload_n 3, 1) := by decide +kernel
theorem dL_law_459 : decode cL_law 459 = .ok (.iconst 3, 1) := by decide +kernel
theorem dL_law_460 : decode cL_law 460 = .ok (.iadd, 1) := by decide +kernel
theorem dL_law_461 : decode cL_law 461 = .ok (.iaload, 1) := by decide +kernel
theorem dL_law_462 : decode cL_law 462 = .ok (.i2l, 1) := by decide +kernel
theorem dL_law_463 : decode cL_law 463 = .ok (.ldc2_w 13, 3) := by decide +kernel
theorem dL_law_466 : decode cL_law 466 = .ok (.land, 1) := by decide +kernel
theorem dL_law_467 : decode cL_law 467 = .ok (.lor, 1) := by decide +kernel
theorem dL_law_468 : decode cL_law 468 = .ok (.invokevirtual 61, 3) := by decide +kernel
theorem dL_law_471 : decode cL_law 471 = .ok (.aload_n 2, 1) := by decide +kernel
theorem dL_law_472 : decode cL_law 472 = .ok (.aload_n 0, 1) := by decide +kernel
theorem dL_law_473 : decode cL_law 473 = .ok (.iload_n 3, 1) := by decide +kernel
theorem dL_law_474 : decode cL_law 474 = .ok (.iconst 1, 1) := by decide +kernel
theorem dL_law_475 : decode cL_law 475 = .ok (.iadd, 1) := by decide +kernel
theorem dL_law_476 : decode cL_law 476 = .ok (.iaload, 1) := by decide +kernel
theorem dL_law_477 : decode cL_law 477 = .ok (.aload_n 0, 1) := by decide +kernel
theorem dL_law_478 : decode cL_law 478 = .ok (.iload_n 3, 1) := by decide +kernel
theorem dL_law_479 : decode cL_law 479 = .ok (.iconst 2, 1) := by decide +kernel
theorem dL_law_480 : decode cL_law 480 = .ok (.iadd, 1) := by decide +kernel
theorem dL_law_481 : decode cL_law 481 = .ok (.iaload, 1) := by decide +kernel
theorem dL_law_482 : decode cL_law 482 = .ok (.i2l, 1) := by decide +kernel
theorem dL_law_483 : decode cL_law 483 = .ok (.bipush 32, 2) := by decide +kernel
theorem dL_law_485 : decode cL_law 485 = .ok (.lshl, 1) := by decide +kernel
theorem dL_law_486 : decode cL_law 486 = .ok (.aload_n 0, 1) := by decide +kernel
theorem dL_law_487 : decode cL_law 487 = .ok (.iload_n 3, 1) := by decide +kernel
theorem dL_law_488 : decode cL_law 488 = .ok (.iconst 3, 1) := by decide +kernel
theorem dL_law_489 : decode cL_law 489 = .ok (.iadd, 1) := by decide +kernel
theorem dL_law_490 : decode cL_law 490 = .ok (.iaload, 1) := by decide +kernel
theorem dL_law_491 : decode cL_law 491 = .ok (.i2l, 1) := by decide +kernel
theorem dL_law_492 : decode cL_law 492 = .ok (.ldc2_w 13, 3) := by decide +kernel
theorem dL_law_495 : decode cL_law 495 = .ok (.land, 1) := by decide +kernel
theorem dL_law_496 : decode cL_law 496 = .ok (.lor, 1) := by decide +kernel
theorem dL_law_497 : decode cL_law 497 = .ok (.invokevirtual 65, 3) := by decide +kernel
theorem dL_law_500 : decode cL_law 500 = .ok (.if_icmp .eq 177, 3) := by decide +kernel
theorem dL_law_503 : decode cL_law 503 = .ok (.iconst 0, 1) := by decide +kernel
theorem dL_law_504 : decode cL_law 504 = .ok (.ireturn, 1) := by decide +kernel
theorem dL_law_505 : decode cL_law 505 = .ok (.aload_n 1, 1) := by decide +kernel
theorem dL_law_506 : decode cL_law 506 = .ok (.aload_n 0, 1) := by decide +kernel
theorem dL_law_507 : decode cL_law 507 = .ok (.iload_n 3, 1) := by decide +kernel
theorem dL_law_508 : decode cL_law 508 = .ok (.iconst 1, 1) := by decide +kernel
theorem dL_law_509 : decode cL_law 509 = .ok (.iadd, 1) := by decide +kernel
theorem dL_law_510 : decode cL_law 510 = .ok (.iaload, 1) := by decide +kernel
theorem dL_law_511 : decode cL_law 511 = .ok (.invokevirtual 66, 3) := by decide +kernel
theorem dL_law_514 : decode cL_law 514 = .ok (.aload_n 2, 1) := by decide +kernel
theorem dL_law_515 : decode cL_law 515 = .ok (.aload_n 0, 1) := by decide +kernel
theorem dL_law_516 : decode cL_law 516 = .ok (.iload_n 3, 1) := by decide +kernel
theorem dL_law_517 : decode cL_law 517 = .ok (.iconst 1, 1) := by decide +kernel
theorem dL_law_518 : decode cL_law 518 = .ok (.iadd, 1) := by decide +kernel
theorem dL_law_519 : decode cL_law 519 = .ok (.iaload, 1) := by decide +kernel
theorem dL_law_520 : decode cL_law 520 = .ok (.invokevirtual 69, 3) := by decide +kernel
theorem dL_law_523 : decode cL_law 523 = .ok (.if_icmp .eq 154, 3) := by decide +kernel
theorem dL_law_526 : decode cL_law 526 = .ok (.iconst 0, 1) := by decide +kernel
theorem dL_law_527 : decode cL_law 527 = .ok (.ireturn, 1) := by decide +kernel
theorem dL_law_528 : decode cL_law 528 = .ok (.aload_n 1, 1) := by decide +kernel
theorem dL_law_529 : decode cL_law 529 = .ok (.invokevirtual 70, 3) := by decide +kernel
theorem dL_law_532 : decode cL_law 532 = .ok (.aload_n 2, 1) := by decide +kernel
theorem dL_law_533 : decode cL_law 533 = .ok (.invokevirtual 73, 3) := by decide +kernel
theorem dL_law_536 : decode cL_law 536 = .ok (.if_icmp .eq 141, 3) := by decide +kernel
theorem dL_law_539 : decode cL_law 539 = .ok (.iconst 0, 1) := by decide +kernel
theorem dL_law_540 : decode cL_law 540 = .ok (.ireturn, 1) := by decide +kernel
theorem dL_law_541 : decode cL_law 541 = .ok (.aload_n 1, 1) := by decide +kernel
theorem dL_law_542 : decode cL_law 542 = .ok (.aload_n 0, 1) := by decide +kernel
theorem dL_law_543 : decode cL_law 543 = .ok (.iload_n 3, 1) := by decide +kernel
theorem dL_law_544 : decode cL_law 544 = .ok (.iconst 1, 1) := by decide +kernel
theorem dL_law_545 : decode cL_law 545 = .ok (.iadd, 1) := by decide +kernel
theorem dL_law_546 : decode cL_law 546 = .ok (.iaload, 1) := by decide +kernel
theorem dL_law_547 : decode cL_law 547 = .ok (.aload_n 0, 1) := by decide +kernel
theorem dL_law_548 : decode cL_law 548 = .ok (.iload_n 3, 1) := by decide +kernel
theorem dL_law_549 : decode cL_law 549 = .ok (.iconst 2, 1) := by decide +kernel
theorem dL_law_550 : decode cL_law 550 = .ok (.iadd, 1) := by decide +kernel
theorem dL_law_551 : decode cL_law 551 = .ok (.iaload, 1) := by decide +kernel
theorem dL_law_552 : decode cL_law 552 = .ok (.invokevirtual 74, 3) := by decide +kernel
theorem dL_law_555 : decode cL_law 555 = .ok (.aload_n 2, 1) := by decide +kernel
theorem dL_law_556 : decode cL_law 556 = .ok (.aload_n 0, 1) := by decide +kernel
theorem dL_law_557 : decode cL_law 557 = .ok (.iload_n 3, 1) := by decide +kernel
theorem dL_law_558 : decode cL_law 558 = .ok (.iconst 1, 1) := by decide +kernel
theorem dL_law_559 : decode cL_law 559 = .ok (.iadd, 1) := by decide +kernel
theorem dL_law_560 : decode cL_law 560 = .ok (.iaload, 1) := by decide +kernel
theorem dL_law_561 : decode cL_law 561 = .ok (.aload_n 0, 1) := by decide +kernel
theorem dL_law_562 : decode cL_law 562 = .ok (.iload_n 3, 1) := by decide +kernel
theorem dL_law_563 : decode cL_law 563 = .ok (.iconst 2, 1) := by decide +kernel
theorem dL_law_564 : decode cL_law 564 = .ok (.iadd, 1) := by decide +kernel
theorem dL_law_565 : decode cL_law 565 = .ok (.iaload, 1) := by decide +kernel
theorem dL_law_566 : decode cL_law 566 = .ok (.invokevirtual 77, 3) := by decide +kernel
theorem dL_law_569 : decode cL_law 569 = .ok (.if_icmp .eq 108, 3) := by decide +kernel
theorem dL_law_572 : decode cL_law 572 = .ok (.iconst 0, 1) := by decide +kernel
theorem dL_law_573 : decode cL_law 573 = .ok (.ireturn, 1) := by decide +kernel
theorem dL_law_574 : decode cL_law 574 = .ok (.aload_n 1, 1) := by decide +kernel
theorem dL_law_575 : decode cL_law 575 = .ok (.invokevirtual 78, 3) := by decide +kernel
theorem dL_law_578 : decode cL_law 578 = .ok (.aload_n 2, 1) := by decide +kernel
theorem dL_law_579 : decode cL_law 579 = .ok (.invokevirtual 81, 3) := by decide +kernel
theorem dL_law_582 : decode cL_law 582 = .ok (.if_icmp .eq 95, 3) := by decide +kernel
theorem dL_law_585 : decode cL_law 585 = .ok (.iconst 0, 1) := by decide +kernel
theorem dL_law_586 : decode cL_law 586 = .ok (.ireturn, 1) := by decide +kernel
theorem dL_law_587 : decode cL_law 587 = .ok (.aload_n 1, 1) := by decide +kernel
theorem dL_law_588 : decode cL_law 588 = .ok (.aload_n 0, 1) := by decide +kernel
theorem dL_law_589 : decode cL_law 589 = .ok (.iload_n 3, 1) := by decide +kernel
theorem dL_law_590 : decode cL_law 590 = .ok (.iconst 1, 1) := by decide +kernel
theorem dL_law_591 : decode cL_law 591 = .ok (.iadd, 1) := by decide +kernel
theorem dL_law_592 : decode cL_law 592 = .ok (.iaload, 1) := by decide +kernel
theorem dL_law_593 : decode cL_law 593 = .ok (.aload_n 0, 1) := by decide +kernel
theorem dL_law_594 : decode cL_law 594 = .ok (.iload_n 3, 1) := by decide +kernel
theorem dL_law_595 : decode cL_law 595 = .ok (.iconst 2, 1) := by decide +kernel
theorem dL_law_596 : decode cL_law 596 = .ok (.iadd, 1) := by decide +kernel
theorem dL_law_597 : decode cL_law 597 = .ok (.iaload, 1) := by decide +kernel
theorem dL_law_598 : decode cL_law 598 = .ok (.invokevirtual 82, 3) := by decide +kernel
theorem dL_law_601 : decode cL_law 601 = .ok (.aload_n 2, 1) := by decide +kernel
theorem dL_law_602 : decode cL_law 602 = .ok (.aload_n 0, 1) := by decide +kernel
theorem dL_law_603 : decode cL_law 603 = .ok (.iload_n 3, 1) := by decide +kernel
theorem dL_law_604 : decode cL_law 604 = .ok (.iconst 1, 1) := by decide +kernel
theorem dL_law_605 : decode cL_law 605 = .ok (.iadd, 1) := by decide +kernel
theorem dL_law_606 : decode cL_law 606 = .ok (.iaload, 1) := by decide +kernel
theorem dL_law_607 : decode cL_law 607 = .ok (.aload_n 0, 1) := by decide +kernel
theorem dL_law_608 : decode cL_law 608 = .ok (.iload_n 3, 1) := by decide +kernel
theorem dL_law_609 : decode cL_law 609 = .ok (.iconst 2, 1) := by decide +kernel
theorem dL_law_610 : decode cL_law 610 = .ok (.iadd, 1) := by decide +kernel
theorem dL_law_611 : decode cL_law 611 = .ok (.iaload, 1) := by decide +kernel
theorem dL_law_612 : decode cL_law 612 = .ok (.invokevirtual 85, 3) := by decide +kernel
theorem dL_law_615 : decode cL_law 615 = .ok (.lcmp, 1) := by decide +kernel
theorem dL_law_616 : decode cL_law 616 = .ok (.ifCond .eq 61, 3) := by decide +kernel
theorem dL_law_619 : decode cL_law 619 = .ok (.iconst 0, 1) := by decide +kernel
theorem dL_law_620 : decode cL_law 620 = .ok (.ireturn, 1) := by decide +kernel
theorem dL_law_621 : decode cL_law 621 = .ok (.aload_n 1, 1) := by decide +kernel
theorem dL_law_622 : decode cL_law 622 = .ok (.aload_n 0, 1) := by decide +kernel
theorem dL_law_623 : decode cL_law 623 = .ok (.iload_n 3, 1) := by decide +kernel
theorem dL_law_624 : decode cL_law 624 = .ok (.iconst 1, 1) := by decide +kernel
theorem dL_law_625 : decode cL_law 625 = .ok (.iadd, 1) := by decide +kernel
theorem dL_law_626 : decode cL_law 626 = .ok (.iaload, 1) := by decide +kernel
theorem dL_law_627 : decode cL_law 627 = .ok (.aload_n 0, 1) := by decide +kernel
theorem dL_law_628 : decode cL_law 628 = .ok (.iload_n 3, 1) := by decide +kernel
theorem dL_law_629 : decode cL_law 629 = .ok (.iconst 2, 1) := by decide +kernel
theorem dL_law_630 : decode cL_law 630 = .ok (.iadd, 1) := by decide +kernel
theorem dL_law_631 : decode cL_law 631 = .ok (.iaload, 1) := by decide +kernel
theorem dL_law_632 : decode cL_law 632 = .ok (.invokevirtual 86, 3) := by decide +kernel
theorem dL_law_635 : decode cL_law 635 = .ok (.aload_n 2, 1) := by decide +kernel
theorem dL_law_636 : decode cL_law 636 = .ok (.aload_n 0, 1) := by decide +kernel
theorem dL_law_637 : decode cL_law 637 = .ok (.iload_n 3, 1) := by decide +kernel
theorem dL_law_638 : decode cL_law 638 = .ok (.iconst 1, 1) := by decide +kernel
theorem dL_law_639 : decode cL_law 639 = .ok (.iadd, 1) := by decide +kernel
theorem dL_law_640 : decode cL_law 640 = .ok (.iaload, 1) := by decide +kernel
theorem dL_law_641 : decode cL_law 641 = .ok (.aload_n 0, 1) := by decide +kernel
theorem dL_law_642 : decode cL_law 642 = .ok (.iload_n 3, 1) := by decide +kernel
theorem dL_law_643 : decode cL_law 643 = .ok (.iconst 2, 1) := by decide +kernel
theorem dL_law_644 : decode cL_law 644 = .ok (.iadd, 1) := by decide +kernel
theorem dL_law_645 : decode cL_law 645 = .ok (.iaload, 1) := by decide +kernel
theorem dL_law_646 : decode cL_law 646 = .ok (.invokevirtual 89, 3) := by decide +kernel
theorem dL_law_649 : decode cL_law 649 = .ok (.if_icmp .eq 28, 3) := by decide +kernel
theorem dL_law_652 : decode cL_law 652 = .ok (.iconst 0, 1) := by decide +kernel
theorem dL_law_653 : decode cL_law 653 = .ok (.ireturn, 1) := by decide +kernel
theorem dL_law_654 : decode cL_law 654 = .ok (.aload_n 1, 1) := by decide +kernel
theorem dL_law_655 : decode cL_law 655 = .ok (.aload_n 0, 1) := by decide +kernel
theorem dL_law_656 : decode cL_law 656 = .ok (.iload_n 3, 1) := by decide +kernel
theorem dL_law_657 : decode cL_law 657 = .ok (.iconst 1, 1) := by decide +kernel
theorem dL_law_658 : decode cL_law 658 = .ok (.iadd, 1) := by decide +kernel
theorem dL_law_659 : decode cL_law 659 = .ok (.iaload, 1) := by decide +kernel
theorem dL_law_660 : decode cL_law 660 = .ok (.invokevirtual 90, 3) := by decide +kernel
theorem dL_law_663 : decode cL_law 663 = .ok (.aload_n 2, 1) := by decide +kernel
theorem dL_law_664 : decode cL_law 664 = .ok (.aload_n 0, 1) := by decide +kernel
theorem dL_law_665 : decode cL_law 665 = .ok (.iload_n 3, 1) := by decide +kernel
theorem dL_law_666 : decode cL_law 666 = .ok (.iconst 1, 1) := by decide +kernel
theorem dL_law_667 : decode cL_law 667 = .ok (.iadd, 1) := by decide +kernel
theorem dL_law_668 : decode cL_law 668 = .ok (.iaload, 1) := by decide +kernel
theorem dL_law_669 : decode cL_law 669 = .ok (.invokevirtual 93, 3) := by decide +kernel
theorem dL_law_672 : decode cL_law 672 = .ok (.if_icmp .eq 5, 3) := by decide +kernel
theorem dL_law_675 : decode cL_law 675 = .ok (.iconst 0, 1) := by decide +kernel
theorem dL_law_676 : decode cL_law 676 = .ok (.ireturn, 1) := by decide +kernel
theorem dL_law_677 : decode cL_law 677 = .ok (.iinc 3 5, 3) := by decide +kernel
theorem dL_law_680 : decode cL_law 680 = .ok (.goto (-662), 3) := by decide +kernel
theorem dL_law_683 : decode cL_law 683 = .ok (.iconst 1, 1) := by decide +kernel
theorem dL_law_684 : decode cL_law 684 = .ok (.ireturn, 1) := by decide +kernel
end
section
theorem dX10_init_0 : decode cX10_init 0 = .ok (.aload_n 0, 1) := by decide +kernel
theorem dX10_init_1 : decode cX10_init 1 = .ok (.invokespecial 1, 3) := by decide +kernel
theorem dX10_init_4 : decode cX10_init 4 = .ok (.aload_n 0, 1) := by decide +kernel
theorem dX10_init_5 : decode cX10_init 5 = .ok (.sipush 900, 3) := by decide +kernel
theorem dX10_init_8 : decode cX10_init 8 = .ok (.newarray .byte, 2) := by decide +kernel
theorem dX10_init_10 : decode cX10_init 10 = .ok (.putfield 7, 3) := by decide +kernel
theorem dX10_init_13 : decode cX10_init 13 = .ok (.aload_n 0, 1) := by decide +kernel
theorem dX10_init_14 : decode cX10_init 14 = .ok (.sipush 901, 3) := by decide +kernel
theorem dX10_init_17 : decode cX10_init 17 = .ok (.newarray .int, 2) := by decide +kernel
theorem dX10_init_19 : decode cX10_init 19 = .ok (.putfield 13, 3) := by decide +kernel
theorem dX10_init_22 : decode cX10_init 22 = .ok (.aload_n 0, 1) := by decide +kernel
theorem dX10_init_23 : decode cX10_init 23 = .ok (.sipush 901, 3) := by decide +kernel
theorem dX10_init_26 : decode cX10_init 26 = .ok (.newarray .int, 2) := by decide +kernel
theorem dX10_init_28 : decode cX10_init 28 = .ok (.putfield 17, 3) := by decide +kernel
theorem dX10_init_31 : decode cX10_init 31 = .ok (.aload_n 0, 1) := by decide +kernel
theorem dX10_init_32 : decode cX10_init 32 = .ok (.sipush 901, 3) := by decide +kernel
theorem dX10_init_35 : decode cX10_init 35 = .ok (.newarray .long, 2) := by decide +kernel
theorem dX10_init_37 : decode cX10_init 37 = .ok (.putfield 20, 3) := by decide +kernel
theorem dX10_init_40 : decode cX10_init 40 = .ok (.aload_n 0, 1) := by decide +kernel
theorem dX10_init_41 : decode cX10_init 41 = .ok (.bipush 12, 2) := by decide +kernel
theorem dX10_init_43 : decode cX10_init 43 = .ok (.newarray .long, 2) := by decide +kernel
theorem dX10_init_45 : decode cX10_init 45 = .ok (.putfield 24, 3) := by decide +kernel
theorem dX10_init_48 : decode cX10_init 48 = .ok (.aload_n 0, 1) := by decide +kernel
theorem dX10_init_49 : decode cX10_init 49 = .ok (.bipush 12, 2) := by decide +kernel
theorem dX10_init_51 : decode cX10_init 51 = .ok (.newarray .int, 2) := by decide +kernel
theorem dX10_init_53 : decode cX10_init 53 = .ok (.putfield 27, 3) := by decide +kernel
theorem dX10_init_56 : decode cX10_init 56 = .ok (.aload_n 0, 1) := by decide +kernel
theorem dX10_init_57 : decode cX10_init 57 = .ok (.bipush 12, 2) := by decide +kernel
theorem dX10_init_59 : decode cX10_init 59 = .ok (.newarray .boolean, 2) := by decide +kernel
theorem dX10_init_61 : decode cX10_init 61 = .ok (.putfield 30, 3) := by decide +kernel
theorem dX10_init_64 : decode cX10_init 64 = .ok (.aload_n 0, 1) := by decide +kernel
theorem dX10_init_65 : decode cX10_init 65 = .ok (.bipush 12, 2) := by decide +kernel
theorem dX10_init_67 : decode cX10_init 67 = .ok (.newarray .boolean, 2) := by decide +kernel
theorem dX10_init_69 : decode cX10_init 69 = .ok (.putfield 34, 3) := by decide +kernel
theorem dX10_init_72 : decode cX10_init 72 = .ok (.aload_n 0, 1) := by decide +kernel
theorem dX10_init_73 : decode cX10_init 73 = .ok (.bipush 12, 2) := by decide +kernel
theorem dX10_init_75 : decode cX10_init 75 = .ok (.newarray .long, 2) := by decide +kernel
theorem dX10_init_77 : decode cX10_init 77 = .ok (.putfield 37, 3) := by decide +kernel
theorem dX10_init_80 : decode cX10_init 80 = .ok (.aload_n 0, 1) := by decide +kernel
theorem dX10_init_81 : decode cX10_init 81 = .ok (.bipush 13, 2) := by decide +kernel
theorem dX10_init_83 : decode cX10_init 83 = .ok (.newarray .int, 2) := by decide +kernel
theorem dX10_init_85 : decode cX10_init 85 = .ok (.putfield 40, 3) := by decide +kernel
theorem dX10_init_88 : decode cX10_init 88 = .ok (.aload_n 0, 1) := by decide +kernel
theorem dX10_init_89 : decode cX10_init 89 = .ok (.bipush 13, 2) := by decide +kernel
theorem dX10_init_91 : decode cX10_init 91 = .ok (.newarray .int, 2) := by decide +kernel
theorem dX10_init_93 : decode cX10_init 93 = .ok (.putfield 43, 3) := by decide +kernel
theorem dX10_init_96 : decode cX10_init 96 = .ok (.aload_n 0, 1) := by decide +kernel
theorem dX10_init_97 : decode cX10_init 97 = .ok (.sipush 900, 3) := by decide +kernel
theorem dX10_init_100 : decode cX10_init 100 = .ok (.newarray .int, 2) := by decide +kernel
theorem dX10_init_102 : decode cX10_init 102 = .ok (.putfield 46, 3) := by decide +kernel
theorem dX10_init_105 : decode cX10_init 105 = .ok (.aload_n 0, 1) := by decide +kernel
theorem dX10_init_106 : decode cX10_init 106 = .ok (.sipush 900, 3) := by decide +kernel
theorem dX10_init_109 : decode cX10_init 109 = .ok (.newarray .long, 2) := by decide +kernel
theorem dX10_init_111 : decode cX10_init 111 = .ok (.putfield 49, 3) := by decide +kernel
theorem dX10_init_114 : decode cX10_init 114 = .ok (.aload_n 0, 1) := by decide +kernel
theorem dX10_init_115 : decode cX10_init 115 = .ok (.bipush 120, 2) := by decide +kernel
theorem dX10_init_117 : decode cX10_init 117 = .ok (.newarray .int, 2) := by decide +kernel
theorem dX10_init_119 : decode cX10_init 119 = .ok (.putfield 52, 3) := by decide +kernel
theorem dX10_init_122 : decode cX10_init 122 = .ok (.aload_n 0, 1) := by decide +kernel
theorem dX10_init_123 : decode cX10_init 123 = .ok (.bipush 120, 2) := by decide +kernel
theorem dX10_init_125 : decode cX10_init 125 = .ok (.newarray .long, 2) := by decide +kernel
theorem dX10_init_127 : decode cX10_init 127 = .ok (.putfield 55, 3) := by decide +kernel
theorem dX10_init_130 : decode cX10_init 130 = .ok (.aload_n 0, 1) := by decide +kernel
theorem dX10_init_131 : decode cX10_init 131 = .ok (.sipush 901, 3) := by decide +kernel
theorem dX10_init_134 : decode cX10_init 134 = .ok (.newarray .int, 2) := by decide +kernel
theorem dX10_init_136 : decode cX10_init 136 = .ok (.putfield 58, 3) := by decide +kernel
theorem dX10_init_139 : decode cX10_init 139 = .ok (.aload_n 0, 1) := by decide +kernel
theorem dX10_init_140 : decode cX10_init 140 = .ok (.sipush 901, 3) := by decide +kernel
theorem dX10_init_143 : decode cX10_init 143 = .ok (.newarray .int, 2) := by decide +kernel
theorem dX10_init_145 : decode cX10_init 145 = .ok (.putfield 61, 3) := by decide +kernel
theorem dX10_init_148 : decode cX10_init 148 = .ok (.aload_n 0, 1) := by decide +kernel
theorem dX10_init_149 : decode cX10_init 149 = .ok (.sipush 901, 3) := by decide +kernel
theorem dX10_init_152 : decode cX10_init 152 = .ok (.newarray .boolean, 2) := by decide +kernel
theorem dX10_init_154 : decode cX10_init 154 = .ok (.putfield 64, 3) := by decide +kernel
theorem dX10_init_157 : decode cX10_init 157 = .ok (.aload_n 0, 1) := by decide +kernel
theorem dX10_init_158 : decode cX10_init 158 = .ok (.bipush 64, 2) := by decide +kernel
theorem dX10_init_160 : decode cX10_init 160 = .ok (.newarray .int, 2) := by decide +kernel
theorem dX10_init_162 : decode cX10_init 162 = .ok (.putfield 67, 3) := by decide +kernel
theorem dX10_init_165 : decode cX10_init 165 = .ok (.aload_n 0, 1) := by decide +kernel
theorem dX10_init_166 : decode cX10_init 166 = .ok (.bipush 64, 2) := by decide +kernel
theorem dX10_init_168 : decode cX10_init 168 = .ok (.newarray .int, 2) := by decide +kernel
theorem dX10_init_170 : decode cX10_init 170 = .ok (.putfield 70, 3) := by decide +kernel
theorem dX10_init_173 : decode cX10_init 173 = .ok (.aload_n 0, 1) := by decide +kernel
theorem dX10_init_174 : decode cX10_init 174 = .ok (.bipush 64, 2) := by decide +kernel
theorem dX10_init_176 : decode cX10_init 176 = .ok (.newarray .int, 2) := by decide +kernel
theorem dX10_init_178 : decode cX10_init 178 = .ok (.putfield 73, 3) := by decide +kernel
theorem dX10_init_181 : decode cX10_init 181 = .ok (.aload_n 0, 1) := by decide +kernel
theorem dX10_init_182 : decode cX10_init 182 = .ok (.bipush 12, 2) := by decide +kernel
theorem dX10_init_184 : decode cX10_init 184 = .ok (.newarray .long, 2) := by decide +kernel
theorem dX10_init_186 : decode cX10_init 186 = .ok (.putfield 76, 3) := by decide +kernel
theorem dX10_init_189 : decode cX10_init 189 = .ok (.aload_n 0, 1) := by decide +kernel
theorem dX10_init_190 : decode cX10_init 190 = .ok (.bipush 12, 2) := by decide +kernel
theorem dX10_init_192 : decode cX10_init 192 = .ok (.newarray .boolean, 2) := by decide +kernel
theorem dX10_init_194 : decode cX10_init 194 = .ok (.putfield 79, 3) := by decide +kernel
theorem dX10_init_197 : decode cX10_init 197 = .ok (.aload_n 0, 1) := by decide +kernel
theorem dX10_init_198 : decode cX10_init 198 = .ok (.bipush 12, 2) := by decide +kernel
theorem dX10_init_200 : decode cX10_init 200 = .ok (.newarray .boolean, 2) := by decide +kernel
theorem dX10_init_202 : decode cX10_init 202 = .ok (.putfield 82, 3) := by decide +kernel
theorem dX10_init_205 : decode cX10_init 205 = .ok (.aload_n 0, 1) := by decide +kernel
theorem dX10_init_206 : decode cX10_init 206 = .ok (.bipush 12, 2) := by decide +kernel
theorem dX10_init_208 : decode cX10_init 208 = .ok (.newarray .long, 2) := by decide +kernel
theorem dX10_init_210 : decode cX10_init 210 = .ok (.putfield 85, 3) := by decide +kernel
theorem dX10_init_213 : decode cX10_init 213 = .ok (.aload_n 0, 1) := by decide +kernel
theorem dX10_init_214 : decode cX10_init 214 = .ok (.bipush 12, 2) := by decide +kernel
theorem dX10_init_216 : decode cX10_init 216 = .ok (.newarray .long, 2) := by decide +kernel
theorem dX10_init_218 : decode cX10_init 218 = .ok (.putfield 88, 3) := by decide +kernel
theorem dX10_init_221 : decode cX10_init 221 = .ok (.aload_n 0, 1) := by decide +kernel
theorem dX10_init_222 : decode cX10_init 222 = .ok (.bipush 13, 2) := by decide +kernel
theorem dX10_init_224 : decode cX10_init 224 = .ok (.newarray .int, 2) := by decide +kernel
theorem dX10_init_226 : decode cX10_init 226 = .ok (.putfield 91, 3) := by decide +kernel
theorem dX10_init_229 : decode cX10_init 229 = .ok (.aload_n 0, 1) := by decide +kernel
theorem dX10_init_230 : decode cX10_init 230 = .ok (.sipush 900, 3) := by decide +kernel
theorem dX10_init_233 : decode cX10_init 233 = .ok (.newarray .int, 2) := by decide +kernel
theorem dX10_init_235 : decode cX10_init 235 = .ok (.putfield 94, 3) := by decide +kernel
theorem dX10_init_238 : decode cX10_init 238 = .ok (.aload_n 0, 1) := by decide +kernel
theorem dX10_init_239 : decode cX10_init 239 = .ok (.sipush 900, 3) := by decide +kernel
theorem dX10_init_242 : decode cX10_init 242 = .ok (.newarray .long, 2) := by decide +kernel
theorem dX10_init_244 : decode cX10_init 244 = .ok (.putfield 97, 3) := by decide +kernel
theorem dX10_init_247 : decode cX10_init 247 = .ok (.aload_n 0, 1) := by decide +kernel
theorem dX10_init_248 : decode cX10_init 248 = .ok (.bipush 12, 2) := by decide +kernel
theorem dX10_init_250 : decode cX10_init 250 = .ok (.newarray .int, 2) := by decide +kernel
theorem dX10_init_252 : decode cX10_init 252 = .ok (.putfield 100, 3) := by decide +kernel
theorem dX10_init_255 : decode cX10_init 255 = .ok (.aload_n 0, 1) := by decide +kernel
theorem dX10_init_256 : decode cX10_init 256 = .ok (.sipush 300, 3) := by decide +kernel
theorem dX10_init_259 : decode cX10_init 259 = .ok (.newarray .int, 2) := by decide +kernel
theorem dX10_init_261 : decode cX10_init 261 = .ok (.putfield 103, 3) := by decide +kernel
theorem dX10_init_264 : decode cX10_init 264 = .ok (.aload_n 0, 1) := by decide +kernel
theorem dX10_init_265 : decode cX10_init 265 = .ok (.sipush 2400, 3) := by decide +kernel
theorem dX10_init_268 : decode cX10_init 268 = .ok (.newarray .long, 2) := by decide +kernel
theorem dX10_init_270 : decode cX10_init 270 = .ok (.putfield 106, 3) := by decide +kernel
theorem dX10_init_273 : decode cX10_init 273 = .ok (.aload_n 0, 1) := by decide +kernel
theorem dX10_init_274 : decode cX10_init 274 = .ok (.bipush 100, 2) := by decide +kernel
theorem dX10_init_276 : decode cX10_init 276 = .ok (.newarray .int, 2) := by decide +kernel
theorem dX10_init_278 : decode cX10_init 278 = .ok (.putfield 109, 3) := by decide +kernel
theorem dX10_init_281 : decode cX10_init 281 = .ok (.aload_n 0, 1) := by decide +kernel
theorem dX10_init_282 : decode cX10_init 282 = .ok (.bipush 100, 2) := by decide +kernel
theorem dX10_init_284 : decode cX10_init 284 = .ok (.newarray .int, 2) := by decide +kernel
theorem dX10_init_286 : decode cX10_init 286 = .ok (.putfield 112, 3) := by decide +kernel
theorem dX10_init_289 : decode cX10_init 289 = .ok (.aload_n 0, 1) := by decide +kernel
theorem dX10_init_290 : decode cX10_init 290 = .ok (.bipush 100, 2) := by decide +kernel
theorem dX10_init_292 : decode cX10_init 292 = .ok (.newarray .int, 2) := by decide +kernel
theorem dX10_init_294 : decode cX10_init 294 = .ok (.putfield 115, 3) := by decide +kernel
theorem dX10_init_297 : decode cX10_init 297 = .ok (.aload_n 0, 1) := by decide +kernel
theorem dX10_init_298 : decode cX10_init 298 = .ok (.bipush 100, 2) := by decide +kernel
theorem dX10_init_300 : decode cX10_init 300 = .ok (.newarray .int, 2) := by decide +kernel
theorem dX10_init_302 : decode cX10_init 302 = .ok (.putfield 118, 3) := by decide +kernel
theorem dX10_init_305 : decode cX10_init 305 = .ok (.aload_n 0, 1) := by decide +kernel
theorem dX10_init_306 : decode cX10_init 306 = .ok (.bipush 100, 2) := by decide +kernel
theorem dX10_init_308 : decode cX10_init 308 = .ok (.newarray .int, 2) := by decide +kernel
theorem dX10_init_310 : decode cX10_init 310 = .ok (.putfield 121, 3) := by decide +kernel
theorem dX10_init_313 : decode cX10_init 313 = .ok (.aload_n 0, 1) := by decide +kernel
theorem dX10_init_314 : decode cX10_init 314 = .ok (.bipush 100, 2) := by decide +kernel
theorem dX10_init_316 : decode cX10_init 316 = .ok (.newarray .int, 2) := by decide +kernel
theorem dX10_init_318 : decode cX10_init 318 = .ok (.putfield 124, 3) := by decide +kernel
theorem dX10_init_321 : decode cX10_init 321 = .ok (.aload_n 0, 1) := by decide +kernel
theorem dX10_init_322 : decode cX10_init 322 = .ok (.bipush 100, 2) := by decide +kernel
theorem dX10_init_324 : decode cX10_init 324 = .ok (.newarray .long, 2) := by decide +kernel
theorem dX10_init_326 : decode cX10_init 326 = .ok (.putfield 127, 3) := by decide +kernel
theorem dX10_init_329 : decode cX10_init 329 = .ok (.aload_n 0, 1) := by decide +kernel
theorem dX10_init_330 : decode cX10_init 330 = .ok (.bipush 12, 2) := by decide +kernel
theorem dX10_init_332 : decode cX10_init 332 = .ok (.newarray .int, 2) := by decide +kernel
theorem dX10_init_334 : decode cX10_init 334 = .ok (.putfield 130, 3) := by decide +kernel
theorem dX10_init_337 : decode cX10_init 337 = .ok (.aload_n 0, 1) := by decide +kernel
theorem dX10_init_338 : decode cX10_init 338 = .ok (.bipush 12, 2) := by decide +kernel
theorem dX10_init_340 : decode cX10_init 340 = .ok (.newarray .int, 2) := by decide +kernel
theorem dX10_init_342 : decode cX10_init 342 = .ok (.putfield 133, 3) := by decide +kernel
theorem dX10_init_345 : decode cX10_init 345 = .ok (.aload_n 0, 1) := by decide +kernel
theorem dX10_init_346 : decode cX10_init 346 = .ok (.bipush 12, 2) := by decide +kernel
theorem dX10_init_348 : decode cX10_init 348 = .ok (.newarray .int, 2) := by decide +kernel
theorem dX10_init_350 : decode cX10_init 350 = .ok (.putfield 136, 3) := by decide +kernel
theorem dX10_init_353 : decode cX10_init 353 = .ok (.aload_n 0, 1) := by decide +kernel
theorem dX10_init_354 : decode cX10_init 354 = .ok (.bipush 12, 2) := by decide +kernel
theorem dX10_init_356 : decode cX10_init 356 = .ok (.newarray .int, 2) := by decide +kernel
theorem dX10_init_358 : decode cX10_init 358 = .ok (.putfield 139, 3) := by decide +kernel
theorem dX10_init_361 : decode cX10_init 361 = .ok (.aload_n 0, 1) := by decide +kernel
theorem dX10_init_362 : decode cX10_init 362 = .ok (.bipush 12, 2) := by decide +kernel
theorem dX10_init_364 : decode cX10_init 364 = .ok (.newarray .int, 2) := by decide +kernel
theorem dX10_init_366 : decode cX10_init 366 = .ok (.putfield 142, 3) := by decide +kernel
theorem dX10_init_369 : decode cX10_init 369 = .ok (.aload_n 0, 1) := by decide +kernel
theorem dX10_init_370 : decode cX10_init 370 = .ok (.bipush 12, 2) := by decide +kernel
theorem dX10_init_372 : decode cX10_init 372 = .ok (.newarray .int, 2) := by decide +kernel
theorem dX10_init_374 : decode cX10_init 374 = .ok (.putfield 145, 3) := by decide +kernel
theorem dX10_init_377 : decode cX10_init 377 = .ok (.aload_n 0, 1) := by decide +kernel
theorem dX10_init_378 : decode cX10_init 378 = .ok (.sipush 480, 3) := by decide +kernel
theorem dX10_init_381 : decode cX10_init 381 = .ok (.newarray .long, 2) := by decide +kernel
theorem dX10_init_383 : decode cX10_init 383 = .ok (.putfield 148, 3) := by decide +kernel
theorem dX10_init_386 : decode cX10_init 386 = .ok (.return_, 1) := by decide +kernel
theorem dX10_in_0 : decode cX10_in 0 = .ok (.lload_n 0, 1) := by decide +kernel
theorem dX10_in_1 : decode cX10_in 1 = .ok (.lload_n 2, 1) := by decide +kernel
theorem dX10_in_2 : decode cX10_in 2 = .ok (.lcmp, 1) := by decide +kernel
theorem dX10_in_3 : decode cX10_in 3 = .ok (.ifCond .lt 14, 3) := by decide +kernel
theorem dX10_in_6 : decode cX10_in 6 = .ok (.lload_n 0, 1) := by decide +kernel
theorem dX10_in_7 : decode cX10_in 7 = .ok (.lload 4, 2) := by decide +kernel
theorem dX10_in_9 : decode cX10_in 9 = .ok (.lcmp, 1) := by decide +kernel
theorem dX10_in_10 : decode cX10_in 10 = .ok (.ifCond .gt 7, 3) := by decide +kernel
theorem dX10_in_13 : decode cX10_in 13 = .ok (.iconst 1, 1) := by decide +kernel
theorem dX10_in_14 : decode cX10_in 14 = .ok (.goto 4, 3) := by decide +kernel
theorem dX10_in_17 : decode cX10_in 17 = .ok (.iconst 0, 1) := by decide +kernel
theorem dX10_in_18 : decode cX10_in 18 = .ok (.ireturn, 1) := by decide +kernel
theorem dX10_feed_0 : decode cX10_feed 0 = .ok (.iconst 0, 1) := by decide +kernel
theorem dX10_feed_1 : decode cX10_feed 1 = .ok (.istore_n 3, 1) := by decide +kernel
theorem dX10_feed_2 : decode cX10_feed 2 = .ok (.iload_n 3, 1) := by decide +kernel
theorem dX10_feed_3 : decode cX10_feed 3 = .ok (.bipush 8, 2) := by decide +kernel
theorem dX10_feed_5 : decode cX10_feed 5 = .ok (.if_icmp .ge 24, 3) := by decide +kernel
theorem dX10_feed_8 : decode cX10_feed 8 = .ok (.lload_n 1, 1) := by decide +kernel
theorem dX10_feed_9 : decode cX10_feed 9 = .ok (.bipush 8, 2) := by decide +kernel
theorem dX10_feed_11 : decode cX10_feed 11 = .ok (.iload_n 3, 1) := by decide +kernel
theorem dX10_feed_12 : decode cX10_feed 12 = .ok (.imul, 1) := by decide +kernel
theorem dX10_feed_13 : decode cX10_feed 13 = .ok (.lushr, 1) := by decide +kernel
theorem dX10_feed_14 : decode cX10_feed 14 = .ok (.ldc2_w 151, 3) := by decide +kernel
theorem dX10_feed_17 : decode cX10_feed 17 = .ok (.land, 1) := by decide +kernel
theorem dX10_feed_18 : decode cX10_feed 18 = .ok (.lconst 0, 1) := by decide +kernel
theorem dX10_feed_19 : decode cX10_feed 19 = .ok (.lcmp, 1) := by decide +kernel
theorem dX10_feed_20 : decode cX10_feed 20 = .ok (.ifCond .eq 9, 3) := by decide +kernel
theorem dX10_feed_23 : decode cX10_feed 23 = .ok (.iinc 3 1, 3) := by decide +kernel
theorem dX10_feed_26 : decode cX10_feed 26 = .ok (.goto (-24), 3) := by decide +kernel
theorem dX10_feed_29 : decode cX10_feed 29 = .ok (.aload_n 0, 1) := by decide +kernel
theorem dX10_feed_30 : decode cX10_feed 30 = .ok (.getfield 153, 3) := by decide +kernel
theorem dX10_feed_33 : decode cX10_feed 33 = .ok (.iload_n 3, 1) := by decide +kernel
theorem dX10_feed_34 : decode cX10_feed 34 = .ok (.iadd, 1) := by decide +kernel
theorem dX10_feed_35 : decode cX10_feed 35 = .ok (.sipush 900, 3) := by decide +kernel
theorem dX10_feed_38 : decode cX10_feed 38 = .ok (.if_icmp .le 6, 3) := by decide +kernel
theorem dX10_feed_41 : decode cX10_feed 41 = .ok (.bipush (-4), 2) := by decide +kernel
theorem dX10_feed_43 : decode cX10_feed 43 = .ok (.ireturn, 1) := by decide +kernel
theorem dX10_feed_44 : decode cX10_feed 44 = .ok (.iconst 0, 1) := by decide +kernel
theorem dX10_feed_45 : decode cX10_feed 45 = .ok (.istore 4, 2) := by decide +kernel
theorem dX10_feed_47 : decode cX10_feed 47 = .ok (.iload 4, 2) := by decide +kernel
theorem dX10_feed_49 : decode cX10_feed 49 = .ok (.iload_n 3, 1) := by decide +kernel
theorem dX10_feed_50 : decode cX10_feed 50 = .ok (.if_icmp .ge 30, 3) := by decide +kernel
theorem dX10_feed_53 : decode cX10_feed 53 = .ok (.aload_n 0, 1) := by decide +kernel
theorem dX10_feed_54 : decode cX10_feed 54 = .ok (.getfield 7, 3) := by decide +kernel
theorem dX10_feed_57 : decode cX10_feed 57 = .ok (.aload_n 0, 1) := by decide +kernel
theorem dX10_feed_58 : decode cX10_feed 58 = .ok (.getfield 153, 3) := by decide +kernel
theorem dX10_feed_61 : decode cX10_feed 61 = .ok (.iload 4, 2) := by decide +kernel
theorem dX10_feed_63 : decode cX10_feed 63 = .ok (.iadd, 1) := by decide +kernel
theorem dX10_feed_64 : decode cX10_feed 64 = .ok (.lload_n 1, 1) := by decide +kernel
theorem dX10_feed_65 : decode cX10_feed 65 = .ok (.bipush 8, 2) := by decide +kernel
theorem dX10_feed_67 : decode cX10_feed 67 = .ok (.iload 4, 2) := by decide +kernel
theorem dX10_feed_69 : decode cX10_feed 69 = .ok (.imul, 1) := by decide +kernel
theorem dX10_feed_70 : decode cX10_feed 70 = .ok (.lushr, 1) := by decide +kernel
theorem dX10_feed_71 : decode cX10_feed 71 = .ok (.l2i, 1) := by decide +kernel
theorem dX10_feed_72 : decode cX10_feed 72 = .ok (.i2b, 1) := by decide +kernel
theorem dX10_feed_73 : decode cX10_feed 73 = .ok (.bastore, 1) := by decide +kernel
theorem dX10_feed_74 : decode cX10_feed 74 = .ok (.iinc 4 1, 3) := by decide +kernel
theorem dX10_feed_77 : decode cX10_feed 77 = .ok (.goto (-30), 3) := by decide +kernel
theorem dX10_feed_80 : decode cX10_feed 80 = .ok (.aload_n 0, 1) := by decide +kernel
theorem dX10_feed_81 : decode cX10_feed 81 = .ok (.dup, 1) := by decide +kernel
theorem dX10_feed_82 : decode cX10_feed 82 = .ok (.getfield 153, 3) := by decide +kernel
theorem dX10_feed_85 : decode cX10_feed 85 = .ok (.iload_n 3, 1) := by decide +kernel
theorem dX10_feed_86 : decode cX10_feed 86 = .ok (.iadd, 1) := by decide +kernel
theorem dX10_feed_87 : decode cX10_feed 87 = .ok (.putfield 153, 3) := by decide +kernel
theorem dX10_feed_90 : decode cX10_feed 90 = .ok (.aload_n 0, 1) := by decide +kernel
theorem dX10_feed_91 : decode cX10_feed 91 = .ok (.getfield 153, 3) := by decide +kernel
theorem dX10_feed_94 : decode cX10_feed 94 = .ok (.ireturn, 1) := by decide +kernel
theorem dX10_cut_0 : decode cX10_cut 0 = .ok (.aload_n 0, 1) := by decide +kernel
theorem dX10_cut_1 : decode cX10_cut 1 = .ok (.getfield 153, 3) := by decide +kernel
theorem dX10_cut_4 : decode cX10_cut 4 = .ok (.istore_n 1, 1) := by decide +kernel
theorem dX10_cut_5 : decode cX10_cut 5 = .ok (.aload_n 0, 1) := by decide +kernel
theorem dX10_cut_6 : decode cX10_cut 6 = .ok (.iconst 0, 1) := by decide +kernel
theorem dX10_cut_7 : decode cX10_cut 7 = .ok (.putfield 153, 3) := by decide +kernel
theorem dX10_cut_10 : decode cX10_cut 10 = .ok (.iload_n 1, 1) := by decide +kernel
theorem dX10_cut_11 : decode cX10_cut 11 = .ok (.ireturn, 1) := by decide +kernel
theorem dX10_at_0 : decode cX10_at 0 = .ok (.iload_n 1, 1) := by decide +kernel
theorem dX10_at_1 : decode cX10_at 1 = .ok (.aload_n 0, 1) := by decide +kernel
theorem dX10_at_2 : decode cX10_at 2 = .ok (.getfield 153, 3) := by decide +kernel
theorem dX10_at_5 : decode cX10_at 5 = .ok (.if_icmp .ge 16, 3) := by decide +kernel
theorem dX10_at_8 : decode cX10_at 8 = .ok (.aload_n 0, 1) := by decide +kernel
theorem dX10_at_9 : decode cX10_at 9 = .ok (.getfield 7, 3) := by decide +kernel
theorem dX10_at_12 : decode cX10_at 12 = .ok (.iload_n 1, 1) := by decide +kernel
theorem dX10_at_13 : decode cX10_at 13 = .ok (.baload, 1) := by decide +kernel
theorem dX10_at_14 : decode cX10_at 14 = .ok (.sipush 255, 3) := by decide +kernel
theorem dX10_at_17 : decode cX10_at 17 = .ok (.iand, 1) := by decide +kernel
theorem dX10_at_18 : decode cX10_at 18 = .ok (.goto 4, 3) := by decide +kernel
theorem dX10_at_21 : decode cX10_at 21 = .ok (.iconst 0, 1) := by decide +kernel
theorem dX10_at_22 : decode cX10_at 22 = .ok (.ireturn, 1) := by decide +kernel
theorem dX10_isLetter_0 : decode cX10_isLetter 0 = .ok (.iload_n 0, 1) := by decide +kernel
theorem dX10_isLetter_1 : decode cX10_isLetter 1 = .ok (.bipush 97, 2) := by decide +kernel
theorem dX10_isLetter_3 : decode cX10_isLetter 3 = .ok (.if_icmp .lt 13, 3) := by decide +kernel
theorem dX10_isLetter_6 : decode cX10_isLetter 6 = .ok (.iload_n 0, 1) := by decide +kernel
theorem dX10_isLetter_7 : decode cX10_isLetter 7 = .ok (.bipush 122, 2) := by decide +kernel
theorem dX10_isLetter_9 : decode cX10_isLetter 9 = .ok (.if_icmp .gt 7, 3) := by decide +kernel
theorem dX10_isLetter_12 : decode cX10_isLetter 12 = .ok (.iconst 1, 1) := by decide +kernel
theorem dX10_isLetter_13 : decode cX10_isLetter 13 = .ok (.goto 4, 3) := by decide +kernel
theorem dX10_isLetter_16 : decode cX10_isLetter 16 = .ok (.iconst 0, 1) := by decide +kernel
theorem dX10_isLetter_17 : decode cX10_isLetter 17 = .ok (.ireturn, 1) := by decide +kernel
theorem dX10_isDigit_0 : decode cX10_isDigit 0 = .ok (.iload_n 0, 1) := by decide +kernel
theorem dX10_isDigit_1 : decode cX10_isDigit 1 = .ok (.bipush 48, 2) := by decide +kernel
theorem dX10_isDigit_3 : decode cX10_isDigit 3 = .ok (.if_icmp .lt 13, 3) := by decide +kernel
theorem dX10_isDigit_6 : decode cX10_isDigit 6 = .ok (.iload_n 0, 1) := by decide +kernel
theorem dX10_isDigit_7 : decode cX10_isDigit 7 = .ok (.bipush 57, 2) := by decide +kernel
theorem dX10_isDigit_9 : decode cX10_isDigit 9 = .ok (.if_icmp .gt 7, 3) := by decide +kernel
theorem dX10_isDigit_12 : decode cX10_isDigit 12 = .ok (.iconst 1, 1) := by decide +kernel
theorem dX10_isDigit_13 : decode cX10_isDigit 13 = .ok (.goto 4, 3) := by decide +kernel
theorem dX10_isDigit_16 : decode cX10_isDigit 16 = .ok (.iconst 0, 1) := by decide +kernel
theorem dX10_isDigit_17 : decode cX10_isDigit 17 = .ok (.ireturn, 1) := by decide +kernel
theorem dX10_isSign_0 : decode cX10_isSign 0 = .ok (.iload_n 0, 1) := by decide +kernel
theorem dX10_isSign_1 : decode cX10_isSign 1 = .ok (.bipush 91, 2) := by decide +kernel
theorem dX10_isSign_3 : decode cX10_isSign 3 = .ok (.if_icmp .eq 87, 3) := by decide +kernel
theorem dX10_isSign_6 : decode cX10_isSign 6 = .ok (.iload_n 0, 1) := by decide +kernel
theorem dX10_isSign_7 : decode cX10_isSign 7 = .ok (.bipush 93, 2) := by decide +kernel
theorem dX10_isSign_9 : decode cX10_isSign 9 = .ok (.if_icmp .eq 81, 3) := by decide +kernel
theorem dX10_isSign_12 : decode cX10_isSign 12 = .ok (.iload_n 0, 1) := by decide +kernel
theorem dX10_isSign_13 : decode cX10_isSign 13 = .ok (.bipush 40, 2) := by decide +kernel
theorem dX10_isSign_15 : decode cX10_isSign 15 = .ok (.if_icmp .eq 75, 3) := by decide +kernel
theorem dX10_isSign_18 : decode cX10_isSign 18 = .ok (.iload_n 0, 1) := by decide +kernel
theorem dX10_isSign_19 : decode cX10_isSign 19 = .ok (.bipush 41, 2) := by decide +kernel
theorem dX10_isSign_21 : decode cX10_isSign 21 = .ok (.if_icmp .eq 69, 3) := by decide +kernel
theorem dX10_isSign_24 : decode cX10_isSign 24 = .ok (.iload_n 0, 1) := by decide +kernel
theorem dX10_isSign_25 : decode cX10_isSign 25 = .ok (.bipush 61, 2) := by decide +kernel
theorem dX10_isSign_27 : decode cX10_isSign 27 = .ok (.if_icmp .eq 63, 3) := by decide +kernel
theorem dX10_isSign_30 : decode cX10_isSign 30 = .ok (.iload_n 0, 1) := by decide +kernel
theorem dX10_isSign_31 : decode cX10_isSign 31 = .ok (.bipush 43, 2) := by decide +kernel
theorem dX10_isSign_33 : decode cX10_isSign 33 = .ok (.if_icmp .eq 57, 3) := by decide +kernel
theorem dX10_isSign_36 : decode cX10_isSign 36 = .ok (.iload_n 0, 1) := by decide +kernel
theorem dX10_isSign_37 : decode cX10_isSign 37 = .ok (.bipush 45, 2) := by decide +kernel
theorem dX10_isSign_39 : decode cX10_isSign 39 = .ok (.if_icmp .eq 51, 3) := by decide +kernel
theorem dX10_isSign_42 : decode cX10_isSign 42 = .ok (.iload_n 0, 1) := by decide +kernel
theorem dX10_isSign_43 : decode cX10_isSign 43 = .ok (.bipush 42, 2) := by decide +kernel
theorem dX10_isSign_45 : decode cX10_isSign 45 = .ok (.if_icmp .eq 45, 3) := by decide +kernel
theorem dX10_isSign_48 : decode cX10_isSign 48 = .ok (.iload_n 0, 1) := by decide +kernel
theorem dX10_isSign_49 : decode cX10_isSign 49 = .ok (.bipush 47, 2) := by decide +kernel
theorem dX10_isSign_51 : decode cX10_isSign 51 = .ok (.if_icmp .eq 39, 3) := by decide +kernel
theorem dX10_isSign_54 : decode cX10_isSign 54 = .ok (.iload_n 0, 1) := by decide +kernel
theorem dX10_isSign_55 : decode cX10_isSign 55 = .ok (.bipush 37, 2) := by decide +kernel
theorem dX10_isSign_57 : decode cX10_isSign 57 = .ok (.if_icmp .eq 33, 3) := by decide +kernel
theorem dX10_isSign_60 : decode cX10_isSign 60 = .ok (.iload_n 0, 1) := by decide +kernel
theorem dX10_isSign_61 : decode cX10_isSign 61 = .ok (.bipush 60, 2) := by decide +kernel
theorem dX10_isSign_63 : decode cX10_isSign 63 = .ok (.if_icmp .eq 27, 3) := by decide +kernel
theorem dX10_isSign_66 : decode cX10_isSign 66 = .ok (.iload_n 0, 1) := by decide +kernel
theorem dX10_isSign_67 : decode cX10_isSign 67 = .ok (.bipush 63, 2) := by decide +kernel
theorem dX10_isSign_69 : decode cX10_isSign 69 = .ok (.if_icmp .eq 21, 3) := by decide +kernel
theorem dX10_isSign_72 : decode cX10_isSign 72 = .ok (.iload_n 0, 1) := by decide +kernel
theorem dX10_isSign_73 : decode cX10_isSign 73 = .ok (.bipush 58, 2) := by decide +kernel
theorem dX10_isSign_75 : decode cX10_isSign 75 = .ok (.if_icmp .eq 15, 3) := by decide +kernel
theorem dX10_isSign_78 : decode cX10_isSign 78 = .ok (.iload_n 0, 1) := by decide +kernel
theorem dX10_isSign_79 : decode cX10_isSign 79 = .ok (.bipush 35, 2) := by decide +kernel
theorem dX10_isSign_81 : decode cX10_isSign 81 = .ok (.if_icmp .eq 9, 3) := by decide +kernel
theorem dX10_isSign_84 : decode cX10_isSign 84 = .ok (.iload_n 0, 1) := by decide +kernel
theorem dX10_isSign_85 : decode cX10_isSign 85 = .ok (.bipush 59, 2) := by decide +kernel
theorem dX10_isSign_87 : decode cX10_isSign 87 = .ok (.if_icmp .ne 7, 3) := by decide +kernel
theorem dX10_isSign_90 : decode cX10_isSign 90 = .ok (.iconst 1, 1) := by decide +kernel
theorem dX10_isSign_91 : decode cX10_isSign 91 = .ok (.goto 4, 3) := by decide +kernel
theorem dX10_isSign_94 : decode cX10_isSign 94 = .ok (.iconst 0, 1) := by decide +kernel
theorem dX10_isSign_95 : decode cX10_isSign 95 = .ok (.ireturn, 1) := by decide +kernel
theorem dX10_wordSort_0 : decode cX10_wordSort 0 = .ok (.lload_n 0, 1) := by decide +kernel
theorem dX10_wordSort_1 : decode cX10_wordSort 1 = .ok (.ldc2_w 157, 3) := by decide +kernel
theorem dX10_wordSort_4 : decode cX10_wordSort 4 = .ok (.lcmp, 1) := by decide +kernel
theorem dX10_wordSort_5 : decode cX10_wordSort 5 = .ok (.ifCond .ne 6, 3) := by decide +kernel
theorem dX10_wordSort_8 : decode cX10_wordSort 8 = .ok (.bipush 8, 2) := by decide +kernel
theorem dX10_wordSort_10 : decode cX10_wordSort 10 = .ok (.ireturn, 1) := by decide +kernel
theorem dX10_wordSort_11 : decode cX10_wordSort 11 = .ok (.lload_n 0, 1) := by decide +kernel
theorem dX10_wordSort_12 : decode cX10_wordSort 12 = .ok (.ldc2_w 159, 3) := by decide +kernel
theorem dX10_wordSort_15 : decode cX10_wordSort 15 = .ok (.lcmp, 1) := by decide +kernel
theorem dX10_wordSort_16 : decode cX10_wordSort 16 = .ok (.ifCond .ne 6, 3) := by decide +kernel
theorem dX10_wordSort_19 : decode cX10_wordSort 19 = .ok (.bipush 7, 2) := by decide +kernel
theorem dX10_wordSort_21 : decode cX10_wordSort 21 = .ok (.ireturn, 1) := by decide +kernel
theorem dX10_wordSort_22 : decode cX10_wordSort 22 = .ok (.lload_n 0, 1) := by decide +kernel
theorem dX10_wordSort_23 : decode cX10_wordSort 23 = .ok (.ldc2_w 161, 3) := by decide +kernel
theorem dX10_wordSort_26 : decode cX10_wordSort 26 = .ok (.lcmp, 1) := by decide +kernel
theorem dX10_wordSort_27 : decode cX10_wordSort 27 = .ok (.ifCond .ne 6, 3) := by decide +kernel
theorem dX10_wordSort_30 : decode cX10_wordSort 30 = .ok (.bipush 6, 2) := by decide +kernel
theorem dX10_wordSort_32 : decode cX10_wordSort 32 = .ok (.ireturn, 1) := by decide +kernel
theorem dX10_wordSort_33 : decode cX10_wordSort 33 = .ok (.lload_n 0, 1) := by decide +kernel
theorem dX10_wordSort_34 : decode cX10_wordSort 34 = .ok (.ldc2_w 163, 3) := by decide +kernel
theorem dX10_wordSort_37 : decode cX10_wordSort 37 = .ok (.lcmp, 1) := by decide +kernel
theorem dX10_wordSort_38 : decode cX10_wordSort 38 = .ok (.ifCond .ne 5, 3) := by decide +kernel
theorem dX10_wordSort_41 : decode cX10_wordSort 41 = .ok (.iconst 5, 1) := by decide +kernel
theorem dX10_wordSort_42 : decode cX10_wordSort 42 = .ok (.ireturn, 1) := by decide +kernel
theorem dX10_wordSort_43 : decode cX10_wordSort 43 = .ok (.lload_n 0, 1) := by decide +kernel
theorem dX10_wordSort_44 : decode cX10_wordSort 44 = .ok (.ldc2_w 165, 3) := by decide +kernel
theorem dX10_wordSort_47 : decode cX10_wordSort 47 = .ok (.lcmp, 1) := by decide +kernel
theorem dX10_wordSort_48 : decode cX10_wordSort 48 = .ok (.ifCond .ne 7, 3) := by decide +kernel
theorem dX10_wordSort_51 : decode cX10_wordSort 51 = .ok (.iconst 4, 1) := by decide +kernel
theorem dX10_wordSort_52 : decode cX10_wordSort 52 = .ok (.goto 4, 3) := by decide +kernel
theorem dX10_wordSort_55 : decode cX10_wordSort 55 = .ok (.iconst 2, 1) := by decide +kernel
theorem dX10_wordSort_56 : decode cX10_wordSort 56 = .ok (.ireturn, 1) := by decide +kernel
theorem dX10_addToken_0 : decode cX10_addToken 0 = .ok (.aload_n 0, 1) := by decide +kernel
theorem dX10_addToken_1 : decode cX10_addToken 1 = .ok (.getfield 13, 3) := by decide +kernel
theorem dX10_addToken_4 : decode cX10_addToken 4 = .ok (.aload_n 0, 1) := by decide +kernel
theorem dX10_addToken_5 : decode cX10_addToken 5 = .ok (.getfield 167, 3) := by decide +kernel
theorem dX10_addToken_8 : decode cX10_addToken 8 = .ok (.iload_n 1, 1) := by decide +kernel
theorem dX10_addToken_9 : decode cX10_addToken 9 = .ok (.iastore, 1) := by decide +kernel
theorem dX10_addToken_10 : decode cX10_addToken 10 = .ok (.aload_n 0, 1) := by decide +kernel
theorem dX10_addToken_11 : decode cX10_addToken 11 = .ok (.getfield 17, 3) := by decide +kernel
theorem dX10_addToken_14 : decode cX10_addToken 14 = .ok (.aload_n 0, 1) := by decide +kernel
theorem dX10_addToken_15 : decode cX10_addToken 15 = .ok (.getfield 167, 3) := by decide +kernel
theorem dX10_addToken_18 : decode cX10_addToken 18 = .ok (.iload_n 2, 1) := by decide +kernel
theorem dX10_addToken_19 : decode cX10_addToken 19 = .ok (.iastore, 1) := by decide +kernel
theorem dX10_addToken_20 : decode cX10_addToken 20 = .ok (.aload_n 0, 1) := by decide +kernel
theorem dX10_addToken_21 : decode cX10_addToken 21 = .ok (.getfield 20, 3) := by decide +kernel
theorem dX10_addToken_24 : decode cX10_addToken 24 = .ok (.aload_n 0, 1) := by decide +kernel
theorem dX10_addToken_25 : decode cX10_addToken 25 = .ok (.getfield 167, 3) := by decide +kernel
theorem dX10_addToken_28 : decode cX10_addToken 28 = .ok (.lload_n 3, 1) := by decide +kernel
theorem dX10_addToken_29 : decode cX10_addToken 29 = .ok (.lastore, 1) := by decide +kernel
theorem dX10_addToken_30 : decode cX10_addToken 30 = .ok (.aload_n 0, 1) := by decide +kernel
theorem dX10_addToken_31 : decode cX10_addToken 31 = .ok (.dup, 1) := by decide +kernel
theorem dX10_addToken_32 : decode cX10_addToken 32 = .ok (.getfield 167, 3) := by decide +kernel
theorem dX10_addToken_35 : decode cX10_addToken 35 = .ok (.iconst 1, 1) := by decide +kernel
theorem dX10_addToken_36 : decode cX10_addToken 36 = .ok (.iadd, 1) := by decide +kernel
theorem dX10_addToken_37 : decode cX10_addToken 37 = .ok (.putfield 167, 3) := by decide +kernel
theorem dX10_addToken_40 : decode cX10_addToken 40 = .ok (.return_, 1) := by decide +kernel
theorem dX10_cutUp_0 : decode cX10_cutUp 0 = .ok (.aload_n 0, 1) := by decide +kernel
theorem dX10_cutUp_1 : decode cX10_cutUp 1 = .ok (.iconst 0, 1) := by decide +kernel
theorem dX10_cutUp_2 : decode cX10_cutUp 2 = .ok (.putfield 167, 3) := by decide +kernel
theorem dX10_cutUp_5 : decode cX10_cutUp 5 = .ok (.iconst 0, 1) := by decide +kernel
theorem dX10_cutUp_6 : decode cX10_cutUp 6 = .ok (.istore_n 1, 1) := by decide +kernel
theorem dX10_cutUp_7 : decode cX10_cutUp 7 = .ok (.iload_n 1, 1) := by decide +kernel
theorem dX10_cutUp_8 : decode cX10_cutUp 8 = .ok (.aload_n 0, 1) := by decide +kernel
theorem dX10_cutUp_9 : decode cX10_cutUp 9 = .ok (.getfield 153, 3) := by decide +kernel
theorem dX10_cutUp_12 : decode cX10_cutUp 12 = .ok (.if_icmp .ge 217, 3) := by decide +kernel
theorem dX10_cutUp_15 : decode cX10_cutUp 15 = .ok (.aload_n 0, 1) := by decide +kernel
theorem dX10_cutUp_16 : decode cX10_cutUp 16 = .ok (.iload_n 1, 1) := by decide +kernel
theorem dX10_cutUp_17 : decode cX10_cutUp 17 = .ok (.invokevirtual 170, 3) := by decide +kernel
theorem dX10_cutUp_20 : decode cX10_cutUp 20 = .ok (.istore_n 2, 1) := by decide +kernel
theorem dX10_cutUp_21 : decode cX10_cutUp 21 = .ok (.iload_n 1, 1) := by decide +kernel
theorem dX10_cutUp_22 : decode cX10_cutUp 22 = .ok (.iconst 1, 1) := by decide +kernel
theorem dX10_cutUp_23 : decode cX10_cutUp 23 = .ok (.iadd, 1) := by decide +kernel
theorem dX10_cutUp_24 : decode cX10_cutUp 24 = .ok (.istore_n 3, 1) := by decide +kernel
theorem dX10_cutUp_25 : decode cX10_cutUp 25 = .ok (.iload_n 2, 1) := by decide +kernel
theorem dX10_cutUp_26 : decode cX10_cutUp 26 = .ok (.invokestatic 174, 3) := by decide +kernel
theorem dX10_cutUp_29 : decode cX10_cutUp 29 = .ok (.ifCond .eq 81, 3) := by decide +kernel
theorem dX10_cutUp_32 : decode cX10_cutUp 32 = .ok (.lconst 0, 1) := by decide +kernel
theorem dX10_cutUp_33 : decode cX10_cutUp 33 = .ok (.lstore 4, 2) := by decide +kernel
theorem dX10_cutUp_35 : decode cX10_cutUp 35 = .ok (.iload_n 1, 1) := by decide +kernel
theorem dX10_cutUp_36 : decode cX10_cutUp 36 = .ok (.istore_n 3, 1) := by decide +kernel
theorem dX10_cutUp_37 : decode cX10_cutUp 37 = .ok (.aload_n 0, 1) := by decide +kernel
theorem dX10_cutUp_38 : decode cX10_cutUp 38 = .ok (.iload_n 3, 1) := by decide +kernel
theorem dX10_cutUp_39 : decode cX10_cutUp 39 = .ok (.invokevirtual 170, 3) := by decide +kernel
theorem dX10_cutUp_42 : decode cX10_cutUp 42 = .ok (.invokestatic 174, 3) := by decide +kernel
theorem dX10_cutUp_45 : decode cX10_cutUp 45 = .ok (.ifCond .eq 39, 3) := by decide +kernel
theorem dX10_cutUp_48 : decode cX10_cutUp 48 = .ok (.iload_n 3, 1) := by decide +kernel
theorem dX10_cutUp_49 : decode cX10_cutUp 49 = .ok (.iload_n 1, 1) := by decide +kernel
theorem dX10_cutUp_50 : decode cX10_cutUp 50 = .ok (.isub, 1) := by decide +kernel
theorem dX10_cutUp_51 : decode cX10_cutUp 51 = .ok (.iconst 5, 1) := by decide +kernel
theorem dX10_cutUp_52 : decode cX10_cutUp 52 = .ok (.if_icmp .ge 22, 3) := by decide +kernel
theorem dX10_cutUp_55 : decode cX10_cutUp 55 = .ok (.lload 4, 2) := by decide +kernel
theorem dX10_cutUp_57 : decode cX10_cutUp 57 = .ok (.aload_n 0, 1) := by decide +kernel
theorem dX10_cutUp_58 : decode cX10_cutUp 58 = .ok (.iload_n 3, 1) := by decide +kernel
theorem dX10_cutUp_59 : decode cX10_cutUp 59 = .ok (.invokevirtual 170, 3) := by decide +kernel
theorem dX10_cutUp_62 : decode cX10_cutUp 62 = .ok (.i2l, 1) := by decide +kernel
theorem dX10_cutUp_63 : decode cX10_cutUp 63 = .ok (.bipush 8, 2) := by decide +kernel
theorem dX10_cutUp_65 : decode cX10_cutUp 65 = .ok (.iload_n 3, 1) := by decide +kernel
theorem dX10_cutUp_66 : decode cX10_cutUp 66 = .ok (.iload_n 1, 1) := by decide +kernel
theorem dX10_cutUp_67 : decode cX10_cutUp 67 = .ok (.isub, 1) := by decide +kernel
theorem dX10_cutUp_68 : decode cX10_cutUp 68 = .ok (.imul, 1) := by decide +kernel
theorem dX10_cutUp_69 : decode cX10_cutUp 69 = .ok (.lshl, 1) := by decide +kernel
theorem dX10_cutUp_70 : decode cX10_cutUp 70 = .ok (.lor, 1) := by decide +kernel
theorem dX10_cutUp_71 : decode cX10_cutUp 71 = .ok (.goto 5, 3) := by decide +kernel
theorem dX10_cutUp_74 : decode cX10_cutUp 74 = .ok (.lload 4, 2) := by decide +kernel
theorem dX10_cutUp_76 : decode cX10_cutUp 76 = .ok (.lstore 4, 2) := by decide +kernel
theorem dX10_cutUp_78 : decode cX10_cutUp 78 = .ok (.iinc 3 1, 3) := by decide +kernel
theorem dX10_cutUp_81 : decode cX10_cutUp 81 = .ok (.goto (-44), 3) := by decide +kernel
theorem dX10_cutUp_84 : decode cX10_cutUp 84 = .ok (.aload_n 0, 1) := by decide +kernel
theorem dX10_cutUp_85 : decode cX10_cutUp 85 = .ok (.iload_n 3, 1) := by decide +kernel
theorem dX10_cutUp_86 : decode cX10_cutUp 86 = .ok (.iload_n 1, 1) := by decide +kernel
theorem dX10_cutUp_87 : decode cX10_cutUp 87 = .ok (.isub, 1) := by decide +kernel
theorem dX10_cutUp_88 : decode cX10_cutUp 88 = .ok (.iconst 5, 1) := by decide +kernel
theorem dX10_cutUp_89 : decode cX10_cutUp 89 = .ok (.if_icmp .le 7, 3) := by decide +kernel
theorem dX10_cutUp_92 : decode cX10_cutUp 92 = .ok (.iconst 3, 1) := by decide +kernel
theorem dX10_cutUp_93 : decode cX10_cutUp 93 = .ok (.goto 8, 3) := by decide +kernel
theorem dX10_cutUp_96 : decode cX10_cutUp 96 = .ok (.lload 4, 2) := by decide +kernel
theorem dX10_cutUp_98 : decode cX10_cutUp 98 = .ok (.invokestatic 178, 3) := by decide +kernel
theorem dX10_cutUp_101 : decode cX10_cutUp 101 = .ok (.iload_n 1, 1) := by decide +kernel
theorem dX10_cutUp_102 : decode cX10_cutUp 102 = .ok (.lload 4, 2) := by decide +kernel
theorem dX10_cutUp_104 : decode cX10_cutUp 104 = .ok (.invokevirtual 182, 3) := by decide +kernel
theorem dX10_cutUp_107 : decode cX10_cutUp 107 = .ok (.goto 117, 3) := by decide +kernel
theorem dX10_cutUp_110 : decode cX10_cutUp 110 = .ok (.iload_n 2, 1) := by decide +kernel
theorem dX10_cutUp_111 : decode cX10_cutUp 111 = .ok (.invokestatic 186, 3) := by decide +kernel
theorem dX10_cutUp_114 : decode cX10_cutUp 114 = .ok (.ifCond .eq 80, 3) := by decide +kernel
theorem dX10_cutUp_117 : decode cX10_cutUp 117 = .ok (.lconst 0, 1) := by decide +kernel
theorem dX10_cutUp_118 : decode cX10_cutUp 118 = .ok (.lstore 4, 2) := by decide +kernel
theorem dX10_cutUp_120 : decode cX10_cutUp 120 = .ok (.iload_n 1, 1) := by decide +kernel
theorem dX10_cutUp_121 : decode cX10_cutUp 121 = .ok (.istore_n 3, 1) := by decide +kernel
theorem dX10_cutUp_122 : decode cX10_cutUp 122 = .ok (.aload_n 0, 1) := by decide +kernel
theorem dX10_cutUp_123 : decode cX10_cutUp 123 = .ok (.iload_n 3, 1) := by decide +kernel
theorem dX10_cutUp_124 : decode cX10_cutUp 124 = .ok (.invokevirtual 170, 3) := by decide +kernel
theorem dX10_cutUp_127 : decode cX10_cutUp 127 = .ok (.invokestatic 186, 3) := by decide +kernel
theorem dX10_cutUp_130 : decode cX10_cutUp 130 = .ok (.ifCond .eq 41, 3) := by decide +kernel
theorem dX10_cutUp_133 : decode cX10_cutUp 133 = .ok (.iload_n 3, 1) := by decide +kernel
theorem dX10_cutUp_134 : decode cX10_cutUp 134 = .ok (.iload_n 1, 1) := by decide +kernel
theorem dX10_cutUp_135 : decode cX10_cutUp 135 = .ok (.isub, 1) := by decide +kernel
theorem dX10_cutUp_136 : decode cX10_cutUp 136 = .ok (.bipush 6, 2) := by decide +kernel
theorem dX10_cutUp_138 : decode cX10_cutUp 138 = .ok (.if_icmp .ge 23, 3) := by decide +kernel
theorem dX10_cutUp_141 : decode cX10_cutUp 141 = .ok (.ldc2_w 189, 3) := by decide +kernel
theorem dX10_cutUp_144 : decode cX10_cutUp 144 = .ok (.lload 4, 2) := by decide +kernel
theorem dX10_cutUp_146 : decode cX10_cutUp 146 = .ok (.lmul, 1) := by decide +kernel
theorem dX10_cutUp_147 : decode cX10_cutUp 147 = .ok (.aload_n 0, 1) := by decide +kernel
theorem dX10_cutUp_148 : decode cX10_cutUp 148 = .ok (.iload_n 3, 1) := by decide +kernel
theorem dX10_cutUp_149 : decode cX10_cutUp 149 = .ok (.invokevirtual 170, 3) := by decide +kernel
theorem dX10_cutUp_152 : decode cX10_cutUp 152 = .ok (.i2l, 1) := by decide +kernel
theorem dX10_cutUp_153 : decode cX10_cutUp 153 = .ok (.ladd, 1) := by decide +kernel
theorem dX10_cutUp_154 : decode cX10_cutUp 154 = .ok (.ldc2_w 191, 3) := by decide +kernel
theorem dX10_cutUp_157 : decode cX10_cutUp 157 = .ok (.lsub, 1) := by decide +kernel
theorem dX10_cutUp_158 : decode cX10_cutUp 158 = .ok (.goto 5, 3) := by decide +kernel
theorem dX10_cutUp_161 : decode cX10_cutUp 161 = .ok (.lload 4, 2) := by decide +kernel
theorem dX10_cutUp_163 : decode cX10_cutUp 163 = .ok (.lstore 4, 2) := by decide +kernel
theorem dX10_cutUp_165 : decode cX10_cutUp 165 = .ok (.iinc 3 1, 3) := by decide +kernel
theorem dX10_cutUp_168 : decode cX10_cutUp 168 = .ok (.goto (-46), 3) := by decide +kernel
theorem dX10_cutUp_171 : decode cX10_cutUp 171 = .ok (.aload_n 0, 1) := by decide +kernel
theorem dX10_cutUp_172 : decode cX10_cutUp 172 = .ok (.iload_n 3, 1) := by decide +kernel
theorem dX10_cutUp_173 : decode cX10_cutUp 173 = .ok (.iload_n 1, 1) := by decide +kernel
theorem dX10_cutUp_174 : decode cX10_cutUp 174 = .ok (.isub, 1) := by decide +kernel
theorem dX10_cutUp_175 : decode cX10_cutUp 175 = .ok (.bipush 6, 2) := by decide +kernel
theorem dX10_cutUp_177 : decode cX10_cutUp 177 = .ok (.if_icmp .le 7, 3) := by decide +kernel
theorem dX10_cutUp_180 : decode cX10_cutUp 180 = .ok (.iconst 3, 1) := by decide +kernel
theorem dX10_cutUp_181 : decode cX10_cutUp 181 = .ok (.goto 4, 3) := by decide +kernel
theorem dX10_cutUp_184 : decode cX10_cutUp 184 = .ok (.iconst 1, 1) := by decide +kernel
theorem dX10_cutUp_185 : decode cX10_cutUp 185 = .ok (.iload_n 1, 1) := by decide +kernel
theorem dX10_cutUp_186 : decode cX10_cutUp 186 = .ok (.lload 4, 2) := by decide +kernel
theorem dX10_cutUp_188 : decode cX10_cutUp 188 = .ok (.invokevirtual 182, 3) := by decide +kernel
theorem dX10_cutUp_191 : decode cX10_cutUp 191 = .ok (.goto 33, 3) := by decide +kernel
theorem dX10_cutUp_194 : decode cX10_cutUp 194 = .ok (.iload_n 2, 1) := by decide +kernel
theorem dX10_cutUp_195 : decode cX10_cutUp 195 = .ok (.bipush 32, 2) := by decide +kernel
theorem dX10_cutUp_197 : decode cX10_cutUp 197 = .ok (.if_icmp .eq 27, 3) := by decide +kernel
theorem dX10_cutUp_200 : decode cX10_cutUp 200 = .ok (.iload_n 2, 1) := by decide +kernel
theorem dX10_cutUp_201 : decode cX10_cutUp 201 = .ok (.bipush 10, 2) := by decide +kernel
theorem dX10_cutUp_203 : decode cX10_cutUp 203 = .ok (.if_icmp .eq 21, 3) := by decide +kernel
theorem dX10_cutUp_206 : decode cX10_cutUp 206 = .ok (.aload_n 0, 1) := by decide +kernel
theorem dX10_cutUp_207 : decode cX10_cutUp 207 = .ok (.iload_n 2, 1) := by decide +kernel
theorem dX10_cutUp_208 : decode cX10_cutUp 208 = .ok (.invokestatic 193, 3) := by decide +kernel
theorem dX10_cutUp_211 : decode cX10_cutUp 211 = .ok (.ifCond .eq 7, 3) := by decide +kernel
theorem dX10_cutUp_214 : decode cX10_cutUp 214 = .ok (.iload_n 2, 1) := by decide +kernel
theorem dX10_cutUp_215 : decode cX10_cutUp 215 = .ok (.goto 4, 3) := by decide +kernel
theorem dX10_cutUp_218 : decode cX10_cutUp 218 = .ok (.iconst 3, 1) := by decide +kernel
theorem dX10_cutUp_219 : decode cX10_cutUp 219 = .ok (.iload_n 1, 1) := by decide +kernel
theorem dX10_cutUp_220 : decode cX10_cutUp 220 = .ok (.lconst 0, 1) := by decide +kernel
theorem dX10_cutUp_221 : decode cX10_cutUp 221 = .ok (.invokevirtual 182, 3) := by decide +kernel
theorem dX10_cutUp_224 : decode cX10_cutUp 224 = .ok (.iload_n 3, 1) := by decide +kernel
theorem dX10_cutUp_225 : decode cX10_cutUp 225 = .ok (.istore_n 1, 1) := by decide +kernel
theorem dX10_cutUp_226 : decode cX10_cutUp 226 = .ok (.goto (-219), 3) := by decide +kernel
theorem dX10_cutUp_229 : decode cX10_cutUp 229 = .ok (.aload_n 0, 1) := by decide +kernel
theorem dX10_cutUp_230 : decode cX10_cutUp 230 = .ok (.iconst 0, 1) := by decide +kernel
theorem dX10_cutUp_231 : decode cX10_cutUp 231 = .ok (.aload_n 0, 1) := by decide +kernel
theorem dX10_cutUp_232 : decode cX10_cutUp 232 = .ok (.getfield 153, 3) := by decide +kernel
theorem dX10_cutUp_235 : decode cX10_cutUp 235 = .ok (.lconst 0, 1) := by decide +kernel
theorem dX10_cutUp_236 : decode cX10_cutUp 236 = .ok (.invokevirtual 182, 3) := by decide +kernel
theorem dX10_cutUp_239 : decode cX10_cutUp 239 = .ok (.return_, 1) := by decide +kernel
theorem dX10_must_0 : decode cX10_must 0 = .ok (.iload_n 1, 1) := by decide +kernel
theorem dX10_must_1 : decode cX10_must 1 = .ok (.ifCond .ne 25, 3) := by decide +kernel
theorem dX10_must_4 : decode cX10_must 4 = .ok (.aload_n 0, 1) := by decide +kernel
theorem dX10_must_5 : decode cX10_must 5 = .ok (.getfield 196, 3) := by decide +kernel
theorem dX10_must_8 : decode cX10_must 8 = .ok (.bipush (-9), 2) := by decide +kernel
theorem dX10_must_10 : decode cX10_must 10 = .ok (.if_icmp .ne 16, 3) := by decide +kernel
theorem dX10_must_13 : decode cX10_must 13 = .ok (.aload_n 0, 1) := by decide +kernel
theorem dX10_must_14 : decode cX10_must 14 = .ok (.aload_n 0, 1) := by decide +kernel
theorem dX10_must_15 : decode cX10_must 15 = .ok (.getfield 17, 3) := by decide +kernel
theorem dX10_must_18 : decode cX10_must 18 = .ok (.aload_n 0, 1) := by decide +kernel
theorem dX10_must_19 : decode cX10_must 19 = .ok (.getfield 199, 3) := by decide +kernel
theorem dX10_must_22 : decode cX10_must 22 = .ok (.iaload, 1) := by decide +kernel
theorem dX10_must_23 : decode cX10_must 23 = .ok (.putfield 196, 3) := by decide +kernel
theorem dX10_must_26 : decode cX10_must 26 = .ok (.aload_n 0, 1) := by decide +kernel
theorem dX10_must_27 : decode cX10_must 27 = .ok (.getfield 196, 3) := by decide +kernel
theorem dX10_must_30 : decode cX10_must 30 = .ok (.bipush (-9), 2) := by decide +kernel
theorem dX10_must_32 : decode cX10_must 32 = .ok (.if_icmp .ne 7, 3) := by decide +kernel
theorem dX10_must_35 : decode cX10_must 35 = .ok (.iconst 1, 1) := by decide +kernel
theorem dX10_must_36 : decode cX10_must 36 = .ok (.goto 4, 3) := by decide +kernel
theorem dX10_must_39 : decode cX10_must 39 = .ok (.iconst 0, 1) := by decide +kernel
theorem dX10_must_40 : decode cX10_must 40 = .ok (.ireturn, 1) := by decide +kernel
theorem dX10_take_0 : decode cX10_take 0 = .ok (.aload_n 0, 1) := by decide +kernel
theorem dX10_take_1 : decode cX10_take 1 = .ok (.aload_n 0, 1) := by decide +kernel
theorem dX10_take_2 : decode cX10_take 2 = .ok (.getfield 13, 3) := by decide +kernel
theorem dX10_take_5 : decode cX10_take 5 = .ok (.aload_n 0, 1) := by decide +kernel
theorem dX10_take_6 : decode cX10_take 6 = .ok (.getfield 199, 3) := by decide +kernel
theorem dX10_take_9 : decode cX10_take 9 = .ok (.iaload, 1) := by decide +kernel
theorem dX10_take_10 : decode cX10_take 10 = .ok (.iload_n 1, 1) := by decide +kernel
theorem dX10_take_11 : decode cX10_take 11 = .ok (.if_icmp .ne 7, 3) := by decide +kernel
theorem dX10_take_14 : decode cX10_take 14 = .ok (.iconst 1, 1) := by decide +kernel
theorem dX10_take_15 : decode cX10_take 15 = .ok (.goto 4, 3) := by decide +kernel
theorem dX10_take_18 : decode cX10_take 18 = .ok (.iconst 0, 1) := by decide +kernel
theorem dX10_take_19 : decode cX10_take 19 = .ok (.invokevirtual 202, 3) := by decide +kernel
theorem dX10_take_22 : decode cX10_take 22 = .ok (.ifCond .eq 13, 3) := by decide +kernel
theorem dX10_take_25 : decode cX10_take 25 = .ok (.aload_n 0, 1) := by decide +kernel
theorem dX10_take_26 : decode cX10_take 26 = .ok (.dup, 1) := by decide +kernel
theorem dX10_take_27 : decode cX10_take 27 = .ok (.getfield 199, 3) := by decide +kernel
theorem dX10_take_30 : decode cX10_take 30 = .ok (.iconst 1, 1) := by decide +kernel
theorem dX10_take_31 : decode cX10_take 31 = .ok (.iadd, 1) := by decide +kernel
theorem dX10_take_32 : decode cX10_take 32 = .ok (.putfield 199, 3) := by decide +kernel
theorem dX10_take_35 : decode cX10_take 35 = .ok (.aload_n 0, 1) := by decide +kernel
theorem dX10_take_36 : decode cX10_take 36 = .ok (.getfield 196, 3) := by decide +kernel
theorem dX10_take_39 : decode cX10_take 39 = .ok (.bipush (-9), 2) := by decide +kernel
theorem dX10_take_41 : decode cX10_take 41 = .ok (.if_icmp .ne 7, 3) := by decide +kernel
theorem dX10_take_44 : decode cX10_take 44 = .ok (.iconst 1, 1) := by decide +kernel
theorem dX10_take_45 : decode cX10_take 45 = .ok (.goto 4, 3) := by decide +kernel
theorem dX10_take_48 : decode cX10_take 48 = .ok (.iconst 0, 1) := by decide +kernel
theorem dX10_take_49 : decode cX10_take 49 = .ok (.ireturn, 1) := by decide +kernel
theorem dX10_emit_0 : decode cX10_emit 0 = .ok (.aload_n 0, 1) := by decide +kernel
theorem dX10_emit_1 : decode cX10_emit 1 = .ok (.getfield 46, 3) := by decide +kernel
theorem dX10_emit_4 : decode cX10_emit 4 = .ok (.aload_n 0, 1) := by decide +kernel
theorem dX10_emit_5 : decode cX10_emit 5 = .ok (.getfield 206, 3) := by decide +kernel
theorem dX10_emit_8 : decode cX10_emit 8 = .ok (.iload_n 1, 1) := by decide +kernel
theorem dX10_emit_9 : decode cX10_emit 9 = .ok (.iastore, 1) := by decide +kernel
theorem dX10_emit_10 : decode cX10_emit 10 = .ok (.aload_n 0, 1) := by decide +kernel
theorem dX10_emit_11 : decode cX10_emit 11 = .ok (.getfield 49, 3) := by decide +kernel
theorem dX10_emit_14 : decode cX10_emit 14 = .ok (.aload_n 0, 1) := by decide +kernel
theorem dX10_emit_15 : decode cX10_emit 15 = .ok (.getfield 206, 3) := by decide +kernel
theorem dX10_emit_18 : decode cX10_emit 18 = .ok (.lload_n 2, 1) := by decide +kernel
theorem dX10_emit_19 : decode cX10_emit 19 = .ok (.lastore, 1) := by decide +kernel
theorem dX10_emit_20 : decode cX10_emit 20 = .ok (.aload_n 0, 1) := by decide +kernel
theorem dX10_emit_21 : decode cX10_emit 21 = .ok (.dup, 1) := by decide +kernel
theorem dX10_emit_22 : decode cX10_emit 22 = .ok (.getfield 206, 3) := by decide +kernel
theorem dX10_emit_25 : decode cX10_emit 25 = .ok (.iconst 1, 1) := by decide +kernel
theorem dX10_emit_26 : decode cX10_emit 26 = .ok (.iadd, 1) := by decide +kernel
theorem dX10_emit_27 : decode cX10_emit 27 = .ok (.putfield 206, 3) := by decide +kernel
theorem dX10_emit_30 : decode cX10_emit 30 = .ok (.return_, 1) := by decide +kernel
theorem dX10_use_0 : decode cX10_use 0 = .ok (.aload_n 0, 1) := by decide +kernel
theorem dX10_use_1 : decode cX10_use 1 = .ok (.aload_n 0, 1) := by decide +kernel
theorem dX10_use_2 : decode cX10_use 2 = .ok (.getfield 13, 3) := by decide +kernel
theorem dX10_use_5 : decode cX10_use 5 = .ok (.aload_n 0, 1) := by decide +kernel
theorem dX10_use_6 : decode cX10_use 6 = .ok (.getfield 199, 3) := by decide +kernel
theorem dX10_use_9 : decode cX10_use 9 = .ok (.iaload, 1) := by decide +kernel
theorem dX10_use_10 : decode cX10_use 10 = .ok (.iconst 2, 1) := by decide +kernel
theorem dX10_use_11 : decode cX10_use 11 = .ok (.if_icmp .ne 7, 3) := by decide +kernel
theorem dX10_use_14 : decode cX10_use 14 = .ok (.iconst 1, 1) := by decide +kernel
theorem dX10_use_15 : decode cX10_use 15 = .ok (.goto 4, 3) := by decide +kernel
theorem dX10_use_18 : decode cX10_use 18 = .ok (.iconst 0, 1) := by decide +kernel
theorem dX10_use_19 : decode cX10_use 19 = .ok (.invokevirtual 202, 3) := by decide +kernel
theorem dX10_use_22 : decode cX10_use 22 = .ok (.ifCond .eq 59, 3) := by decide +kernel
theorem dX10_use_25 : decode cX10_use 25 = .ok (.aload_n 0, 1) := by decide +kernel
theorem dX10_use_26 : decode cX10_use 26 = .ok (.getfield 58, 3) := by decide +kernel
theorem dX10_use_29 : decode cX10_use 29 = .ok (.aload_n 0, 1) := by decide +kernel
theorem dX10_use_30 : decode cX10_use 30 = .ok (.getfield 209, 3) := by decide +kernel
theorem dX10_use_33 : decode cX10_use 33 = .ok (.aload_n 0, 1) := by decide +kernel
theorem dX10_use_34 : decode cX10_use 34 = .ok (.getfield 199, 3) := by decide +kernel
theorem dX10_use_37 : decode cX10_use 37 = .ok (.iastore, 1) := by decide +kernel
theorem dX10_use_38 : decode cX10_use 38 = .ok (.aload_n 0, 1) := by decide +kernel
theorem dX10_use_39 : decode cX10_use 39 = .ok (.getfield 61, 3) := by decide +kernel
theorem dX10_use_42 : decode cX10_use 42 = .ok (.aload_n 0, 1) := by decide +kernel
theorem dX10_use_43 : decode cX10_use 43 = .ok (.getfield 209, 3) := by decide +kernel
theorem dX10_use_46 : decode cX10_use 46 = .ok (.aload_n 0, 1) := by decide +kernel
theorem dX10_use_47 : decode cX10_use 47 = .ok (.getfield 212, 3) := by decide +kernel
theorem dX10_use_50 : decode cX10_use 50 = .ok (.iastore, 1) := by decide +kernel
theorem dX10_use_51 : decode cX10_use 51 = .ok (.aload_n 0, 1) := by decide +kernel
theorem dX10_use_52 : decode cX10_use 52 = .ok (.getfield 64, 3) := by decide +kernel
theorem dX10_use_55 : decode cX10_use 55 = .ok (.aload_n 0, 1) := by decide +kernel
theorem dX10_use_56 : decode cX10_use 56 = .ok (.getfield 209, 3) := by decide +kernel
theorem dX10_use_59 : decode cX10_use 59 = .ok (.iload_n 1, 1) := by decide +kernel
theorem dX10_use_60 : decode cX10_use 60 = .ok (.bastore, 1) := by decide +kernel
theorem dX10_use_61 : decode cX10_use 61 = .ok (.aload_n 0, 1) := by decide +kernel
theorem dX10_use_62 : decode cX10_use 62 = .ok (.dup, 1) := by decide +kernel
theorem dX10_use_63 : decode cX10_use 63 = .ok (.getfield 209, 3) := by decide +kernel
theorem dX10_use_66 : decode cX10_use 66 = .ok (.iconst 1, 1) := by decide +kernel
theorem dX10_use_67 : decode cX10_use 67 = .ok (.iadd, 1) := by decide +kernel
theorem dX10_use_68 : decode cX10_use 68 = .ok (.putfield 209, 3) := by decide +kernel
theorem dX10_use_71 : decode cX10_use 71 = .ok (.aload_n 0, 1) := by decide +kernel
theorem dX10_use_72 : decode cX10_use 72 = .ok (.dup, 1) := by decide +kernel
theorem dX10_use_73 : decode cX10_use 73 = .ok (.getfield 199, 3) := by decide +kernel
theorem dX10_use_76 : decode cX10_use 76 = .ok (.iconst 1, 1) := by decide +kernel
theorem dX10_use_77 : decode cX10_use 77 = .ok (.iadd, 1) := by decide +kernel
theorem dX10_use_78 : decode cX10_use 78 = .ok (.putfield 199, 3) := by decide +kernel
theorem dX10_use_81 : decode cX10_use 81 = .ok (.return_, 1) := by decide +kernel
theorem dX10_readSize_0 : decode cX10_readSize 0 = .ok (.iconst 0, 1) := by decide +kernel
theorem dX10_readSize_1 : decode cX10_readSize 1 = .ok (.istore_n 1, 1) := by decide +kernel
theorem dX10_readSize_2 : decode cX10_readSize 2 = .ok (.iconst 1, 1) := by decide +kernel
theorem dX10_readSize_3 : decode cX10_readSize 3 = .ok (.istore_n 2, 1) := by decide +kernel
theorem dX10_readSize_4 : decode cX10_readSize 4 = .ok (.aload_n 0, 1) := by decide +kernel
theorem dX10_readSize_5 : decode cX10_readSize 5 = .ok (.getfield 43, 3) := by decide +kernel
theorem dX10_readSize_8 : decode cX10_readSize 8 = .ok (.aload_n 0, 1) := by decide +kernel
theorem dX10_readSize_9 : decode cX10_readSize 9 = .ok (.getfield 212, 3) := by decide +kernel
theorem dX10_readSize_12 : decode cX10_readSize 12 = .ok (.aload_n 0, 1) := by decide +kernel
theorem dX10_readSize_13 : decode cX10_readSize 13 = .ok (.getfield 215, 3) := by decide +kernel
theorem dX10_readSize_16 : decode cX10_readSize 16 = .ok (.iastore, 1) := by decide +kernel
theorem dX10_readSize_17 : decode cX10_readSize 17 = .ok (.bipush 43, 2) := by decide +kernel
theorem dX10_readSize_19 : decode cX10_readSize 19 = .ok (.istore_n 3, 1) := by decide +kernel
theorem dX10_readSize_20 : decode cX10_readSize 20 = .ok (.iload_n 2, 1) := by decide +kernel
theorem dX10_readSize_21 : decode cX10_readSize 21 = .ok (.ifCond .eq 263, 3) := by decide +kernel
theorem dX10_readSize_24 : decode cX10_readSize 24 = .ok (.aload_n 0, 1) := by decide +kernel
theorem dX10_readSize_25 : decode cX10_readSize 25 = .ok (.getfield 196, 3) := by decide +kernel
theorem dX10_readSize_28 : decode cX10_readSize 28 = .ok (.bipush (-9), 2) := by decide +kernel
theorem dX10_readSize_30 : decode cX10_readSize 30 = .ok (.if_icmp .ne 254, 3) := by decide +kernel
theorem dX10_readSize_33 : decode cX10_readSize 33 = .ok (.aload_n 0, 1) := by decide +kernel
theorem dX10_readSize_34 : decode cX10_readSize 34 = .ok (.iload_n 1, 1) := by decide +kernel
theorem dX10_readSize_35 : decode cX10_readSize 35 = .ok (.bipush 8, 2) := by decide +kernel
theorem dX10_readSize_37 : decode cX10_readSize 37 = .ok (.if_icmp .ge 34, 3) := by decide +kernel
theorem dX10_readSize_40 : decode cX10_readSize 40 = .ok (.aload_n 0, 1) := by decide +kernel
theorem dX10_readSize_41 : decode cX10_readSize 41 = .ok (.getfield 13, 3) := by decide +kernel
theorem dX10_readSize_44 : decode cX10_readSize 44 = .ok (.aload_n 0, 1) := by decide +kernel
theorem dX10_readSize_45 : decode cX10_readSize 45 = .ok (.getfield 199, 3) := by decide +kernel
theorem dX10_readSize_48 : decode cX10_readSize 48 = .ok (.iaload, 1) := by decide +kernel
theorem dX10_readSize_49 : decode cX10_readSize 49 = .ok (.iconst 1, 1) := by decide +kernel
theorem dX10_readSize_50 : decode cX10_readSize 50 = .ok (.if_icmp .eq 17, 3) := by decide +kernel
theorem dX10_readSize_53 : decode cX10_readSize 53 = .ok (.aload_n 0, 1) := by decide +kernel
theorem dX10_readSize_54 : decode cX10_readSize 54 = .ok (.getfield 13, 3) := by decide +kernel
theorem dX10_readSize_57 : decode cX10_readSize 57 = .ok (.aload_n 0, 1) := by decide +kernel
theorem dX10_readSize_58 : decode cX10_readSize 58 = .ok (.getfield 199, 3) := by decide +kernel
theorem dX10_readSize_61 : decode cX10_readSize 61 = .ok (.iaload, 1) := by decide +kernel
theorem dX10_readSize_62 : decode cX10_readSize 62 = .ok (.bipush 35, 2) := by decide +kernel
theorem dX10_readSize_64 : decode cX10_readSize 64 = .ok (.if_icmp .ne 7, 3) := by decide +kernel
theorem dX10_readSize_67 : decode cX10_readSize 67 = .ok (.iconst 1, 1) := by decide +kernel
theorem dX10_readSize_68 : decode cX10_readSize 68 = .ok (.goto 4, 3) := by decide +kernel
theorem dX10_readSize_71 : decode cX10_readSize 71 = .ok (.iconst 0, 1) := by decide +kernel
theorem dX10_readSize_72 : decode cX10_readSize 72 = .ok (.invokevirtual 202, 3) := by decide +kernel
theorem dX10_readSize_75 : decode cX10_readSize 75 = .ok (.pop, 1) := by decide +kernel
theorem dX10_readSize_76 : decode cX10_readSize 76 = .ok (.iinc 1 1, 3) := by decide +kernel
theorem dX10_readSize_79 : decode cX10_readSize 79 = .ok (.aload_n 0, 1) := by decide +kernel
theorem dX10_readSize_80 : decode cX10_readSize 80 = .ok (.getfield 52, 3) := by decide +kernel
theorem dX10_readSize_83 : decode cX10_readSize 83 = .ok (.aload_n 0, 1) := by decide +kernel
theorem dX10_readSize_84 : decode cX10_readSize 84 = .ok (.getfield 215, 3) := by decide +kernel
theorem dX10_readSize_87 : decode cX10_readSize 87 = .ok (.bipush 119, 2) := by decide +kernel
theorem dX10_readSize_89 : decode cX10_readSize 89 = .ok (.if_icmp .ge 10, 3) := by decide +kernel
theorem dX10_readSize_92 : decode cX10_readSize 92 = .ok (.aload_n 0, 1) := by decide +kernel
theorem dX10_readSize_93 : decode cX10_readSize 93 = .ok (.getfield 215, 3) := by decide +kernel
theorem dX10_readSize_96 : decode cX10_readSize 96 = .ok (.goto 5, 3) := by decide +kernel
theorem dX10_readSize_99 : decode cX10_readSize 99 = .ok (.bipush 119, 2) := by decide +kernel
theorem dX10_readSize_101 : decode cX10_readSize 101 = .ok (.iload_n 3, 1) := by decide +kernel
theorem dX10_readSize_102 : decode cX10_readSize 102 = .ok (.iastore, 1) := by decide +kernel
theorem dX10_readSize_103 : decode cX10_readSize 103 = .ok (.aload_n 0, 1) := by decide +kernel
theorem dX10_readSize_104 : decode cX10_readSize 104 = .ok (.getfield 196, 3) := by decide +kernel
theorem dX10_readSize_107 : decode cX10_readSize 107 = .ok (.bipush (-9), 2) := by decide +kernel
theorem dX10_readSize_109 : decode cX10_readSize 109 = .ok (.if_icmp .ne 57, 3) := by decide +kernel
theorem dX10_readSize_112 : decode cX10_readSize 112 = .ok (.aload_n 0, 1) := by decide +kernel
theorem dX10_readSize_113 : decode cX10_readSize 113 = .ok (.getfield 13, 3) := by decide +kernel
theorem dX10_readSize_116 : decode cX10_readSize 116 = .ok (.aload_n 0, 1) := by decide +kernel
theorem dX10_readSize_117 : decode cX10_readSize 117 = .ok (.getfield 199, 3) := by decide +kernel
theorem dX10_readSize_120 : decode cX10_readSize 120 = .ok (.iaload, 1) := by decide +kernel
theorem dX10_readSize_121 : decode cX10_readSize 121 = .ok (.iconst 1, 1) := by decide +kernel
theorem dX10_readSize_122 : decode cX10_readSize 122 = .ok (.if_icmp .ne 44, 3) := by decide +kernel
theorem dX10_readSize_125 : decode cX10_readSize 125 = .ok (.aload_n 0, 1) := by decide +kernel
theorem dX10_readSize_126 : decode cX10_readSize 126 = .ok (.getfield 55, 3) := by decide +kernel
theorem dX10_readSize_129 : decode cX10_readSize 129 = .ok (.aload_n 0, 1) := by decide +kernel
theorem dX10_readSize_130 : decode cX10_readSize 130 = .ok (.getfield 215, 3) := by decide +kernel
theorem dX10_readSize_133 : decode cX10_readSize 133 = .ok (.aload_n 0, 1) := by decide +kernel
theorem dX10_readSize_134 : decode cX10_readSize 134 = .ok (.getfield 20, 3) := by decide +kernel
theorem dX10_readSize_137 : decode cX10_readSize 137 = .ok (.aload_n 0, 1) := by decide +kernel
theorem dX10_readSize_138 : decode cX10_readSize 138 = .ok (.getfield 199, 3) := by decide +kernel
theorem dX10_readSize_141 : decode cX10_readSize 141 = .ok (.laload, 1) := by decide +kernel
theorem dX10_readSize_142 : decode cX10_readSize 142 = .ok (.lastore, 1) := by decide +kernel
theorem dX10_readSize_143 : decode cX10_readSize 143 = .ok (.aload_n 0, 1) := by decide +kernel
theorem dX10_readSize_144 : decode cX10_readSize 144 = .ok (.dup, 1) := by decide +kernel
theorem dX10_readSize_145 : decode cX10_readSize 145 = .ok (.getfield 215, 3) := by decide +kernel
theorem dX10_readSize_148 : decode cX10_readSize 148 = .ok (.iconst 1, 1) := by decide +kernel
theorem dX10_readSize_149 : decode cX10_readSize 149 = .ok (.iadd, 1) := by decide +kernel
theorem dX10_readSize_150 : decode cX10_readSize 150 = .ok (.putfield 215, 3) := by decide +kernel
theorem dX10_readSize_153 : decode cX10_readSize 153 = .ok (.aload_n 0, 1) := by decide +kernel
theorem dX10_readSize_154 : decode cX10_readSize 154 = .ok (.dup, 1) := by decide +kernel
theorem dX10_readSize_155 : decode cX10_readSize 155 = .ok (.getfield 199, 3) := by decide +kernel
theorem dX10_readSize_158 : decode cX10_readSize 158 = .ok (.iconst 1, 1) := by decide +kernel
theorem dX10_readSize_159 : decode cX10_readSize 159 = .ok (.iadd, 1) := by decide +kernel
theorem dX10_readSize_160 : decode cX10_readSize 160 = .ok (.putfield 199, 3) := by decide +kernel
theorem dX10_readSize_163 : decode cX10_readSize 163 = .ok (.goto 57, 3) := by decide +kernel
theorem dX10_readSize_166 : decode cX10_readSize 166 = .ok (.aload_n 0, 1) := by decide +kernel
theorem dX10_readSize_167 : decode cX10_readSize 167 = .ok (.getfield 196, 3) := by decide +kernel
theorem dX10_readSize_170 : decode cX10_readSize 170 = .ok (.bipush (-9), 2) := by decide +kernel
theorem dX10_readSize_172 : decode cX10_readSize 172 = .ok (.if_icmp .ne 48, 3) := by decide +kernel
theorem dX10_readSize_175 : decode cX10_readSize 175 = .ok (.aload_n 0, 1) := by decide +kernel
theorem dX10_readSize_176 : decode cX10_readSize 176 = .ok (.dup, 1) := by decide +kernel
theorem dX10_readSize_177 : decode cX10_readSize 177 = .ok (.getfield 199, 3) := by decide +kernel
theorem dX10_readSize_180 : decode cX10_readSize 180 = .ok (.iconst 1, 1) := by decide +kernel
theorem dX10_readSize_181 : decode cX10_readSize 181 = .ok (.iadd, 1) := by decide +kernel
theorem dX10_readSize_182 : decode cX10_readSize 182 = .ok (.putfield 199, 3) := by decide +kernel
theorem dX10_readSize_185 : decode cX10_readSize 185 = .ok (.aload_n 0, 1) := by decide +kernel
theorem dX10_readSize_186 : decode cX10_readSize 186 = .ok (.iconst 1, 1) := by decide +kernel
theorem dX10_readSize_187 : decode cX10_readSize 187 = .ok (.invokevirtual 218, 3) := by decide +kernel
theorem dX10_readSize_190 : decode cX10_readSize 190 = .ok (.aload_n 0, 1) := by decide +kernel
theorem dX10_readSize_191 : decode cX10_readSize 191 = .ok (.getfield 55, 3) := by decide +kernel
theorem dX10_readSize_194 : decode cX10_readSize 194 = .ok (.aload_n 0, 1) := by decide +kernel
theorem dX10_readSize_195 : decode cX10_readSize 195 = .ok (.getfield 215, 3) := by decide +kernel
theorem dX10_readSize_198 : decode cX10_readSize 198 = .ok (.ldc2_w 222, 3) := by decide +kernel
theorem dX10_readSize_201 : decode cX10_readSize 201 = .ok (.aload_n 0, 1) := by decide +kernel
theorem dX10_readSize_202 : decode cX10_readSize 202 = .ok (.getfield 199, 3) := by decide +kernel
theorem dX10_readSize_205 : decode cX10_readSize 205 = .ok (.iconst 1, 1) := by decide +kernel
theorem dX10_readSize_206 : decode cX10_readSize 206 = .ok (.isub, 1) := by decide +kernel
theorem dX10_readSize_207 : decode cX10_readSize 207 = .ok (.i2l, 1) := by decide +kernel
theorem dX10_readSize_208 : decode cX10_readSize 208 = .ok (.lsub, 1) := by decide +kernel
theorem dX10_readSize_209 : decode cX10_readSize 209 = .ok (.lastore, 1) := by decide +kernel
theorem dX10_readSize_210 : decode cX10_readSize 210 = .ok (.aload_n 0, 1) := by decide +kernel
theorem dX10_readSize_211 : decode cX10_readSize 211 = .ok (.dup, 1) := by decide +kernel
theorem dX10_readSize_212 : decode cX10_readSize 212 = .ok (.getfield 215, 3) := by decide +kernel
theorem dX10_readSize_215 : decode cX10_readSize 215 = .ok (.iconst 1, 1) := by decide +kernel
theorem dX10_readSize_216 : decode cX10_readSize 216 = .ok (.iadd, 1) := by decide +kernel
theorem dX10_readSize_217 : decode cX10_readSize 217 = .ok (.putfield 215, 3) := by decide +kernel
theorem dX10_readSize_220 : decode cX10_readSize 220 = .ok (.aload_n 0, 1) := by decide +kernel
theorem dX10_readSize_221 : decode cX10_readSize 221 = .ok (.getfield 13, 3) := by decide +kernel
theorem dX10_readSize_224 : decode cX10_readSize 224 = .ok (.aload_n 0, 1) := by decide +kernel
theorem dX10_readSize_225 : decode cX10_readSize 225 = .ok (.getfield 199, 3) := by decide +kernel
theorem dX10_readSize_228 : decode cX10_readSize 228 = .ok (.iaload, 1) := by decide +kernel
theorem dX10_readSize_229 : decode cX10_readSize 229 = .ok (.istore_n 3, 1) := by decide +kernel
theorem dX10_readSize_230 : decode cX10_readSize 230 = .ok (.aload_n 0, 1) := by decide +kernel
theorem dX10_readSize_231 : decode cX10_readSize 231 = .ok (.getfield 196, 3) := by decide +kernel
theorem dX10_readSize_234 : decode cX10_readSize 234 = .ok (.bipush (-9), 2) := by decide +kernel
theorem dX10_readSize_236 : decode cX10_readSize 236 = .ok (.if_icmp .ne 25, 3) := by decide +kernel
theorem dX10_readSize_239 : decode cX10_readSize 239 = .ok (.iload_n 3, 1) := by decide +kernel
theorem dX10_readSize_240 : decode cX10_readSize 240 = .ok (.bipush 43, 2) := by decide +kernel
theorem dX10_readSize_242 : decode cX10_readSize 242 = .ok (.if_icmp .eq 15, 3) := by decide +kernel
theorem dX10_readSize_245 : decode cX10_readSize 245 = .ok (.iload_n 3, 1) := by decide +kernel
theorem dX10_readSize_246 : decode cX10_readSize 246 = .ok (.bipush 45, 2) := by decide +kernel
theorem dX10_readSize_248 : decode cX10_readSize 248 = .ok (.if_icmp .eq 9, 3) := by decide +kernel
theorem dX10_readSize_251 : decode cX10_readSize 251 = .ok (.iload_n 3, 1) := by decide +kernel
theorem dX10_readSize_252 : decode cX10_readSize 252 = .ok (.bipush 42, 2) := by decide +kernel
theorem dX10_readSize_254 : decode cX10_readSize 254 = .ok (.if_icmp .ne 7, 3) := by decide +kernel
theorem dX10_readSize_257 : decode cX10_readSize 257 = .ok (.iconst 1, 1) := by decide +kernel
theorem dX10_readSize_258 : decode cX10_readSize 258 = .ok (.goto 4, 3) := by decide +kernel
theorem dX10_readSize_261 : decode cX10_readSize 261 = .ok (.iconst 0, 1) := by decide +kernel
theorem dX10_readSize_262 : decode cX10_readSize 262 = .ok (.istore_n 2, 1) := by decide +kernel
theorem dX10_readSize_263 : decode cX10_readSize 263 = .ok (.aload_n 0, 1) := by decide +kernel
theorem dX10_readSize_264 : decode cX10_readSize 264 = .ok (.dup, 1) := by decide +kernel
theorem dX10_readSize_265 : decode cX10_readSize 265 = .ok (.getfield 199, 3) := by decide +kernel
theorem dX10_readSize_268 : decode cX10_readSize 268 = .ok (.iload_n 2, 1) := by decide +kernel
theorem dX10_readSize_269 : decode cX10_readSize 269 = .ok (.ifCond .eq 7, 3) := by decide +kernel
theorem dX10_readSize_272 : decode cX10_readSize 272 = .ok (.iconst 1, 1) := by decide +kernel
theorem dX10_readSize_273 : decode cX10_readSize 273 = .ok (.goto 4, 3) := by decide +kernel
theorem dX10_readSize_276 : decode cX10_readSize 276 = .ok (.iconst 0, 1) := by decide +kernel
theorem dX10_readSize_277 : decode cX10_readSize 277 = .ok (.iadd, 1) := by decide +kernel
theorem dX10_readSize_278 : decode cX10_readSize 278 = .ok (.putfield 199, 3) := by decide +kernel
theorem dX10_readSize_281 : decode cX10_readSize 281 = .ok (.goto (-261), 3) := by decide +kernel
theorem dX10_readSize_284 : decode cX10_readSize 284 = .ok (.aload_n 0, 1) := by decide +kernel
theorem dX10_readSize_285 : decode cX10_readSize 285 = .ok (.getfield 43, 3) := by decide +kernel
theorem dX10_readSize_288 : decode cX10_readSize 288 = .ok (.aload_n 0, 1) := by decide +kernel
theorem dX10_readSize_289 : decode cX10_readSize 289 = .ok (.getfield 212, 3) := by decide +kernel
theorem dX10_readSize_292 : decode cX10_readSize 292 = .ok (.iconst 1, 1) := by decide +kernel
theorem dX10_readSize_293 : decode cX10_readSize 293 = .ok (.iadd, 1) := by decide +kernel
theorem dX10_readSize_294 : decode cX10_readSize 294 = .ok (.aload_n 0, 1) := by decide +kernel
theorem dX10_readSize_295 : decode cX10_readSize 295 = .ok (.getfield 215, 3) := by decide +kernel
theorem dX10_readSize_298 : decode cX10_readSize 298 = .ok (.iastore, 1) := by decide +kernel
theorem dX10_readSize_299 : decode cX10_readSize 299 = .ok (.return_, 1) := by decide +kernel
theorem dX10_push_0 : decode cX10_push 0 = .ok (.aload_n 0, 1) := by decide +kernel
theorem dX10_push_1 : decode cX10_push 1 = .ok (.getfield 67, 3) := by decide +kernel
theorem dX10_push_4 : decode cX10_push 4 = .ok (.aload_n 0, 1) := by decide +kernel
theorem dX10_push_5 : decode cX10_push 5 = .ok (.getfield 224, 3) := by decide +kernel
theorem dX10_push_8 : decode cX10_push 8 = .ok (.iload_n 1, 1) := by decide +kernel
theorem dX10_push_9 : decode cX10_push 9 = .ok (.iastore, 1) := by decide +kernel
theorem dX10_push_10 : decode cX10_push 10 = .ok (.aload_n 0, 1) := by decide +kernel
theorem dX10_push_11 : decode cX10_push 11 = .ok (.getfield 70, 3) := by decide +kernel
theorem dX10_push_14 : decode cX10_push 14 = .ok (.aload_n 0, 1) := by decide +kernel
theorem dX10_push_15 : decode cX10_push 15 = .ok (.getfield 224, 3) := by decide +kernel
theorem dX10_push_18 : decode cX10_push 18 = .ok (.iconst 0, 1) := by decide +kernel
theorem dX10_push_19 : decode cX10_push 19 = .ok (.iastore, 1) := by decide +kernel
theorem dX10_push_20 : decode cX10_push 20 = .ok (.aload_n 0, 1) := by decide +kernel
theorem dX10_push_21 : decode cX10_push 21 = .ok (.getfield 73, 3) := by decide +kernel
theorem dX10_push_24 : decode cX10_push 24 = .ok (.aload_n 0, 1) := by decide +kernel
theorem dX10_push_25 : decode cX10_push 25 = .ok (.getfield 224, 3) := by decide +kernel
theorem dX10_push_28 : decode cX10_push 28 = .ok (.iload_n 2, 1) := by decide +kernel
theorem dX10_push_29 : decode cX10_push 29 = .ok (.iastore, 1) := by decide +kernel
theorem dX10_push_30 : decode cX10_push 30 = .ok (.aload_n 0, 1) := by decide +kernel
theorem dX10_push_31 : decode cX10_push 31 = .ok (.dup, 1) := by decide +kernel
theorem dX10_push_32 : decode cX10_push 32 = .ok (.getfield 224, 3) := by decide +kernel
theorem dX10_push_35 : decode cX10_push 35 = .ok (.iconst 1, 1) := by decide +kernel
theorem dX10_push_36 : decode cX10_push 36 = .ok (.iadd, 1) := by decide +kernel
theorem dX10_push_37 : decode cX10_push 37 = .ok (.putfield 224, 3) := by decide +kernel
theorem dX10_push_40 : decode cX10_push 40 = .ok (.return_, 1) := by decide +kernel
theorem dX10_top_0 : decode cX10_top 0 = .ok (.aload_n 0, 1) := by decide +kernel
theorem dX10_top_1 : decode cX10_top 1 = .ok (.getfield 224, 3) := by decide +kernel
theorem dX10_top_4 : decode cX10_top 4 = .ok (.ifCond .ne 7, 3) := by decide +kernel
theorem dX10_top_7 : decode cX10_top 7 = .ok (.iconst 0, 1) := by decide +kernel
theorem dX10_top_8 : decode cX10_top 8 = .ok (.goto 14, 3) := by decide +kernel
theorem dX10_top_11 : decode cX10_top 11 = .ok (.aload_n 0, 1) := by decide +kernel
theorem dX10_top_12 : decode cX10_top 12 = .ok (.getfield 67, 3) := by decide +kernel
theorem dX10_top_15 : decode cX10_top 15 = .ok (.aload_n 0, 1) := by decide +kernel
theorem dX10_top_16 : decode cX10_top 16 = .ok (.getfield 224, 3) := by decide +kernel
theorem dX10_top_19 : decode cX10_top 19 = .ok (.iconst 1, 1) := by decide +kernel
theorem dX10_top_20 : decode cX10_top 20 = .ok (.isub, 1) := by decide +kernel
theorem dX10_top_21 : decode cX10_top 21 = .ok (.iaload, 1) := by decide +kernel
theorem dX10_top_22 : decode cX10_top 22 = .ok (.ireturn, 1) := by decide +kernel
theorem dX10_readUnit_0 : decode cX10_readUnit 0 = .ok (.iconst 0, 1) := by decide +kernel
theorem dX10_readUnit_1 : decode cX10_readUnit 1 = .ok (.istore_n 1, 1) := by decide +kernel
theorem dX10_readUnit_2 : decode cX10_readUnit 2 = .ok (.iload_n 1, 1) := by decide +kernel
theorem dX10_readUnit_3 : decode cX10_readUnit 3 = .ok (.ifCond .ne 294, 3) := by decide +kernel
theorem dX10_readUnit_6 : decode cX10_readUnit 6 = .ok (.aload_n 0, 1) := by decide +kernel
theorem dX10_readUnit_7 : decode cX10_readUnit 7 = .ok (.getfield 196, 3) := by decide +kernel
theorem dX10_readUnit_10 : decode cX10_readUnit 10 = .ok (.bipush (-9), 2) := by decide +kernel
theorem dX10_readUnit_12 : decode cX10_readUnit 12 = .ok (.if_icmp .ne 285, 3) := by decide +kernel
theorem dX10_readUnit_15 : decode cX10_readUnit 15 = .ok (.aload_n 0, 1) := by decide +kernel
theorem dX10_readUnit_16 : decode cX10_readUnit 16 = .ok (.getfield 13, 3) := by decide +kernel
theorem dX10_readUnit_19 : decode cX10_readUnit 19 = .ok (.aload_n 0, 1) := by decide +kernel
theorem dX10_readUnit_20 : decode cX10_readUnit 20 = .ok (.getfield 199, 3) := by decide +kernel
theorem dX10_readUnit_23 : decode cX10_readUnit 23 = .ok (.iaload, 1) := by decide +kernel
theorem dX10_readUnit_24 : decode cX10_readUnit 24 = .ok (.istore_n 2, 1) := by decide +kernel
theorem dX10_readUnit_25 : decode cX10_readUnit 25 = .ok (.aload_n 0, 1) := by decide +kernel
theorem dX10_readUnit_26 : decode cX10_readUnit 26 = .ok (.iload_n 2, 1) := by decide +kernel
theorem dX10_readUnit_27 : decode cX10_readUnit 27 = .ok (.iconst 1, 1) := by decide +kernel
theorem dX10_readUnit_28 : decode cX10_readUnit 28 = .ok (.if_icmp .eq 32, 3) := by decide +kernel
theorem dX10_readUnit_31 : decode cX10_readUnit 31 = .ok (.iload_n 2, 1) := by decide +kernel
theorem dX10_readUnit_32 : decode cX10_readUnit 32 = .ok (.bipush 8, 2) := by decide +kernel
theorem dX10_readUnit_34 : decode cX10_readUnit 34 = .ok (.if_icmp .eq 26, 3) := by decide +kernel
theorem dX10_readUnit_37 : decode cX10_readUnit 37 = .ok (.iload_n 2, 1) := by decide +kernel
theorem dX10_readUnit_38 : decode cX10_readUnit 38 = .ok (.bipush 35, 2) := by decide +kernel
theorem dX10_readUnit_40 : decode cX10_readUnit 40 = .ok (.if_icmp .eq 20, 3) := by decide +kernel
theorem dX10_readUnit_43 : decode cX10_readUnit 43 = .ok (.iload_n 2, 1) := by decide +kernel
theorem dX10_readUnit_44 : decode cX10_readUnit 44 = .ok (.iconst 2, 1) := by decide +kernel
theorem dX10_readUnit_45 : decode cX10_readUnit 45 = .ok (.if_icmp .eq 15, 3) := by decide +kernel
theorem dX10_readUnit_48 : decode cX10_readUnit 48 = .ok (.iload_n 2, 1) := by decide +kernel
theorem dX10_readUnit_49 : decode cX10_readUnit 49 = .ok (.bipush 45, 2) := by decide +kernel
theorem dX10_readUnit_51 : decode cX10_readUnit 51 = .ok (.if_icmp .eq 9, 3) := by decide +kernel
theorem dX10_readUnit_54 : decode cX10_readUnit 54 = .ok (.iload_n 2, 1) := by decide +kernel
theorem dX10_readUnit_55 : decode cX10_readUnit 55 = .ok (.bipush 40, 2) := by decide +kernel
theorem dX10_readUnit_57 : decode cX10_readUnit 57 = .ok (.if_icmp .ne 7, 3) := by decide +kernel
theorem dX10_readUnit_60 : decode cX10_readUnit 60 = .ok (.iconst 1, 1) := by decide +kernel
theorem dX10_readUnit_61 : decode cX10_readUnit 61 = .ok (.goto 4, 3) := by decide +kernel
theorem dX10_readUnit_64 : decode cX10_readUnit 64 = .ok (.iconst 0, 1) := by decide +kernel
theorem dX10_readUnit_65 : decode cX10_readUnit 65 = .ok (.invokevirtual 202, 3) := by decide +kernel
theorem dX10_readUnit_68 : decode cX10_readUnit 68 = .ok (.pop, 1) := by decide +kernel
theorem dX10_readUnit_69 : decode cX10_readUnit 69 = .ok (.aload_n 0, 1) := by decide +kernel
theorem dX10_readUnit_70 : decode cX10_readUnit 70 = .ok (.aload_n 0, 1) := by decide +kernel
theorem dX10_readUnit_71 : decode cX10_readUnit 71 = .ok (.getfield 227, 3) := by decide +kernel
theorem dX10_readUnit_74 : decode cX10_readUnit 74 = .ok (.bipush 24, 2) := by decide +kernel
theorem dX10_readUnit_76 : decode cX10_readUnit 76 = .ok (.if_icmp .ge 16, 3) := by decide +kernel
theorem dX10_readUnit_79 : decode cX10_readUnit 79 = .ok (.aload_n 0, 1) := by decide +kernel
theorem dX10_readUnit_80 : decode cX10_readUnit 80 = .ok (.getfield 230, 3) := by decide +kernel
theorem dX10_readUnit_83 : decode cX10_readUnit 83 = .ok (.bipush 10, 2) := by decide +kernel
theorem dX10_readUnit_85 : decode cX10_readUnit 85 = .ok (.if_icmp .gt 7, 3) := by decide +kernel
theorem dX10_readUnit_88 : decode cX10_readUnit 88 = .ok (.iconst 1, 1) := by decide +kernel
theorem dX10_readUnit_89 : decode cX10_readUnit 89 = .ok (.goto 4, 3) := by decide +kernel
theorem dX10_readUnit_92 : decode cX10_readUnit 92 = .ok (.iconst 0, 1) := by decide +kernel
theorem dX10_readUnit_93 : decode cX10_readUnit 93 = .ok (.invokevirtual 202, 3) := by decide +kernel
theorem dX10_readUnit_96 : decode cX10_readUnit 96 = .ok (.pop, 1) := by decide +kernel
theorem dX10_readUnit_97 : decode cX10_readUnit 97 = .ok (.aload_n 0, 1) := by decide +kernel
theorem dX10_readUnit_98 : decode cX10_readUnit 98 = .ok (.getfield 196, 3) := by decide +kernel
theorem dX10_readUnit_101 : decode cX10_readUnit 101 = .ok (.bipush (-9), 2) := by decide +kernel
theorem dX10_readUnit_103 : decode cX10_readUnit 103 = .ok (.if_icmp .eq 4, 3) := by decide +kernel
theorem dX10_readUnit_106 : decode cX10_readUnit 106 = .ok (.return_, 1) := by decide +kernel
theorem dX10_readUnit_107 : decode cX10_readUnit 107 = .ok (.aload_n 0, 1) := by decide +kernel
theorem dX10_readUnit_108 : decode cX10_readUnit 108 = .ok (.dup, 1) := by decide +kernel
theorem dX10_readUnit_109 : decode cX10_readUnit 109 = .ok (.getfield 227, 3) := by decide +kernel
theorem dX10_readUnit_112 : decode cX10_readUnit 112 = .ok (.iconst 1, 1) := by decide +kernel
theorem dX10_readUnit_113 : decode cX10_readUnit 113 = .ok (.iadd, 1) := by decide +kernel
theorem dX10_readUnit_114 : decode cX10_readUnit 114 = .ok (.putfield 227, 3) := by decide +kernel
theorem dX10_readUnit_117 : decode cX10_readUnit 117 = .ok (.iload_n 2, 1) := by decide +kernel
theorem dX10_readUnit_118 : decode cX10_readUnit 118 = .ok (.iconst 1, 1) := by decide +kernel
theorem dX10_readUnit_119 : decode cX10_readUnit 119 = .ok (.if_icmp .eq 15, 3) := by decide +kernel
theorem dX10_readUnit_122 : decode cX10_readUnit 122 = .ok (.iload_n 2, 1) := by decide +kernel
theorem dX10_readUnit_123 : decode cX10_readUnit 123 = .ok (.bipush 8, 2) := by decide +kernel
theorem dX10_readUnit_125 : decode cX10_readUnit 125 = .ok (.if_icmp .eq 9, 3) := by decide +kernel
theorem dX10_readUnit_128 : decode cX10_readUnit 128 = .ok (.iload_n 2, 1) := by decide +kernel
theorem dX10_readUnit_129 : decode cX10_readUnit 129 = .ok (.bipush 35, 2) := by decide +kernel
theorem dX10_readUnit_131 : decode cX10_readUnit 131 = .ok (.if_icmp .ne 7, 3) := by decide +kernel
theorem dX10_readUnit_134 : decode cX10_readUnit 134 = .ok (.iconst 1, 1) := by decide +kernel
theorem dX10_readUnit_135 : decode cX10_readUnit 135 = .ok (.goto 4, 3) := by decide +kernel
theorem dX10_readUnit_138 : decode cX10_readUnit 138 = .ok (.iconst 0, 1) := by decide +kernel
theorem dX10_readUnit_139 : decode cX10_readUnit 139 = .ok (.istore_n 1, 1) := by decide +kernel
theorem dX10_readUnit_140 : decode cX10_readUnit 140 = .ok (.aload_n 0, 1) := by decide +kernel
theorem dX10_readUnit_141 : decode cX10_readUnit 141 = .ok (.dup, 1) := by decide +kernel
theorem dX10_readUnit_142 : decode cX10_readUnit 142 = .ok (.getfield 199, 3) := by decide +kernel
theorem dX10_readUnit_145 : decode cX10_readUnit 145 = .ok (.iconst 1, 1) := by decide +kernel
theorem dX10_readUnit_146 : decode cX10_readUnit 146 = .ok (.iadd, 1) := by decide +kernel
theorem dX10_readUnit_147 : decode cX10_readUnit 147 = .ok (.putfield 199, 3) := by decide +kernel
theorem dX10_readUnit_150 : decode cX10_readUnit 150 = .ok (.iload_n 2, 1) := by decide +kernel
theorem dX10_readUnit_151 : decode cX10_readUnit 151 = .ok (.iconst 1, 1) := by decide +kernel
theorem dX10_readUnit_152 : decode cX10_readUnit 152 = .ok (.if_icmp .ne 22, 3) := by decide +kernel
theorem dX10_readUnit_155 : decode cX10_readUnit 155 = .ok (.aload_n 0, 1) := by decide +kernel
theorem dX10_readUnit_156 : decode cX10_readUnit 156 = .ok (.iconst 1, 1) := by decide +kernel
theorem dX10_readUnit_157 : decode cX10_readUnit 157 = .ok (.aload_n 0, 1) := by decide +kernel
theorem dX10_readUnit_158 : decode cX10_readUnit 158 = .ok (.getfield 20, 3) := by decide +kernel
theorem dX10_readUnit_161 : decode cX10_readUnit 161 = .ok (.aload_n 0, 1) := by decide +kernel
theorem dX10_readUnit_162 : decode cX10_readUnit 162 = .ok (.getfield 199, 3) := by decide +kernel
theorem dX10_readUnit_165 : decode cX10_readUnit 165 = .ok (.iconst 1, 1) := by decide +kernel
theorem dX10_readUnit_166 : decode cX10_readUnit 166 = .ok (.isub, 1) := by decide +kernel
theorem dX10_readUnit_167 : decode cX10_readUnit 167 = .ok (.laload, 1) := by decide +kernel
theorem dX10_readUnit_168 : decode cX10_readUnit 168 = .ok (.invokevirtual 233, 3) := by decide +kernel
theorem dX10_readUnit_171 : decode cX10_readUnit 171 = .ok (.goto 123, 3) := by decide +kernel
theorem dX10_readUnit_174 : decode cX10_readUnit 174 = .ok (.iload_n 2, 1) := by decide +kernel
theorem dX10_readUnit_175 : decode cX10_readUnit 175 = .ok (.bipush 8, 2) := by decide +kernel
theorem dX10_readUnit_177 : decode cX10_readUnit 177 = .ok (.if_icmp .ne 12, 3) := by decide +kernel
theorem dX10_readUnit_180 : decode cX10_readUnit 180 = .ok (.aload_n 0, 1) := by decide +kernel
theorem dX10_readUnit_181 : decode cX10_readUnit 181 = .ok (.iconst 2, 1) := by decide +kernel
theorem dX10_readUnit_182 : decode cX10_readUnit 182 = .ok (.lconst 0, 1) := by decide +kernel
theorem dX10_readUnit_183 : decode cX10_readUnit 183 = .ok (.invokevirtual 233, 3) := by decide +kernel
theorem dX10_readUnit_186 : decode cX10_readUnit 186 = .ok (.goto 108, 3) := by decide +kernel
theorem dX10_readUnit_189 : decode cX10_readUnit 189 = .ok (.iload_n 2, 1) := by decide +kernel
theorem dX10_readUnit_190 : decode cX10_readUnit 190 = .ok (.bipush 35, 2) := by decide +kernel
theorem dX10_readUnit_192 : decode cX10_readUnit 192 = .ok (.if_icmp .ne 23, 3) := by decide +kernel
theorem dX10_readUnit_195 : decode cX10_readUnit 195 = .ok (.aload_n 0, 1) := by decide +kernel
theorem dX10_readUnit_196 : decode cX10_readUnit 196 = .ok (.iconst 0, 1) := by decide +kernel
theorem dX10_readUnit_197 : decode cX10_readUnit 197 = .ok (.invokevirtual 218, 3) := by decide +kernel
theorem dX10_readUnit_200 : decode cX10_readUnit 200 = .ok (.aload_n 0, 1) := by decide +kernel
theorem dX10_readUnit_201 : decode cX10_readUnit 201 = .ok (.iconst 3, 1) := by decide +kernel
theorem dX10_readUnit_202 : decode cX10_readUnit 202 = .ok (.aload_n 0, 1) := by decide +kernel
theorem dX10_readUnit_203 : decode cX10_readUnit 203 = .ok (.getfield 199, 3) := by decide +kernel
theorem dX10_readUnit_206 : decode cX10_readUnit 206 = .ok (.i2l, 1) := by decide +kernel
theorem dX10_readUnit_207 : decode cX10_readUnit 207 = .ok (.lconst 1, 1) := by decide +kernel
theorem dX10_readUnit_208 : decode cX10_readUnit 208 = .ok (.lsub, 1) := by decide +kernel
theorem dX10_readUnit_209 : decode cX10_readUnit 209 = .ok (.invokevirtual 233, 3) := by decide +kernel
theorem dX10_readUnit_212 : decode cX10_readUnit 212 = .ok (.goto 82, 3) := by decide +kernel
theorem dX10_readUnit_215 : decode cX10_readUnit 215 = .ok (.iload_n 2, 1) := by decide +kernel
theorem dX10_readUnit_216 : decode cX10_readUnit 216 = .ok (.iconst 2, 1) := by decide +kernel
theorem dX10_readUnit_217 : decode cX10_readUnit 217 = .ok (.if_icmp .ne 50, 3) := by decide +kernel
theorem dX10_readUnit_220 : decode cX10_readUnit 220 = .ok (.aload_n 0, 1) := by decide +kernel
theorem dX10_readUnit_221 : decode cX10_readUnit 221 = .ok (.dup, 1) := by decide +kernel
theorem dX10_readUnit_222 : decode cX10_readUnit 222 = .ok (.getfield 199, 3) := by decide +kernel
theorem dX10_readUnit_225 : decode cX10_readUnit 225 = .ok (.iconst 1, 1) := by decide +kernel
theorem dX10_readUnit_226 : decode cX10_readUnit 226 = .ok (.isub, 1) := by decide +kernel
theorem dX10_readUnit_227 : decode cX10_readUnit 227 = .ok (.putfield 199, 3) := by decide +kernel
theorem dX10_readUnit_230 : decode cX10_readUnit 230 = .ok (.aload_n 0, 1) := by decide +kernel
theorem dX10_readUnit_231 : decode cX10_readUnit 231 = .ok (.iconst 0, 1) := by decide +kernel
theorem dX10_readUnit_232 : decode cX10_readUnit 232 = .ok (.invokevirtual 218, 3) := by decide +kernel
theorem dX10_readUnit_235 : decode cX10_readUnit 235 = .ok (.aload_n 0, 1) := by decide +kernel
theorem dX10_readUnit_236 : decode cX10_readUnit 236 = .ok (.bipush 91, 2) := by decide +kernel
theorem dX10_readUnit_238 : decode cX10_readUnit 238 = .ok (.aload_n 0, 1) := by decide +kernel
theorem dX10_readUnit_239 : decode cX10_readUnit 239 = .ok (.getfield 199, 3) := by decide +kernel
theorem dX10_readUnit_242 : decode cX10_readUnit 242 = .ok (.iconst 1, 1) := by decide +kernel
theorem dX10_readUnit_243 : decode cX10_readUnit 243 = .ok (.isub, 1) := by decide +kernel
theorem dX10_readUnit_244 : decode cX10_readUnit 244 = .ok (.invokevirtual 237, 3) := by decide +kernel
theorem dX10_readUnit_247 : decode cX10_readUnit 247 = .ok (.aload_n 0, 1) := by decide +kernel
theorem dX10_readUnit_248 : decode cX10_readUnit 248 = .ok (.bipush 91, 2) := by decide +kernel
theorem dX10_readUnit_250 : decode cX10_readUnit 250 = .ok (.invokevirtual 241, 3) := by decide +kernel
theorem dX10_readUnit_253 : decode cX10_readUnit 253 = .ok (.pop, 1) := by decide +kernel
theorem dX10_readUnit_254 : decode cX10_readUnit 254 = .ok (.aload_n 0, 1) := by decide +kernel
theorem dX10_readUnit_255 : decode cX10_readUnit 255 = .ok (.dup, 1) := by decide +kernel
theorem dX10_readUnit_256 : decode cX10_readUnit 256 = .ok (.getfield 230, 3) := by decide +kernel
theorem dX10_readUnit_259 : decode cX10_readUnit 259 = .ok (.iconst 1, 1) := by decide +kernel
theorem dX10_readUnit_260 : decode cX10_readUnit 260 = .ok (.iadd, 1) := by decide +kernel
theorem dX10_readUnit_261 : decode cX10_readUnit 261 = .ok (.putfield 230, 3) := by decide +kernel
theorem dX10_readUnit_264 : decode cX10_readUnit 264 = .ok (.goto 30, 3) := by decide +kernel
theorem dX10_readUnit_267 : decode cX10_readUnit 267 = .ok (.aload_n 0, 1) := by decide +kernel
theorem dX10_readUnit_268 : decode cX10_readUnit 268 = .ok (.iload_n 2, 1) := by decide +kernel
theorem dX10_readUnit_269 : decode cX10_readUnit 269 = .ok (.bipush 45, 2) := by decide +kernel
theorem dX10_readUnit_271 : decode cX10_readUnit 271 = .ok (.if_icmp .ne 7, 3) := by decide +kernel
theorem dX10_readUnit_274 : decode cX10_readUnit 274 = .ok (.iconst 5, 1) := by decide +kernel
theorem dX10_readUnit_275 : decode cX10_readUnit 275 = .ok (.goto 5, 3) := by decide +kernel
theorem dX10_readUnit_278 : decode cX10_readUnit 278 = .ok (.bipush 40, 2) := by decide +kernel
theorem dX10_readUnit_280 : decode cX10_readUnit 280 = .ok (.iconst 0, 1) := by decide +kernel
theorem dX10_readUnit_281 : decode cX10_readUnit 281 = .ok (.invokevirtual 237, 3) := by decide +kernel
theorem dX10_readUnit_284 : decode cX10_readUnit 284 = .ok (.aload_n 0, 1) := by decide +kernel
theorem dX10_readUnit_285 : decode cX10_readUnit 285 = .ok (.dup, 1) := by decide +kernel
theorem dX10_readUnit_286 : decode cX10_readUnit 286 = .ok (.getfield 230, 3) := by decide +kernel
theorem dX10_readUnit_289 : decode cX10_readUnit 289 = .ok (.iconst 1, 1) := by decide +kernel
theorem dX10_readUnit_290 : decode cX10_readUnit 290 = .ok (.iadd, 1) := by decide +kernel
theorem dX10_readUnit_291 : decode cX10_readUnit 291 = .ok (.putfield 230, 3) := by decide +kernel
theorem dX10_readUnit_294 : decode cX10_readUnit 294 = .ok (.goto (-292), 3) := by decide +kernel
theorem dX10_readUnit_297 : decode cX10_readUnit 297 = .ok (.return_, 1) := by decide +kernel
theorem dX10_actOf_0 : decode cX10_actOf 0 = .ok (.iload_n 0, 1) := by decide +kernel
theorem dX10_actOf_1 : decode cX10_actOf 1 = .ok (.bipush 43, 2) := by decide +kernel
theorem dX10_actOf_3 : decode cX10_actOf 3 = .ok (.if_icmp .ne 8, 3) := by decide +kernel
theorem dX10_actOf_6 : decode cX10_actOf 6 = .ok (.bipush 6, 2) := by decide +kernel
theorem dX10_actOf_8 : decode cX10_actOf 8 = .ok (.goto 38, 3) := by decide +kernel
theorem dX10_actOf_11 : decode cX10_actOf 11 = .ok (.iload_n 0, 1) := by decide +kernel
theorem dX10_actOf_12 : decode cX10_actOf 12 = .ok (.bipush 45, 2) := by decide +kernel
theorem dX10_actOf_14 : decode cX10_actOf 14 = .ok (.if_icmp .ne 8, 3) := by decide +kernel
theorem dX10_actOf_17 : decode cX10_actOf 17 = .ok (.bipush 7, 2) := by decide +kernel
theorem dX10_actOf_19 : decode cX10_actOf 19 = .ok (.goto 27, 3) := by decide +kernel
theorem dX10_actOf_22 : decode cX10_actOf 22 = .ok (.iload_n 0, 1) := by decide +kernel
theorem dX10_actOf_23 : decode cX10_actOf 23 = .ok (.bipush 42, 2) := by decide +kernel
theorem dX10_actOf_25 : decode cX10_actOf 25 = .ok (.if_icmp .ne 8, 3) := by decide +kernel
theorem dX10_actOf_28 : decode cX10_actOf 28 = .ok (.bipush 8, 2) := by decide +kernel
theorem dX10_actOf_30 : decode cX10_actOf 30 = .ok (.goto 16, 3) := by decide +kernel
theorem dX10_actOf_33 : decode cX10_actOf 33 = .ok (.iload_n 0, 1) := by decide +kernel
theorem dX10_actOf_34 : decode cX10_actOf 34 = .ok (.bipush 47, 2) := by decide +kernel
theorem dX10_actOf_36 : decode cX10_actOf 36 = .ok (.if_icmp .ne 8, 3) := by decide +kernel
theorem dX10_actOf_39 : decode cX10_actOf 39 = .ok (.bipush 9, 2) := by decide +kernel
theorem dX10_actOf_41 : decode cX10_actOf 41 = .ok (.goto 5, 3) := by decide +kernel
theorem dX10_actOf_44 : decode cX10_actOf 44 = .ok (.bipush 10, 2) := by decide +kernel
theorem dX10_actOf_46 : decode cX10_actOf 46 = .ok (.ireturn, 1) := by decide +kernel
theorem dX10_isLow_0 : decode cX10_isLow 0 = .ok (.iload_n 1, 1) := by decide +kernel
theorem dX10_isLow_1 : decode cX10_isLow 1 = .ok (.bipush 43, 2) := by decide +kernel
theorem dX10_isLow_3 : decode cX10_isLow 3 = .ok (.if_icmp .eq 9, 3) := by decide +kernel
theorem dX10_isLow_6 : decode cX10_isLow 6 = .ok (.iload_n 1, 1) := by decide +kernel
theorem dX10_isLow_7 : decode cX10_isLow 7 = .ok (.bipush 45, 2) := by decide +kernel
theorem dX10_isLow_9 : decode cX10_isLow 9 = .ok (.if_icmp .ne 7, 3) := by decide +kernel
theorem dX10_isLow_12 : decode cX10_isLow 12 = .ok (.iconst 1, 1) := by decide +kernel
theorem dX10_isLow_13 : decode cX10_isLow 13 = .ok (.goto 4, 3) := by decide +kernel
theorem dX10_isLow_16 : decode cX10_isLow 16 = .ok (.iconst 0, 1) := by decide +kernel
theorem dX10_isLow_17 : decode cX10_isLow 17 = .ok (.ireturn, 1) := by decide +kernel
theorem dX10_isHigh_0 : decode cX10_isHigh 0 = .ok (.iload_n 1, 1) := by decide +kernel
theorem dX10_isHigh_1 : decode cX10_isHigh 1 = .ok (.bipush 42, 2) := by decide +kernel
theorem dX10_isHigh_3 : decode cX10_isHigh 3 = .ok (.if_icmp .eq 15, 3) := by decide +kernel
theorem dX10_isHigh_6 : decode cX10_isHigh 6 = .ok (.iload_n 1, 1) := by decide +kernel
theorem dX10_isHigh_7 : decode cX10_isHigh 7 = .ok (.bipush 47, 2) := by decide +kernel
theorem dX10_isHigh_9 : decode cX10_isHigh 9 = .ok (.if_icmp .eq 9, 3) := by decide +kernel
theorem dX10_isHigh_12 : decode cX10_isHigh 12 = .ok (.iload_n 1, 1) := by decide +kernel
theorem dX10_isHigh_13 : decode cX10_isHigh 13 = .ok (.bipush 37, 2) := by decide +kernel
theorem dX10_isHigh_15 : decode cX10_isHigh 15 = .ok (.if_icmp .ne 7, 3) := by decide +kernel
theorem dX10_isHigh_18 : decode cX10_isHigh 18 = .ok (.iconst 1, 1) := by decide +kernel
theorem dX10_isHigh_19 : decode cX10_isHigh 19 = .ok (.goto 4, 3) := by decide +kernel
theorem dX10_isHigh_22 : decode cX10_isHigh 22 = .ok (.iconst 0, 1) := by decide +kernel
theorem dX10_isHigh_23 : decode cX10_isHigh 23 = .ok (.ireturn, 1) := by decide +kernel
theorem dX10_endUnit_0 : decode cX10_endUnit 0 = .ok (.aload_n 0, 1) := by decide +kernel
theorem dX10_endUnit_1 : decode cX10_endUnit 1 = .ok (.invokevirtual 244, 3) := by decide +kernel
theorem dX10_endUnit_4 : decode cX10_endUnit 4 = .ok (.iconst 5, 1) := by decide +kernel
theorem dX10_endUnit_5 : decode cX10_endUnit 5 = .ok (.if_icmp .ne 32, 3) := by decide +kernel
theorem dX10_endUnit_8 : decode cX10_endUnit 8 = .ok (.aload_n 0, 1) := by decide +kernel
theorem dX10_endUnit_9 : decode cX10_endUnit 9 = .ok (.iconst 5, 1) := by decide +kernel
theorem dX10_endUnit_10 : decode cX10_endUnit 10 = .ok (.lconst 0, 1) := by decide +kernel
theorem dX10_endUnit_11 : decode cX10_endUnit 11 = .ok (.invokevirtual 233, 3) := by decide +kernel
theorem dX10_endUnit_14 : decode cX10_endUnit 14 = .ok (.aload_n 0, 1) := by decide +kernel
theorem dX10_endUnit_15 : decode cX10_endUnit 15 = .ok (.dup, 1) := by decide +kernel
theorem dX10_endUnit_16 : decode cX10_endUnit 16 = .ok (.getfield 224, 3) := by decide +kernel
theorem dX10_endUnit_19 : decode cX10_endUnit 19 = .ok (.iconst 1, 1) := by decide +kernel
theorem dX10_endUnit_20 : decode cX10_endUnit 20 = .ok (.isub, 1) := by decide +kernel
theorem dX10_endUnit_21 : decode cX10_endUnit 21 = .ok (.putfield 224, 3) := by decide +kernel
theorem dX10_endUnit_24 : decode cX10_endUnit 24 = .ok (.aload_n 0, 1) := by decide +kernel
theorem dX10_endUnit_25 : decode cX10_endUnit 25 = .ok (.dup, 1) := by decide +kernel
theorem dX10_endUnit_26 : decode cX10_endUnit 26 = .ok (.getfield 230, 3) := by decide +kernel
theorem dX10_endUnit_29 : decode cX10_endUnit 29 = .ok (.iconst 1, 1) := by decide +kernel
theorem dX10_endUnit_30 : decode cX10_endUnit 30 = .ok (.isub, 1) := by decide +kernel
theorem dX10_endUnit_31 : decode cX10_endUnit 31 = .ok (.putfield 230, 3) := by decide +kernel
theorem dX10_endUnit_34 : decode cX10_endUnit 34 = .ok (.goto (-34), 3) := by decide +kernel
theorem dX10_endUnit_37 : decode cX10_endUnit 37 = .ok (.aload_n 0, 1) := by decide +kernel
theorem dX10_endUnit_38 : decode cX10_endUnit 38 = .ok (.aload_n 0, 1) := by decide +kernel
theorem dX10_endUnit_39 : decode cX10_endUnit 39 = .ok (.invokevirtual 244, 3) := by decide +kernel
theorem dX10_endUnit_42 : decode cX10_endUnit 42 = .ok (.invokevirtual 248, 3) := by decide +kernel
theorem dX10_endUnit_45 : decode cX10_endUnit 45 = .ok (.ifCond .eq 25, 3) := by decide +kernel
theorem dX10_endUnit_48 : decode cX10_endUnit 48 = .ok (.aload_n 0, 1) := by decide +kernel
theorem dX10_endUnit_49 : decode cX10_endUnit 49 = .ok (.aload_n 0, 1) := by decide +kernel
theorem dX10_endUnit_50 : decode cX10_endUnit 50 = .ok (.invokevirtual 244, 3) := by decide +kernel
theorem dX10_endUnit_53 : decode cX10_endUnit 53 = .ok (.invokestatic 251, 3) := by decide +kernel
theorem dX10_endUnit_56 : decode cX10_endUnit 56 = .ok (.lconst 0, 1) := by decide +kernel
theorem dX10_endUnit_57 : decode cX10_endUnit 57 = .ok (.invokevirtual 233, 3) := by decide +kernel
theorem dX10_endUnit_60 : decode cX10_endUnit 60 = .ok (.aload_n 0, 1) := by decide +kernel
theorem dX10_endUnit_61 : decode cX10_endUnit 61 = .ok (.dup, 1) := by decide +kernel
theorem dX10_endUnit_62 : decode cX10_endUnit 62 = .ok (.getfield 224, 3) := by decide +kernel
theorem dX10_endUnit_65 : decode cX10_endUnit 65 = .ok (.iconst 1, 1) := by decide +kernel
theorem dX10_endUnit_66 : decode cX10_endUnit 66 = .ok (.isub, 1) := by decide +kernel
theorem dX10_endUnit_67 : decode cX10_endUnit 67 = .ok (.putfield 224, 3) := by decide +kernel
theorem dX10_endUnit_70 : decode cX10_endUnit 70 = .ok (.return_, 1) := by decide +kernel
theorem dX10_endLow_0 : decode cX10_endLow 0 = .ok (.aload_n 0, 1) := by decide +kernel
theorem dX10_endLow_1 : decode cX10_endLow 1 = .ok (.aload_n 0, 1) := by decide +kernel
theorem dX10_endLow_2 : decode cX10_endLow 2 = .ok (.invokevirtual 244, 3) := by decide +kernel
theorem dX10_endLow_5 : decode cX10_endLow 5 = .ok (.invokevirtual 254, 3) := by decide +kernel
theorem dX10_endLow_8 : decode cX10_endLow 8 = .ok (.ifCond .eq 25, 3) := by decide +kernel
theorem dX10_endLow_11 : decode cX10_endLow 11 = .ok (.aload_n 0, 1) := by decide +kernel
theorem dX10_endLow_12 : decode cX10_endLow 12 = .ok (.aload_n 0, 1) := by decide +kernel
theorem dX10_endLow_13 : decode cX10_endLow 13 = .ok (.invokevirtual 244, 3) := by decide +kernel
theorem dX10_endLow_16 : decode cX10_endLow 16 = .ok (.invokestatic 251, 3) := by decide +kernel
theorem dX10_endLow_19 : decode cX10_endLow 19 = .ok (.lconst 0, 1) := by decide +kernel
theorem dX10_endLow_20 : decode cX10_endLow 20 = .ok (.invokevirtual 233, 3) := by decide +kernel
theorem dX10_endLow_23 : decode cX10_endLow 23 = .ok (.aload_n 0, 1) := by decide +kernel
theorem dX10_endLow_24 : decode cX10_endLow 24 = .ok (.dup, 1) := by decide +kernel
theorem dX10_endLow_25 : decode cX10_endLow 25 = .ok (.getfield 224, 3) := by decide +kernel
theorem dX10_endLow_28 : decode cX10_endLow 28 = .ok (.iconst 1, 1) := by decide +kernel
theorem dX10_endLow_29 : decode cX10_endLow 29 = .ok (.isub, 1) := by decide +kernel
theorem dX10_endLow_30 : decode cX10_endLow 30 = .ok (.putfield 224, 3) := by decide +kernel
theorem dX10_endLow_33 : decode cX10_endLow 33 = .ok (.return_, 1) := by decide +kernel
theorem dX10_goOn_0 : decode cX10_goOn 0 = .ok (.aload_n 0, 1) := by decide +kernel
theorem dX10_goOn_1 : decode cX10_goOn 1 = .ok (.getfield 13, 3) := by decide +kernel
theorem dX10_goOn_4 : decode cX10_goOn 4 = .ok (.aload_n 0, 1) := by decide +kernel
theorem dX10_goOn_5 : decode cX10_goOn 5 = .ok (.getfield 199, 3) := by decide +kernel
theorem dX10_goOn_8 : decode cX10_goOn 8 = .ok (.iaload, 1) := by decide +kernel
theorem dX10_goOn_9 : decode cX10_goOn 9 = .ok (.istore_n 1, 1) := by decide +kernel
theorem dX10_goOn_10 : decode cX10_goOn 10 = .ok (.aload_n 0, 1) := by decide +kernel
theorem dX10_goOn_11 : decode cX10_goOn 11 = .ok (.iload_n 1, 1) := by decide +kernel
theorem dX10_goOn_12 : decode cX10_goOn 12 = .ok (.invokevirtual 248, 3) := by decide +kernel
theorem dX10_goOn_15 : decode cX10_goOn 15 = .ok (.ifCond .eq 25, 3) := by decide +kernel
theorem dX10_goOn_18 : decode cX10_goOn 18 = .ok (.aload_n 0, 1) := by decide +kernel
theorem dX10_goOn_19 : decode cX10_goOn 19 = .ok (.iload_n 1, 1) := by decide +kernel
theorem dX10_goOn_20 : decode cX10_goOn 20 = .ok (.iconst 0, 1) := by decide +kernel
theorem dX10_goOn_21 : decode cX10_goOn 21 = .ok (.invokevirtual 237, 3) := by decide +kernel
theorem dX10_goOn_24 : decode cX10_goOn 24 = .ok (.aload_n 0, 1) := by decide +kernel
theorem dX10_goOn_25 : decode cX10_goOn 25 = .ok (.dup, 1) := by decide +kernel
theorem dX10_goOn_26 : decode cX10_goOn 26 = .ok (.getfield 199, 3) := by decide +kernel
theorem dX10_goOn_29 : decode cX10_goOn 29 = .ok (.iconst 1, 1) := by decide +kernel
theorem dX10_goOn_30 : decode cX10_goOn 30 = .ok (.iadd, 1) := by decide +kernel
theorem dX10_goOn_31 : decode cX10_goOn 31 = .ok (.putfield 199, 3) := by decide +kernel
theorem dX10_goOn_34 : decode cX10_goOn 34 = .ok (.aload_n 0, 1) := by decide +kernel
theorem dX10_goOn_35 : decode cX10_goOn 35 = .ok (.invokevirtual 257, 3) := by decide +kernel
theorem dX10_goOn_38 : decode cX10_goOn 38 = .ok (.iconst 1, 1) := by decide +kernel
theorem dX10_goOn_39 : decode cX10_goOn 39 = .ok (.ireturn, 1) := by decide +kernel
theorem dX10_goOn_40 : decode cX10_goOn 40 = .ok (.aload_n 0, 1) := by decide +kernel
theorem dX10_goOn_41 : decode cX10_goOn 41 = .ok (.iload_n 1, 1) := by decide +kernel
theorem dX10_goOn_42 : decode cX10_goOn 42 = .ok (.invokevirtual 254, 3) := by decide +kernel
theorem dX10_goOn_45 : decode cX10_goOn 45 = .ok (.ifCond .eq 29, 3) := by decide +kernel
theorem dX10_goOn_48 : decode cX10_goOn 48 = .ok (.aload_n 0, 1) := by decide +kernel
theorem dX10_goOn_49 : decode cX10_goOn 49 = .ok (.invokevirtual 260, 3) := by decide +kernel
theorem dX10_goOn_52 : decode cX10_goOn 52 = .ok (.aload_n 0, 1) := by decide +kernel
theorem dX10_goOn_53 : decode cX10_goOn 53 = .ok (.iload_n 1, 1) := by decide +kernel
theorem dX10_goOn_54 : decode cX10_goOn 54 = .ok (.iconst 0, 1) := by decide +kernel
theorem dX10_goOn_55 : decode cX10_goOn 55 = .ok (.invokevirtual 237, 3) := by decide +kernel
theorem dX10_goOn_58 : decode cX10_goOn 58 = .ok (.aload_n 0, 1) := by decide +kernel
theorem dX10_goOn_59 : decode cX10_goOn 59 = .ok (.dup, 1) := by decide +kernel
theorem dX10_goOn_60 : decode cX10_goOn 60 = .ok (.getfield 199, 3) := by decide +kernel
theorem dX10_goOn_63 : decode cX10_goOn 63 = .ok (.iconst 1, 1) := by decide +kernel
theorem dX10_goOn_64 : decode cX10_goOn 64 = .ok (.iadd, 1) := by decide +kernel
theorem dX10_goOn_65 : decode cX10_goOn 65 = .ok (.putfield 199, 3) := by decide +kernel
theorem dX10_goOn_68 : decode cX10_goOn 68 = .ok (.aload_n 0, 1) := by decide +kernel
theorem dX10_goOn_69 : decode cX10_goOn 69 = .ok (.invokevirtual 257, 3) := by decide +kernel
theorem dX10_goOn_72 : decode cX10_goOn 72 = .ok (.iconst 1, 1) := by decide +kernel
theorem dX10_goOn_73 : decode cX10_goOn 73 = .ok (.ireturn, 1) := by decide +kernel
theorem dX10_goOn_74 : decode cX10_goOn 74 = .ok (.aload_n 0, 1) := by decide +kernel
theorem dX10_goOn_75 : decode cX10_goOn 75 = .ok (.invokevirtual 260, 3) := by decide +kernel
theorem dX10_goOn_78 : decode cX10_goOn 78 = .ok (.aload_n 0, 1) := by decide +kernel
theorem dX10_goOn_79 : decode cX10_goOn 79 = .ok (.getfield 224, 3) := by decide +kernel
theorem dX10_goOn_82 : decode cX10_goOn 82 = .ok (.ifCond .ne 5, 3) := by decide +kernel
theorem dX10_goOn_85 : decode cX10_goOn 85 = .ok (.iconst 0, 1) := by decide +kernel
theorem dX10_goOn_86 : decode cX10_goOn 86 = .ok (.ireturn, 1) := by decide +kernel
theorem dX10_goOn_87 : decode cX10_goOn 87 = .ok (.aload_n 0, 1) := by decide +kernel
theorem dX10_goOn_88 : decode cX10_goOn 88 = .ok (.getfield 70, 3) := by decide +kernel
theorem dX10_goOn_91 : decode cX10_goOn 91 = .ok (.aload_n 0, 1) := by decide +kernel
theorem dX10_goOn_92 : decode cX10_goOn 92 = .ok (.getfield 224, 3) := by decide +kernel
theorem dX10_goOn_95 : decode cX10_goOn 95 = .ok (.iconst 1, 1) := by decide +kernel
theorem dX10_goOn_96 : decode cX10_goOn 96 = .ok (.isub, 1) := by decide +kernel
theorem dX10_goOn_97 : decode cX10_goOn 97 = .ok (.iaload, 1) := by decide +kernel
theorem dX10_goOn_98 : decode cX10_goOn 98 = .ok (.istore_n 2, 1) := by decide +kernel
theorem dX10_goOn_99 : decode cX10_goOn 99 = .ok (.aload_n 0, 1) := by decide +kernel
theorem dX10_goOn_100 : decode cX10_goOn 100 = .ok (.invokevirtual 244, 3) := by decide +kernel
theorem dX10_goOn_103 : decode cX10_goOn 103 = .ok (.bipush 91, 2) := by decide +kernel
theorem dX10_goOn_105 : decode cX10_goOn 105 = .ok (.if_icmp .ne 52, 3) := by decide +kernel
theorem dX10_goOn_108 : decode cX10_goOn 108 = .ok (.aload_n 0, 1) := by decide +kernel
theorem dX10_goOn_109 : decode cX10_goOn 109 = .ok (.bipush 93, 2) := by decide +kernel
theorem dX10_goOn_111 : decode cX10_goOn 111 = .ok (.invokevirtual 241, 3) := by decide +kernel
theorem dX10_goOn_114 : decode cX10_goOn 114 = .ok (.ifCond .eq 288, 3) := by decide +kernel
theorem dX10_goOn_117 : decode cX10_goOn 117 = .ok (.aload_n 0, 1) := by decide +kernel
theorem dX10_goOn_118 : decode cX10_goOn 118 = .ok (.iconst 4, 1) := by decide +kernel
theorem dX10_goOn_119 : decode cX10_goOn 119 = .ok (.aload_n 0, 1) := by decide +kernel
theorem dX10_goOn_120 : decode cX10_goOn 120 = .ok (.getfield 73, 3) := by decide +kernel
theorem dX10_goOn_123 : decode cX10_goOn 123 = .ok (.aload_n 0, 1) := by decide +kernel
theorem dX10_goOn_124 : decode cX10_goOn 124 = .ok (.getfield 224, 3) := by decide +kernel
theorem dX10_goOn_127 : decode cX10_goOn 127 = .ok (.iconst 1, 1) := by decide +kernel
theorem dX10_goOn_128 : decode cX10_goOn 128 = .ok (.isub, 1) := by decide +kernel
theorem dX10_goOn_129 : decode cX10_goOn 129 = .ok (.iaload, 1) := by decide +kernel
theorem dX10_goOn_130 : decode cX10_goOn 130 = .ok (.i2l, 1) := by decide +kernel
theorem dX10_goOn_131 : decode cX10_goOn 131 = .ok (.invokevirtual 233, 3) := by decide +kernel
theorem dX10_goOn_134 : decode cX10_goOn 134 = .ok (.aload_n 0, 1) := by decide +kernel
theorem dX10_goOn_135 : decode cX10_goOn 135 = .ok (.dup, 1) := by decide +kernel
theorem dX10_goOn_136 : decode cX10_goOn 136 = .ok (.getfield 224, 3) := by decide +kernel
theorem dX10_goOn_139 : decode cX10_goOn 139 = .ok (.iconst 1, 1) := by decide +kernel
theorem dX10_goOn_140 : decode cX10_goOn 140 = .ok (.isub, 1) := by decide +kernel
theorem dX10_goOn_141 : decode cX10_goOn 141 = .ok (.putfield 224, 3) := by decide +kernel
theorem dX10_goOn_144 : decode cX10_goOn 144 = .ok (.aload_n 0, 1) := by decide +kernel
theorem dX10_goOn_145 : decode cX10_goOn 145 = .ok (.dup, 1) := by decide +kernel
theorem dX10_goOn_146 : decode cX10_goOn 146 = .ok (.getfield 230, 3) := by decide +kernel
theorem dX10_goOn_149 : decode cX10_goOn 149 = .ok (.iconst 1, 1) := by decide +kernel
theorem dX10_goOn_150 : decode cX10_goOn 150 = .ok (.isub, 1) := by decide +kernel
theorem dX10_goOn_151 : decode cX10_goOn 151 = .ok (.putfield 230, 3) := by decide +kernel
theorem dX10_goOn_154 : decode cX10_goOn 154 = .ok (.goto 248, 3) := by decide +kernel
theorem dX10_goOn_157 : decode cX10_goOn 157 = .ok (.iload_n 2, 1) := by decide +kernel
theorem dX10_goOn_158 : decode cX10_goOn 158 = .ok (.ifCond .ne 38, 3) := by decide +kernel
theorem dX10_goOn_161 : decode cX10_goOn 161 = .ok (.iload_n 1, 1) := by decide +kernel
theorem dX10_goOn_162 : decode cX10_goOn 162 = .ok (.bipush 60, 2) := by decide +kernel
theorem dX10_goOn_164 : decode cX10_goOn 164 = .ok (.if_icmp .ne 32, 3) := by decide +kernel
theorem dX10_goOn_167 : decode cX10_goOn 167 = .ok (.aload_n 0, 1) := by decide +kernel
theorem dX10_goOn_168 : decode cX10_goOn 168 = .ok (.getfield 70, 3) := by decide +kernel
theorem dX10_goOn_171 : decode cX10_goOn 171 = .ok (.aload_n 0, 1) := by decide +kernel
theorem dX10_goOn_172 : decode cX10_goOn 172 = .ok (.getfield 224, 3) := by decide +kernel
theorem dX10_goOn_175 : decode cX10_goOn 175 = .ok (.iconst 1, 1) := by decide +kernel
theorem dX10_goOn_176 : decode cX10_goOn 176 = .ok (.isub, 1) := by decide +kernel
theorem dX10_goOn_177 : decode cX10_goOn 177 = .ok (.iconst 1, 1) := by decide +kernel
theorem dX10_goOn_178 : decode cX10_goOn 178 = .ok (.iastore, 1) := by decide +kernel
theorem dX10_goOn_179 : decode cX10_goOn 179 = .ok (.aload_n 0, 1) := by decide +kernel
theorem dX10_goOn_180 : decode cX10_goOn 180 = .ok (.dup, 1) := by decide +kernel
theorem dX10_goOn_181 : decode cX10_goOn 181 = .ok (.getfield 199, 3) := by decide +kernel
theorem dX10_goOn_184 : decode cX10_goOn 184 = .ok (.iconst 1, 1) := by decide +kernel
theorem dX10_goOn_185 : decode cX10_goOn 185 = .ok (.iadd, 1) := by decide +kernel
theorem dX10_goOn_186 : decode cX10_goOn 186 = .ok (.putfield 199, 3) := by decide +kernel
theorem dX10_goOn_189 : decode cX10_goOn 189 = .ok (.aload_n 0, 1) := by decide +kernel
theorem dX10_goOn_190 : decode cX10_goOn 190 = .ok (.invokevirtual 257, 3) := by decide +kernel
theorem dX10_goOn_193 : decode cX10_goOn 193 = .ok (.goto 209, 3) := by decide +kernel
theorem dX10_goOn_196 : decode cX10_goOn 196 = .ok (.iload_n 2, 1) := by decide +kernel
theorem dX10_goOn_197 : decode cX10_goOn 197 = .ok (.ifCond .ne 60, 3) := by decide +kernel
theorem dX10_goOn_200 : decode cX10_goOn 200 = .ok (.iload_n 1, 1) := by decide +kernel
theorem dX10_goOn_201 : decode cX10_goOn 201 = .ok (.bipush 63, 2) := by decide +kernel
theorem dX10_goOn_203 : decode cX10_goOn 203 = .ok (.if_icmp .ne 54, 3) := by decide +kernel
theorem dX10_goOn_206 : decode cX10_goOn 206 = .ok (.aload_n 0, 1) := by decide +kernel
theorem dX10_goOn_207 : decode cX10_goOn 207 = .ok (.getfield 70, 3) := by decide +kernel
theorem dX10_goOn_210 : decode cX10_goOn 210 = .ok (.aload_n 0, 1) := by decide +kernel
theorem dX10_goOn_211 : decode cX10_goOn 211 = .ok (.getfield 224, 3) := by decide +kernel
theorem dX10_goOn_214 : decode cX10_goOn 214 = .ok (.iconst 1, 1) := by decide +kernel
theorem dX10_goOn_215 : decode cX10_goOn 215 = .ok (.isub, 1) := by decide +kernel
theorem dX10_goOn_216 : decode cX10_goOn 216 = .ok (.iconst 2, 1) := by decide +kernel
theorem dX10_goOn_217 : decode cX10_goOn 217 = .ok (.iastore, 1) := by decide +kernel
theorem dX10_goOn_218 : decode cX10_goOn 218 = .ok (.aload_n 0, 1) := by decide +kernel
theorem dX10_goOn_219 : decode cX10_goOn 219 = .ok (.getfield 73, 3) := by decide +kernel
theorem dX10_goOn_222 : decode cX10_goOn 222 = .ok (.aload_n 0, 1) := by decide +kernel
theorem dX10_goOn_223 : decode cX10_goOn 223 = .ok (.getfield 224, 3) := by decide +kernel
theorem dX10_goOn_226 : decode cX10_goOn 226 = .ok (.iconst 1, 1) := by decide +kernel
theorem dX10_goOn_227 : decode cX10_goOn 227 = .ok (.isub, 1) := by decide +kernel
theorem dX10_goOn_228 : decode cX10_goOn 228 = .ok (.aload_n 0, 1) := by decide +kernel
theorem dX10_goOn_229 : decode cX10_goOn 229 = .ok (.getfield 206, 3) := by decide +kernel
theorem dX10_goOn_232 : decode cX10_goOn 232 = .ok (.iastore, 1) := by decide +kernel
theorem dX10_goOn_233 : decode cX10_goOn 233 = .ok (.aload_n 0, 1) := by decide +kernel
theorem dX10_goOn_234 : decode cX10_goOn 234 = .ok (.bipush 12, 2) := by decide +kernel
theorem dX10_goOn_236 : decode cX10_goOn 236 = .ok (.lconst 0, 1) := by decide +kernel
theorem dX10_goOn_237 : decode cX10_goOn 237 = .ok (.invokevirtual 233, 3) := by decide +kernel
theorem dX10_goOn_240 : decode cX10_goOn 240 = .ok (.aload_n 0, 1) := by decide +kernel
theorem dX10_goOn_241 : decode cX10_goOn 241 = .ok (.dup, 1) := by decide +kernel
theorem dX10_goOn_242 : decode cX10_goOn 242 = .ok (.getfield 199, 3) := by decide +kernel
theorem dX10_goOn_245 : decode cX10_goOn 245 = .ok (.iconst 1, 1) := by decide +kernel
theorem dX10_goOn_246 : decode cX10_goOn 246 = .ok (.iadd, 1) := by decide +kernel
theorem dX10_goOn_247 : decode cX10_goOn 247 = .ok (.putfield 199, 3) := by decide +kernel
theorem dX10_goOn_250 : decode cX10_goOn 250 = .ok (.aload_n 0, 1) := by decide +kernel
theorem dX10_goOn_251 : decode cX10_goOn 251 = .ok (.invokevirtual 257, 3) := by decide +kernel
theorem dX10_goOn_254 : decode cX10_goOn 254 = .ok (.goto 148, 3) := by decide +kernel
theorem dX10_goOn_257 : decode cX10_goOn 257 = .ok (.iload_n 2, 1) := by decide +kernel
theorem dX10_goOn_258 : decode cX10_goOn 258 = .ok (.iconst 2, 1) := by decide +kernel
theorem dX10_goOn_259 : decode cX10_goOn 259 = .ok (.if_icmp .ne 76, 3) := by decide +kernel
theorem dX10_goOn_262 : decode cX10_goOn 262 = .ok (.aload_n 0, 1) := by decide +kernel
theorem dX10_goOn_263 : decode cX10_goOn 263 = .ok (.bipush 58, 2) := by decide +kernel
theorem dX10_goOn_265 : decode cX10_goOn 265 = .ok (.invokevirtual 241, 3) := by decide +kernel
theorem dX10_goOn_268 : decode cX10_goOn 268 = .ok (.ifCond .eq 134, 3) := by decide +kernel
theorem dX10_goOn_271 : decode cX10_goOn 271 = .ok (.aload_n 0, 1) := by decide +kernel
theorem dX10_goOn_272 : decode cX10_goOn 272 = .ok (.getfield 73, 3) := by decide +kernel
theorem dX10_goOn_275 : decode cX10_goOn 275 = .ok (.aload_n 0, 1) := by decide +kernel
theorem dX10_goOn_276 : decode cX10_goOn 276 = .ok (.getfield 224, 3) := by decide +kernel
theorem dX10_goOn_279 : decode cX10_goOn 279 = .ok (.iconst 1, 1) := by decide +kernel
theorem dX10_goOn_280 : decode cX10_goOn 280 = .ok (.isub, 1) := by decide +kernel
theorem dX10_goOn_281 : decode cX10_goOn 281 = .ok (.iaload, 1) := by decide +kernel
theorem dX10_goOn_282 : decode cX10_goOn 282 = .ok (.istore_n 3, 1) := by decide +kernel
theorem dX10_goOn_283 : decode cX10_goOn 283 = .ok (.aload_n 0, 1) := by decide +kernel
theorem dX10_goOn_284 : decode cX10_goOn 284 = .ok (.getfield 70, 3) := by decide +kernel
theorem dX10_goOn_287 : decode cX10_goOn 287 = .ok (.aload_n 0, 1) := by decide +kernel
theorem dX10_goOn_288 : decode cX10_goOn 288 = .ok (.getfield 224, 3) := by decide +kernel
theorem dX10_goOn_291 : decode cX10_goOn 291 = .ok (.iconst 1, 1) := by decide +kernel
theorem dX10_goOn_292 : decode cX10_goOn 292 = .ok (.isub, 1) := by decide +kernel
theorem dX10_goOn_293 : decode cX10_goOn 293 = .ok (.iconst 3, 1) := by decide +kernel
theorem dX10_goOn_294 : decode cX10_goOn 294 = .ok (.iastore, 1) := by decide +kernel
theorem dX10_goOn_295 : decode cX10_goOn 295 = .ok (.aload_n 0, 1) := by decide +kernel
theorem dX10_goOn_296 : decode cX10_goOn 296 = .ok (.getfield 73, 3) := by decide +kernel
theorem dX10_goOn_299 : decode cX10_goOn 299 = .ok (.aload_n 0, 1) := by decide +kernel
theorem dX10_goOn_300 : decode cX10_goOn 300 = .ok (.getfield 224, 3) := by decide +kernel
theorem dX10_goOn_303 : decode cX10_goOn 303 = .ok (.iconst 1, 1) := by decide +kernel
theorem dX10_goOn_304 : decode cX10_goOn 304 = .ok (.isub, 1) := by decide +kernel
theorem dX10_goOn_305 : decode cX10_goOn 305 = .ok (.aload_n 0, 1) := by decide +kernel
theorem dX10_goOn_306 : decode cX10_goOn 306 = .ok (.getfield 206, 3) := by decide +kernel
theorem dX10_goOn_309 : decode cX10_goOn 309 = .ok (.iastore, 1) := by decide +kernel
theorem dX10_goOn_310 : decode cX10_goOn 310 = .ok (.aload_n 0, 1) := by decide +kernel
theorem dX10_goOn_311 : decode cX10_goOn 311 = .ok (.bipush 13, 2) := by decide +kernel
theorem dX10_goOn_313 : decode cX10_goOn 313 = .ok (.lconst 0, 1) := by decide +kernel
theorem dX10_goOn_314 : decode cX10_goOn 314 = .ok (.invokevirtual 233, 3) := by decide +kernel
theorem dX10_goOn_317 : decode cX10_goOn 317 = .ok (.aload_n 0, 1) := by decide +kernel
theorem dX10_goOn_318 : decode cX10_goOn 318 = .ok (.getfield 49, 3) := by decide +kernel
theorem dX10_goOn_321 : decode cX10_goOn 321 = .ok (.iload_n 3, 1) := by decide +kernel
theorem dX10_goOn_322 : decode cX10_goOn 322 = .ok (.aload_n 0, 1) := by decide +kernel
theorem dX10_goOn_323 : decode cX10_goOn 323 = .ok (.getfield 206, 3) := by decide +kernel
theorem dX10_goOn_326 : decode cX10_goOn 326 = .ok (.i2l, 1) := by decide +kernel
theorem dX10_goOn_327 : decode cX10_goOn 327 = .ok (.lastore, 1) := by decide +kernel
theorem dX10_goOn_328 : decode cX10_goOn 328 = .ok (.aload_n 0, 1) := by decide +kernel
theorem dX10_goOn_329 : decode cX10_goOn 329 = .ok (.invokevirtual 257, 3) := by decide +kernel
theorem dX10_goOn_332 : decode cX10_goOn 332 = .ok (.goto 70, 3) := by decide +kernel
theorem dX10_goOn_335 : decode cX10_goOn 335 = .ok (.aload_n 0, 1) := by decide +kernel
theorem dX10_goOn_336 : decode cX10_goOn 336 = .ok (.bipush 41, 2) := by decide +kernel
theorem dX10_goOn_338 : decode cX10_goOn 338 = .ok (.invokevirtual 241, 3) := by decide +kernel
theorem dX10_goOn_341 : decode cX10_goOn 341 = .ok (.ifCond .eq 61, 3) := by decide +kernel
theorem dX10_goOn_344 : decode cX10_goOn 344 = .ok (.iload_n 2, 1) := by decide +kernel
theorem dX10_goOn_345 : decode cX10_goOn 345 = .ok (.iconst 1, 1) := by decide +kernel
theorem dX10_goOn_346 : decode cX10_goOn 346 = .ok (.if_icmp .ne 10, 3) := by decide +kernel
theorem dX10_goOn_349 : decode cX10_goOn 349 = .ok (.aload_n 0, 1) := by decide +kernel
theorem dX10_goOn_350 : decode cX10_goOn 350 = .ok (.bipush 11, 2) := by decide +kernel
theorem dX10_goOn_352 : decode cX10_goOn 352 = .ok (.lconst 0, 1) := by decide +kernel
theorem dX10_goOn_353 : decode cX10_goOn 353 = .ok (.invokevirtual 233, 3) := by decide +kernel
theorem dX10_goOn_356 : decode cX10_goOn 356 = .ok (.iload_n 2, 1) := by decide +kernel
theorem dX10_goOn_357 : decode cX10_goOn 357 = .ok (.iconst 3, 1) := by decide +kernel
theorem dX10_goOn_358 : decode cX10_goOn 358 = .ok (.if_icmp .ne 24, 3) := by decide +kernel
theorem dX10_goOn_361 : decode cX10_goOn 361 = .ok (.aload_n 0, 1) := by decide +kernel
theorem dX10_goOn_362 : decode cX10_goOn 362 = .ok (.getfield 49, 3) := by decide +kernel
theorem dX10_goOn_365 : decode cX10_goOn 365 = .ok (.aload_n 0, 1) := by decide +kernel
theorem dX10_goOn_366 : decode cX10_goOn 366 = .ok (.getfield 73, 3) := by decide +kernel
theorem dX10_goOn_369 : decode cX10_goOn 369 = .ok (.aload_n 0, 1) := by decide +kernel
theorem dX10_goOn_370 : decode cX10_goOn 370 = .ok (.getfield 224, 3) := by decide +kernel
theorem dX10_goOn_373 : decode cX10_goOn 373 = .ok (.iconst 1, 1) := by decide +kernel
theorem dX10_goOn_374 : decode cX10_goOn 374 = .ok (.isub, 1) := by decide +kernel
theorem dX10_goOn_375 : decode cX10_goOn 375 = .ok (.iaload, 1) := by decide +kernel
theorem dX10_goOn_376 : decode cX10_goOn 376 = .ok (.aload_n 0, 1) := by decide +kernel
theorem dX10_goOn_377 : decode cX10_goOn 377 = .ok (.getfield 206, 3) := by decide +kernel
theorem dX10_goOn_380 : decode cX10_goOn 380 = .ok (.i2l, 1) := by decide +kernel
theorem dX10_goOn_381 : decode cX10_goOn 381 = .ok (.lastore, 1) := by decide +kernel
theorem dX10_goOn_382 : decode cX10_goOn 382 = .ok (.aload_n 0, 1) := by decide +kernel
theorem dX10_goOn_383 : decode cX10_goOn 383 = .ok (.dup, 1) := by decide +kernel
theorem dX10_goOn_384 : decode cX10_goOn 384 = .ok (.getfield 224, 3) := by decide +kernel
theorem dX10_goOn_387 : decode cX10_goOn 387 = .ok (.iconst 1, 1) := by decide +kernel
theorem dX10_goOn_388 : decode cX10_goOn 388 = .ok (.isub, 1) := by decide +kernel
theorem dX10_goOn_389 : decode cX10_goOn 389 = .ok (.putfield 224, 3) := by decide +kernel
theorem dX10_goOn_392 : decode cX10_goOn 392 = .ok (.aload_n 0, 1) := by decide +kernel
theorem dX10_goOn_393 : decode cX10_goOn 393 = .ok (.dup, 1) := by decide +kernel
theorem dX10_goOn_394 : decode cX10_goOn 394 = .ok (.getfield 230, 3) := by decide +kernel
theorem dX10_goOn_397 : decode cX10_goOn 397 = .ok (.iconst 1, 1) := by decide +kernel
theorem dX10_goOn_398 : decode cX10_goOn 398 = .ok (.isub, 1) := by decide +kernel
theorem dX10_goOn_399 : decode cX10_goOn 399 = .ok (.putfield 230, 3) := by decide +kernel
theorem dX10_goOn_402 : decode cX10_goOn 402 = .ok (.iconst 1, 1) := by decide +kernel
theorem dX10_goOn_403 : decode cX10_goOn 403 = .ok (.ireturn, 1) := by decide +kernel
theorem dX10_readSum_0 : decode cX10_readSum 0 = .ok (.aload_n 0, 1) := by decide +kernel
theorem dX10_readSum_1 : decode cX10_readSum 1 = .ok (.iconst 0, 1) := by decide +kernel
theorem dX10_readSum_2 : decode cX10_readSum 2 = .ok (.putfield 224, 3) := by decide +kernel
theorem dX10_readSum_5 : decode cX10_readSum 5 = .ok (.aload_n 0, 1) := by decide +kernel
theorem dX10_readSum_6 : decode cX10_readSum 6 = .ok (.iconst 0, 1) := by decide +kernel
theorem dX10_readSum_7 : decode cX10_readSum 7 = .ok (.putfield 227, 3) := by decide +kernel
theorem dX10_readSum_10 : decode cX10_readSum 10 = .ok (.aload_n 0, 1) := by decide +kernel
theorem dX10_readSum_11 : decode cX10_readSum 11 = .ok (.iconst 0, 1) := by decide +kernel
theorem dX10_readSum_12 : decode cX10_readSum 12 = .ok (.putfield 230, 3) := by decide +kernel
theorem dX10_readSum_15 : decode cX10_readSum 15 = .ok (.aload_n 0, 1) := by decide +kernel
theorem dX10_readSum_16 : decode cX10_readSum 16 = .ok (.invokevirtual 257, 3) := by decide +kernel
theorem dX10_readSum_19 : decode cX10_readSum 19 = .ok (.iconst 1, 1) := by decide +kernel
theorem dX10_readSum_20 : decode cX10_readSum 20 = .ok (.istore_n 1, 1) := by decide +kernel
theorem dX10_readSum_21 : decode cX10_readSum 21 = .ok (.iload_n 1, 1) := by decide +kernel
theorem dX10_readSum_22 : decode cX10_readSum 22 = .ok (.ifCond .eq 24, 3) := by decide +kernel
theorem dX10_readSum_25 : decode cX10_readSum 25 = .ok (.aload_n 0, 1) := by decide +kernel
theorem dX10_readSum_26 : decode cX10_readSum 26 = .ok (.getfield 196, 3) := by decide +kernel
theorem dX10_readSum_29 : decode cX10_readSum 29 = .ok (.bipush (-9), 2) := by decide +kernel
theorem dX10_readSum_31 : decode cX10_readSum 31 = .ok (.if_icmp .ne 15, 3) := by decide +kernel
theorem dX10_readSum_34 : decode cX10_readSum 34 = .ok (.aload_n 0, 1) := by decide +kernel
theorem dX10_readSum_35 : decode cX10_readSum 35 = .ok (.invokevirtual 263, 3) := by decide +kernel
theorem dX10_readSum_38 : decode cX10_readSum 38 = .ok (.aload_n 0, 1) := by decide +kernel
theorem dX10_readSum_39 : decode cX10_readSum 39 = .ok (.invokevirtual 266, 3) := by decide +kernel
theorem dX10_readSum_42 : decode cX10_readSum 42 = .ok (.istore_n 1, 1) := by decide +kernel
theorem dX10_readSum_43 : decode cX10_readSum 43 = .ok (.goto (-22), 3) := by decide +kernel
theorem dX10_readSum_46 : decode cX10_readSum 46 = .ok (.return_, 1) := by decide +kernel
theorem dX10_readTable_0 : decode cX10_readTable 0 = .ok (.aload_n 0, 1) := by decide +kernel
theorem dX10_readTable_1 : decode cX10_readTable 1 = .ok (.aload_n 0, 1) := by decide +kernel
theorem dX10_readTable_2 : decode cX10_readTable 2 = .ok (.getfield 212, 3) := by decide +kernel
theorem dX10_readTable_5 : decode cX10_readTable 5 = .ok (.bipush 12, 2) := by decide +kernel
theorem dX10_readTable_7 : decode cX10_readTable 7 = .ok (.if_icmp .ge 7, 3) := by decide +kernel
theorem dX10_readTable_10 : decode cX10_readTable 10 = .ok (.iconst 1, 1) := by decide +kernel
theorem dX10_readTable_11 : decode cX10_readTable 11 = .ok (.goto 4, 3) := by decide +kernel
theorem dX10_readTable_14 : decode cX10_readTable 14 = .ok (.iconst 0, 1) := by decide +kernel
theorem dX10_readTable_15 : decode cX10_readTable 15 = .ok (.invokevirtual 202, 3) := by decide +kernel
theorem dX10_readTable_18 : decode cX10_readTable 18 = .ok (.pop, 1) := by decide +kernel
theorem dX10_readTable_19 : decode cX10_readTable 19 = .ok (.aload_n 0, 1) := by decide +kernel
theorem dX10_readTable_20 : decode cX10_readTable 20 = .ok (.iconst 4, 1) := by decide +kernel
theorem dX10_readTable_21 : decode cX10_readTable 21 = .ok (.invokevirtual 241, 3) := by decide +kernel
theorem dX10_readTable_24 : decode cX10_readTable 24 = .ok (.ifCond .ne 4, 3) := by decide +kernel
theorem dX10_readTable_27 : decode cX10_readTable 27 = .ok (.return_, 1) := by decide +kernel
theorem dX10_readTable_28 : decode cX10_readTable 28 = .ok (.aload_n 0, 1) := by decide +kernel
theorem dX10_readTable_29 : decode cX10_readTable 29 = .ok (.aload_n 0, 1) := by decide +kernel
theorem dX10_readTable_30 : decode cX10_readTable 30 = .ok (.getfield 13, 3) := by decide +kernel
theorem dX10_readTable_33 : decode cX10_readTable 33 = .ok (.aload_n 0, 1) := by decide +kernel
theorem dX10_readTable_34 : decode cX10_readTable 34 = .ok (.getfield 199, 3) := by decide +kernel
theorem dX10_readTable_37 : decode cX10_readTable 37 = .ok (.iaload, 1) := by decide +kernel
theorem dX10_readTable_38 : decode cX10_readTable 38 = .ok (.iconst 2, 1) := by decide +kernel
theorem dX10_readTable_39 : decode cX10_readTable 39 = .ok (.if_icmp .ne 7, 3) := by decide +kernel
theorem dX10_readTable_42 : decode cX10_readTable 42 = .ok (.iconst 1, 1) := by decide +kernel
theorem dX10_readTable_43 : decode cX10_readTable 43 = .ok (.goto 4, 3) := by decide +kernel
theorem dX10_readTable_46 : decode cX10_readTable 46 = .ok (.iconst 0, 1) := by decide +kernel
theorem dX10_readTable_47 : decode cX10_readTable 47 = .ok (.invokevirtual 202, 3) := by decide +kernel
theorem dX10_readTable_50 : decode cX10_readTable 50 = .ok (.ifCond .eq 49, 3) := by decide +kernel
theorem dX10_readTable_53 : decode cX10_readTable 53 = .ok (.aload_n 0, 1) := by decide +kernel
theorem dX10_readTable_54 : decode cX10_readTable 54 = .ok (.getfield 24, 3) := by decide +kernel
theorem dX10_readTable_57 : decode cX10_readTable 57 = .ok (.aload_n 0, 1) := by decide +kernel
theorem dX10_readTable_58 : decode cX10_readTable 58 = .ok (.getfield 212, 3) := by decide +kernel
theorem dX10_readTable_61 : decode cX10_readTable 61 = .ok (.aload_n 0, 1) := by decide +kernel
theorem dX10_readTable_62 : decode cX10_readTable 62 = .ok (.getfield 20, 3) := by decide +kernel
theorem dX10_readTable_65 : decode cX10_readTable 65 = .ok (.aload_n 0, 1) := by decide +kernel
theorem dX10_readTable_66 : decode cX10_readTable 66 = .ok (.getfield 199, 3) := by decide +kernel
theorem dX10_readTable_69 : decode cX10_readTable 69 = .ok (.laload, 1) := by decide +kernel
theorem dX10_readTable_70 : decode cX10_readTable 70 = .ok (.lastore, 1) := by decide +kernel
theorem dX10_readTable_71 : decode cX10_readTable 71 = .ok (.aload_n 0, 1) := by decide +kernel
theorem dX10_readTable_72 : decode cX10_readTable 72 = .ok (.getfield 27, 3) := by decide +kernel
theorem dX10_readTable_75 : decode cX10_readTable 75 = .ok (.aload_n 0, 1) := by decide +kernel
theorem dX10_readTable_76 : decode cX10_readTable 76 = .ok (.getfield 212, 3) := by decide +kernel
theorem dX10_readTable_79 : decode cX10_readTable 79 = .ok (.aload_n 0, 1) := by decide +kernel
theorem dX10_readTable_80 : decode cX10_readTable 80 = .ok (.getfield 17, 3) := by decide +kernel
theorem dX10_readTable_83 : decode cX10_readTable 83 = .ok (.aload_n 0, 1) := by decide +kernel
theorem dX10_readTable_84 : decode cX10_readTable 84 = .ok (.getfield 199, 3) := by decide +kernel
theorem dX10_readTable_87 : decode cX10_readTable 87 = .ok (.iaload, 1) := by decide +kernel
theorem dX10_readTable_88 : decode cX10_readTable 88 = .ok (.iastore, 1) := by decide +kernel
theorem dX10_readTable_89 : decode cX10_readTable 89 = .ok (.aload_n 0, 1) := by decide +kernel
theorem dX10_readTable_90 : decode cX10_readTable 90 = .ok (.dup, 1) := by decide +kernel
theorem dX10_readTable_91 : decode cX10_readTable 91 = .ok (.getfield 199, 3) := by decide +kernel
theorem dX10_readTable_94 : decode cX10_readTable 94 = .ok (.iconst 1, 1) := by decide +kernel
theorem dX10_readTable_95 : decode cX10_readTable 95 = .ok (.iadd, 1) := by decide +kernel
theorem dX10_readTable_96 : decode cX10_readTable 96 = .ok (.putfield 199, 3) := by decide +kernel
theorem dX10_readTable_99 : decode cX10_readTable 99 = .ok (.aload_n 0, 1) := by decide +kernel
theorem dX10_readTable_100 : decode cX10_readTable 100 = .ok (.bipush 91, 2) := by decide +kernel
theorem dX10_readTable_102 : decode cX10_readTable 102 = .ok (.invokevirtual 241, 3) := by decide +kernel
theorem dX10_readTable_105 : decode cX10_readTable 105 = .ok (.pop, 1) := by decide +kernel
theorem dX10_readTable_106 : decode cX10_readTable 106 = .ok (.aload_n 0, 1) := by decide +kernel
theorem dX10_readTable_107 : decode cX10_readTable 107 = .ok (.getfield 196, 3) := by decide +kernel
theorem dX10_readTable_110 : decode cX10_readTable 110 = .ok (.bipush (-9), 2) := by decide +kernel
theorem dX10_readTable_112 : decode cX10_readTable 112 = .ok (.if_icmp .ne 7, 3) := by decide +kernel
theorem dX10_readTable_115 : decode cX10_readTable 115 = .ok (.aload_n 0, 1) := by decide +kernel
theorem dX10_readTable_116 : decode cX10_readTable 116 = .ok (.invokevirtual 270, 3) := by decide +kernel
theorem dX10_readTable_119 : decode cX10_readTable 119 = .ok (.aload_n 0, 1) := by decide +kernel
theorem dX10_readTable_120 : decode cX10_readTable 120 = .ok (.bipush 93, 2) := by decide +kernel
theorem dX10_readTable_122 : decode cX10_readTable 122 = .ok (.invokevirtual 241, 3) := by decide +kernel
theorem dX10_readTable_125 : decode cX10_readTable 125 = .ok (.pop, 1) := by decide +kernel
theorem dX10_readTable_126 : decode cX10_readTable 126 = .ok (.aload_n 0, 1) := by decide +kernel
theorem dX10_readTable_127 : decode cX10_readTable 127 = .ok (.getfield 30, 3) := by decide +kernel
theorem dX10_readTable_130 : decode cX10_readTable 130 = .ok (.aload_n 0, 1) := by decide +kernel
theorem dX10_readTable_131 : decode cX10_readTable 131 = .ok (.getfield 212, 3) := by decide +kernel
theorem dX10_readTable_134 : decode cX10_readTable 134 = .ok (.aload_n 0, 1) := by decide +kernel
theorem dX10_readTable_135 : decode cX10_readTable 135 = .ok (.getfield 13, 3) := by decide +kernel
theorem dX10_readTable_138 : decode cX10_readTable 138 = .ok (.aload_n 0, 1) := by decide +kernel
theorem dX10_readTable_139 : decode cX10_readTable 139 = .ok (.getfield 199, 3) := by decide +kernel
theorem dX10_readTable_142 : decode cX10_readTable 142 = .ok (.iaload, 1) := by decide +kernel
theorem dX10_readTable_143 : decode cX10_readTable 143 = .ok (.iconst 5, 1) := by decide +kernel
theorem dX10_readTable_144 : decode cX10_readTable 144 = .ok (.if_icmp .ne 7, 3) := by decide +kernel
theorem dX10_readTable_147 : decode cX10_readTable 147 = .ok (.iconst 1, 1) := by decide +kernel
theorem dX10_readTable_148 : decode cX10_readTable 148 = .ok (.goto 4, 3) := by decide +kernel
theorem dX10_readTable_151 : decode cX10_readTable 151 = .ok (.iconst 0, 1) := by decide +kernel
theorem dX10_readTable_152 : decode cX10_readTable 152 = .ok (.bastore, 1) := by decide +kernel
theorem dX10_readTable_153 : decode cX10_readTable 153 = .ok (.aload_n 0, 1) := by decide +kernel
theorem dX10_readTable_154 : decode cX10_readTable 154 = .ok (.aload_n 0, 1) := by decide +kernel
theorem dX10_readTable_155 : decode cX10_readTable 155 = .ok (.getfield 30, 3) := by decide +kernel
theorem dX10_readTable_158 : decode cX10_readTable 158 = .ok (.aload_n 0, 1) := by decide +kernel
theorem dX10_readTable_159 : decode cX10_readTable 159 = .ok (.getfield 212, 3) := by decide +kernel
theorem dX10_readTable_162 : decode cX10_readTable 162 = .ok (.baload, 1) := by decide +kernel
theorem dX10_readTable_163 : decode cX10_readTable 163 = .ok (.ifCond .ne 17, 3) := by decide +kernel
theorem dX10_readTable_166 : decode cX10_readTable 166 = .ok (.aload_n 0, 1) := by decide +kernel
theorem dX10_readTable_167 : decode cX10_readTable 167 = .ok (.getfield 13, 3) := by decide +kernel
theorem dX10_readTable_170 : decode cX10_readTable 170 = .ok (.aload_n 0, 1) := by decide +kernel
theorem dX10_readTable_171 : decode cX10_readTable 171 = .ok (.getfield 199, 3) := by decide +kernel
theorem dX10_readTable_174 : decode cX10_readTable 174 = .ok (.iaload, 1) := by decide +kernel
theorem dX10_readTable_175 : decode cX10_readTable 175 = .ok (.bipush 6, 2) := by decide +kernel
theorem dX10_readTable_177 : decode cX10_readTable 177 = .ok (.if_icmp .ne 7, 3) := by decide +kernel
theorem dX10_readTable_180 : decode cX10_readTable 180 = .ok (.iconst 1, 1) := by decide +kernel
theorem dX10_readTable_181 : decode cX10_readTable 181 = .ok (.goto 4, 3) := by decide +kernel
theorem dX10_readTable_184 : decode cX10_readTable 184 = .ok (.iconst 0, 1) := by decide +kernel
theorem dX10_readTable_185 : decode cX10_readTable 185 = .ok (.invokevirtual 202, 3) := by decide +kernel
theorem dX10_readTable_188 : decode cX10_readTable 188 = .ok (.ifCond .eq 13, 3) := by decide +kernel
theorem dX10_readTable_191 : decode cX10_readTable 191 = .ok (.aload_n 0, 1) := by decide +kernel
theorem dX10_readTable_192 : decode cX10_readTable 192 = .ok (.dup, 1) := by decide +kernel
theorem dX10_readTable_193 : decode cX10_readTable 193 = .ok (.getfield 199, 3) := by decide +kernel
theorem dX10_readTable_196 : decode cX10_readTable 196 = .ok (.iconst 1, 1) := by decide +kernel
theorem dX10_readTable_197 : decode cX10_readTable 197 = .ok (.iadd, 1) := by decide +kernel
theorem dX10_readTable_198 : decode cX10_readTable 198 = .ok (.putfield 199, 3) := by decide +kernel
theorem dX10_readTable_201 : decode cX10_readTable 201 = .ok (.aload_n 0, 1) := by decide +kernel
theorem dX10_readTable_202 : decode cX10_readTable 202 = .ok (.bipush 61, 2) := by decide +kernel
theorem dX10_readTable_204 : decode cX10_readTable 204 = .ok (.invokevirtual 241, 3) := by decide +kernel
theorem dX10_readTable_207 : decode cX10_readTable 207 = .ok (.pop, 1) := by decide +kernel
theorem dX10_readTable_208 : decode cX10_readTable 208 = .ok (.aload_n 0, 1) := by decide +kernel
theorem dX10_readTable_209 : decode cX10_readTable 209 = .ok (.getfield 40, 3) := by decide +kernel
theorem dX10_readTable_212 : decode cX10_readTable 212 = .ok (.aload_n 0, 1) := by decide +kernel
theorem dX10_readTable_213 : decode cX10_readTable 213 = .ok (.getfield 212, 3) := by decide +kernel
theorem dX10_readTable_216 : decode cX10_readTable 216 = .ok (.aload_n 0, 1) := by decide +kernel
theorem dX10_readTable_217 : decode cX10_readTable 217 = .ok (.getfield 206, 3) := by decide +kernel
theorem dX10_readTable_220 : decode cX10_readTable 220 = .ok (.iastore, 1) := by decide +kernel
theorem dX10_readTable_221 : decode cX10_readTable 221 = .ok (.aload_n 0, 1) := by decide +kernel
theorem dX10_readTable_222 : decode cX10_readTable 222 = .ok (.getfield 196, 3) := by decide +kernel
theorem dX10_readTable_225 : decode cX10_readTable 225 = .ok (.bipush (-9), 2) := by decide +kernel
theorem dX10_readTable_227 : decode cX10_readTable 227 = .ok (.if_icmp .ne 7, 3) := by decide +kernel
theorem dX10_readTable_230 : decode cX10_readTable 230 = .ok (.aload_n 0, 1) := by decide +kernel
theorem dX10_readTable_231 : decode cX10_readTable 231 = .ok (.invokevirtual 273, 3) := by decide +kernel
theorem dX10_readTable_234 : decode cX10_readTable 234 = .ok (.aload_n 0, 1) := by decide +kernel
theorem dX10_readTable_235 : decode cX10_readTable 235 = .ok (.getfield 40, 3) := by decide +kernel
theorem dX10_readTable_238 : decode cX10_readTable 238 = .ok (.aload_n 0, 1) := by decide +kernel
theorem dX10_readTable_239 : decode cX10_readTable 239 = .ok (.getfield 212, 3) := by decide +kernel
theorem dX10_readTable_242 : decode cX10_readTable 242 = .ok (.iconst 1, 1) := by decide +kernel
theorem dX10_readTable_243 : decode cX10_readTable 243 = .ok (.iadd, 1) := by decide +kernel
theorem dX10_readTable_244 : decode cX10_readTable 244 = .ok (.aload_n 0, 1) := by decide +kernel
theorem dX10_readTable_245 : decode cX10_readTable 245 = .ok (.getfield 206, 3) := by decide +kernel
theorem dX10_readTable_248 : decode cX10_readTable 248 = .ok (.iastore, 1) := by decide +kernel
theorem dX10_readTable_249 : decode cX10_readTable 249 = .ok (.aload_n 0, 1) := by decide +kernel
theorem dX10_readTable_250 : decode cX10_readTable 250 = .ok (.getfield 34, 3) := by decide +kernel
theorem dX10_readTable_253 : decode cX10_readTable 253 = .ok (.aload_n 0, 1) := by decide +kernel
theorem dX10_readTable_254 : decode cX10_readTable 254 = .ok (.getfield 212, 3) := by decide +kernel
theorem dX10_readTable_257 : decode cX10_readTable 257 = .ok (.aload_n 0, 1) := by decide +kernel
theorem dX10_readTable_258 : decode cX10_readTable 258 = .ok (.getfield 13, 3) := by decide +kernel
theorem dX10_readTable_261 : decode cX10_readTable 261 = .ok (.aload_n 0, 1) := by decide +kernel
theorem dX10_readTable_262 : decode cX10_readTable 262 = .ok (.getfield 199, 3) := by decide +kernel
theorem dX10_readTable_265 : decode cX10_readTable 265 = .ok (.iaload, 1) := by decide +kernel
theorem dX10_readTable_266 : decode cX10_readTable 266 = .ok (.bipush 7, 2) := by decide +kernel
theorem dX10_readTable_268 : decode cX10_readTable 268 = .ok (.if_icmp .ne 7, 3) := by decide +kernel
theorem dX10_readTable_271 : decode cX10_readTable 271 = .ok (.iconst 1, 1) := by decide +kernel
theorem dX10_readTable_272 : decode cX10_readTable 272 = .ok (.goto 4, 3) := by decide +kernel
theorem dX10_readTable_275 : decode cX10_readTable 275 = .ok (.iconst 0, 1) := by decide +kernel
theorem dX10_readTable_276 : decode cX10_readTable 276 = .ok (.bastore, 1) := by decide +kernel
theorem dX10_readTable_277 : decode cX10_readTable 277 = .ok (.aload_n 0, 1) := by decide +kernel
theorem dX10_readTable_278 : decode cX10_readTable 278 = .ok (.getfield 37, 3) := by decide +kernel
theorem dX10_readTable_281 : decode cX10_readTable 281 = .ok (.aload_n 0, 1) := by decide +kernel
theorem dX10_readTable_282 : decode cX10_readTable 282 = .ok (.getfield 212, 3) := by decide +kernel
theorem dX10_readTable_285 : decode cX10_readTable 285 = .ok (.lconst 0, 1) := by decide +kernel
theorem dX10_readTable_286 : decode cX10_readTable 286 = .ok (.lastore, 1) := by decide +kernel
theorem dX10_readTable_287 : decode cX10_readTable 287 = .ok (.aload_n 0, 1) := by decide +kernel
theorem dX10_readTable_288 : decode cX10_readTable 288 = .ok (.getfield 34, 3) := by decide +kernel
theorem dX10_readTable_291 : decode cX10_readTable 291 = .ok (.aload_n 0, 1) := by decide +kernel
theorem dX10_readTable_292 : decode cX10_readTable 292 = .ok (.getfield 212, 3) := by decide +kernel
theorem dX10_readTable_295 : decode cX10_readTable 295 = .ok (.baload, 1) := by decide +kernel
theorem dX10_readTable_296 : decode cX10_readTable 296 = .ok (.ifCond .eq 130, 3) := by decide +kernel
theorem dX10_readTable_299 : decode cX10_readTable 299 = .ok (.aload_n 0, 1) := by decide +kernel
theorem dX10_readTable_300 : decode cX10_readTable 300 = .ok (.getfield 196, 3) := by decide +kernel
theorem dX10_readTable_303 : decode cX10_readTable 303 = .ok (.bipush (-9), 2) := by decide +kernel
theorem dX10_readTable_305 : decode cX10_readTable 305 = .ok (.if_icmp .ne 121, 3) := by decide +kernel
theorem dX10_readTable_308 : decode cX10_readTable 308 = .ok (.aload_n 0, 1) := by decide +kernel
theorem dX10_readTable_309 : decode cX10_readTable 309 = .ok (.dup, 1) := by decide +kernel
theorem dX10_readTable_310 : decode cX10_readTable 310 = .ok (.getfield 199, 3) := by decide +kernel
theorem dX10_readTable_313 : decode cX10_readTable 313 = .ok (.iconst 1, 1) := by decide +kernel
theorem dX10_readTable_314 : decode cX10_readTable 314 = .ok (.iadd, 1) := by decide +kernel
theorem dX10_readTable_315 : decode cX10_readTable 315 = .ok (.putfield 199, 3) := by decide +kernel
theorem dX10_readTable_318 : decode cX10_readTable 318 = .ok (.aload_n 0, 1) := by decide +kernel
theorem dX10_readTable_319 : decode cX10_readTable 319 = .ok (.getfield 13, 3) := by decide +kernel
theorem dX10_readTable_322 : decode cX10_readTable 322 = .ok (.aload_n 0, 1) := by decide +kernel
theorem dX10_readTable_323 : decode cX10_readTable 323 = .ok (.getfield 199, 3) := by decide +kernel
theorem dX10_readTable_326 : decode cX10_readTable 326 = .ok (.iaload, 1) := by decide +kernel
theorem dX10_readTable_327 : decode cX10_readTable 327 = .ok (.bipush 45, 2) := by decide +kernel
theorem dX10_readTable_329 : decode cX10_readTable 329 = .ok (.if_icmp .ne 7, 3) := by decide +kernel
theorem dX10_readTable_332 : decode cX10_readTable 332 = .ok (.iconst 1, 1) := by decide +kernel
theorem dX10_readTable_333 : decode cX10_readTable 333 = .ok (.goto 4, 3) := by decide +kernel
theorem dX10_readTable_336 : decode cX10_readTable 336 = .ok (.iconst 0, 1) := by decide +kernel
theorem dX10_readTable_337 : decode cX10_readTable 337 = .ok (.istore_n 1, 1) := by decide +kernel
theorem dX10_readTable_338 : decode cX10_readTable 338 = .ok (.aload_n 0, 1) := by decide +kernel
theorem dX10_readTable_339 : decode cX10_readTable 339 = .ok (.dup, 1) := by decide +kernel
theorem dX10_readTable_340 : decode cX10_readTable 340 = .ok (.getfield 199, 3) := by decide +kernel
theorem dX10_readTable_343 : decode cX10_readTable 343 = .ok (.iload_n 1, 1) := by decide +kernel
theorem dX10_readTable_344 : decode cX10_readTable 344 = .ok (.ifCond .eq 7, 3) := by decide +kernel
theorem dX10_readTable_347 : decode cX10_readTable 347 = .ok (.iconst 1, 1) := by decide +kernel
theorem dX10_readTable_348 : decode cX10_readTable 348 = .ok (.goto 4, 3) := by decide +kernel
theorem dX10_readTable_351 : decode cX10_readTable 351 = .ok (.iconst 0, 1) := by decide +kernel
theorem dX10_readTable_352 : decode cX10_readTable 352 = .ok (.iadd, 1) := by decide +kernel
theorem dX10_readTable_353 : decode cX10_readTable 353 = .ok (.putfield 199, 3) := by decide +kernel
theorem dX10_readTable_356 : decode cX10_readTable 356 = .ok (.aload_n 0, 1) := by decide +kernel
theorem dX10_readTable_357 : decode cX10_readTable 357 = .ok (.aload_n 0, 1) := by decide +kernel
theorem dX10_readTable_358 : decode cX10_readTable 358 = .ok (.getfield 13, 3) := by decide +kernel
theorem dX10_readTable_361 : decode cX10_readTable 361 = .ok (.aload_n 0, 1) := by decide +kernel
theorem dX10_readTable_362 : decode cX10_readTable 362 = .ok (.getfield 199, 3) := by decide +kernel
theorem dX10_readTable_365 : decode cX10_readTable 365 = .ok (.iaload, 1) := by decide +kernel
theorem dX10_readTable_366 : decode cX10_readTable 366 = .ok (.iconst 1, 1) := by decide +kernel
theorem dX10_readTable_367 : decode cX10_readTable 367 = .ok (.if_icmp .ne 7, 3) := by decide +kernel
theorem dX10_readTable_370 : decode cX10_readTable 370 = .ok (.iconst 1, 1) := by decide +kernel
theorem dX10_readTable_371 : decode cX10_readTable 371 = .ok (.goto 4, 3) := by decide +kernel
theorem dX10_readTable_374 : decode cX10_readTable 374 = .ok (.iconst 0, 1) := by decide +kernel
theorem dX10_readTable_375 : decode cX10_readTable 375 = .ok (.invokevirtual 202, 3) := by decide +kernel
theorem dX10_readTable_378 : decode cX10_readTable 378 = .ok (.ifCond .eq 48, 3) := by decide +kernel
theorem dX10_readTable_381 : decode cX10_readTable 381 = .ok (.aload_n 0, 1) := by decide +kernel
theorem dX10_readTable_382 : decode cX10_readTable 382 = .ok (.getfield 37, 3) := by decide +kernel
theorem dX10_readTable_385 : decode cX10_readTable 385 = .ok (.aload_n 0, 1) := by decide +kernel
theorem dX10_readTable_386 : decode cX10_readTable 386 = .ok (.getfield 212, 3) := by decide +kernel
theorem dX10_readTable_389 : decode cX10_readTable 389 = .ok (.iload_n 1, 1) := by decide +kernel
theorem dX10_readTable_390 : decode cX10_readTable 390 = .ok (.ifCond .eq 16, 3) := by decide +kernel
theorem dX10_readTable_393 : decode cX10_readTable 393 = .ok (.aload_n 0, 1) := by decide +kernel
theorem dX10_readTable_394 : decode cX10_readTable 394 = .ok (.getfield 20, 3) := by decide +kernel
theorem dX10_readTable_397 : decode cX10_readTable 397 = .ok (.aload_n 0, 1) := by decide +kernel
theorem dX10_readTable_398 : decode cX10_readTable 398 = .ok (.getfield 199, 3) := by decide +kernel
theorem dX10_readTable_401 : decode cX10_readTable 401 = .ok (.laload, 1) := by decide +kernel
theorem dX10_readTable_402 : decode cX10_readTable 402 = .ok (.lneg, 1) := by decide +kernel
theorem dX10_readTable_403 : decode cX10_readTable 403 = .ok (.goto 12, 3) := by decide +kernel
theorem dX10_readTable_406 : decode cX10_readTable 406 = .ok (.aload_n 0, 1) := by decide +kernel
theorem dX10_readTable_407 : decode cX10_readTable 407 = .ok (.getfield 20, 3) := by decide +kernel
theorem dX10_readTable_410 : decode cX10_readTable 410 = .ok (.aload_n 0, 1) := by decide +kernel
theorem dX10_readTable_411 : decode cX10_readTable 411 = .ok (.getfield 199, 3) := by decide +kernel
theorem dX10_readTable_414 : decode cX10_readTable 414 = .ok (.laload, 1) := by decide +kernel
theorem dX10_readTable_415 : decode cX10_readTable 415 = .ok (.lastore, 1) := by decide +kernel
theorem dX10_readTable_416 : decode cX10_readTable 416 = .ok (.aload_n 0, 1) := by decide +kernel
theorem dX10_readTable_417 : decode cX10_readTable 417 = .ok (.dup, 1) := by decide +kernel
theorem dX10_readTable_418 : decode cX10_readTable 418 = .ok (.getfield 199, 3) := by decide +kernel
theorem dX10_readTable_421 : decode cX10_readTable 421 = .ok (.iconst 1, 1) := by decide +kernel
theorem dX10_readTable_422 : decode cX10_readTable 422 = .ok (.iadd, 1) := by decide +kernel
theorem dX10_readTable_423 : decode cX10_readTable 423 = .ok (.putfield 199, 3) := by decide +kernel
theorem dX10_readTable_426 : decode cX10_readTable 426 = .ok (.aload_n 0, 1) := by decide +kernel
theorem dX10_readTable_427 : decode cX10_readTable 427 = .ok (.bipush 59, 2) := by decide +kernel
theorem dX10_readTable_429 : decode cX10_readTable 429 = .ok (.invokevirtual 241, 3) := by decide +kernel
theorem dX10_readTable_432 : decode cX10_readTable 432 = .ok (.pop, 1) := by decide +kernel
theorem dX10_readTable_433 : decode cX10_readTable 433 = .ok (.aload_n 0, 1) := by decide +kernel
theorem dX10_readTable_434 : decode cX10_readTable 434 = .ok (.dup, 1) := by decide +kernel
theorem dX10_readTable_435 : decode cX10_readTable 435 = .ok (.getfield 212, 3) := by decide +kernel
theorem dX10_readTable_438 : decode cX10_readTable 438 = .ok (.iconst 1, 1) := by decide +kernel
theorem dX10_readTable_439 : decode cX10_readTable 439 = .ok (.iadd, 1) := by decide +kernel
theorem dX10_readTable_440 : decode cX10_readTable 440 = .ok (.putfield 212, 3) := by decide +kernel
theorem dX10_readTable_443 : decode cX10_readTable 443 = .ok (.return_, 1) := by decide +kernel
theorem dX10_tableOf_0 : decode cX10_tableOf 0 = .ok (.iconst 0, 1) := by decide +kernel
theorem dX10_tableOf_1 : decode cX10_tableOf 1 = .ok (.istore 4, 2) := by decide +kernel
theorem dX10_tableOf_3 : decode cX10_tableOf 3 = .ok (.iload 4, 2) := by decide +kernel
theorem dX10_tableOf_5 : decode cX10_tableOf 5 = .ok (.iload_n 3, 1) := by decide +kernel
theorem dX10_tableOf_6 : decode cX10_tableOf 6 = .ok (.if_icmp .ge 24, 3) := by decide +kernel
theorem dX10_tableOf_9 : decode cX10_tableOf 9 = .ok (.aload_n 0, 1) := by decide +kernel
theorem dX10_tableOf_10 : decode cX10_tableOf 10 = .ok (.getfield 24, 3) := by decide +kernel
theorem dX10_tableOf_13 : decode cX10_tableOf 13 = .ok (.iload 4, 2) := by decide +kernel
theorem dX10_tableOf_15 : decode cX10_tableOf 15 = .ok (.laload, 1) := by decide +kernel
theorem dX10_tableOf_16 : decode cX10_tableOf 16 = .ok (.lload_n 1, 1) := by decide +kernel
theorem dX10_tableOf_17 : decode cX10_tableOf 17 = .ok (.lcmp, 1) := by decide +kernel
theorem dX10_tableOf_18 : decode cX10_tableOf 18 = .ok (.ifCond .ne 6, 3) := by decide +kernel
theorem dX10_tableOf_21 : decode cX10_tableOf 21 = .ok (.iload 4, 2) := by decide +kernel
theorem dX10_tableOf_23 : decode cX10_tableOf 23 = .ok (.ireturn, 1) := by decide +kernel
theorem dX10_tableOf_24 : decode cX10_tableOf 24 = .ok (.iinc 4 1, 3) := by decide +kernel
theorem dX10_tableOf_27 : decode cX10_tableOf 27 = .ok (.goto (-24), 3) := by decide +kernel
theorem dX10_tableOf_30 : decode cX10_tableOf 30 = .ok (.bipush (-9), 2) := by decide +kernel
theorem dX10_tableOf_32 : decode cX10_tableOf 32 = .ok (.ireturn, 1) := by decide +kernel
theorem dX10_checkNames_0 : decode cX10_checkNames 0 = .ok (.sipush 9999, 3) := by decide +kernel
theorem dX10_checkNames_3 : decode cX10_checkNames 3 = .ok (.istore_n 1, 1) := by decide +kernel
theorem dX10_checkNames_4 : decode cX10_checkNames 4 = .ok (.iconst 0, 1) := by decide +kernel
theorem dX10_checkNames_5 : decode cX10_checkNames 5 = .ok (.istore_n 2, 1) := by decide +kernel
theorem dX10_checkNames_6 : decode cX10_checkNames 6 = .ok (.iload_n 2, 1) := by decide +kernel
theorem dX10_checkNames_7 : decode cX10_checkNames 7 = .ok (.aload_n 0, 1) := by decide +kernel
theorem dX10_checkNames_8 : decode cX10_checkNames 8 = .ok (.getfield 212, 3) := by decide +kernel
theorem dX10_checkNames_11 : decode cX10_checkNames 11 = .ok (.if_icmp .ge 56, 3) := by decide +kernel
theorem dX10_checkNames_14 : decode cX10_checkNames 14 = .ok (.aload_n 0, 1) := by decide +kernel
theorem dX10_checkNames_15 : decode cX10_checkNames 15 = .ok (.aload_n 0, 1) := by decide +kernel
theorem dX10_checkNames_16 : decode cX10_checkNames 16 = .ok (.getfield 24, 3) := by decide +kernel
theorem dX10_checkNames_19 : decode cX10_checkNames 19 = .ok (.iload_n 2, 1) := by decide +kernel
theorem dX10_checkNames_20 : decode cX10_checkNames 20 = .ok (.laload, 1) := by decide +kernel
theorem dX10_checkNames_21 : decode cX10_checkNames 21 = .ok (.iload_n 2, 1) := by decide +kernel
theorem dX10_checkNames_22 : decode cX10_checkNames 22 = .ok (.invokevirtual 276, 3) := by decide +kernel
theorem dX10_checkNames_25 : decode cX10_checkNames 25 = .ok (.bipush (-9), 2) := by decide +kernel
theorem dX10_checkNames_27 : decode cX10_checkNames 27 = .ok (.if_icmp .eq 7, 3) := by decide +kernel
theorem dX10_checkNames_30 : decode cX10_checkNames 30 = .ok (.iconst 1, 1) := by decide +kernel
theorem dX10_checkNames_31 : decode cX10_checkNames 31 = .ok (.goto 4, 3) := by decide +kernel
theorem dX10_checkNames_34 : decode cX10_checkNames 34 = .ok (.iconst 0, 1) := by decide +kernel
theorem dX10_checkNames_35 : decode cX10_checkNames 35 = .ok (.istore_n 3, 1) := by decide +kernel
theorem dX10_checkNames_36 : decode cX10_checkNames 36 = .ok (.iload_n 3, 1) := by decide +kernel
theorem dX10_checkNames_37 : decode cX10_checkNames 37 = .ok (.ifCond .eq 22, 3) := by decide +kernel
theorem dX10_checkNames_40 : decode cX10_checkNames 40 = .ok (.aload_n 0, 1) := by decide +kernel
theorem dX10_checkNames_41 : decode cX10_checkNames 41 = .ok (.getfield 27, 3) := by decide +kernel
theorem dX10_checkNames_44 : decode cX10_checkNames 44 = .ok (.iload_n 2, 1) := by decide +kernel
theorem dX10_checkNames_45 : decode cX10_checkNames 45 = .ok (.iaload, 1) := by decide +kernel
theorem dX10_checkNames_46 : decode cX10_checkNames 46 = .ok (.iload_n 1, 1) := by decide +kernel
theorem dX10_checkNames_47 : decode cX10_checkNames 47 = .ok (.if_icmp .ge 12, 3) := by decide +kernel
theorem dX10_checkNames_50 : decode cX10_checkNames 50 = .ok (.aload_n 0, 1) := by decide +kernel
theorem dX10_checkNames_51 : decode cX10_checkNames 51 = .ok (.getfield 27, 3) := by decide +kernel
theorem dX10_checkNames_54 : decode cX10_checkNames 54 = .ok (.iload_n 2, 1) := by decide +kernel
theorem dX10_checkNames_55 : decode cX10_checkNames 55 = .ok (.iaload, 1) := by decide +kernel
theorem dX10_checkNames_56 : decode cX10_checkNames 56 = .ok (.goto 4, 3) := by decide +kernel
theorem dX10_checkNames_59 : decode cX10_checkNames 59 = .ok (.iload_n 1, 1) := by decide +kernel
theorem dX10_checkNames_60 : decode cX10_checkNames 60 = .ok (.istore_n 1, 1) := by decide +kernel
theorem dX10_checkNames_61 : decode cX10_checkNames 61 = .ok (.iinc 2 1, 3) := by decide +kernel
theorem dX10_checkNames_64 : decode cX10_checkNames 64 = .ok (.goto (-58), 3) := by decide +kernel
theorem dX10_checkNames_67 : decode cX10_checkNames 67 = .ok (.iconst 0, 1) := by decide +kernel
theorem dX10_checkNames_68 : decode cX10_checkNames 68 = .ok (.istore_n 2, 1) := by decide +kernel
theorem dX10_checkNames_69 : decode cX10_checkNames 69 = .ok (.iload_n 2, 1) := by decide +kernel
theorem dX10_checkNames_70 : decode cX10_checkNames 70 = .ok (.aload_n 0, 1) := by decide +kernel
theorem dX10_checkNames_71 : decode cX10_checkNames 71 = .ok (.getfield 209, 3) := by decide +kernel
theorem dX10_checkNames_74 : decode cX10_checkNames 74 = .ok (.if_icmp .ge 84, 3) := by decide +kernel
theorem dX10_checkNames_77 : decode cX10_checkNames 77 = .ok (.aload_n 0, 1) := by decide +kernel
theorem dX10_checkNames_78 : decode cX10_checkNames 78 = .ok (.aload_n 0, 1) := by decide +kernel
theorem dX10_checkNames_79 : decode cX10_checkNames 79 = .ok (.getfield 20, 3) := by decide +kernel
theorem dX10_checkNames_82 : decode cX10_checkNames 82 = .ok (.aload_n 0, 1) := by decide +kernel
theorem dX10_checkNames_83 : decode cX10_checkNames 83 = .ok (.getfield 58, 3) := by decide +kernel
theorem dX10_checkNames_86 : decode cX10_checkNames 86 = .ok (.iload_n 2, 1) := by decide +kernel
theorem dX10_checkNames_87 : decode cX10_checkNames 87 = .ok (.iaload, 1) := by decide +kernel
theorem dX10_checkNames_88 : decode cX10_checkNames 88 = .ok (.laload, 1) := by decide +kernel
theorem dX10_checkNames_89 : decode cX10_checkNames 89 = .ok (.aload_n 0, 1) := by decide +kernel
theorem dX10_checkNames_90 : decode cX10_checkNames 90 = .ok (.getfield 64, 3) := by decide +kernel
theorem dX10_checkNames_93 : decode cX10_checkNames 93 = .ok (.iload_n 2, 1) := by decide +kernel
theorem dX10_checkNames_94 : decode cX10_checkNames 94 = .ok (.baload, 1) := by decide +kernel
theorem dX10_checkNames_95 : decode cX10_checkNames 95 = .ok (.ifCond .eq 12, 3) := by decide +kernel
theorem dX10_checkNames_98 : decode cX10_checkNames 98 = .ok (.aload_n 0, 1) := by decide +kernel
theorem dX10_checkNames_99 : decode cX10_checkNames 99 = .ok (.getfield 61, 3) := by decide +kernel
theorem dX10_checkNames_102 : decode cX10_checkNames 102 = .ok (.iload_n 2, 1) := by decide +kernel
theorem dX10_checkNames_103 : decode cX10_checkNames 103 = .ok (.iaload, 1) := by decide +kernel
theorem dX10_checkNames_104 : decode cX10_checkNames 104 = .ok (.goto 7, 3) := by decide +kernel
theorem dX10_checkNames_107 : decode cX10_checkNames 107 = .ok (.aload_n 0, 1) := by decide +kernel
theorem dX10_checkNames_108 : decode cX10_checkNames 108 = .ok (.getfield 212, 3) := by decide +kernel
theorem dX10_checkNames_111 : decode cX10_checkNames 111 = .ok (.invokevirtual 276, 3) := by decide +kernel
theorem dX10_checkNames_114 : decode cX10_checkNames 114 = .ok (.istore_n 3, 1) := by decide +kernel
theorem dX10_checkNames_115 : decode cX10_checkNames 115 = .ok (.iload_n 3, 1) := by decide +kernel
theorem dX10_checkNames_116 : decode cX10_checkNames 116 = .ok (.bipush (-9), 2) := by decide +kernel
theorem dX10_checkNames_118 : decode cX10_checkNames 118 = .ok (.if_icmp .ne 32, 3) := by decide +kernel
theorem dX10_checkNames_121 : decode cX10_checkNames 121 = .ok (.aload_n 0, 1) := by decide +kernel
theorem dX10_checkNames_122 : decode cX10_checkNames 122 = .ok (.getfield 17, 3) := by decide +kernel
theorem dX10_checkNames_125 : decode cX10_checkNames 125 = .ok (.aload_n 0, 1) := by decide +kernel
theorem dX10_checkNames_126 : decode cX10_checkNames 126 = .ok (.getfield 58, 3) := by decide +kernel
theorem dX10_checkNames_129 : decode cX10_checkNames 129 = .ok (.iload_n 2, 1) := by decide +kernel
theorem dX10_checkNames_130 : decode cX10_checkNames 130 = .ok (.iaload, 1) := by decide +kernel
theorem dX10_checkNames_131 : decode cX10_checkNames 131 = .ok (.iaload, 1) := by decide +kernel
theorem dX10_checkNames_132 : decode cX10_checkNames 132 = .ok (.iload_n 1, 1) := by decide +kernel
theorem dX10_checkNames_133 : decode cX10_checkNames 133 = .ok (.if_icmp .ge 17, 3) := by decide +kernel
theorem dX10_checkNames_136 : decode cX10_checkNames 136 = .ok (.aload_n 0, 1) := by decide +kernel
theorem dX10_checkNames_137 : decode cX10_checkNames 137 = .ok (.getfield 17, 3) := by decide +kernel
theorem dX10_checkNames_140 : decode cX10_checkNames 140 = .ok (.aload_n 0, 1) := by decide +kernel
theorem dX10_checkNames_141 : decode cX10_checkNames 141 = .ok (.getfield 58, 3) := by decide +kernel
theorem dX10_checkNames_144 : decode cX10_checkNames 144 = .ok (.iload_n 2, 1) := by decide +kernel
theorem dX10_checkNames_145 : decode cX10_checkNames 145 = .ok (.iaload, 1) := by decide +kernel
theorem dX10_checkNames_146 : decode cX10_checkNames 146 = .ok (.iaload, 1) := by decide +kernel
theorem dX10_checkNames_147 : decode cX10_checkNames 147 = .ok (.goto 4, 3) := by decide +kernel
theorem dX10_checkNames_150 : decode cX10_checkNames 150 = .ok (.iload_n 1, 1) := by decide +kernel
theorem dX10_checkNames_151 : decode cX10_checkNames 151 = .ok (.istore_n 1, 1) := by decide +kernel
theorem dX10_checkNames_152 : decode cX10_checkNames 152 = .ok (.iinc 2 1, 3) := by decide +kernel
theorem dX10_checkNames_155 : decode cX10_checkNames 155 = .ok (.goto (-86), 3) := by decide +kernel
theorem dX10_checkNames_158 : decode cX10_checkNames 158 = .ok (.iload_n 1, 1) := by decide +kernel
theorem dX10_checkNames_159 : decode cX10_checkNames 159 = .ok (.sipush 9999, 3) := by decide +kernel
theorem dX10_checkNames_162 : decode cX10_checkNames 162 = .ok (.if_icmp .ge 17, 3) := by decide +kernel
theorem dX10_checkNames_165 : decode cX10_checkNames 165 = .ok (.aload_n 0, 1) := by decide +kernel
theorem dX10_checkNames_166 : decode cX10_checkNames 166 = .ok (.getfield 196, 3) := by decide +kernel
theorem dX10_checkNames_169 : decode cX10_checkNames 169 = .ok (.bipush (-9), 2) := by decide +kernel
theorem dX10_checkNames_171 : decode cX10_checkNames 171 = .ok (.if_icmp .ne 8, 3) := by decide +kernel
theorem dX10_checkNames_174 : decode cX10_checkNames 174 = .ok (.aload_n 0, 1) := by decide +kernel
theorem dX10_checkNames_175 : decode cX10_checkNames 175 = .ok (.iload_n 1, 1) := by decide +kernel
theorem dX10_checkNames_176 : decode cX10_checkNames 176 = .ok (.putfield 196, 3) := by decide +kernel
theorem dX10_checkNames_179 : decode cX10_checkNames 179 = .ok (.return_, 1) := by decide +kernel
theorem dX10_read_0 : decode cX10_read 0 = .ok (.aload_n 0, 1) := by decide +kernel
theorem dX10_read_1 : decode cX10_read 1 = .ok (.invokevirtual 280, 3) := by decide +kernel
theorem dX10_read_4 : decode cX10_read 4 = .ok (.aload_n 0, 1) := by decide +kernel
theorem dX10_read_5 : decode cX10_read 5 = .ok (.iconst 0, 1) := by decide +kernel
theorem dX10_read_6 : decode cX10_read 6 = .ok (.putfield 199, 3) := by decide +kernel
theorem dX10_read_9 : decode cX10_read 9 = .ok (.aload_n 0, 1) := by decide +kernel
theorem dX10_read_10 : decode cX10_read 10 = .ok (.bipush (-9), 2) := by decide +kernel
theorem dX10_read_12 : decode cX10_read 12 = .ok (.putfield 196, 3) := by decide +kernel
theorem dX10_read_15 : decode cX10_read 15 = .ok (.aload_n 0, 1) := by decide +kernel
theorem dX10_read_16 : decode cX10_read 16 = .ok (.iconst 0, 1) := by decide +kernel
theorem dX10_read_17 : decode cX10_read 17 = .ok (.putfield 212, 3) := by decide +kernel
theorem dX10_read_20 : decode cX10_read 20 = .ok (.aload_n 0, 1) := by decide +kernel
theorem dX10_read_21 : decode cX10_read 21 = .ok (.iconst 0, 1) := by decide +kernel
theorem dX10_read_22 : decode cX10_read 22 = .ok (.putfield 206, 3) := by decide +kernel
theorem dX10_read_25 : decode cX10_read 25 = .ok (.aload_n 0, 1) := by decide +kernel
theorem dX10_read_26 : decode cX10_read 26 = .ok (.iconst 0, 1) := by decide +kernel
theorem dX10_read_27 : decode cX10_read 27 = .ok (.putfield 215, 3) := by decide +kernel
theorem dX10_read_30 : decode cX10_read 30 = .ok (.aload_n 0, 1) := by decide +kernel
theorem dX10_read_31 : decode cX10_read 31 = .ok (.iconst 0, 1) := by decide +kernel
theorem dX10_read_32 : decode cX10_read 32 = .ok (.putfield 209, 3) := by decide +kernel
theorem dX10_read_35 : decode cX10_read 35 = .ok (.iconst 1, 1) := by decide +kernel
theorem dX10_read_36 : decode cX10_read 36 = .ok (.istore_n 1, 1) := by decide +kernel
theorem dX10_read_37 : decode cX10_read 37 = .ok (.iload_n 1, 1) := by decide +kernel
theorem dX10_read_38 : decode cX10_read 38 = .ok (.ifCond .eq 37, 3) := by decide +kernel
theorem dX10_read_41 : decode cX10_read 41 = .ok (.aload_n 0, 1) := by decide +kernel
theorem dX10_read_42 : decode cX10_read 42 = .ok (.getfield 196, 3) := by decide +kernel
theorem dX10_read_45 : decode cX10_read 45 = .ok (.bipush (-9), 2) := by decide +kernel
theorem dX10_read_47 : decode cX10_read 47 = .ok (.if_icmp .ne 28, 3) := by decide +kernel
theorem dX10_read_50 : decode cX10_read 50 = .ok (.aload_n 0, 1) := by decide +kernel
theorem dX10_read_51 : decode cX10_read 51 = .ok (.invokevirtual 283, 3) := by decide +kernel
theorem dX10_read_54 : decode cX10_read 54 = .ok (.aload_n 0, 1) := by decide +kernel
theorem dX10_read_55 : decode cX10_read 55 = .ok (.getfield 13, 3) := by decide +kernel
theorem dX10_read_58 : decode cX10_read 58 = .ok (.aload_n 0, 1) := by decide +kernel
theorem dX10_read_59 : decode cX10_read 59 = .ok (.getfield 199, 3) := by decide +kernel
theorem dX10_read_62 : decode cX10_read 62 = .ok (.iaload, 1) := by decide +kernel
theorem dX10_read_63 : decode cX10_read 63 = .ok (.ifCond .eq 7, 3) := by decide +kernel
theorem dX10_read_66 : decode cX10_read 66 = .ok (.iconst 1, 1) := by decide +kernel
theorem dX10_read_67 : decode cX10_read 67 = .ok (.goto 4, 3) := by decide +kernel
theorem dX10_read_70 : decode cX10_read 70 = .ok (.iconst 0, 1) := by decide +kernel
theorem dX10_read_71 : decode cX10_read 71 = .ok (.istore_n 1, 1) := by decide +kernel
theorem dX10_read_72 : decode cX10_read 72 = .ok (.goto (-35), 3) := by decide +kernel
theorem dX10_read_75 : decode cX10_read 75 = .ok (.aload_n 0, 1) := by decide +kernel
theorem dX10_read_76 : decode cX10_read 76 = .ok (.getfield 196, 3) := by decide +kernel
theorem dX10_read_79 : decode cX10_read 79 = .ok (.bipush (-9), 2) := by decide +kernel
theorem dX10_read_81 : decode cX10_read 81 = .ok (.if_icmp .ne 7, 3) := by decide +kernel
theorem dX10_read_84 : decode cX10_read 84 = .ok (.aload_n 0, 1) := by decide +kernel
theorem dX10_read_85 : decode cX10_read 85 = .ok (.invokevirtual 286, 3) := by decide +kernel
theorem dX10_read_88 : decode cX10_read 88 = .ok (.aload_n 0, 1) := by decide +kernel
theorem dX10_read_89 : decode cX10_read 89 = .ok (.getfield 196, 3) := by decide +kernel
theorem dX10_read_92 : decode cX10_read 92 = .ok (.bipush (-9), 2) := by decide +kernel
theorem dX10_read_94 : decode cX10_read 94 = .ok (.if_icmp .eq 11, 3) := by decide +kernel
theorem dX10_read_97 : decode cX10_read 97 = .ok (.bipush (-100), 2) := by decide +kernel
theorem dX10_read_99 : decode cX10_read 99 = .ok (.aload_n 0, 1) := by decide +kernel
theorem dX10_read_100 : decode cX10_read 100 = .ok (.getfield 196, 3) := by decide +kernel
theorem dX10_read_103 : decode cX10_read 103 = .ok (.isub, 1) := by decide +kernel
theorem dX10_read_104 : decode cX10_read 104 = .ok (.ireturn, 1) := by decide +kernel
theorem dX10_read_105 : decode cX10_read 105 = .ok (.aload_n 0, 1) := by decide +kernel
theorem dX10_read_106 : decode cX10_read 106 = .ok (.aload_n 0, 1) := by decide +kernel
theorem dX10_read_107 : decode cX10_read 107 = .ok (.getfield 212, 3) := by decide +kernel
theorem dX10_read_110 : decode cX10_read 110 = .ok (.putfield 289, 3) := by decide +kernel
theorem dX10_read_113 : decode cX10_read 113 = .ok (.iconst 0, 1) := by decide +kernel
theorem dX10_read_114 : decode cX10_read 114 = .ok (.istore_n 2, 1) := by decide +kernel
theorem dX10_read_115 : decode cX10_read 115 = .ok (.iload_n 2, 1) := by decide +kernel
theorem dX10_read_116 : decode cX10_read 116 = .ok (.aload_n 0, 1) := by decide +kernel
theorem dX10_read_117 : decode cX10_read 117 = .ok (.getfield 212, 3) := by decide +kernel
theorem dX10_read_120 : decode cX10_read 120 = .ok (.if_icmp .ge 87, 3) := by decide +kernel
theorem dX10_read_123 : decode cX10_read 123 = .ok (.aload_n 0, 1) := by decide +kernel
theorem dX10_read_124 : decode cX10_read 124 = .ok (.getfield 76, 3) := by decide +kernel
theorem dX10_read_127 : decode cX10_read 127 = .ok (.iload_n 2, 1) := by decide +kernel
theorem dX10_read_128 : decode cX10_read 128 = .ok (.aload_n 0, 1) := by decide +kernel
theorem dX10_read_129 : decode cX10_read 129 = .ok (.getfield 24, 3) := by decide +kernel
theorem dX10_read_132 : decode cX10_read 132 = .ok (.iload_n 2, 1) := by decide +kernel
theorem dX10_read_133 : decode cX10_read 133 = .ok (.laload, 1) := by decide +kernel
theorem dX10_read_134 : decode cX10_read 134 = .ok (.lastore, 1) := by decide +kernel
theorem dX10_read_135 : decode cX10_read 135 = .ok (.aload_n 0, 1) := by decide +kernel
theorem dX10_read_136 : decode cX10_read 136 = .ok (.getfield 79, 3) := by decide +kernel
theorem dX10_read_139 : decode cX10_read 139 = .ok (.iload_n 2, 1) := by decide +kernel
theorem dX10_read_140 : decode cX10_read 140 = .ok (.aload_n 0, 1) := by decide +kernel
theorem dX10_read_141 : decode cX10_read 141 = .ok (.getfield 30, 3) := by decide +kernel
theorem dX10_read_144 : decode cX10_read 144 = .ok (.iload_n 2, 1) := by decide +kernel
theorem dX10_read_145 : decode cX10_read 145 = .ok (.baload, 1) := by decide +kernel
theorem dX10_read_146 : decode cX10_read 146 = .ok (.bastore, 1) := by decide +kernel
theorem dX10_read_147 : decode cX10_read 147 = .ok (.aload_n 0, 1) := by decide +kernel
theorem dX10_read_148 : decode cX10_read 148 = .ok (.getfield 82, 3) := by decide +kernel
theorem dX10_read_151 : decode cX10_read 151 = .ok (.iload_n 2, 1) := by decide +kernel
theorem dX10_read_152 : decode cX10_read 152 = .ok (.aload_n 0, 1) := by decide +kernel
theorem dX10_read_153 : decode cX10_read 153 = .ok (.getfield 34, 3) := by decide +kernel
theorem dX10_read_156 : decode cX10_read 156 = .ok (.iload_n 2, 1) := by decide +kernel
theorem dX10_read_157 : decode cX10_read 157 = .ok (.baload, 1) := by decide +kernel
theorem dX10_read_158 : decode cX10_read 158 = .ok (.bastore, 1) := by decide +kernel
theorem dX10_read_159 : decode cX10_read 159 = .ok (.aload_n 0, 1) := by decide +kernel
theorem dX10_read_160 : decode cX10_read 160 = .ok (.getfield 85, 3) := by decide +kernel
theorem dX10_read_163 : decode cX10_read 163 = .ok (.iload_n 2, 1) := by decide +kernel
theorem dX10_read_164 : decode cX10_read 164 = .ok (.aload_n 0, 1) := by decide +kernel
theorem dX10_read_165 : decode cX10_read 165 = .ok (.getfield 37, 3) := by decide +kernel
theorem dX10_read_168 : decode cX10_read 168 = .ok (.iload_n 2, 1) := by decide +kernel
theorem dX10_read_169 : decode cX10_read 169 = .ok (.laload, 1) := by decide +kernel
theorem dX10_read_170 : decode cX10_read 170 = .ok (.lastore, 1) := by decide +kernel
theorem dX10_read_171 : decode cX10_read 171 = .ok (.aload_n 0, 1) := by decide +kernel
theorem dX10_read_172 : decode cX10_read 172 = .ok (.getfield 91, 3) := by decide +kernel
theorem dX10_read_175 : decode cX10_read 175 = .ok (.iload_n 2, 1) := by decide +kernel
theorem dX10_read_176 : decode cX10_read 176 = .ok (.aload_n 0, 1) := by decide +kernel
theorem dX10_read_177 : decode cX10_read 177 = .ok (.getfield 40, 3) := by decide +kernel
theorem dX10_read_180 : decode cX10_read 180 = .ok (.iload_n 2, 1) := by decide +kernel
theorem dX10_read_181 : decode cX10_read 181 = .ok (.iaload, 1) := by decide +kernel
theorem dX10_read_182 : decode cX10_read 182 = .ok (.iastore, 1) := by decide +kernel
theorem dX10_read_183 : decode cX10_read 183 = .ok (.aload_n 0, 1) := by decide +kernel
theorem dX10_read_184 : decode cX10_read 184 = .ok (.getfield 88, 3) := by decide +kernel
theorem dX10_read_187 : decode cX10_read 187 = .ok (.iload_n 2, 1) := by decide +kernel
theorem dX10_read_188 : decode cX10_read 188 = .ok (.aload_n 0, 1) := by decide +kernel
theorem dX10_read_189 : decode cX10_read 189 = .ok (.iload_n 2, 1) := by decide +kernel
theorem dX10_read_190 : decode cX10_read 190 = .ok (.invokevirtual 292, 3) := by decide +kernel
theorem dX10_read_193 : decode cX10_read 193 = .ok (.lastore, 1) := by decide +kernel
theorem dX10_read_194 : decode cX10_read 194 = .ok (.aload_n 0, 1) := by decide +kernel
theorem dX10_read_195 : decode cX10_read 195 = .ok (.getfield 100, 3) := by decide +kernel
theorem dX10_read_198 : decode cX10_read 198 = .ok (.iload_n 2, 1) := by decide +kernel
theorem dX10_read_199 : decode cX10_read 199 = .ok (.iconst 0, 1) := by decide +kernel
theorem dX10_read_200 : decode cX10_read 200 = .ok (.iastore, 1) := by decide +kernel
theorem dX10_read_201 : decode cX10_read 201 = .ok (.iinc 2 1, 3) := by decide +kernel
theorem dX10_read_204 : decode cX10_read 204 = .ok (.goto (-89), 3) := by decide +kernel
theorem dX10_read_207 : decode cX10_read 207 = .ok (.aload_n 0, 1) := by decide +kernel
theorem dX10_read_208 : decode cX10_read 208 = .ok (.getfield 91, 3) := by decide +kernel
theorem dX10_read_211 : decode cX10_read 211 = .ok (.aload_n 0, 1) := by decide +kernel
theorem dX10_read_212 : decode cX10_read 212 = .ok (.getfield 212, 3) := by decide +kernel
theorem dX10_read_215 : decode cX10_read 215 = .ok (.aload_n 0, 1) := by decide +kernel
theorem dX10_read_216 : decode cX10_read 216 = .ok (.getfield 206, 3) := by decide +kernel
theorem dX10_read_219 : decode cX10_read 219 = .ok (.iastore, 1) := by decide +kernel
theorem dX10_read_220 : decode cX10_read 220 = .ok (.iconst 0, 1) := by decide +kernel
theorem dX10_read_221 : decode cX10_read 221 = .ok (.istore_n 2, 1) := by decide +kernel
theorem dX10_read_222 : decode cX10_read 222 = .ok (.iload_n 2, 1) := by decide +kernel
theorem dX10_read_223 : decode cX10_read 223 = .ok (.aload_n 0, 1) := by decide +kernel
theorem dX10_read_224 : decode cX10_read 224 = .ok (.getfield 206, 3) := by decide +kernel
theorem dX10_read_227 : decode cX10_read 227 = .ok (.if_icmp .ge 87, 3) := by decide +kernel
theorem dX10_read_230 : decode cX10_read 230 = .ok (.aload_n 0, 1) := by decide +kernel
theorem dX10_read_231 : decode cX10_read 231 = .ok (.getfield 46, 3) := by decide +kernel
theorem dX10_read_234 : decode cX10_read 234 = .ok (.iload_n 2, 1) := by decide +kernel
theorem dX10_read_235 : decode cX10_read 235 = .ok (.iaload, 1) := by decide +kernel
theorem dX10_read_236 : decode cX10_read 236 = .ok (.iconst 3, 1) := by decide +kernel
theorem dX10_read_237 : decode cX10_read 237 = .ok (.if_icmp .eq 13, 3) := by decide +kernel
theorem dX10_read_240 : decode cX10_read 240 = .ok (.aload_n 0, 1) := by decide +kernel
theorem dX10_read_241 : decode cX10_read 241 = .ok (.getfield 46, 3) := by decide +kernel
theorem dX10_read_244 : decode cX10_read 244 = .ok (.iload_n 2, 1) := by decide +kernel
theorem dX10_read_245 : decode cX10_read 245 = .ok (.iaload, 1) := by decide +kernel
theorem dX10_read_246 : decode cX10_read 246 = .ok (.iconst 4, 1) := by decide +kernel
theorem dX10_read_247 : decode cX10_read 247 = .ok (.if_icmp .ne 7, 3) := by decide +kernel
theorem dX10_read_250 : decode cX10_read 250 = .ok (.iconst 1, 1) := by decide +kernel
theorem dX10_read_251 : decode cX10_read 251 = .ok (.goto 4, 3) := by decide +kernel
theorem dX10_read_254 : decode cX10_read 254 = .ok (.iconst 0, 1) := by decide +kernel
theorem dX10_read_255 : decode cX10_read 255 = .ok (.istore_n 3, 1) := by decide +kernel
theorem dX10_read_256 : decode cX10_read 256 = .ok (.aload_n 0, 1) := by decide +kernel
theorem dX10_read_257 : decode cX10_read 257 = .ok (.getfield 94, 3) := by decide +kernel
theorem dX10_read_260 : decode cX10_read 260 = .ok (.iload_n 2, 1) := by decide +kernel
theorem dX10_read_261 : decode cX10_read 261 = .ok (.aload_n 0, 1) := by decide +kernel
theorem dX10_read_262 : decode cX10_read 262 = .ok (.getfield 46, 3) := by decide +kernel
theorem dX10_read_265 : decode cX10_read 265 = .ok (.iload_n 2, 1) := by decide +kernel
theorem dX10_read_266 : decode cX10_read 266 = .ok (.iaload, 1) := by decide +kernel
theorem dX10_read_267 : decode cX10_read 267 = .ok (.iastore, 1) := by decide +kernel
theorem dX10_read_268 : decode cX10_read 268 = .ok (.aload_n 0, 1) := by decide +kernel
theorem dX10_read_269 : decode cX10_read 269 = .ok (.getfield 97, 3) := by decide +kernel
theorem dX10_read_272 : decode cX10_read 272 = .ok (.iload_n 2, 1) := by decide +kernel
theorem dX10_read_273 : decode cX10_read 273 = .ok (.iload_n 3, 1) := by decide +kernel
theorem dX10_read_274 : decode cX10_read 274 = .ok (.ifCond .eq 27, 3) := by decide +kernel
theorem dX10_read_277 : decode cX10_read 277 = .ok (.aload_n 0, 1) := by decide +kernel
theorem dX10_read_278 : decode cX10_read 278 = .ok (.aload_n 0, 1) := by decide +kernel
theorem dX10_read_279 : decode cX10_read 279 = .ok (.getfield 20, 3) := by decide +kernel
theorem dX10_read_282 : decode cX10_read 282 = .ok (.aload_n 0, 1) := by decide +kernel
theorem dX10_read_283 : decode cX10_read 283 = .ok (.getfield 49, 3) := by decide +kernel
theorem dX10_read_286 : decode cX10_read 286 = .ok (.iload_n 2, 1) := by decide +kernel
theorem dX10_read_287 : decode cX10_read 287 = .ok (.laload, 1) := by decide +kernel
theorem dX10_read_288 : decode cX10_read 288 = .ok (.l2i, 1) := by decide +kernel
theorem dX10_read_289 : decode cX10_read 289 = .ok (.laload, 1) := by decide +kernel
theorem dX10_read_290 : decode cX10_read 290 = .ok (.aload_n 0, 1) := by decide +kernel
theorem dX10_read_291 : decode cX10_read 291 = .ok (.getfield 212, 3) := by decide +kernel
theorem dX10_read_294 : decode cX10_read 294 = .ok (.invokevirtual 276, 3) := by decide +kernel
theorem dX10_read_297 : decode cX10_read 297 = .ok (.i2l, 1) := by decide +kernel
theorem dX10_read_298 : decode cX10_read 298 = .ok (.goto 9, 3) := by decide +kernel
theorem dX10_read_301 : decode cX10_read 301 = .ok (.aload_n 0, 1) := by decide +kernel
theorem dX10_read_302 : decode cX10_read 302 = .ok (.getfield 49, 3) := by decide +kernel
theorem dX10_read_305 : decode cX10_read 305 = .ok (.iload_n 2, 1) := by decide +kernel
theorem dX10_read_306 : decode cX10_read 306 = .ok (.laload, 1) := by decide +kernel
theorem dX10_read_307 : decode cX10_read 307 = .ok (.lastore, 1) := by decide +kernel
theorem dX10_read_308 : decode cX10_read 308 = .ok (.iinc 2 1, 3) := by decide +kernel
theorem dX10_read_311 : decode cX10_read 311 = .ok (.goto (-89), 3) := by decide +kernel
theorem dX10_read_314 : decode cX10_read 314 = .ok (.aload_n 0, 1) := by decide +kernel
theorem dX10_read_315 : decode cX10_read 315 = .ok (.iconst 0, 1) := by decide +kernel
theorem dX10_read_316 : decode cX10_read 316 = .ok (.putfield 296, 3) := by decide +kernel
theorem dX10_read_319 : decode cX10_read 319 = .ok (.aload_n 0, 1) := by decide +kernel
theorem dX10_read_320 : decode cX10_read 320 = .ok (.iconst 0, 1) := by decide +kernel
theorem dX10_read_321 : decode cX10_read 321 = .ok (.putfield 299, 3) := by decide +kernel
theorem dX10_read_324 : decode cX10_read 324 = .ok (.aload_n 0, 1) := by decide +kernel
theorem dX10_read_325 : decode cX10_read 325 = .ok (.iconst 0, 1) := by decide +kernel
theorem dX10_read_326 : decode cX10_read 326 = .ok (.putfield 302, 3) := by decide +kernel
theorem dX10_read_329 : decode cX10_read 329 = .ok (.aload_n 0, 1) := by decide +kernel
theorem dX10_read_330 : decode cX10_read 330 = .ok (.iconst 0, 1) := by decide +kernel
theorem dX10_read_331 : decode cX10_read 331 = .ok (.putfield 153, 3) := by decide +kernel
theorem dX10_read_334 : decode cX10_read 334 = .ok (.aload_n 0, 1) := by decide +kernel
theorem dX10_read_335 : decode cX10_read 335 = .ok (.getfield 289, 3) := by decide +kernel
theorem dX10_read_338 : decode cX10_read 338 = .ok (.ireturn, 1) := by decide +kernel
theorem dX10_sizeOf_0 : decode cX10_sizeOf 0 = .ok (.lconst 0, 1) := by decide +kernel
theorem dX10_sizeOf_1 : decode cX10_sizeOf 1 = .ok (.lstore_n 2, 1) := by decide +kernel
theorem dX10_sizeOf_2 : decode cX10_sizeOf 2 = .ok (.aload_n 0, 1) := by decide +kernel
theorem dX10_sizeOf_3 : decode cX10_sizeOf 3 = .ok (.getfield 43, 3) := by decide +kernel
theorem dX10_sizeOf_6 : decode cX10_sizeOf 6 = .ok (.iload_n 1, 1) := by decide +kernel
theorem dX10_sizeOf_7 : decode cX10_sizeOf 7 = .ok (.iaload, 1) := by decide +kernel
theorem dX10_sizeOf_8 : decode cX10_sizeOf 8 = .ok (.istore 4, 2) := by decide +kernel
theorem dX10_sizeOf_10 : decode cX10_sizeOf 10 = .ok (.iload 4, 2) := by decide +kernel
theorem dX10_sizeOf_12 : decode cX10_sizeOf 12 = .ok (.aload_n 0, 1) := by decide +kernel
theorem dX10_sizeOf_13 : decode cX10_sizeOf 13 = .ok (.getfield 43, 3) := by decide +kernel
theorem dX10_sizeOf_16 : decode cX10_sizeOf 16 = .ok (.iload_n 1, 1) := by decide +kernel
theorem dX10_sizeOf_17 : decode cX10_sizeOf 17 = .ok (.iconst 1, 1) := by decide +kernel
theorem dX10_sizeOf_18 : decode cX10_sizeOf 18 = .ok (.iadd, 1) := by decide +kernel
theorem dX10_sizeOf_19 : decode cX10_sizeOf 19 = .ok (.iaload, 1) := by decide +kernel
theorem dX10_sizeOf_20 : decode cX10_sizeOf 20 = .ok (.if_icmp .ge 103, 3) := by decide +kernel
theorem dX10_sizeOf_23 : decode cX10_sizeOf 23 = .ok (.aload_n 0, 1) := by decide +kernel
theorem dX10_sizeOf_24 : decode cX10_sizeOf 24 = .ok (.getfield 55, 3) := by decide +kernel
theorem dX10_sizeOf_27 : decode cX10_sizeOf 27 = .ok (.iload 4, 2) := by decide +kernel
theorem dX10_sizeOf_29 : decode cX10_sizeOf 29 = .ok (.laload, 1) := by decide +kernel
theorem dX10_sizeOf_30 : decode cX10_sizeOf 30 = .ok (.lconst 0, 1) := by decide +kernel
theorem dX10_sizeOf_31 : decode cX10_sizeOf 31 = .ok (.lcmp, 1) := by decide +kernel
theorem dX10_sizeOf_32 : decode cX10_sizeOf 32 = .ok (.ifCond .ge 33, 3) := by decide +kernel
theorem dX10_sizeOf_35 : decode cX10_sizeOf 35 = .ok (.aload_n 0, 1) := by decide +kernel
theorem dX10_sizeOf_36 : decode cX10_sizeOf 36 = .ok (.getfield 88, 3) := by decide +kernel
theorem dX10_sizeOf_39 : decode cX10_sizeOf 39 = .ok (.aload_n 0, 1) := by decide +kernel
theorem dX10_sizeOf_40 : decode cX10_sizeOf 40 = .ok (.aload_n 0, 1) := by decide +kernel
theorem dX10_sizeOf_41 : decode cX10_sizeOf 41 = .ok (.getfield 20, 3) := by decide +kernel
theorem dX10_sizeOf_44 : decode cX10_sizeOf 44 = .ok (.ldc2_w 222, 3) := by decide +kernel
theorem dX10_sizeOf_47 : decode cX10_sizeOf 47 = .ok (.aload_n 0, 1) := by decide +kernel
theorem dX10_sizeOf_48 : decode cX10_sizeOf 48 = .ok (.getfield 55, 3) := by decide +kernel
theorem dX10_sizeOf_51 : decode cX10_sizeOf 51 = .ok (.iload 4, 2) := by decide +kernel
theorem dX10_sizeOf_53 : decode cX10_sizeOf 53 = .ok (.laload, 1) := by decide +kernel
theorem dX10_sizeOf_54 : decode cX10_sizeOf 54 = .ok (.lsub, 1) := by decide +kernel
theorem dX10_sizeOf_55 : decode cX10_sizeOf 55 = .ok (.l2i, 1) := by decide +kernel
theorem dX10_sizeOf_56 : decode cX10_sizeOf 56 = .ok (.laload, 1) := by decide +kernel
theorem dX10_sizeOf_57 : decode cX10_sizeOf 57 = .ok (.iload_n 1, 1) := by decide +kernel
theorem dX10_sizeOf_58 : decode cX10_sizeOf 58 = .ok (.invokevirtual 276, 3) := by decide +kernel
theorem dX10_sizeOf_61 : decode cX10_sizeOf 61 = .ok (.laload, 1) := by decide +kernel
theorem dX10_sizeOf_62 : decode cX10_sizeOf 62 = .ok (.goto 10, 3) := by decide +kernel
theorem dX10_sizeOf_65 : decode cX10_sizeOf 65 = .ok (.aload_n 0, 1) := by decide +kernel
theorem dX10_sizeOf_66 : decode cX10_sizeOf 66 = .ok (.getfield 55, 3) := by decide +kernel
theorem dX10_sizeOf_69 : decode cX10_sizeOf 69 = .ok (.iload 4, 2) := by decide +kernel
theorem dX10_sizeOf_71 : decode cX10_sizeOf 71 = .ok (.laload, 1) := by decide +kernel
theorem dX10_sizeOf_72 : decode cX10_sizeOf 72 = .ok (.lstore 5, 2) := by decide +kernel
theorem dX10_sizeOf_74 : decode cX10_sizeOf 74 = .ok (.aload_n 0, 1) := by decide +kernel
theorem dX10_sizeOf_75 : decode cX10_sizeOf 75 = .ok (.getfield 52, 3) := by decide +kernel
theorem dX10_sizeOf_78 : decode cX10_sizeOf 78 = .ok (.iload 4, 2) := by decide +kernel
theorem dX10_sizeOf_80 : decode cX10_sizeOf 80 = .ok (.iaload, 1) := by decide +kernel
theorem dX10_sizeOf_81 : decode cX10_sizeOf 81 = .ok (.bipush 43, 2) := by decide +kernel
theorem dX10_sizeOf_83 : decode cX10_sizeOf 83 = .ok (.if_icmp .ne 10, 3) := by decide +kernel
theorem dX10_sizeOf_86 : decode cX10_sizeOf 86 = .ok (.lload_n 2, 1) := by decide +kernel
theorem dX10_sizeOf_87 : decode cX10_sizeOf 87 = .ok (.lload 5, 2) := by decide +kernel
theorem dX10_sizeOf_89 : decode cX10_sizeOf 89 = .ok (.ladd, 1) := by decide +kernel
theorem dX10_sizeOf_90 : decode cX10_sizeOf 90 = .ok (.goto 26, 3) := by decide +kernel
theorem dX10_sizeOf_93 : decode cX10_sizeOf 93 = .ok (.aload_n 0, 1) := by decide +kernel
theorem dX10_sizeOf_94 : decode cX10_sizeOf 94 = .ok (.getfield 52, 3) := by decide +kernel
theorem dX10_sizeOf_97 : decode cX10_sizeOf 97 = .ok (.iload 4, 2) := by decide +kernel
theorem dX10_sizeOf_99 : decode cX10_sizeOf 99 = .ok (.iaload, 1) := by decide +kernel
theorem dX10_sizeOf_100 : decode cX10_sizeOf 100 = .ok (.bipush 45, 2) := by decide +kernel
theorem dX10_sizeOf_102 : decode cX10_sizeOf 102 = .ok (.if_icmp .ne 10, 3) := by decide +kernel
theorem dX10_sizeOf_105 : decode cX10_sizeOf 105 = .ok (.lload_n 2, 1) := by decide +kernel
theorem dX10_sizeOf_106 : decode cX10_sizeOf 106 = .ok (.lload 5, 2) := by decide +kernel
theorem dX10_sizeOf_108 : decode cX10_sizeOf 108 = .ok (.lsub, 1) := by decide +kernel
theorem dX10_sizeOf_109 : decode cX10_sizeOf 109 = .ok (.goto 7, 3) := by decide +kernel
theorem dX10_sizeOf_112 : decode cX10_sizeOf 112 = .ok (.lload_n 2, 1) := by decide +kernel
theorem dX10_sizeOf_113 : decode cX10_sizeOf 113 = .ok (.lload 5, 2) := by decide +kernel
theorem dX10_sizeOf_115 : decode cX10_sizeOf 115 = .ok (.lmul, 1) := by decide +kernel
theorem dX10_sizeOf_116 : decode cX10_sizeOf 116 = .ok (.lstore_n 2, 1) := by decide +kernel
theorem dX10_sizeOf_117 : decode cX10_sizeOf 117 = .ok (.iinc 4 1, 3) := by decide +kernel
theorem dX10_sizeOf_120 : decode cX10_sizeOf 120 = .ok (.goto (-110), 3) := by decide +kernel
theorem dX10_sizeOf_123 : decode cX10_sizeOf 123 = .ok (.lload_n 2, 1) := by decide +kernel
theorem dX10_sizeOf_124 : decode cX10_sizeOf 124 = .ok (.lreturn, 1) := by decide +kernel
theorem dX10_named_0 : decode cX10_named 0 = .ok (.iconst 0, 1) := by decide +kernel
theorem dX10_named_1 : decode cX10_named 1 = .ok (.istore_n 3, 1) := by decide +kernel
theorem dX10_named_2 : decode cX10_named 2 = .ok (.iload_n 3, 1) := by decide +kernel
theorem dX10_named_3 : decode cX10_named 3 = .ok (.aload_n 0, 1) := by decide +kernel
theorem dX10_named_4 : decode cX10_named 4 = .ok (.getfield 289, 3) := by decide +kernel
theorem dX10_named_7 : decode cX10_named 7 = .ok (.if_icmp .ge 22, 3) := by decide +kernel
theorem dX10_named_10 : decode cX10_named 10 = .ok (.aload_n 0, 1) := by decide +kernel
theorem dX10_named_11 : decode cX10_named 11 = .ok (.getfield 76, 3) := by decide +kernel
theorem dX10_named_14 : decode cX10_named 14 = .ok (.iload_n 3, 1) := by decide +kernel
theorem dX10_named_15 : decode cX10_named 15 = .ok (.laload, 1) := by decide +kernel
theorem dX10_named_16 : decode cX10_named 16 = .ok (.lload_n 1, 1) := by decide +kernel
theorem dX10_named_17 : decode cX10_named 17 = .ok (.lcmp, 1) := by decide +kernel
theorem dX10_named_18 : decode cX10_named 18 = .ok (.ifCond .ne 5, 3) := by decide +kernel
theorem dX10_named_21 : decode cX10_named 21 = .ok (.iload_n 3, 1) := by decide +kernel
theorem dX10_named_22 : decode cX10_named 22 = .ok (.ireturn, 1) := by decide +kernel
theorem dX10_named_23 : decode cX10_named 23 = .ok (.iinc 3 1, 3) := by decide +kernel
theorem dX10_named_26 : decode cX10_named 26 = .ok (.goto (-24), 3) := by decide +kernel
theorem dX10_named_29 : decode cX10_named 29 = .ok (.bipush (-9), 2) := by decide +kernel
theorem dX10_named_31 : decode cX10_named 31 = .ok (.ireturn, 1) := by decide +kernel
theorem dX10_isTable_0 : decode cX10_isTable 0 = .ok (.iload_n 1, 1) := by decide +kernel
theorem dX10_isTable_1 : decode cX10_isTable 1 = .ok (.i2l, 1) := by decide +kernel
theorem dX10_isTable_2 : decode cX10_isTable 2 = .ok (.lconst 0, 1) := by decide +kernel
theorem dX10_isTable_3 : decode cX10_isTable 3 = .ok (.aload_n 0, 1) := by decide +kernel
theorem dX10_isTable_4 : decode cX10_isTable 4 = .ok (.getfield 289, 3) := by decide +kernel
theorem dX10_isTable_7 : decode cX10_isTable 7 = .ok (.iconst 1, 1) := by decide +kernel
theorem dX10_isTable_8 : decode cX10_isTable 8 = .ok (.isub, 1) := by decide +kernel
theorem dX10_isTable_9 : decode cX10_isTable 9 = .ok (.i2l, 1) := by decide +kernel
theorem dX10_isTable_10 : decode cX10_isTable 10 = .ok (.invokestatic 305, 3) := by decide +kernel
theorem dX10_isTable_13 : decode cX10_isTable 13 = .ok (.ireturn, 1) := by decide +kernel
theorem dX10_size_0 : decode cX10_size 0 = .ok (.aload_n 0, 1) := by decide +kernel
theorem dX10_size_1 : decode cX10_size 1 = .ok (.iload_n 1, 1) := by decide +kernel
theorem dX10_size_2 : decode cX10_size 2 = .ok (.invokevirtual 309, 3) := by decide +kernel
theorem dX10_size_5 : decode cX10_size 5 = .ok (.ifCond .eq 13, 3) := by decide +kernel
theorem dX10_size_8 : decode cX10_size 8 = .ok (.aload_n 0, 1) := by decide +kernel
theorem dX10_size_9 : decode cX10_size 9 = .ok (.getfield 88, 3) := by decide +kernel
theorem dX10_size_12 : decode cX10_size 12 = .ok (.iload_n 1, 1) := by decide +kernel
theorem dX10_size_13 : decode cX10_size 13 = .ok (.laload, 1) := by decide +kernel
theorem dX10_size_14 : decode cX10_size 14 = .ok (.l2i, 1) := by decide +kernel
theorem dX10_size_15 : decode cX10_size 15 = .ok (.goto 4, 3) := by decide +kernel
theorem dX10_size_18 : decode cX10_size 18 = .ok (.iconst (-1), 1) := by decide +kernel
theorem dX10_size_19 : decode cX10_size 19 = .ok (.ireturn, 1) := by decide +kernel
theorem dX10_state_0 : decode cX10_state 0 = .ok (.aload_n 0, 1) := by decide +kernel
theorem dX10_state_1 : decode cX10_state 1 = .ok (.iload_n 1, 1) := by decide +kernel
theorem dX10_state_2 : decode cX10_state 2 = .ok (.invokevirtual 309, 3) := by decide +kernel
theorem dX10_state_5 : decode cX10_state 5 = .ok (.ifCond .eq 12, 3) := by decide +kernel
theorem dX10_state_8 : decode cX10_state 8 = .ok (.aload_n 0, 1) := by decide +kernel
theorem dX10_state_9 : decode cX10_state 9 = .ok (.getfield 100, 3) := by decide +kernel
theorem dX10_state_12 : decode cX10_state 12 = .ok (.iload_n 1, 1) := by decide +kernel
theorem dX10_state_13 : decode cX10_state 13 = .ok (.iaload, 1) := by decide +kernel
theorem dX10_state_14 : decode cX10_state 14 = .ok (.goto 4, 3) := by decide +kernel
theorem dX10_state_17 : decode cX10_state 17 = .ok (.iconst (-1), 1) := by decide +kernel
theorem dX10_state_18 : decode cX10_state 18 = .ok (.ireturn, 1) := by decide +kernel
theorem dX10_row_0 : decode cX10_row 0 = .ok (.aload_n 0, 1) := by decide +kernel
theorem dX10_row_1 : decode cX10_row 1 = .ok (.iload_n 1, 1) := by decide +kernel
theorem dX10_row_2 : decode cX10_row 2 = .ok (.invokevirtual 309, 3) := by decide +kernel
theorem dX10_row_5 : decode cX10_row 5 = .ok (.ifCond .ne 5, 3) := by decide +kernel
theorem dX10_row_8 : decode cX10_row 8 = .ok (.iconst (-1), 1) := by decide +kernel
theorem dX10_row_9 : decode cX10_row 9 = .ok (.ireturn, 1) := by decide +kernel
theorem dX10_row_10 : decode cX10_row 10 = .ok (.aload_n 0, 1) := by decide +kernel
theorem dX10_row_11 : decode cX10_row 11 = .ok (.getfield 79, 3) := by decide +kernel
theorem dX10_row_14 : decode cX10_row 14 = .ok (.iload_n 1, 1) := by decide +kernel
theorem dX10_row_15 : decode cX10_row 15 = .ok (.baload, 1) := by decide +kernel
theorem dX10_row_16 : decode cX10_row 16 = .ok (.ifCond .ne 13, 3) := by decide +kernel
theorem dX10_row_19 : decode cX10_row 19 = .ok (.aload_n 0, 1) := by decide +kernel
theorem dX10_row_20 : decode cX10_row 20 = .ok (.getfield 100, 3) := by decide +kernel
theorem dX10_row_23 : decode cX10_row 23 = .ok (.iload_n 1, 1) := by decide +kernel
theorem dX10_row_24 : decode cX10_row 24 = .ok (.iaload, 1) := by decide +kernel
theorem dX10_row_25 : decode cX10_row 25 = .ok (.iconst 2, 1) := by decide +kernel
theorem dX10_row_26 : decode cX10_row 26 = .ok (.if_icmp .eq 6, 3) := by decide +kernel
theorem dX10_row_29 : decode cX10_row 29 = .ok (.bipush (-3), 2) := by decide +kernel
theorem dX10_row_31 : decode cX10_row 31 = .ok (.ireturn, 1) := by decide +kernel
theorem dX10_row_32 : decode cX10_row 32 = .ok (.iload_n 2, 1) := by decide +kernel
theorem dX10_row_33 : decode cX10_row 33 = .ok (.i2l, 1) := by decide +kernel
theorem dX10_row_34 : decode cX10_row 34 = .ok (.lconst 0, 1) := by decide +kernel
theorem dX10_row_35 : decode cX10_row 35 = .ok (.aload_n 0, 1) := by decide +kernel
theorem dX10_row_36 : decode cX10_row 36 = .ok (.iload_n 1, 1) := by decide +kernel
theorem dX10_row_37 : decode cX10_row 37 = .ok (.invokevirtual 312, 3) := by decide +kernel
theorem dX10_row_40 : decode cX10_row 40 = .ok (.iconst 1, 1) := by decide +kernel
theorem dX10_row_41 : decode cX10_row 41 = .ok (.isub, 1) := by decide +kernel
theorem dX10_row_42 : decode cX10_row 42 = .ok (.i2l, 1) := by decide +kernel
theorem dX10_row_43 : decode cX10_row 43 = .ok (.invokestatic 305, 3) := by decide +kernel
theorem dX10_row_46 : decode cX10_row 46 = .ok (.ifCond .eq 17, 3) := by decide +kernel
theorem dX10_row_49 : decode cX10_row 49 = .ok (.aload_n 0, 1) := by decide +kernel
theorem dX10_row_50 : decode cX10_row 50 = .ok (.getfield 103, 3) := by decide +kernel
theorem dX10_row_53 : decode cX10_row 53 = .ok (.bipush 25, 2) := by decide +kernel
theorem dX10_row_55 : decode cX10_row 55 = .ok (.iload_n 1, 1) := by decide +kernel
theorem dX10_row_56 : decode cX10_row 56 = .ok (.imul, 1) := by decide +kernel
theorem dX10_row_57 : decode cX10_row 57 = .ok (.iload_n 2, 1) := by decide +kernel
theorem dX10_row_58 : decode cX10_row 58 = .ok (.iadd, 1) := by decide +kernel
theorem dX10_row_59 : decode cX10_row 59 = .ok (.iaload, 1) := by decide +kernel
theorem dX10_row_60 : decode cX10_row 60 = .ok (.goto 5, 3) := by decide +kernel
theorem dX10_row_63 : decode cX10_row 63 = .ok (.bipush (-2), 2) := by decide +kernel
theorem dX10_row_65 : decode cX10_row 65 = .ok (.ireturn, 1) := by decide +kernel
theorem dX10_rowsOf_0 : decode cX10_rowsOf 0 = .ok (.aload_n 0, 1) := by decide +kernel
theorem dX10_rowsOf_1 : decode cX10_rowsOf 1 = .ok (.getfield 88, 3) := by decide +kernel
theorem dX10_rowsOf_4 : decode cX10_rowsOf 4 = .ok (.iload_n 1, 1) := by decide +kernel
theorem dX10_rowsOf_5 : decode cX10_rowsOf 5 = .ok (.laload, 1) := by decide +kernel
theorem dX10_rowsOf_6 : decode cX10_rowsOf 6 = .ok (.l2i, 1) := by decide +kernel
theorem dX10_rowsOf_7 : decode cX10_rowsOf 7 = .ok (.bipush 7, 2) := by decide +kernel
theorem dX10_rowsOf_9 : decode cX10_rowsOf 9 = .ok (.iadd, 1) := by decide +kernel
theorem dX10_rowsOf_10 : decode cX10_rowsOf 10 = .ok (.bipush 8, 2) := by decide +kernel
theorem dX10_rowsOf_12 : decode cX10_rowsOf 12 = .ok (.idiv, 1) := by decide +kernel
theorem dX10_rowsOf_13 : decode cX10_rowsOf 13 = .ok (.ireturn, 1) := by decide +kernel
theorem dX10_noteBuild_0 : decode cX10_noteBuild 0 = .ok (.aload_n 0, 1) := by decide +kernel
theorem dX10_noteBuild_1 : decode cX10_noteBuild 1 = .ok (.getfield 296, 3) := by decide +kernel
theorem dX10_noteBuild_4 : decode cX10_noteBuild 4 = .ok (.bipush 100, 2) := by decide +kernel
theorem dX10_noteBuild_6 : decode cX10_noteBuild 6 = .ok (.if_icmp .ge 33, 3) := by decide +kernel
theorem dX10_noteBuild_9 : decode cX10_noteBuild 9 = .ok (.aload_n 0, 1) := by decide +kernel
theorem dX10_noteBuild_10 : decode cX10_noteBuild 10 = .ok (.getfield 109, 3) := by decide +kernel
theorem dX10_noteBuild_13 : decode cX10_noteBuild 13 = .ok (.aload_n 0, 1) := by decide +kernel
theorem dX10_noteBuild_14 : decode cX10_noteBuild 14 = .ok (.getfield 296, 3) := by decide +kernel
theorem dX10_noteBuild_17 : decode cX10_noteBuild 17 = .ok (.iload_n 1, 1) := by decide +kernel
theorem dX10_noteBuild_18 : decode cX10_noteBuild 18 = .ok (.iastore, 1) := by decide +kernel
theorem dX10_noteBuild_19 : decode cX10_noteBuild 19 = .ok (.aload_n 0, 1) := by decide +kernel
theorem dX10_noteBuild_20 : decode cX10_noteBuild 20 = .ok (.getfield 112, 3) := by decide +kernel
theorem dX10_noteBuild_23 : decode cX10_noteBuild 23 = .ok (.aload_n 0, 1) := by decide +kernel
theorem dX10_noteBuild_24 : decode cX10_noteBuild 24 = .ok (.getfield 296, 3) := by decide +kernel
theorem dX10_noteBuild_27 : decode cX10_noteBuild 27 = .ok (.iload_n 2, 1) := by decide +kernel
theorem dX10_noteBuild_28 : decode cX10_noteBuild 28 = .ok (.iastore, 1) := by decide +kernel
theorem dX10_noteBuild_29 : decode cX10_noteBuild 29 = .ok (.aload_n 0, 1) := by decide +kernel
theorem dX10_noteBuild_30 : decode cX10_noteBuild 30 = .ok (.getfield 115, 3) := by decide +kernel
theorem dX10_noteBuild_33 : decode cX10_noteBuild 33 = .ok (.aload_n 0, 1) := by decide +kernel
theorem dX10_noteBuild_34 : decode cX10_noteBuild 34 = .ok (.getfield 296, 3) := by decide +kernel
theorem dX10_noteBuild_37 : decode cX10_noteBuild 37 = .ok (.iload_n 3, 1) := by decide +kernel
theorem dX10_noteBuild_38 : decode cX10_noteBuild 38 = .ok (.iastore, 1) := by decide +kernel
theorem dX10_noteBuild_39 : decode cX10_noteBuild 39 = .ok (.aload_n 0, 1) := by decide +kernel
theorem dX10_noteBuild_40 : decode cX10_noteBuild 40 = .ok (.dup, 1) := by decide +kernel
theorem dX10_noteBuild_41 : decode cX10_noteBuild 41 = .ok (.getfield 296, 3) := by decide +kernel
theorem dX10_noteBuild_44 : decode cX10_noteBuild 44 = .ok (.iconst 1, 1) := by decide +kernel
theorem dX10_noteBuild_45 : decode cX10_noteBuild 45 = .ok (.iadd, 1) := by decide +kernel
theorem dX10_noteBuild_46 : decode cX10_noteBuild 46 = .ok (.putfield 296, 3) := by decide +kernel
theorem dX10_noteBuild_49 : decode cX10_noteBuild 49 = .ok (.return_, 1) := by decide +kernel
theorem dX10_half_0 : decode cX10_half 0 = .ok (.aload_n 0, 1) := by decide +kernel
theorem dX10_half_1 : decode cX10_half 1 = .ok (.getfield 299, 3) := by decide +kernel
theorem dX10_half_4 : decode cX10_half 4 = .ok (.bipush 100, 2) := by decide +kernel
theorem dX10_half_6 : decode cX10_half 6 = .ok (.if_icmp .ge 44, 3) := by decide +kernel
theorem dX10_half_9 : decode cX10_half 9 = .ok (.aload_n 0, 1) := by decide +kernel
theorem dX10_half_10 : decode cX10_half 10 = .ok (.getfield 118, 3) := by decide +kernel
theorem dX10_half_13 : decode cX10_half 13 = .ok (.aload_n 0, 1) := by decide +kernel
theorem dX10_half_14 : decode cX10_half 14 = .ok (.getfield 299, 3) := by decide +kernel
theorem dX10_half_17 : decode cX10_half 17 = .ok (.iload_n 1, 1) := by decide +kernel
theorem dX10_half_18 : decode cX10_half 18 = .ok (.iastore, 1) := by decide +kernel
theorem dX10_half_19 : decode cX10_half 19 = .ok (.aload_n 0, 1) := by decide +kernel
theorem dX10_half_20 : decode cX10_half 20 = .ok (.getfield 121, 3) := by decide +kernel
theorem dX10_half_23 : decode cX10_half 23 = .ok (.aload_n 0, 1) := by decide +kernel
theorem dX10_half_24 : decode cX10_half 24 = .ok (.getfield 299, 3) := by decide +kernel
theorem dX10_half_27 : decode cX10_half 27 = .ok (.iload_n 2, 1) := by decide +kernel
theorem dX10_half_28 : decode cX10_half 28 = .ok (.iastore, 1) := by decide +kernel
theorem dX10_half_29 : decode cX10_half 29 = .ok (.aload_n 0, 1) := by decide +kernel
theorem dX10_half_30 : decode cX10_half 30 = .ok (.getfield 124, 3) := by decide +kernel
theorem dX10_half_33 : decode cX10_half 33 = .ok (.aload_n 0, 1) := by decide +kernel
theorem dX10_half_34 : decode cX10_half 34 = .ok (.getfield 299, 3) := by decide +kernel
theorem dX10_half_37 : decode cX10_half 37 = .ok (.iload_n 3, 1) := by decide +kernel
theorem dX10_half_38 : decode cX10_half 38 = .ok (.iastore, 1) := by decide +kernel
theorem dX10_half_39 : decode cX10_half 39 = .ok (.aload_n 0, 1) := by decide +kernel
theorem dX10_half_40 : decode cX10_half 40 = .ok (.getfield 127, 3) := by decide +kernel
theorem dX10_half_43 : decode cX10_half 43 = .ok (.aload_n 0, 1) := by decide +kernel
theorem dX10_half_44 : decode cX10_half 44 = .ok (.getfield 299, 3) := by decide +kernel
theorem dX10_half_47 : decode cX10_half 47 = .ok (.lload 4, 2) := by decide +kernel
theorem dX10_half_49 : decode cX10_half 49 = .ok (.lastore, 1) := by decide +kernel
theorem dX10_half_50 : decode cX10_half 50 = .ok (.aload_n 0, 1) := by decide +kernel
theorem dX10_half_51 : decode cX10_half 51 = .ok (.dup, 1) := by decide +kernel
theorem dX10_half_52 : decode cX10_half 52 = .ok (.getfield 299, 3) := by decide +kernel
theorem dX10_half_55 : decode cX10_half 55 = .ok (.iconst 1, 1) := by decide +kernel
theorem dX10_half_56 : decode cX10_half 56 = .ok (.iadd, 1) := by decide +kernel
theorem dX10_half_57 : decode cX10_half 57 = .ok (.putfield 299, 3) := by decide +kernel
theorem dX10_half_60 : decode cX10_half 60 = .ok (.lload 4, 2) := by decide +kernel
theorem dX10_half_62 : decode cX10_half 62 = .ok (.lreturn, 1) := by decide +kernel
theorem dX10_begin_0 : decode cX10_begin 0 = .ok (.aload_n 0, 1) := by decide +kernel
theorem dX10_begin_1 : decode cX10_begin 1 = .ok (.getfield 315, 3) := by decide +kernel
theorem dX10_begin_4 : decode cX10_begin 4 = .ok (.bipush 12, 2) := by decide +kernel
theorem dX10_begin_6 : decode cX10_begin 6 = .ok (.if_icmp .ne 6, 3) := by decide +kernel
theorem dX10_begin_9 : decode cX10_begin 9 = .ok (.bipush 8, 2) := by decide +kernel
theorem dX10_begin_11 : decode cX10_begin 11 = .ok (.ireturn, 1) := by decide +kernel
theorem dX10_begin_12 : decode cX10_begin 12 = .ok (.aload_n 0, 1) := by decide +kernel
theorem dX10_begin_13 : decode cX10_begin 13 = .ok (.iload_n 1, 1) := by decide +kernel
theorem dX10_begin_14 : decode cX10_begin 14 = .ok (.iload_n 2, 1) := by decide +kernel
theorem dX10_begin_15 : decode cX10_begin 15 = .ok (.iload_n 3, 1) := by decide +kernel
theorem dX10_begin_16 : decode cX10_begin 16 = .ok (.invokevirtual 318, 3) := by decide +kernel
theorem dX10_begin_19 : decode cX10_begin 19 = .ok (.aload_n 0, 1) := by decide +kernel
theorem dX10_begin_20 : decode cX10_begin 20 = .ok (.getfield 130, 3) := by decide +kernel
theorem dX10_begin_23 : decode cX10_begin 23 = .ok (.aload_n 0, 1) := by decide +kernel
theorem dX10_begin_24 : decode cX10_begin 24 = .ok (.getfield 315, 3) := by decide +kernel
theorem dX10_begin_27 : decode cX10_begin 27 = .ok (.iload_n 1, 1) := by decide +kernel
theorem dX10_begin_28 : decode cX10_begin 28 = .ok (.iastore, 1) := by decide +kernel
theorem dX10_begin_29 : decode cX10_begin 29 = .ok (.aload_n 0, 1) := by decide +kernel
theorem dX10_begin_30 : decode cX10_begin 30 = .ok (.getfield 133, 3) := by decide +kernel
theorem dX10_begin_33 : decode cX10_begin 33 = .ok (.aload_n 0, 1) := by decide +kernel
theorem dX10_begin_34 : decode cX10_begin 34 = .ok (.getfield 315, 3) := by decide +kernel
theorem dX10_begin_37 : decode cX10_begin 37 = .ok (.iload_n 2, 1) := by decide +kernel
theorem dX10_begin_38 : decode cX10_begin 38 = .ok (.iastore, 1) := by decide +kernel
theorem dX10_begin_39 : decode cX10_begin 39 = .ok (.aload_n 0, 1) := by decide +kernel
theorem dX10_begin_40 : decode cX10_begin 40 = .ok (.dup, 1) := by decide +kernel
theorem dX10_begin_41 : decode cX10_begin 41 = .ok (.getfield 315, 3) := by decide +kernel
theorem dX10_begin_44 : decode cX10_begin 44 = .ok (.iconst 1, 1) := by decide +kernel
theorem dX10_begin_45 : decode cX10_begin 45 = .ok (.iadd, 1) := by decide +kernel
theorem dX10_begin_46 : decode cX10_begin 46 = .ok (.putfield 315, 3) := by decide +kernel
theorem dX10_begin_49 : decode cX10_begin 49 = .ok (.aload_n 0, 1) := by decide +kernel
theorem dX10_begin_50 : decode cX10_begin 50 = .ok (.getfield 315, 3) := by decide +kernel
theorem dX10_begin_53 : decode cX10_begin 53 = .ok (.iconst 1, 1) := by decide +kernel
theorem dX10_begin_54 : decode cX10_begin 54 = .ok (.isub, 1) := by decide +kernel
theorem dX10_begin_55 : decode cX10_begin 55 = .ok (.istore 4, 2) := by decide +kernel
theorem dX10_begin_57 : decode cX10_begin 57 = .ok (.iload_n 2, 1) := by decide +kernel
theorem dX10_begin_58 : decode cX10_begin 58 = .ok (.bipush (-9), 2) := by decide +kernel
theorem dX10_begin_60 : decode cX10_begin 60 = .ok (.if_icmp .ne 149, 3) := by decide +kernel
theorem dX10_begin_63 : decode cX10_begin 63 = .ok (.aload_n 0, 1) := by decide +kernel
theorem dX10_begin_64 : decode cX10_begin 64 = .ok (.getfield 100, 3) := by decide +kernel
theorem dX10_begin_67 : decode cX10_begin 67 = .ok (.iload_n 1, 1) := by decide +kernel
theorem dX10_begin_68 : decode cX10_begin 68 = .ok (.iconst 1, 1) := by decide +kernel
theorem dX10_begin_69 : decode cX10_begin 69 = .ok (.iastore, 1) := by decide +kernel
theorem dX10_begin_70 : decode cX10_begin 70 = .ok (.aload_n 0, 1) := by decide +kernel
theorem dX10_begin_71 : decode cX10_begin 71 = .ok (.getfield 88, 3) := by decide +kernel
theorem dX10_begin_74 : decode cX10_begin 74 = .ok (.iload_n 1, 1) := by decide +kernel
theorem dX10_begin_75 : decode cX10_begin 75 = .ok (.laload, 1) := by decide +kernel
theorem dX10_begin_76 : decode cX10_begin 76 = .ok (.lconst 0, 1) := by decide +kernel
theorem dX10_begin_77 : decode cX10_begin 77 = .ok (.lcmp, 1) := by decide +kernel
theorem dX10_begin_78 : decode cX10_begin 78 = .ok (.ifCond .lt 16, 3) := by decide +kernel
theorem dX10_begin_81 : decode cX10_begin 81 = .ok (.aload_n 0, 1) := by decide +kernel
theorem dX10_begin_82 : decode cX10_begin 82 = .ok (.getfield 88, 3) := by decide +kernel
theorem dX10_begin_85 : decode cX10_begin 85 = .ok (.iload_n 1, 1) := by decide +kernel
theorem dX10_begin_86 : decode cX10_begin 86 = .ok (.laload, 1) := by decide +kernel
theorem dX10_begin_87 : decode cX10_begin 87 = .ok (.ldc2_w 322, 3) := by decide +kernel
theorem dX10_begin_90 : decode cX10_begin 90 = .ok (.lcmp, 1) := by decide +kernel
theorem dX10_begin_91 : decode cX10_begin 91 = .ok (.ifCond .le 20, 3) := by decide +kernel
theorem dX10_begin_94 : decode cX10_begin 94 = .ok (.aload_n 0, 1) := by decide +kernel
theorem dX10_begin_95 : decode cX10_begin 95 = .ok (.getfield 88, 3) := by decide +kernel
theorem dX10_begin_98 : decode cX10_begin 98 = .ok (.iload_n 1, 1) := by decide +kernel
theorem dX10_begin_99 : decode cX10_begin 99 = .ok (.laload, 1) := by decide +kernel
theorem dX10_begin_100 : decode cX10_begin 100 = .ok (.lconst 0, 1) := by decide +kernel
theorem dX10_begin_101 : decode cX10_begin 101 = .ok (.lcmp, 1) := by decide +kernel
theorem dX10_begin_102 : decode cX10_begin 102 = .ok (.ifCond .ge 7, 3) := by decide +kernel
theorem dX10_begin_105 : decode cX10_begin 105 = .ok (.iconst 3, 1) := by decide +kernel
theorem dX10_begin_106 : decode cX10_begin 106 = .ok (.goto 4, 3) := by decide +kernel
theorem dX10_begin_109 : decode cX10_begin 109 = .ok (.iconst 4, 1) := by decide +kernel
theorem dX10_begin_110 : decode cX10_begin 110 = .ok (.ireturn, 1) := by decide +kernel
theorem dX10_begin_111 : decode cX10_begin 111 = .ok (.iconst 0, 1) := by decide +kernel
theorem dX10_begin_112 : decode cX10_begin 112 = .ok (.istore 5, 2) := by decide +kernel
theorem dX10_begin_114 : decode cX10_begin 114 = .ok (.iload 5, 2) := by decide +kernel
theorem dX10_begin_116 : decode cX10_begin 116 = .ok (.sipush 200, 3) := by decide +kernel
theorem dX10_begin_119 : decode cX10_begin 119 = .ok (.if_icmp .ge 23, 3) := by decide +kernel
theorem dX10_begin_122 : decode cX10_begin 122 = .ok (.aload_n 0, 1) := by decide +kernel
theorem dX10_begin_123 : decode cX10_begin 123 = .ok (.getfield 106, 3) := by decide +kernel
theorem dX10_begin_126 : decode cX10_begin 126 = .ok (.sipush 200, 3) := by decide +kernel
theorem dX10_begin_129 : decode cX10_begin 129 = .ok (.iload_n 1, 1) := by decide +kernel
theorem dX10_begin_130 : decode cX10_begin 130 = .ok (.imul, 1) := by decide +kernel
theorem dX10_begin_131 : decode cX10_begin 131 = .ok (.iload 5, 2) := by decide +kernel
theorem dX10_begin_133 : decode cX10_begin 133 = .ok (.iadd, 1) := by decide +kernel
theorem dX10_begin_134 : decode cX10_begin 134 = .ok (.lconst 0, 1) := by decide +kernel
theorem dX10_begin_135 : decode cX10_begin 135 = .ok (.lastore, 1) := by decide +kernel
theorem dX10_begin_136 : decode cX10_begin 136 = .ok (.iinc 5 1, 3) := by decide +kernel
theorem dX10_begin_139 : decode cX10_begin 139 = .ok (.goto (-25), 3) := by decide +kernel
theorem dX10_begin_142 : decode cX10_begin 142 = .ok (.iconst 0, 1) := by decide +kernel
theorem dX10_begin_143 : decode cX10_begin 143 = .ok (.istore 5, 2) := by decide +kernel
theorem dX10_begin_145 : decode cX10_begin 145 = .ok (.iload 5, 2) := by decide +kernel
theorem dX10_begin_147 : decode cX10_begin 147 = .ok (.bipush 25, 2) := by decide +kernel
theorem dX10_begin_149 : decode cX10_begin 149 = .ok (.if_icmp .ge 22, 3) := by decide +kernel
theorem dX10_begin_152 : decode cX10_begin 152 = .ok (.aload_n 0, 1) := by decide +kernel
theorem dX10_begin_153 : decode cX10_begin 153 = .ok (.getfield 103, 3) := by decide +kernel
theorem dX10_begin_156 : decode cX10_begin 156 = .ok (.bipush 25, 2) := by decide +kernel
theorem dX10_begin_158 : decode cX10_begin 158 = .ok (.iload_n 1, 1) := by decide +kernel
theorem dX10_begin_159 : decode cX10_begin 159 = .ok (.imul, 1) := by decide +kernel
theorem dX10_begin_160 : decode cX10_begin 160 = .ok (.iload 5, 2) := by decide +kernel
theorem dX10_begin_162 : decode cX10_begin 162 = .ok (.iadd, 1) := by decide +kernel
theorem dX10_begin_163 : decode cX10_begin 163 = .ok (.iconst 0, 1) := by decide +kernel
theorem dX10_begin_164 : decode cX10_begin 164 = .ok (.iastore, 1) := by decide +kernel
theorem dX10_begin_165 : decode cX10_begin 165 = .ok (.iinc 5 1, 3) := by decide +kernel
theorem dX10_begin_168 : decode cX10_begin 168 = .ok (.goto (-23), 3) := by decide +kernel
theorem dX10_begin_171 : decode cX10_begin 171 = .ok (.aload_n 0, 1) := by decide +kernel
theorem dX10_begin_172 : decode cX10_begin 172 = .ok (.getfield 136, 3) := by decide +kernel
theorem dX10_begin_175 : decode cX10_begin 175 = .ok (.iload 4, 2) := by decide +kernel
theorem dX10_begin_177 : decode cX10_begin 177 = .ok (.iconst 0, 1) := by decide +kernel
theorem dX10_begin_178 : decode cX10_begin 178 = .ok (.iastore, 1) := by decide +kernel
theorem dX10_begin_179 : decode cX10_begin 179 = .ok (.aload_n 0, 1) := by decide +kernel
theorem dX10_begin_180 : decode cX10_begin 180 = .ok (.getfield 139, 3) := by decide +kernel
theorem dX10_begin_183 : decode cX10_begin 183 = .ok (.iload 4, 2) := by decide +kernel
theorem dX10_begin_185 : decode cX10_begin 185 = .ok (.aload_n 0, 1) := by decide +kernel
theorem dX10_begin_186 : decode cX10_begin 186 = .ok (.getfield 79, 3) := by decide +kernel
theorem dX10_begin_189 : decode cX10_begin 189 = .ok (.iload_n 1, 1) := by decide +kernel
theorem dX10_begin_190 : decode cX10_begin 190 = .ok (.baload, 1) := by decide +kernel
theorem dX10_begin_191 : decode cX10_begin 191 = .ok (.ifCond .eq 13, 3) := by decide +kernel
theorem dX10_begin_194 : decode cX10_begin 194 = .ok (.aload_n 0, 1) := by decide +kernel
theorem dX10_begin_195 : decode cX10_begin 195 = .ok (.getfield 88, 3) := by decide +kernel
theorem dX10_begin_198 : decode cX10_begin 198 = .ok (.iload_n 1, 1) := by decide +kernel
theorem dX10_begin_199 : decode cX10_begin 199 = .ok (.laload, 1) := by decide +kernel
theorem dX10_begin_200 : decode cX10_begin 200 = .ok (.l2i, 1) := by decide +kernel
theorem dX10_begin_201 : decode cX10_begin 201 = .ok (.goto 4, 3) := by decide +kernel
theorem dX10_begin_204 : decode cX10_begin 204 = .ok (.iconst 0, 1) := by decide +kernel
theorem dX10_begin_205 : decode cX10_begin 205 = .ok (.iastore, 1) := by decide +kernel
theorem dX10_begin_206 : decode cX10_begin 206 = .ok (.goto 68, 3) := by decide +kernel
theorem dX10_begin_209 : decode cX10_begin 209 = .ok (.aload_n 0, 1) := by decide +kernel
theorem dX10_begin_210 : decode cX10_begin 210 = .ok (.getfield 103, 3) := by decide +kernel
theorem dX10_begin_213 : decode cX10_begin 213 = .ok (.bipush 25, 2) := by decide +kernel
theorem dX10_begin_215 : decode cX10_begin 215 = .ok (.iload_n 1, 1) := by decide +kernel
theorem dX10_begin_216 : decode cX10_begin 216 = .ok (.imul, 1) := by decide +kernel
theorem dX10_begin_217 : decode cX10_begin 217 = .ok (.iload_n 2, 1) := by decide +kernel
theorem dX10_begin_218 : decode cX10_begin 218 = .ok (.iadd, 1) := by decide +kernel
theorem dX10_begin_219 : decode cX10_begin 219 = .ok (.iconst 1, 1) := by decide +kernel
theorem dX10_begin_220 : decode cX10_begin 220 = .ok (.iastore, 1) := by decide +kernel
theorem dX10_begin_221 : decode cX10_begin 221 = .ok (.aload_n 0, 1) := by decide +kernel
theorem dX10_begin_222 : decode cX10_begin 222 = .ok (.getfield 136, 3) := by decide +kernel
theorem dX10_begin_225 : decode cX10_begin 225 = .ok (.iload 4, 2) := by decide +kernel
theorem dX10_begin_227 : decode cX10_begin 227 = .ok (.bipush 8, 2) := by decide +kernel
theorem dX10_begin_229 : decode cX10_begin 229 = .ok (.iload_n 2, 1) := by decide +kernel
theorem dX10_begin_230 : decode cX10_begin 230 = .ok (.imul, 1) := by decide +kernel
theorem dX10_begin_231 : decode cX10_begin 231 = .ok (.iastore, 1) := by decide +kernel
theorem dX10_begin_232 : decode cX10_begin 232 = .ok (.aload_n 0, 1) := by decide +kernel
theorem dX10_begin_233 : decode cX10_begin 233 = .ok (.getfield 139, 3) := by decide +kernel
theorem dX10_begin_236 : decode cX10_begin 236 = .ok (.iload 4, 2) := by decide +kernel
theorem dX10_begin_238 : decode cX10_begin 238 = .ok (.bipush 8, 2) := by decide +kernel
theorem dX10_begin_240 : decode cX10_begin 240 = .ok (.iload_n 2, 1) := by decide +kernel
theorem dX10_begin_241 : decode cX10_begin 241 = .ok (.imul, 1) := by decide +kernel
theorem dX10_begin_242 : decode cX10_begin 242 = .ok (.bipush 8, 2) := by decide +kernel
theorem dX10_begin_244 : decode cX10_begin 244 = .ok (.iadd, 1) := by decide +kernel
theorem dX10_begin_245 : decode cX10_begin 245 = .ok (.i2l, 1) := by decide +kernel
theorem dX10_begin_246 : decode cX10_begin 246 = .ok (.aload_n 0, 1) := by decide +kernel
theorem dX10_begin_247 : decode cX10_begin 247 = .ok (.getfield 88, 3) := by decide +kernel
theorem dX10_begin_250 : decode cX10_begin 250 = .ok (.iload_n 1, 1) := by decide +kernel
theorem dX10_begin_251 : decode cX10_begin 251 = .ok (.laload, 1) := by decide +kernel
theorem dX10_begin_252 : decode cX10_begin 252 = .ok (.lcmp, 1) := by decide +kernel
theorem dX10_begin_253 : decode cX10_begin 253 = .ok (.ifCond .ge 13, 3) := by decide +kernel
theorem dX10_begin_256 : decode cX10_begin 256 = .ok (.bipush 8, 2) := by decide +kernel
theorem dX10_begin_258 : decode cX10_begin 258 = .ok (.iload_n 2, 1) := by decide +kernel
theorem dX10_begin_259 : decode cX10_begin 259 = .ok (.imul, 1) := by decide +kernel
theorem dX10_begin_260 : decode cX10_begin 260 = .ok (.bipush 8, 2) := by decide +kernel
theorem dX10_begin_262 : decode cX10_begin 262 = .ok (.iadd, 1) := by decide +kernel
theorem dX10_begin_263 : decode cX10_begin 263 = .ok (.goto 10, 3) := by decide +kernel
theorem dX10_begin_266 : decode cX10_begin 266 = .ok (.aload_n 0, 1) := by decide +kernel
theorem dX10_begin_267 : decode cX10_begin 267 = .ok (.getfield 88, 3) := by decide +kernel
theorem dX10_begin_270 : decode cX10_begin 270 = .ok (.iload_n 1, 1) := by decide +kernel
theorem dX10_begin_271 : decode cX10_begin 271 = .ok (.laload, 1) := by decide +kernel
theorem dX10_begin_272 : decode cX10_begin 272 = .ok (.l2i, 1) := by decide +kernel
theorem dX10_begin_273 : decode cX10_begin 273 = .ok (.iastore, 1) := by decide +kernel
theorem dX10_begin_274 : decode cX10_begin 274 = .ok (.aload_n 0, 1) := by decide +kernel
theorem dX10_begin_275 : decode cX10_begin 275 = .ok (.getfield 142, 3) := by decide +kernel
theorem dX10_begin_278 : decode cX10_begin 278 = .ok (.iload 4, 2) := by decide +kernel
theorem dX10_begin_280 : decode cX10_begin 280 = .ok (.aload_n 0, 1) := by decide +kernel
theorem dX10_begin_281 : decode cX10_begin 281 = .ok (.getfield 91, 3) := by decide +kernel
theorem dX10_begin_284 : decode cX10_begin 284 = .ok (.iload_n 1, 1) := by decide +kernel
theorem dX10_begin_285 : decode cX10_begin 285 = .ok (.iaload, 1) := by decide +kernel
theorem dX10_begin_286 : decode cX10_begin 286 = .ok (.iastore, 1) := by decide +kernel
theorem dX10_begin_287 : decode cX10_begin 287 = .ok (.aload_n 0, 1) := by decide +kernel
theorem dX10_begin_288 : decode cX10_begin 288 = .ok (.getfield 145, 3) := by decide +kernel
theorem dX10_begin_291 : decode cX10_begin 291 = .ok (.iload 4, 2) := by decide +kernel
theorem dX10_begin_293 : decode cX10_begin 293 = .ok (.iconst 0, 1) := by decide +kernel
theorem dX10_begin_294 : decode cX10_begin 294 = .ok (.iastore, 1) := by decide +kernel
theorem dX10_begin_295 : decode cX10_begin 295 = .ok (.iconst (-1), 1) := by decide +kernel
theorem dX10_begin_296 : decode cX10_begin 296 = .ok (.ireturn, 1) := by decide +kernel
theorem dX10_ask_0 : decode cX10_ask 0 = .ok (.aload_n 0, 1) := by decide +kernel
theorem dX10_ask_1 : decode cX10_ask 1 = .ok (.getfield 100, 3) := by decide +kernel
theorem dX10_ask_4 : decode cX10_ask 4 = .ok (.iload_n 1, 1) := by decide +kernel
theorem dX10_ask_5 : decode cX10_ask 5 = .ok (.iaload, 1) := by decide +kernel
theorem dX10_ask_6 : decode cX10_ask 6 = .ok (.ifCond .ne 13, 3) := by decide +kernel
theorem dX10_ask_9 : decode cX10_ask 9 = .ok (.aload_n 0, 1) := by decide +kernel
theorem dX10_ask_10 : decode cX10_ask 10 = .ok (.iload_n 1, 1) := by decide +kernel
theorem dX10_ask_11 : decode cX10_ask 11 = .ok (.bipush (-9), 2) := by decide +kernel
theorem dX10_ask_13 : decode cX10_ask 13 = .ok (.iload 4, 2) := by decide +kernel
theorem dX10_ask_15 : decode cX10_ask 15 = .ok (.invokevirtual 324, 3) := by decide +kernel
theorem dX10_ask_18 : decode cX10_ask 18 = .ok (.ireturn, 1) := by decide +kernel
theorem dX10_ask_19 : decode cX10_ask 19 = .ok (.aload_n 0, 1) := by decide +kernel
theorem dX10_ask_20 : decode cX10_ask 20 = .ok (.getfield 100, 3) := by decide +kernel
theorem dX10_ask_23 : decode cX10_ask 23 = .ok (.iload_n 1, 1) := by decide +kernel
theorem dX10_ask_24 : decode cX10_ask 24 = .ok (.iaload, 1) := by decide +kernel
theorem dX10_ask_25 : decode cX10_ask 25 = .ok (.iconst 3, 1) := by decide +kernel
theorem dX10_ask_26 : decode cX10_ask 26 = .ok (.if_icmp .ne 6, 3) := by decide +kernel
theorem dX10_ask_29 : decode cX10_ask 29 = .ok (.bipush 6, 2) := by decide +kernel
theorem dX10_ask_31 : decode cX10_ask 31 = .ok (.ireturn, 1) := by decide +kernel
theorem dX10_ask_32 : decode cX10_ask 32 = .ok (.iload 5, 2) := by decide +kernel
theorem dX10_ask_34 : decode cX10_ask 34 = .ok (.ifCond .eq 5, 3) := by decide +kernel
theorem dX10_ask_37 : decode cX10_ask 37 = .ok (.iconst 0, 1) := by decide +kernel
theorem dX10_ask_38 : decode cX10_ask 38 = .ok (.ireturn, 1) := by decide +kernel
theorem dX10_ask_39 : decode cX10_ask 39 = .ok (.lload_n 2, 1) := by decide +kernel
theorem dX10_ask_40 : decode cX10_ask 40 = .ok (.lconst 0, 1) := by decide +kernel
theorem dX10_ask_41 : decode cX10_ask 41 = .ok (.lcmp, 1) := by decide +kernel
theorem dX10_ask_42 : decode cX10_ask 42 = .ok (.ifCond .lt 14, 3) := by decide +kernel
theorem dX10_ask_45 : decode cX10_ask 45 = .ok (.lload_n 2, 1) := by decide +kernel
theorem dX10_ask_46 : decode cX10_ask 46 = .ok (.aload_n 0, 1) := by decide +kernel
theorem dX10_ask_47 : decode cX10_ask 47 = .ok (.getfield 88, 3) := by decide +kernel
theorem dX10_ask_50 : decode cX10_ask 50 = .ok (.iload_n 1, 1) := by decide +kernel
theorem dX10_ask_51 : decode cX10_ask 51 = .ok (.laload, 1) := by decide +kernel
theorem dX10_ask_52 : decode cX10_ask 52 = .ok (.lcmp, 1) := by decide +kernel
theorem dX10_ask_53 : decode cX10_ask 53 = .ok (.ifCond .lt 5, 3) := by decide +kernel
theorem dX10_ask_56 : decode cX10_ask 56 = .ok (.iconst 2, 1) := by decide +kernel
theorem dX10_ask_57 : decode cX10_ask 57 = .ok (.ireturn, 1) := by decide +kernel
theorem dX10_ask_58 : decode cX10_ask 58 = .ok (.lload_n 2, 1) := by decide +kernel
theorem dX10_ask_59 : decode cX10_ask 59 = .ok (.l2i, 1) := by decide +kernel
theorem dX10_ask_60 : decode cX10_ask 60 = .ok (.istore 6, 2) := by decide +kernel
theorem dX10_ask_62 : decode cX10_ask 62 = .ok (.bipush 25, 2) := by decide +kernel
theorem dX10_ask_64 : decode cX10_ask 64 = .ok (.iload_n 1, 1) := by decide +kernel
theorem dX10_ask_65 : decode cX10_ask 65 = .ok (.imul, 1) := by decide +kernel
theorem dX10_ask_66 : decode cX10_ask 66 = .ok (.iload 6, 2) := by decide +kernel
theorem dX10_ask_68 : decode cX10_ask 68 = .ok (.bipush 8, 2) := by decide +kernel
theorem dX10_ask_70 : decode cX10_ask 70 = .ok (.idiv, 1) := by decide +kernel
theorem dX10_ask_71 : decode cX10_ask 71 = .ok (.iadd, 1) := by decide +kernel
theorem dX10_ask_72 : decode cX10_ask 72 = .ok (.istore 7, 2) := by decide +kernel
theorem dX10_ask_74 : decode cX10_ask 74 = .ok (.aload_n 0, 1) := by decide +kernel
theorem dX10_ask_75 : decode cX10_ask 75 = .ok (.aload_n 0, 1) := by decide +kernel
theorem dX10_ask_76 : decode cX10_ask 76 = .ok (.getfield 106, 3) := by decide +kernel
theorem dX10_ask_79 : decode cX10_ask 79 = .ok (.sipush 200, 3) := by decide +kernel
theorem dX10_ask_82 : decode cX10_ask 82 = .ok (.iload_n 1, 1) := by decide +kernel
theorem dX10_ask_83 : decode cX10_ask 83 = .ok (.imul, 1) := by decide +kernel
theorem dX10_ask_84 : decode cX10_ask 84 = .ok (.iload 6, 2) := by decide +kernel
theorem dX10_ask_86 : decode cX10_ask 86 = .ok (.iadd, 1) := by decide +kernel
theorem dX10_ask_87 : decode cX10_ask 87 = .ok (.laload, 1) := by decide +kernel
theorem dX10_ask_88 : decode cX10_ask 88 = .ok (.putfield 328, 3) := by decide +kernel
theorem dX10_ask_91 : decode cX10_ask 91 = .ok (.aload_n 0, 1) := by decide +kernel
theorem dX10_ask_92 : decode cX10_ask 92 = .ok (.getfield 100, 3) := by decide +kernel
theorem dX10_ask_95 : decode cX10_ask 95 = .ok (.iload_n 1, 1) := by decide +kernel
theorem dX10_ask_96 : decode cX10_ask 96 = .ok (.iaload, 1) := by decide +kernel
theorem dX10_ask_97 : decode cX10_ask 97 = .ok (.iconst 1, 1) := by decide +kernel
theorem dX10_ask_98 : decode cX10_ask 98 = .ok (.if_icmp .ne 22, 3) := by decide +kernel
theorem dX10_ask_101 : decode cX10_ask 101 = .ok (.aload_n 0, 1) := by decide +kernel
theorem dX10_ask_102 : decode cX10_ask 102 = .ok (.aload_n 0, 1) := by decide +kernel
theorem dX10_ask_103 : decode cX10_ask 103 = .ok (.iload_n 1, 1) := by decide +kernel
theorem dX10_ask_104 : decode cX10_ask 104 = .ok (.iload 6, 2) := by decide +kernel
theorem dX10_ask_106 : decode cX10_ask 106 = .ok (.iload 4, 2) := by decide +kernel
theorem dX10_ask_108 : decode cX10_ask 108 = .ok (.aload_n 0, 1) := by decide +kernel
theorem dX10_ask_109 : decode cX10_ask 109 = .ok (.getfield 328, 3) := by decide +kernel
theorem dX10_ask_112 : decode cX10_ask 112 = .ok (.invokevirtual 332, 3) := by decide +kernel
theorem dX10_ask_115 : decode cX10_ask 115 = .ok (.putfield 328, 3) := by decide +kernel
theorem dX10_ask_118 : decode cX10_ask 118 = .ok (.iconst 0, 1) := by decide +kernel
theorem dX10_ask_119 : decode cX10_ask 119 = .ok (.ireturn, 1) := by decide +kernel
theorem dX10_ask_120 : decode cX10_ask 120 = .ok (.aload_n 0, 1) := by decide +kernel
theorem dX10_ask_121 : decode cX10_ask 121 = .ok (.getfield 79, 3) := by decide +kernel
theorem dX10_ask_124 : decode cX10_ask 124 = .ok (.iload_n 1, 1) := by decide +kernel
theorem dX10_ask_125 : decode cX10_ask 125 = .ok (.baload, 1) := by decide +kernel
theorem dX10_ask_126 : decode cX10_ask 126 = .ok (.ifCond .ne 14, 3) := by decide +kernel
theorem dX10_ask_129 : decode cX10_ask 129 = .ok (.aload_n 0, 1) := by decide +kernel
theorem dX10_ask_130 : decode cX10_ask 130 = .ok (.getfield 103, 3) := by decide +kernel
theorem dX10_ask_133 : decode cX10_ask 133 = .ok (.iload 7, 2) := by decide +kernel
theorem dX10_ask_135 : decode cX10_ask 135 = .ok (.iaload, 1) := by decide +kernel
theorem dX10_ask_136 : decode cX10_ask 136 = .ok (.iconst 2, 1) := by decide +kernel
theorem dX10_ask_137 : decode cX10_ask 137 = .ok (.if_icmp .ne 5, 3) := by decide +kernel
theorem dX10_ask_140 : decode cX10_ask 140 = .ok (.iconst 0, 1) := by decide +kernel
theorem dX10_ask_141 : decode cX10_ask 141 = .ok (.ireturn, 1) := by decide +kernel
theorem dX10_ask_142 : decode cX10_ask 142 = .ok (.aload_n 0, 1) := by decide +kernel
theorem dX10_ask_143 : decode cX10_ask 143 = .ok (.getfield 103, 3) := by decide +kernel
theorem dX10_ask_146 : decode cX10_ask 146 = .ok (.iload 7, 2) := by decide +kernel
theorem dX10_ask_148 : decode cX10_ask 148 = .ok (.iaload, 1) := by decide +kernel
theorem dX10_ask_149 : decode cX10_ask 149 = .ok (.ifCond .ne 16, 3) := by decide +kernel
theorem dX10_ask_152 : decode cX10_ask 152 = .ok (.aload_n 0, 1) := by decide +kernel
theorem dX10_ask_153 : decode cX10_ask 153 = .ok (.iload_n 1, 1) := by decide +kernel
theorem dX10_ask_154 : decode cX10_ask 154 = .ok (.iload 6, 2) := by decide +kernel
theorem dX10_ask_156 : decode cX10_ask 156 = .ok (.bipush 8, 2) := by decide +kernel
theorem dX10_ask_158 : decode cX10_ask 158 = .ok (.idiv, 1) := by decide +kernel
theorem dX10_ask_159 : decode cX10_ask 159 = .ok (.iload 4, 2) := by decide +kernel
theorem dX10_ask_161 : decode cX10_ask 161 = .ok (.invokevirtual 324, 3) := by decide +kernel
theorem dX10_ask_164 : decode cX10_ask 164 = .ok (.ireturn, 1) := by decide +kernel
theorem dX10_ask_165 : decode cX10_ask 165 = .ok (.aload_n 0, 1) := by decide +kernel
theorem dX10_ask_166 : decode cX10_ask 166 = .ok (.getfield 103, 3) := by decide +kernel
theorem dX10_ask_169 : decode cX10_ask 169 = .ok (.iload 7, 2) := by decide +kernel
theorem dX10_ask_171 : decode cX10_ask 171 = .ok (.iaload, 1) := by decide +kernel
theorem dX10_ask_172 : decode cX10_ask 172 = .ok (.iconst 3, 1) := by decide +kernel
theorem dX10_ask_173 : decode cX10_ask 173 = .ok (.if_icmp .ne 6, 3) := by decide +kernel
theorem dX10_ask_176 : decode cX10_ask 176 = .ok (.bipush 6, 2) := by decide +kernel
theorem dX10_ask_178 : decode cX10_ask 178 = .ok (.ireturn, 1) := by decide +kernel
theorem dX10_ask_179 : decode cX10_ask 179 = .ok (.aload_n 0, 1) := by decide +kernel
theorem dX10_ask_180 : decode cX10_ask 180 = .ok (.aload_n 0, 1) := by decide +kernel
theorem dX10_ask_181 : decode cX10_ask 181 = .ok (.iload_n 1, 1) := by decide +kernel
theorem dX10_ask_182 : decode cX10_ask 182 = .ok (.iload 6, 2) := by decide +kernel
theorem dX10_ask_184 : decode cX10_ask 184 = .ok (.iload 4, 2) := by decide +kernel
theorem dX10_ask_186 : decode cX10_ask 186 = .ok (.aload_n 0, 1) := by decide +kernel
theorem dX10_ask_187 : decode cX10_ask 187 = .ok (.getfield 328, 3) := by decide +kernel
theorem dX10_ask_190 : decode cX10_ask 190 = .ok (.invokevirtual 332, 3) := by decide +kernel
theorem dX10_ask_193 : decode cX10_ask 193 = .ok (.putfield 328, 3) := by decide +kernel
theorem dX10_ask_196 : decode cX10_ask 196 = .ok (.iconst 0, 1) := by decide +kernel
theorem dX10_ask_197 : decode cX10_ask 197 = .ok (.ireturn, 1) := by decide +kernel
theorem dX10_failAll_0 : decode cX10_failAll 0 = .ok (.aload_n 0, 1) := by decide +kernel
theorem dX10_failAll_1 : decode cX10_failAll 1 = .ok (.aload_n 0, 1) := by decide +kernel
theorem dX10_failAll_2 : decode cX10_failAll 2 = .ok (.getfield 315, 3) := by decide +kernel
theorem dX10_failAll_5 : decode cX10_failAll 5 = .ok (.ifCond .ne 7, 3) := by decide +kernel
theorem dX10_failAll_8 : decode cX10_failAll 8 = .ok (.iconst 1, 1) := by decide +kernel
theorem dX10_failAll_9 : decode cX10_failAll 9 = .ok (.goto 7, 3) := by decide +kernel
theorem dX10_failAll_12 : decode cX10_failAll 12 = .ok (.aload_n 0, 1) := by decide +kernel
theorem dX10_failAll_13 : decode cX10_failAll 13 = .ok (.getfield 315, 3) := by decide +kernel
theorem dX10_failAll_16 : decode cX10_failAll 16 = .ok (.putfield 302, 3) := by decide +kernel
theorem dX10_failAll_19 : decode cX10_failAll 19 = .ok (.aload_n 0, 1) := by decide +kernel
theorem dX10_failAll_20 : decode cX10_failAll 20 = .ok (.iload_n 1, 1) := by decide +kernel
theorem dX10_failAll_21 : decode cX10_failAll 21 = .ok (.putfield 336, 3) := by decide +kernel
theorem dX10_failAll_24 : decode cX10_failAll 24 = .ok (.aload_n 0, 1) := by decide +kernel
theorem dX10_failAll_25 : decode cX10_failAll 25 = .ok (.getfield 315, 3) := by decide +kernel
theorem dX10_failAll_28 : decode cX10_failAll 28 = .ok (.ifCond .le 128, 3) := by decide +kernel
theorem dX10_failAll_31 : decode cX10_failAll 31 = .ok (.aload_n 0, 1) := by decide +kernel
theorem dX10_failAll_32 : decode cX10_failAll 32 = .ok (.dup, 1) := by decide +kernel
theorem dX10_failAll_33 : decode cX10_failAll 33 = .ok (.getfield 315, 3) := by decide +kernel
theorem dX10_failAll_36 : decode cX10_failAll 36 = .ok (.iconst 1, 1) := by decide +kernel
theorem dX10_failAll_37 : decode cX10_failAll 37 = .ok (.isub, 1) := by decide +kernel
theorem dX10_failAll_38 : decode cX10_failAll 38 = .ok (.putfield 315, 3) := by decide +kernel
theorem dX10_failAll_41 : decode cX10_failAll 41 = .ok (.aload_n 0, 1) := by decide +kernel
theorem dX10_failAll_42 : decode cX10_failAll 42 = .ok (.getfield 130, 3) := by decide +kernel
theorem dX10_failAll_45 : decode cX10_failAll 45 = .ok (.aload_n 0, 1) := by decide +kernel
theorem dX10_failAll_46 : decode cX10_failAll 46 = .ok (.getfield 315, 3) := by decide +kernel
theorem dX10_failAll_49 : decode cX10_failAll 49 = .ok (.iaload, 1) := by decide +kernel
theorem dX10_failAll_50 : decode cX10_failAll 50 = .ok (.istore_n 2, 1) := by decide +kernel
theorem dX10_failAll_51 : decode cX10_failAll 51 = .ok (.aload_n 0, 1) := by decide +kernel
theorem dX10_failAll_52 : decode cX10_failAll 52 = .ok (.getfield 133, 3) := by decide +kernel
theorem dX10_failAll_55 : decode cX10_failAll 55 = .ok (.aload_n 0, 1) := by decide +kernel
theorem dX10_failAll_56 : decode cX10_failAll 56 = .ok (.getfield 315, 3) := by decide +kernel
theorem dX10_failAll_59 : decode cX10_failAll 59 = .ok (.iaload, 1) := by decide +kernel
theorem dX10_failAll_60 : decode cX10_failAll 60 = .ok (.bipush (-9), 2) := by decide +kernel
theorem dX10_failAll_62 : decode cX10_failAll 62 = .ok (.if_icmp .ne 13, 3) := by decide +kernel
theorem dX10_failAll_65 : decode cX10_failAll 65 = .ok (.aload_n 0, 1) := by decide +kernel
theorem dX10_failAll_66 : decode cX10_failAll 66 = .ok (.getfield 100, 3) := by decide +kernel
theorem dX10_failAll_69 : decode cX10_failAll 69 = .ok (.iload_n 2, 1) := by decide +kernel
theorem dX10_failAll_70 : decode cX10_failAll 70 = .ok (.iconst 3, 1) := by decide +kernel
theorem dX10_failAll_71 : decode cX10_failAll 71 = .ok (.iastore, 1) := by decide +kernel
theorem dX10_failAll_72 : decode cX10_failAll 72 = .ok (.goto 81, 3) := by decide +kernel
theorem dX10_failAll_75 : decode cX10_failAll 75 = .ok (.aload_n 0, 1) := by decide +kernel
theorem dX10_failAll_76 : decode cX10_failAll 76 = .ok (.getfield 103, 3) := by decide +kernel
theorem dX10_failAll_79 : decode cX10_failAll 79 = .ok (.bipush 25, 2) := by decide +kernel
theorem dX10_failAll_81 : decode cX10_failAll 81 = .ok (.iload_n 2, 1) := by decide +kernel
theorem dX10_failAll_82 : decode cX10_failAll 82 = .ok (.imul, 1) := by decide +kernel
theorem dX10_failAll_83 : decode cX10_failAll 83 = .ok (.aload_n 0, 1) := by decide +kernel
theorem dX10_failAll_84 : decode cX10_failAll 84 = .ok (.getfield 133, 3) := by decide +kernel
theorem dX10_failAll_87 : decode cX10_failAll 87 = .ok (.aload_n 0, 1) := by decide +kernel
theorem dX10_failAll_88 : decode cX10_failAll 88 = .ok (.getfield 315, 3) := by decide +kernel
theorem dX10_failAll_91 : decode cX10_failAll 91 = .ok (.iaload, 1) := by decide +kernel
theorem dX10_failAll_92 : decode cX10_failAll 92 = .ok (.iadd, 1) := by decide +kernel
theorem dX10_failAll_93 : decode cX10_failAll 93 = .ok (.iconst 3, 1) := by decide +kernel
theorem dX10_failAll_94 : decode cX10_failAll 94 = .ok (.iastore, 1) := by decide +kernel
theorem dX10_failAll_95 : decode cX10_failAll 95 = .ok (.bipush 8, 2) := by decide +kernel
theorem dX10_failAll_97 : decode cX10_failAll 97 = .ok (.aload_n 0, 1) := by decide +kernel
theorem dX10_failAll_98 : decode cX10_failAll 98 = .ok (.getfield 133, 3) := by decide +kernel
theorem dX10_failAll_101 : decode cX10_failAll 101 = .ok (.aload_n 0, 1) := by decide +kernel
theorem dX10_failAll_102 : decode cX10_failAll 102 = .ok (.getfield 315, 3) := by decide +kernel
theorem dX10_failAll_105 : decode cX10_failAll 105 = .ok (.iaload, 1) := by decide +kernel
theorem dX10_failAll_106 : decode cX10_failAll 106 = .ok (.imul, 1) := by decide +kernel
theorem dX10_failAll_107 : decode cX10_failAll 107 = .ok (.istore_n 3, 1) := by decide +kernel
theorem dX10_failAll_108 : decode cX10_failAll 108 = .ok (.iload_n 3, 1) := by decide +kernel
theorem dX10_failAll_109 : decode cX10_failAll 109 = .ok (.bipush 8, 2) := by decide +kernel
theorem dX10_failAll_111 : decode cX10_failAll 111 = .ok (.aload_n 0, 1) := by decide +kernel
theorem dX10_failAll_112 : decode cX10_failAll 112 = .ok (.getfield 133, 3) := by decide +kernel
theorem dX10_failAll_115 : decode cX10_failAll 115 = .ok (.aload_n 0, 1) := by decide +kernel
theorem dX10_failAll_116 : decode cX10_failAll 116 = .ok (.getfield 315, 3) := by decide +kernel
theorem dX10_failAll_119 : decode cX10_failAll 119 = .ok (.iaload, 1) := by decide +kernel
theorem dX10_failAll_120 : decode cX10_failAll 120 = .ok (.imul, 1) := by decide +kernel
theorem dX10_failAll_121 : decode cX10_failAll 121 = .ok (.bipush 8, 2) := by decide +kernel
theorem dX10_failAll_123 : decode cX10_failAll 123 = .ok (.iadd, 1) := by decide +kernel
theorem dX10_failAll_124 : decode cX10_failAll 124 = .ok (.if_icmp .ge 29, 3) := by decide +kernel
theorem dX10_failAll_127 : decode cX10_failAll 127 = .ok (.iload_n 3, 1) := by decide +kernel
theorem dX10_failAll_128 : decode cX10_failAll 128 = .ok (.sipush 200, 3) := by decide +kernel
theorem dX10_failAll_131 : decode cX10_failAll 131 = .ok (.if_icmp .ge 22, 3) := by decide +kernel
theorem dX10_failAll_134 : decode cX10_failAll 134 = .ok (.aload_n 0, 1) := by decide +kernel
theorem dX10_failAll_135 : decode cX10_failAll 135 = .ok (.getfield 106, 3) := by decide +kernel
theorem dX10_failAll_138 : decode cX10_failAll 138 = .ok (.sipush 200, 3) := by decide +kernel
theorem dX10_failAll_141 : decode cX10_failAll 141 = .ok (.iload_n 2, 1) := by decide +kernel
theorem dX10_failAll_142 : decode cX10_failAll 142 = .ok (.imul, 1) := by decide +kernel
theorem dX10_failAll_143 : decode cX10_failAll 143 = .ok (.iload_n 3, 1) := by decide +kernel
theorem dX10_failAll_144 : decode cX10_failAll 144 = .ok (.iadd, 1) := by decide +kernel
theorem dX10_failAll_145 : decode cX10_failAll 145 = .ok (.lconst 0, 1) := by decide +kernel
theorem dX10_failAll_146 : decode cX10_failAll 146 = .ok (.lastore, 1) := by decide +kernel
theorem dX10_failAll_147 : decode cX10_failAll 147 = .ok (.iinc 3 1, 3) := by decide +kernel
theorem dX10_failAll_150 : decode cX10_failAll 150 = .ok (.goto (-42), 3) := by decide +kernel
theorem dX10_failAll_153 : decode cX10_failAll 153 = .ok (.goto (-129), 3) := by decide +kernel
theorem dX10_failAll_156 : decode cX10_failAll 156 = .ok (.return_, 1) := by decide +kernel
theorem dX10_takeTop_0 : decode cX10_takeTop 0 = .ok (.aload_n 0, 1) := by decide +kernel
theorem dX10_takeTop_1 : decode cX10_takeTop 1 = .ok (.getfield 145, 3) := by decide +kernel
theorem dX10_takeTop_4 : decode cX10_takeTop 4 = .ok (.iload_n 1, 1) := by decide +kernel
theorem dX10_takeTop_5 : decode cX10_takeTop 5 = .ok (.dup2, 1) := by decide +kernel
theorem dX10_takeTop_6 : decode cX10_takeTop 6 = .ok (.iaload, 1) := by decide +kernel
theorem dX10_takeTop_7 : decode cX10_takeTop 7 = .ok (.iconst 1, 1) := by decide +kernel
theorem dX10_takeTop_8 : decode cX10_takeTop 8 = .ok (.isub, 1) := by decide +kernel
theorem dX10_takeTop_9 : decode cX10_takeTop 9 = .ok (.iastore, 1) := by decide +kernel
theorem dX10_takeTop_10 : decode cX10_takeTop 10 = .ok (.aload_n 0, 1) := by decide +kernel
theorem dX10_takeTop_11 : decode cX10_takeTop 11 = .ok (.getfield 148, 3) := by decide +kernel
theorem dX10_takeTop_14 : decode cX10_takeTop 14 = .ok (.bipush 40, 2) := by decide +kernel
theorem dX10_takeTop_16 : decode cX10_takeTop 16 = .ok (.iload_n 1, 1) := by decide +kernel
theorem dX10_takeTop_17 : decode cX10_takeTop 17 = .ok (.imul, 1) := by decide +kernel
theorem dX10_takeTop_18 : decode cX10_takeTop 18 = .ok (.aload_n 0, 1) := by decide +kernel
theorem dX10_takeTop_19 : decode cX10_takeTop 19 = .ok (.getfield 145, 3) := by decide +kernel
theorem dX10_takeTop_22 : decode cX10_takeTop 22 = .ok (.iload_n 1, 1) := by decide +kernel
theorem dX10_takeTop_23 : decode cX10_takeTop 23 = .ok (.iaload, 1) := by decide +kernel
theorem dX10_takeTop_24 : decode cX10_takeTop 24 = .ok (.iadd, 1) := by decide +kernel
theorem dX10_takeTop_25 : decode cX10_takeTop 25 = .ok (.laload, 1) := by decide +kernel
theorem dX10_takeTop_26 : decode cX10_takeTop 26 = .ok (.lreturn, 1) := by decide +kernel
theorem dX10_putTop_0 : decode cX10_putTop 0 = .ok (.aload_n 0, 1) := by decide +kernel
theorem dX10_putTop_1 : decode cX10_putTop 1 = .ok (.getfield 148, 3) := by decide +kernel
theorem dX10_putTop_4 : decode cX10_putTop 4 = .ok (.bipush 40, 2) := by decide +kernel
theorem dX10_putTop_6 : decode cX10_putTop 6 = .ok (.iload_n 1, 1) := by decide +kernel
theorem dX10_putTop_7 : decode cX10_putTop 7 = .ok (.imul, 1) := by decide +kernel
theorem dX10_putTop_8 : decode cX10_putTop 8 = .ok (.aload_n 0, 1) := by decide +kernel
theorem dX10_putTop_9 : decode cX10_putTop 9 = .ok (.getfield 145, 3) := by decide +kernel
theorem dX10_putTop_12 : decode cX10_putTop 12 = .ok (.iload_n 1, 1) := by decide +kernel
theorem dX10_putTop_13 : decode cX10_putTop 13 = .ok (.iaload, 1) := by decide +kernel
theorem dX10_putTop_14 : decode cX10_putTop 14 = .ok (.iadd, 1) := by decide +kernel
theorem dX10_putTop_15 : decode cX10_putTop 15 = .ok (.lload_n 2, 1) := by decide +kernel
theorem dX10_putTop_16 : decode cX10_putTop 16 = .ok (.lastore, 1) := by decide +kernel
theorem dX10_putTop_17 : decode cX10_putTop 17 = .ok (.aload_n 0, 1) := by decide +kernel
theorem dX10_putTop_18 : decode cX10_putTop 18 = .ok (.getfield 145, 3) := by decide +kernel
theorem dX10_putTop_21 : decode cX10_putTop 21 = .ok (.iload_n 1, 1) := by decide +kernel
theorem dX10_putTop_22 : decode cX10_putTop 22 = .ok (.dup2, 1) := by decide +kernel
theorem dX10_putTop_23 : decode cX10_putTop 23 = .ok (.iaload, 1) := by decide +kernel
theorem dX10_putTop_24 : decode cX10_putTop 24 = .ok (.iconst 1, 1) := by decide +kernel
theorem dX10_putTop_25 : decode cX10_putTop 25 = .ok (.iadd, 1) := by decide +kernel
theorem dX10_putTop_26 : decode cX10_putTop 26 = .ok (.iastore, 1) := by decide +kernel
theorem dX10_putTop_27 : decode cX10_putTop 27 = .ok (.return_, 1) := by decide +kernel
theorem dX10_step_0 : decode cX10_step 0 = .ok (.aload_n 0, 1) := by decide +kernel
theorem dX10_step_1 : decode cX10_step 1 = .ok (.getfield 142, 3) := by decide +kernel
theorem dX10_step_4 : decode cX10_step 4 = .ok (.iload_n 1, 1) := by decide +kernel
theorem dX10_step_5 : decode cX10_step 5 = .ok (.iaload, 1) := by decide +kernel
theorem dX10_step_6 : decode cX10_step 6 = .ok (.istore_n 2, 1) := by decide +kernel
theorem dX10_step_7 : decode cX10_step 7 = .ok (.aload_n 0, 1) := by decide +kernel
theorem dX10_step_8 : decode cX10_step 8 = .ok (.getfield 94, 3) := by decide +kernel
theorem dX10_step_11 : decode cX10_step 11 = .ok (.iload_n 2, 1) := by decide +kernel
theorem dX10_step_12 : decode cX10_step 12 = .ok (.iaload, 1) := by decide +kernel
theorem dX10_step_13 : decode cX10_step 13 = .ok (.istore_n 3, 1) := by decide +kernel
theorem dX10_step_14 : decode cX10_step 14 = .ok (.aload_n 0, 1) := by decide +kernel
theorem dX10_step_15 : decode cX10_step 15 = .ok (.getfield 142, 3) := by decide +kernel
theorem dX10_step_18 : decode cX10_step 18 = .ok (.iload_n 1, 1) := by decide +kernel
theorem dX10_step_19 : decode cX10_step 19 = .ok (.dup2, 1) := by decide +kernel
theorem dX10_step_20 : decode cX10_step 20 = .ok (.iaload, 1) := by decide +kernel
theorem dX10_step_21 : decode cX10_step 21 = .ok (.iconst 1, 1) := by decide +kernel
theorem dX10_step_22 : decode cX10_step 22 = .ok (.iadd, 1) := by decide +kernel
theorem dX10_step_23 : decode cX10_step 23 = .ok (.iastore, 1) := by decide +kernel
theorem dX10_step_24 : decode cX10_step 24 = .ok (.iload_n 3, 1) := by decide +kernel
theorem dX10_step_25 : decode cX10_step 25 = .ok (.iconst 1, 1) := by decide +kernel
theorem dX10_step_26 : decode cX10_step 26 = .ok (.if_icmp .eq 13, 3) := by decide +kernel
theorem dX10_step_29 : decode cX10_step 29 = .ok (.iload_n 3, 1) := by decide +kernel
theorem dX10_step_30 : decode cX10_step 30 = .ok (.iconst 2, 1) := by decide +kernel
theorem dX10_step_31 : decode cX10_step 31 = .ok (.if_icmp .eq 8, 3) := by decide +kernel
theorem dX10_step_34 : decode cX10_step 34 = .ok (.iload_n 3, 1) := by decide +kernel
theorem dX10_step_35 : decode cX10_step 35 = .ok (.iconst 3, 1) := by decide +kernel
theorem dX10_step_36 : decode cX10_step 36 = .ok (.if_icmp .ne 51, 3) := by decide +kernel
theorem dX10_step_39 : decode cX10_step 39 = .ok (.aload_n 0, 1) := by decide +kernel
theorem dX10_step_40 : decode cX10_step 40 = .ok (.iload_n 1, 1) := by decide +kernel
theorem dX10_step_41 : decode cX10_step 41 = .ok (.iload_n 3, 1) := by decide +kernel
theorem dX10_step_42 : decode cX10_step 42 = .ok (.iconst 1, 1) := by decide +kernel
theorem dX10_step_43 : decode cX10_step 43 = .ok (.if_icmp .ne 12, 3) := by decide +kernel
theorem dX10_step_46 : decode cX10_step 46 = .ok (.aload_n 0, 1) := by decide +kernel
theorem dX10_step_47 : decode cX10_step 47 = .ok (.getfield 97, 3) := by decide +kernel
theorem dX10_step_50 : decode cX10_step 50 = .ok (.iload_n 2, 1) := by decide +kernel
theorem dX10_step_51 : decode cX10_step 51 = .ok (.laload, 1) := by decide +kernel
theorem dX10_step_52 : decode cX10_step 52 = .ok (.goto 30, 3) := by decide +kernel
theorem dX10_step_55 : decode cX10_step 55 = .ok (.iload_n 3, 1) := by decide +kernel
theorem dX10_step_56 : decode cX10_step 56 = .ok (.iconst 2, 1) := by decide +kernel
theorem dX10_step_57 : decode cX10_step 57 = .ok (.if_icmp .ne 13, 3) := by decide +kernel
theorem dX10_step_60 : decode cX10_step 60 = .ok (.aload_n 0, 1) := by decide +kernel
theorem dX10_step_61 : decode cX10_step 61 = .ok (.getfield 136, 3) := by decide +kernel
theorem dX10_step_64 : decode cX10_step 64 = .ok (.iload_n 1, 1) := by decide +kernel
theorem dX10_step_65 : decode cX10_step 65 = .ok (.iaload, 1) := by decide +kernel
theorem dX10_step_66 : decode cX10_step 66 = .ok (.i2l, 1) := by decide +kernel
theorem dX10_step_67 : decode cX10_step 67 = .ok (.goto 15, 3) := by decide +kernel
theorem dX10_step_70 : decode cX10_step 70 = .ok (.aload_n 0, 1) := by decide +kernel
theorem dX10_step_71 : decode cX10_step 71 = .ok (.getfield 88, 3) := by decide +kernel
theorem dX10_step_74 : decode cX10_step 74 = .ok (.aload_n 0, 1) := by decide +kernel
theorem dX10_step_75 : decode cX10_step 75 = .ok (.getfield 97, 3) := by decide +kernel
theorem dX10_step_78 : decode cX10_step 78 = .ok (.iload_n 2, 1) := by decide +kernel
theorem dX10_step_79 : decode cX10_step 79 = .ok (.laload, 1) := by decide +kernel
theorem dX10_step_80 : decode cX10_step 80 = .ok (.l2i, 1) := by decide +kernel
theorem dX10_step_81 : decode cX10_step 81 = .ok (.laload, 1) := by decide +kernel
theorem dX10_step_82 : decode cX10_step 82 = .ok (.invokevirtual 339, 3) := by decide +kernel
theorem dX10_step_85 : decode cX10_step 85 = .ok (.iconst 0, 1) := by decide +kernel
theorem dX10_step_86 : decode cX10_step 86 = .ok (.ireturn, 1) := by decide +kernel
theorem dX10_step_87 : decode cX10_step 87 = .ok (.iload_n 3, 1) := by decide +kernel
theorem dX10_step_88 : decode cX10_step 88 = .ok (.bipush 13, 2) := by decide +kernel
theorem dX10_step_90 : decode cX10_step 90 = .ok (.if_icmp .ne 18, 3) := by decide +kernel
theorem dX10_step_93 : decode cX10_step 93 = .ok (.aload_n 0, 1) := by decide +kernel
theorem dX10_step_94 : decode cX10_step 94 = .ok (.getfield 142, 3) := by decide +kernel
theorem dX10_step_97 : decode cX10_step 97 = .ok (.iload_n 1, 1) := by decide +kernel
theorem dX10_step_98 : decode cX10_step 98 = .ok (.aload_n 0, 1) := by decide +kernel
theorem dX10_step_99 : decode cX10_step 99 = .ok (.getfield 97, 3) := by decide +kernel
theorem dX10_step_102 : decode cX10_step 102 = .ok (.iload_n 2, 1) := by decide +kernel
theorem dX10_step_103 : decode cX10_step 103 = .ok (.laload, 1) := by decide +kernel
theorem dX10_step_104 : decode cX10_step 104 = .ok (.l2i, 1) := by decide +kernel
theorem dX10_step_105 : decode cX10_step 105 = .ok (.iastore, 1) := by decide +kernel
theorem dX10_step_106 : decode cX10_step 106 = .ok (.iconst 0, 1) := by decide +kernel
theorem dX10_step_107 : decode cX10_step 107 = .ok (.ireturn, 1) := by decide +kernel
theorem dX10_step_108 : decode cX10_step 108 = .ok (.aload_n 0, 1) := by decide +kernel
theorem dX10_step_109 : decode cX10_step 109 = .ok (.iload_n 1, 1) := by decide +kernel
theorem dX10_step_110 : decode cX10_step 110 = .ok (.invokevirtual 342, 3) := by decide +kernel
theorem dX10_step_113 : decode cX10_step 113 = .ok (.lstore 4, 2) := by decide +kernel
theorem dX10_step_115 : decode cX10_step 115 = .ok (.iload_n 3, 1) := by decide +kernel
theorem dX10_step_116 : decode cX10_step 116 = .ok (.bipush 12, 2) := by decide +kernel
theorem dX10_step_118 : decode cX10_step 118 = .ok (.if_icmp .ne 34, 3) := by decide +kernel
theorem dX10_step_121 : decode cX10_step 121 = .ok (.aload_n 0, 1) := by decide +kernel
theorem dX10_step_122 : decode cX10_step 122 = .ok (.getfield 142, 3) := by decide +kernel
theorem dX10_step_125 : decode cX10_step 125 = .ok (.iload_n 1, 1) := by decide +kernel
theorem dX10_step_126 : decode cX10_step 126 = .ok (.lload 4, 2) := by decide +kernel
theorem dX10_step_128 : decode cX10_step 128 = .ok (.lconst 0, 1) := by decide +kernel
theorem dX10_step_129 : decode cX10_step 129 = .ok (.lcmp, 1) := by decide +kernel
theorem dX10_step_130 : decode cX10_step 130 = .ok (.ifCond .ne 13, 3) := by decide +kernel
theorem dX10_step_133 : decode cX10_step 133 = .ok (.aload_n 0, 1) := by decide +kernel
theorem dX10_step_134 : decode cX10_step 134 = .ok (.getfield 97, 3) := by decide +kernel
theorem dX10_step_137 : decode cX10_step 137 = .ok (.iload_n 2, 1) := by decide +kernel
theorem dX10_step_138 : decode cX10_step 138 = .ok (.laload, 1) := by decide +kernel
theorem dX10_step_139 : decode cX10_step 139 = .ok (.l2i, 1) := by decide +kernel
theorem dX10_step_140 : decode cX10_step 140 = .ok (.goto 9, 3) := by decide +kernel
theorem dX10_step_143 : decode cX10_step 143 = .ok (.aload_n 0, 1) := by decide +kernel
theorem dX10_step_144 : decode cX10_step 144 = .ok (.getfield 142, 3) := by decide +kernel
theorem dX10_step_147 : decode cX10_step 147 = .ok (.iload_n 1, 1) := by decide +kernel
theorem dX10_step_148 : decode cX10_step 148 = .ok (.iaload, 1) := by decide +kernel
theorem dX10_step_149 : decode cX10_step 149 = .ok (.iastore, 1) := by decide +kernel
theorem dX10_step_150 : decode cX10_step 150 = .ok (.iconst 0, 1) := by decide +kernel
theorem dX10_step_151 : decode cX10_step 151 = .ok (.ireturn, 1) := by decide +kernel
theorem dX10_step_152 : decode cX10_step 152 = .ok (.iload_n 3, 1) := by decide +kernel
theorem dX10_step_153 : decode cX10_step 153 = .ok (.iconst 5, 1) := by decide +kernel
theorem dX10_step_154 : decode cX10_step 154 = .ok (.if_icmp .ne 13, 3) := by decide +kernel
theorem dX10_step_157 : decode cX10_step 157 = .ok (.aload_n 0, 1) := by decide +kernel
theorem dX10_step_158 : decode cX10_step 158 = .ok (.iload_n 1, 1) := by decide +kernel
theorem dX10_step_159 : decode cX10_step 159 = .ok (.lload 4, 2) := by decide +kernel
theorem dX10_step_161 : decode cX10_step 161 = .ok (.lneg, 1) := by decide +kernel
theorem dX10_step_162 : decode cX10_step 162 = .ok (.invokevirtual 339, 3) := by decide +kernel
theorem dX10_step_165 : decode cX10_step 165 = .ok (.iconst 0, 1) := by decide +kernel
theorem dX10_step_166 : decode cX10_step 166 = .ok (.ireturn, 1) := by decide +kernel
theorem dX10_step_167 : decode cX10_step 167 = .ok (.iload_n 3, 1) := by decide +kernel
theorem dX10_step_168 : decode cX10_step 168 = .ok (.iconst 4, 1) := by decide +kernel
theorem dX10_step_169 : decode cX10_step 169 = .ok (.if_icmp .ne 65, 3) := by decide +kernel
theorem dX10_step_172 : decode cX10_step 172 = .ok (.aload_n 0, 1) := by decide +kernel
theorem dX10_step_173 : decode cX10_step 173 = .ok (.aload_n 0, 1) := by decide +kernel
theorem dX10_step_174 : decode cX10_step 174 = .ok (.getfield 97, 3) := by decide +kernel
theorem dX10_step_177 : decode cX10_step 177 = .ok (.iload_n 2, 1) := by decide +kernel
theorem dX10_step_178 : decode cX10_step 178 = .ok (.laload, 1) := by decide +kernel
theorem dX10_step_179 : decode cX10_step 179 = .ok (.l2i, 1) := by decide +kernel
theorem dX10_step_180 : decode cX10_step 180 = .ok (.lload 4, 2) := by decide +kernel
theorem dX10_step_182 : decode cX10_step 182 = .ok (.aload_n 0, 1) := by decide +kernel
theorem dX10_step_183 : decode cX10_step 183 = .ok (.getfield 130, 3) := by decide +kernel
theorem dX10_step_186 : decode cX10_step 186 = .ok (.iload_n 1, 1) := by decide +kernel
theorem dX10_step_187 : decode cX10_step 187 = .ok (.iaload, 1) := by decide +kernel
theorem dX10_step_188 : decode cX10_step 188 = .ok (.iconst 0, 1) := by decide +kernel
theorem dX10_step_189 : decode cX10_step 189 = .ok (.invokevirtual 345, 3) := by decide +kernel
theorem dX10_step_192 : decode cX10_step 192 = .ok (.istore 6, 2) := by decide +kernel
theorem dX10_step_194 : decode cX10_step 194 = .ok (.iload 6, 2) := by decide +kernel
theorem dX10_step_196 : decode cX10_step 196 = .ok (.iconst (-1), 1) := by decide +kernel
theorem dX10_step_197 : decode cX10_step 197 = .ok (.if_icmp .ne 20, 3) := by decide +kernel
theorem dX10_step_200 : decode cX10_step 200 = .ok (.aload_n 0, 1) := by decide +kernel
theorem dX10_step_201 : decode cX10_step 201 = .ok (.iload_n 1, 1) := by decide +kernel
theorem dX10_step_202 : decode cX10_step 202 = .ok (.lload 4, 2) := by decide +kernel
theorem dX10_step_204 : decode cX10_step 204 = .ok (.invokevirtual 339, 3) := by decide +kernel
theorem dX10_step_207 : decode cX10_step 207 = .ok (.aload_n 0, 1) := by decide +kernel
theorem dX10_step_208 : decode cX10_step 208 = .ok (.getfield 142, 3) := by decide +kernel
theorem dX10_step_211 : decode cX10_step 211 = .ok (.iload_n 1, 1) := by decide +kernel
theorem dX10_step_212 : decode cX10_step 212 = .ok (.iload_n 2, 1) := by decide +kernel
theorem dX10_step_213 : decode cX10_step 213 = .ok (.iastore, 1) := by decide +kernel
theorem dX10_step_214 : decode cX10_step 214 = .ok (.goto 17, 3) := by decide +kernel
theorem dX10_step_217 : decode cX10_step 217 = .ok (.iload 6, 2) := by decide +kernel
theorem dX10_step_219 : decode cX10_step 219 = .ok (.ifCond .ne 12, 3) := by decide +kernel
theorem dX10_step_222 : decode cX10_step 222 = .ok (.aload_n 0, 1) := by decide +kernel
theorem dX10_step_223 : decode cX10_step 223 = .ok (.iload_n 1, 1) := by decide +kernel
theorem dX10_step_224 : decode cX10_step 224 = .ok (.aload_n 0, 1) := by decide +kernel
theorem dX10_step_225 : decode cX10_step 225 = .ok (.getfield 328, 3) := by decide +kernel
theorem dX10_step_228 : decode cX10_step 228 = .ok (.invokevirtual 339, 3) := by decide +kernel
theorem dX10_step_231 : decode cX10_step 231 = .ok (.iload 6, 2) := by decide +kernel
theorem dX10_step_233 : decode cX10_step 233 = .ok (.ireturn, 1) := by decide +kernel
theorem dX10_step_234 : decode cX10_step 234 = .ok (.aload_n 0, 1) := by decide +kernel
theorem dX10_step_235 : decode cX10_step 235 = .ok (.iload_n 1, 1) := by decide +kernel
theorem dX10_step_236 : decode cX10_step 236 = .ok (.invokevirtual 342, 3) := by decide +kernel
theorem dX10_step_239 : decode cX10_step 239 = .ok (.lstore 6, 2) := by decide +kernel
theorem dX10_step_241 : decode cX10_step 241 = .ok (.iload_n 3, 1) := by decide +kernel
theorem dX10_step_242 : decode cX10_step 242 = .ok (.bipush 9, 2) := by decide +kernel
theorem dX10_step_244 : decode cX10_step 244 = .ok (.if_icmp .eq 9, 3) := by decide +kernel
theorem dX10_step_247 : decode cX10_step 247 = .ok (.iload_n 3, 1) := by decide +kernel
theorem dX10_step_248 : decode cX10_step 248 = .ok (.bipush 10, 2) := by decide +kernel
theorem dX10_step_250 : decode cX10_step 250 = .ok (.if_icmp .ne 12, 3) := by decide +kernel
theorem dX10_step_253 : decode cX10_step 253 = .ok (.lload 4, 2) := by decide +kernel
theorem dX10_step_255 : decode cX10_step 255 = .ok (.lconst 0, 1) := by decide +kernel
theorem dX10_step_256 : decode cX10_step 256 = .ok (.lcmp, 1) := by decide +kernel
theorem dX10_step_257 : decode cX10_step 257 = .ok (.ifCond .ne 5, 3) := by decide +kernel
theorem dX10_step_260 : decode cX10_step 260 = .ok (.iconst 1, 1) := by decide +kernel
theorem dX10_step_261 : decode cX10_step 261 = .ok (.ireturn, 1) := by decide +kernel
theorem dX10_step_262 : decode cX10_step 262 = .ok (.aload_n 0, 1) := by decide +kernel
theorem dX10_step_263 : decode cX10_step 263 = .ok (.iload_n 1, 1) := by decide +kernel
theorem dX10_step_264 : decode cX10_step 264 = .ok (.iload_n 3, 1) := by decide +kernel
theorem dX10_step_265 : decode cX10_step 265 = .ok (.bipush 6, 2) := by decide +kernel
theorem dX10_step_267 : decode cX10_step 267 = .ok (.if_icmp .ne 11, 3) := by decide +kernel
theorem dX10_step_270 : decode cX10_step 270 = .ok (.lload 6, 2) := by decide +kernel
theorem dX10_step_272 : decode cX10_step 272 = .ok (.lload 4, 2) := by decide +kernel
theorem dX10_step_274 : decode cX10_step 274 = .ok (.ladd, 1) := by decide +kernel
theorem dX10_step_275 : decode cX10_step 275 = .ok (.goto 72, 3) := by decide +kernel
theorem dX10_step_278 : decode cX10_step 278 = .ok (.iload_n 3, 1) := by decide +kernel
theorem dX10_step_279 : decode cX10_step 279 = .ok (.bipush 7, 2) := by decide +kernel
theorem dX10_step_281 : decode cX10_step 281 = .ok (.if_icmp .ne 11, 3) := by decide +kernel
theorem dX10_step_284 : decode cX10_step 284 = .ok (.lload 6, 2) := by decide +kernel
theorem dX10_step_286 : decode cX10_step 286 = .ok (.lload 4, 2) := by decide +kernel
theorem dX10_step_288 : decode cX10_step 288 = .ok (.lsub, 1) := by decide +kernel
theorem dX10_step_289 : decode cX10_step 289 = .ok (.goto 58, 3) := by decide +kernel
theorem dX10_step_292 : decode cX10_step 292 = .ok (.iload_n 3, 1) := by decide +kernel
theorem dX10_step_293 : decode cX10_step 293 = .ok (.bipush 8, 2) := by decide +kernel
theorem dX10_step_295 : decode cX10_step 295 = .ok (.if_icmp .ne 11, 3) := by decide +kernel
theorem dX10_step_298 : decode cX10_step 298 = .ok (.lload 6, 2) := by decide +kernel
theorem dX10_step_300 : decode cX10_step 300 = .ok (.lload 4, 2) := by decide +kernel
theorem dX10_step_302 : decode cX10_step 302 = .ok (.lmul, 1) := by decide +kernel
theorem dX10_step_303 : decode cX10_step 303 = .ok (.goto 44, 3) := by decide +kernel
theorem dX10_step_306 : decode cX10_step 306 = .ok (.iload_n 3, 1) := by decide +kernel
theorem dX10_step_307 : decode cX10_step 307 = .ok (.bipush 9, 2) := by decide +kernel
theorem dX10_step_309 : decode cX10_step 309 = .ok (.if_icmp .ne 11, 3) := by decide +kernel
theorem dX10_step_312 : decode cX10_step 312 = .ok (.lload 6, 2) := by decide +kernel
theorem dX10_step_314 : decode cX10_step 314 = .ok (.lload 4, 2) := by decide +kernel
theorem dX10_step_316 : decode cX10_step 316 = .ok (.ldiv, 1) := by decide +kernel
theorem dX10_step_317 : decode cX10_step 317 = .ok (.goto 30, 3) := by decide +kernel
theorem dX10_step_320 : decode cX10_step 320 = .ok (.iload_n 3, 1) := by decide +kernel
theorem dX10_step_321 : decode cX10_step 321 = .ok (.bipush 10, 2) := by decide +kernel
theorem dX10_step_323 : decode cX10_step 323 = .ok (.if_icmp .ne 11, 3) := by decide +kernel
theorem dX10_step_326 : decode cX10_step 326 = .ok (.lload 6, 2) := by decide +kernel
theorem dX10_step_328 : decode cX10_step 328 = .ok (.lload 4, 2) := by decide +kernel
theorem dX10_step_330 : decode cX10_step 330 = .ok (.lrem, 1) := by decide +kernel
theorem dX10_step_331 : decode cX10_step 331 = .ok (.goto 16, 3) := by decide +kernel
theorem dX10_step_334 : decode cX10_step 334 = .ok (.lload 6, 2) := by decide +kernel
theorem dX10_step_336 : decode cX10_step 336 = .ok (.lload 4, 2) := by decide +kernel
theorem dX10_step_338 : decode cX10_step 338 = .ok (.lcmp, 1) := by decide +kernel
theorem dX10_step_339 : decode cX10_step 339 = .ok (.ifCond .ge 7, 3) := by decide +kernel
theorem dX10_step_342 : decode cX10_step 342 = .ok (.lconst 1, 1) := by decide +kernel
theorem dX10_step_343 : decode cX10_step 343 = .ok (.goto 4, 3) := by decide +kernel
theorem dX10_step_346 : decode cX10_step 346 = .ok (.lconst 0, 1) := by decide +kernel
theorem dX10_step_347 : decode cX10_step 347 = .ok (.invokevirtual 339, 3) := by decide +kernel
theorem dX10_step_350 : decode cX10_step 350 = .ok (.iconst 0, 1) := by decide +kernel
theorem dX10_step_351 : decode cX10_step 351 = .ok (.ireturn, 1) := by decide +kernel
theorem dX10_add_0 : decode cX10_add 0 = .ok (.aload_n 0, 1) := by decide +kernel
theorem dX10_add_1 : decode cX10_add 1 = .ok (.dup, 1) := by decide +kernel
theorem dX10_add_2 : decode cX10_add 2 = .ok (.getfield 349, 3) := by decide +kernel
theorem dX10_add_5 : decode cX10_add 5 = .ok (.lload_n 1, 1) := by decide +kernel
theorem dX10_add_6 : decode cX10_add 6 = .ok (.ldc2_w 352, 3) := by decide +kernel
theorem dX10_add_9 : decode cX10_add 9 = .ok (.land, 1) := by decide +kernel
theorem dX10_add_10 : decode cX10_add 10 = .ok (.ladd, 1) := by decide +kernel
theorem dX10_add_11 : decode cX10_add 11 = .ok (.putfield 349, 3) := by decide +kernel
theorem dX10_add_14 : decode cX10_add 14 = .ok (.aload_n 0, 1) := by decide +kernel
theorem dX10_add_15 : decode cX10_add 15 = .ok (.dup, 1) := by decide +kernel
theorem dX10_add_16 : decode cX10_add 16 = .ok (.getfield 354, 3) := by decide +kernel
theorem dX10_add_19 : decode cX10_add 19 = .ok (.lload_n 1, 1) := by decide +kernel
theorem dX10_add_20 : decode cX10_add 20 = .ok (.bipush 32, 2) := by decide +kernel
theorem dX10_add_22 : decode cX10_add 22 = .ok (.lshr, 1) := by decide +kernel
theorem dX10_add_23 : decode cX10_add 23 = .ok (.aload_n 0, 1) := by decide +kernel
theorem dX10_add_24 : decode cX10_add 24 = .ok (.getfield 349, 3) := by decide +kernel
theorem dX10_add_27 : decode cX10_add 27 = .ok (.bipush 32, 2) := by decide +kernel
theorem dX10_add_29 : decode cX10_add 29 = .ok (.lshr, 1) := by decide +kernel
theorem dX10_add_30 : decode cX10_add 30 = .ok (.ladd, 1) := by decide +kernel
theorem dX10_add_31 : decode cX10_add 31 = .ok (.ladd, 1) := by decide +kernel
theorem dX10_add_32 : decode cX10_add 32 = .ok (.putfield 354, 3) := by decide +kernel
theorem dX10_add_35 : decode cX10_add 35 = .ok (.aload_n 0, 1) := by decide +kernel
theorem dX10_add_36 : decode cX10_add 36 = .ok (.aload_n 0, 1) := by decide +kernel
theorem dX10_add_37 : decode cX10_add 37 = .ok (.getfield 349, 3) := by decide +kernel
theorem dX10_add_40 : decode cX10_add 40 = .ok (.ldc2_w 352, 3) := by decide +kernel
theorem dX10_add_43 : decode cX10_add 43 = .ok (.land, 1) := by decide +kernel
theorem dX10_add_44 : decode cX10_add 44 = .ok (.putfield 349, 3) := by decide +kernel
theorem dX10_add_47 : decode cX10_add 47 = .ok (.return_, 1) := by decide +kernel
theorem dX10_goOne_0 : decode cX10_goOne 0 = .ok (.aload_n 0, 1) := by decide +kernel
theorem dX10_goOne_1 : decode cX10_goOne 1 = .ok (.getfield 315, 3) := by decide +kernel
theorem dX10_goOne_4 : decode cX10_goOne 4 = .ok (.iconst 1, 1) := by decide +kernel
theorem dX10_goOne_5 : decode cX10_goOne 5 = .ok (.isub, 1) := by decide +kernel
theorem dX10_goOne_6 : decode cX10_goOne 6 = .ok (.istore_n 1, 1) := by decide +kernel
theorem dX10_goOne_7 : decode cX10_goOne 7 = .ok (.aload_n 0, 1) := by decide +kernel
theorem dX10_goOne_8 : decode cX10_goOne 8 = .ok (.getfield 130, 3) := by decide +kernel
theorem dX10_goOne_11 : decode cX10_goOne 11 = .ok (.iload_n 1, 1) := by decide +kernel
theorem dX10_goOne_12 : decode cX10_goOne 12 = .ok (.iaload, 1) := by decide +kernel
theorem dX10_goOne_13 : decode cX10_goOne 13 = .ok (.istore_n 2, 1) := by decide +kernel
theorem dX10_goOne_14 : decode cX10_goOne 14 = .ok (.aload_n 0, 1) := by decide +kernel
theorem dX10_goOne_15 : decode cX10_goOne 15 = .ok (.getfield 136, 3) := by decide +kernel
theorem dX10_goOne_18 : decode cX10_goOne 18 = .ok (.iload_n 1, 1) := by decide +kernel
theorem dX10_goOne_19 : decode cX10_goOne 19 = .ok (.iaload, 1) := by decide +kernel
theorem dX10_goOne_20 : decode cX10_goOne 20 = .ok (.aload_n 0, 1) := by decide +kernel
theorem dX10_goOne_21 : decode cX10_goOne 21 = .ok (.getfield 139, 3) := by decide +kernel
theorem dX10_goOne_24 : decode cX10_goOne 24 = .ok (.iload_n 1, 1) := by decide +kernel
theorem dX10_goOne_25 : decode cX10_goOne 25 = .ok (.iaload, 1) := by decide +kernel
theorem dX10_goOne_26 : decode cX10_goOne 26 = .ok (.if_icmp .ge 72, 3) := by decide +kernel
theorem dX10_goOne_29 : decode cX10_goOne 29 = .ok (.aload_n 0, 1) := by decide +kernel
theorem dX10_goOne_30 : decode cX10_goOne 30 = .ok (.getfield 142, 3) := by decide +kernel
theorem dX10_goOne_33 : decode cX10_goOne 33 = .ok (.iload_n 1, 1) := by decide +kernel
theorem dX10_goOne_34 : decode cX10_goOne 34 = .ok (.iaload, 1) := by decide +kernel
theorem dX10_goOne_35 : decode cX10_goOne 35 = .ok (.aload_n 0, 1) := by decide +kernel
theorem dX10_goOne_36 : decode cX10_goOne 36 = .ok (.getfield 91, 3) := by decide +kernel
theorem dX10_goOne_39 : decode cX10_goOne 39 = .ok (.iload_n 2, 1) := by decide +kernel
theorem dX10_goOne_40 : decode cX10_goOne 40 = .ok (.iconst 1, 1) := by decide +kernel
theorem dX10_goOne_41 : decode cX10_goOne 41 = .ok (.iadd, 1) := by decide +kernel
theorem dX10_goOne_42 : decode cX10_goOne 42 = .ok (.iaload, 1) := by decide +kernel
theorem dX10_goOne_43 : decode cX10_goOne 43 = .ok (.if_icmp .ge 9, 3) := by decide +kernel
theorem dX10_goOne_46 : decode cX10_goOne 46 = .ok (.aload_n 0, 1) := by decide +kernel
theorem dX10_goOne_47 : decode cX10_goOne 47 = .ok (.iload_n 1, 1) := by decide +kernel
theorem dX10_goOne_48 : decode cX10_goOne 48 = .ok (.invokevirtual 357, 3) := by decide +kernel
theorem dX10_goOne_51 : decode cX10_goOne 51 = .ok (.ireturn, 1) := by decide +kernel
theorem dX10_goOne_52 : decode cX10_goOne 52 = .ok (.aload_n 0, 1) := by decide +kernel
theorem dX10_goOne_53 : decode cX10_goOne 53 = .ok (.getfield 106, 3) := by decide +kernel
theorem dX10_goOne_56 : decode cX10_goOne 56 = .ok (.sipush 200, 3) := by decide +kernel
theorem dX10_goOne_59 : decode cX10_goOne 59 = .ok (.iload_n 2, 1) := by decide +kernel
theorem dX10_goOne_60 : decode cX10_goOne 60 = .ok (.imul, 1) := by decide +kernel
theorem dX10_goOne_61 : decode cX10_goOne 61 = .ok (.aload_n 0, 1) := by decide +kernel
theorem dX10_goOne_62 : decode cX10_goOne 62 = .ok (.getfield 136, 3) := by decide +kernel
theorem dX10_goOne_65 : decode cX10_goOne 65 = .ok (.iload_n 1, 1) := by decide +kernel
theorem dX10_goOne_66 : decode cX10_goOne 66 = .ok (.iaload, 1) := by decide +kernel
theorem dX10_goOne_67 : decode cX10_goOne 67 = .ok (.iadd, 1) := by decide +kernel
theorem dX10_goOne_68 : decode cX10_goOne 68 = .ok (.aload_n 0, 1) := by decide +kernel
theorem dX10_goOne_69 : decode cX10_goOne 69 = .ok (.iload_n 1, 1) := by decide +kernel
theorem dX10_goOne_70 : decode cX10_goOne 70 = .ok (.invokevirtual 342, 3) := by decide +kernel
theorem dX10_goOne_73 : decode cX10_goOne 73 = .ok (.lastore, 1) := by decide +kernel
theorem dX10_goOne_74 : decode cX10_goOne 74 = .ok (.aload_n 0, 1) := by decide +kernel
theorem dX10_goOne_75 : decode cX10_goOne 75 = .ok (.getfield 136, 3) := by decide +kernel
theorem dX10_goOne_78 : decode cX10_goOne 78 = .ok (.iload_n 1, 1) := by decide +kernel
theorem dX10_goOne_79 : decode cX10_goOne 79 = .ok (.dup2, 1) := by decide +kernel
theorem dX10_goOne_80 : decode cX10_goOne 80 = .ok (.iaload, 1) := by decide +kernel
theorem dX10_goOne_81 : decode cX10_goOne 81 = .ok (.iconst 1, 1) := by decide +kernel
theorem dX10_goOne_82 : decode cX10_goOne 82 = .ok (.iadd, 1) := by decide +kernel
theorem dX10_goOne_83 : decode cX10_goOne 83 = .ok (.iastore, 1) := by decide +kernel
theorem dX10_goOne_84 : decode cX10_goOne 84 = .ok (.aload_n 0, 1) := by decide +kernel
theorem dX10_goOne_85 : decode cX10_goOne 85 = .ok (.getfield 142, 3) := by decide +kernel
theorem dX10_goOne_88 : decode cX10_goOne 88 = .ok (.iload_n 1, 1) := by decide +kernel
theorem dX10_goOne_89 : decode cX10_goOne 89 = .ok (.aload_n 0, 1) := by decide +kernel
theorem dX10_goOne_90 : decode cX10_goOne 90 = .ok (.getfield 91, 3) := by decide +kernel
theorem dX10_goOne_93 : decode cX10_goOne 93 = .ok (.iload_n 2, 1) := by decide +kernel
theorem dX10_goOne_94 : decode cX10_goOne 94 = .ok (.iaload, 1) := by decide +kernel
theorem dX10_goOne_95 : decode cX10_goOne 95 = .ok (.iastore, 1) := by decide +kernel
theorem dX10_goOne_96 : decode cX10_goOne 96 = .ok (.iconst 0, 1) := by decide +kernel
theorem dX10_goOne_97 : decode cX10_goOne 97 = .ok (.ireturn, 1) := by decide +kernel
theorem dX10_goOne_98 : decode cX10_goOne 98 = .ok (.aload_n 0, 1) := by decide +kernel
theorem dX10_goOne_99 : decode cX10_goOne 99 = .ok (.getfield 133, 3) := by decide +kernel
theorem dX10_goOne_102 : decode cX10_goOne 102 = .ok (.iload_n 1, 1) := by decide +kernel
theorem dX10_goOne_103 : decode cX10_goOne 103 = .ok (.iaload, 1) := by decide +kernel
theorem dX10_goOne_104 : decode cX10_goOne 104 = .ok (.bipush (-9), 2) := by decide +kernel
theorem dX10_goOne_106 : decode cX10_goOne 106 = .ok (.if_icmp .eq 32, 3) := by decide +kernel
theorem dX10_goOne_109 : decode cX10_goOne 109 = .ok (.aload_n 0, 1) := by decide +kernel
theorem dX10_goOne_110 : decode cX10_goOne 110 = .ok (.getfield 103, 3) := by decide +kernel
theorem dX10_goOne_113 : decode cX10_goOne 113 = .ok (.bipush 25, 2) := by decide +kernel
theorem dX10_goOne_115 : decode cX10_goOne 115 = .ok (.iload_n 2, 1) := by decide +kernel
theorem dX10_goOne_116 : decode cX10_goOne 116 = .ok (.imul, 1) := by decide +kernel
theorem dX10_goOne_117 : decode cX10_goOne 117 = .ok (.aload_n 0, 1) := by decide +kernel
theorem dX10_goOne_118 : decode cX10_goOne 118 = .ok (.getfield 133, 3) := by decide +kernel
theorem dX10_goOne_121 : decode cX10_goOne 121 = .ok (.iload_n 1, 1) := by decide +kernel
theorem dX10_goOne_122 : decode cX10_goOne 122 = .ok (.iaload, 1) := by decide +kernel
theorem dX10_goOne_123 : decode cX10_goOne 123 = .ok (.iadd, 1) := by decide +kernel
theorem dX10_goOne_124 : decode cX10_goOne 124 = .ok (.iconst 2, 1) := by decide +kernel
theorem dX10_goOne_125 : decode cX10_goOne 125 = .ok (.iastore, 1) := by decide +kernel
theorem dX10_goOne_126 : decode cX10_goOne 126 = .ok (.aload_n 0, 1) := by decide +kernel
theorem dX10_goOne_127 : decode cX10_goOne 127 = .ok (.dup, 1) := by decide +kernel
theorem dX10_goOne_128 : decode cX10_goOne 128 = .ok (.getfield 315, 3) := by decide +kernel
theorem dX10_goOne_131 : decode cX10_goOne 131 = .ok (.iconst 1, 1) := by decide +kernel
theorem dX10_goOne_132 : decode cX10_goOne 132 = .ok (.isub, 1) := by decide +kernel
theorem dX10_goOne_133 : decode cX10_goOne 133 = .ok (.putfield 315, 3) := by decide +kernel
theorem dX10_goOne_136 : decode cX10_goOne 136 = .ok (.iconst 0, 1) := by decide +kernel
theorem dX10_goOne_137 : decode cX10_goOne 137 = .ok (.ireturn, 1) := by decide +kernel
theorem dX10_goOne_138 : decode cX10_goOne 138 = .ok (.aload_n 0, 1) := by decide +kernel
theorem dX10_goOne_139 : decode cX10_goOne 139 = .ok (.getfield 82, 3) := by decide +kernel
theorem dX10_goOne_142 : decode cX10_goOne 142 = .ok (.iload_n 2, 1) := by decide +kernel
theorem dX10_goOne_143 : decode cX10_goOne 143 = .ok (.baload, 1) := by decide +kernel
theorem dX10_goOne_144 : decode cX10_goOne 144 = .ok (.ifCond .eq 135, 3) := by decide +kernel
theorem dX10_goOne_147 : decode cX10_goOne 147 = .ok (.iconst 0, 1) := by decide +kernel
theorem dX10_goOne_148 : decode cX10_goOne 148 = .ok (.istore_n 3, 1) := by decide +kernel
theorem dX10_goOne_149 : decode cX10_goOne 149 = .ok (.iload_n 3, 1) := by decide +kernel
theorem dX10_goOne_150 : decode cX10_goOne 150 = .ok (.aload_n 0, 1) := by decide +kernel
theorem dX10_goOne_151 : decode cX10_goOne 151 = .ok (.iload_n 2, 1) := by decide +kernel
theorem dX10_goOne_152 : decode cX10_goOne 152 = .ok (.invokevirtual 312, 3) := by decide +kernel
theorem dX10_goOne_155 : decode cX10_goOne 155 = .ok (.if_icmp .ge 41, 3) := by decide +kernel
theorem dX10_goOne_158 : decode cX10_goOne 158 = .ok (.aload_n 0, 1) := by decide +kernel
theorem dX10_goOne_159 : decode cX10_goOne 159 = .ok (.getfield 79, 3) := by decide +kernel
theorem dX10_goOne_162 : decode cX10_goOne 162 = .ok (.iload_n 2, 1) := by decide +kernel
theorem dX10_goOne_163 : decode cX10_goOne 163 = .ok (.baload, 1) := by decide +kernel
theorem dX10_goOne_164 : decode cX10_goOne 164 = .ok (.ifCond .ne 32, 3) := by decide +kernel
theorem dX10_goOne_167 : decode cX10_goOne 167 = .ok (.aload_n 0, 1) := by decide +kernel
theorem dX10_goOne_168 : decode cX10_goOne 168 = .ok (.getfield 103, 3) := by decide +kernel
theorem dX10_goOne_171 : decode cX10_goOne 171 = .ok (.bipush 25, 2) := by decide +kernel
theorem dX10_goOne_173 : decode cX10_goOne 173 = .ok (.iload_n 2, 1) := by decide +kernel
theorem dX10_goOne_174 : decode cX10_goOne 174 = .ok (.imul, 1) := by decide +kernel
theorem dX10_goOne_175 : decode cX10_goOne 175 = .ok (.iload_n 3, 1) := by decide +kernel
theorem dX10_goOne_176 : decode cX10_goOne 176 = .ok (.iadd, 1) := by decide +kernel
theorem dX10_goOne_177 : decode cX10_goOne 177 = .ok (.iaload, 1) := by decide +kernel
theorem dX10_goOne_178 : decode cX10_goOne 178 = .ok (.ifCond .ne 12, 3) := by decide +kernel
theorem dX10_goOne_181 : decode cX10_goOne 181 = .ok (.aload_n 0, 1) := by decide +kernel
theorem dX10_goOne_182 : decode cX10_goOne 182 = .ok (.iload_n 2, 1) := by decide +kernel
theorem dX10_goOne_183 : decode cX10_goOne 183 = .ok (.iload_n 3, 1) := by decide +kernel
theorem dX10_goOne_184 : decode cX10_goOne 184 = .ok (.bipush (-9), 2) := by decide +kernel
theorem dX10_goOne_186 : decode cX10_goOne 186 = .ok (.invokevirtual 324, 3) := by decide +kernel
theorem dX10_goOne_189 : decode cX10_goOne 189 = .ok (.ireturn, 1) := by decide +kernel
theorem dX10_goOne_190 : decode cX10_goOne 190 = .ok (.iinc 3 1, 3) := by decide +kernel
theorem dX10_goOne_193 : decode cX10_goOne 193 = .ok (.goto (-44), 3) := by decide +kernel
theorem dX10_goOne_196 : decode cX10_goOne 196 = .ok (.aload_n 0, 1) := by decide +kernel
theorem dX10_goOne_197 : decode cX10_goOne 197 = .ok (.lconst 0, 1) := by decide +kernel
theorem dX10_goOne_198 : decode cX10_goOne 198 = .ok (.putfield 354, 3) := by decide +kernel
theorem dX10_goOne_201 : decode cX10_goOne 201 = .ok (.aload_n 0, 1) := by decide +kernel
theorem dX10_goOne_202 : decode cX10_goOne 202 = .ok (.lconst 0, 1) := by decide +kernel
theorem dX10_goOne_203 : decode cX10_goOne 203 = .ok (.putfield 349, 3) := by decide +kernel
theorem dX10_goOne_206 : decode cX10_goOne 206 = .ok (.iconst 0, 1) := by decide +kernel
theorem dX10_goOne_207 : decode cX10_goOne 207 = .ok (.istore_n 3, 1) := by decide +kernel
theorem dX10_goOne_208 : decode cX10_goOne 208 = .ok (.iload_n 3, 1) := by decide +kernel
theorem dX10_goOne_209 : decode cX10_goOne 209 = .ok (.i2l, 1) := by decide +kernel
theorem dX10_goOne_210 : decode cX10_goOne 210 = .ok (.aload_n 0, 1) := by decide +kernel
theorem dX10_goOne_211 : decode cX10_goOne 211 = .ok (.getfield 88, 3) := by decide +kernel
theorem dX10_goOne_214 : decode cX10_goOne 214 = .ok (.iload_n 2, 1) := by decide +kernel
theorem dX10_goOne_215 : decode cX10_goOne 215 = .ok (.laload, 1) := by decide +kernel
theorem dX10_goOne_216 : decode cX10_goOne 216 = .ok (.lcmp, 1) := by decide +kernel
theorem dX10_goOne_217 : decode cX10_goOne 217 = .ok (.ifCond .ge 25, 3) := by decide +kernel
theorem dX10_goOne_220 : decode cX10_goOne 220 = .ok (.aload_n 0, 1) := by decide +kernel
theorem dX10_goOne_221 : decode cX10_goOne 221 = .ok (.aload_n 0, 1) := by decide +kernel
theorem dX10_goOne_222 : decode cX10_goOne 222 = .ok (.getfield 106, 3) := by decide +kernel
theorem dX10_goOne_225 : decode cX10_goOne 225 = .ok (.sipush 200, 3) := by decide +kernel
theorem dX10_goOne_228 : decode cX10_goOne 228 = .ok (.iload_n 2, 1) := by decide +kernel
theorem dX10_goOne_229 : decode cX10_goOne 229 = .ok (.imul, 1) := by decide +kernel
theorem dX10_goOne_230 : decode cX10_goOne 230 = .ok (.iload_n 3, 1) := by decide +kernel
theorem dX10_goOne_231 : decode cX10_goOne 231 = .ok (.iadd, 1) := by decide +kernel
theorem dX10_goOne_232 : decode cX10_goOne 232 = .ok (.laload, 1) := by decide +kernel
theorem dX10_goOne_233 : decode cX10_goOne 233 = .ok (.invokevirtual 360, 3) := by decide +kernel
theorem dX10_goOne_236 : decode cX10_goOne 236 = .ok (.iinc 3 1, 3) := by decide +kernel
theorem dX10_goOne_239 : decode cX10_goOne 239 = .ok (.goto (-31), 3) := by decide +kernel
theorem dX10_goOne_242 : decode cX10_goOne 242 = .ok (.aload_n 0, 1) := by decide +kernel
theorem dX10_goOne_243 : decode cX10_goOne 243 = .ok (.getfield 354, 3) := by decide +kernel
theorem dX10_goOne_246 : decode cX10_goOne 246 = .ok (.aload_n 0, 1) := by decide +kernel
theorem dX10_goOne_247 : decode cX10_goOne 247 = .ok (.getfield 85, 3) := by decide +kernel
theorem dX10_goOne_250 : decode cX10_goOne 250 = .ok (.iload_n 2, 1) := by decide +kernel
theorem dX10_goOne_251 : decode cX10_goOne 251 = .ok (.laload, 1) := by decide +kernel
theorem dX10_goOne_252 : decode cX10_goOne 252 = .ok (.bipush 32, 2) := by decide +kernel
theorem dX10_goOne_254 : decode cX10_goOne 254 = .ok (.lshr, 1) := by decide +kernel
theorem dX10_goOne_255 : decode cX10_goOne 255 = .ok (.lcmp, 1) := by decide +kernel
theorem dX10_goOne_256 : decode cX10_goOne 256 = .ok (.ifCond .ne 21, 3) := by decide +kernel
theorem dX10_goOne_259 : decode cX10_goOne 259 = .ok (.aload_n 0, 1) := by decide +kernel
theorem dX10_goOne_260 : decode cX10_goOne 260 = .ok (.getfield 349, 3) := by decide +kernel
theorem dX10_goOne_263 : decode cX10_goOne 263 = .ok (.aload_n 0, 1) := by decide +kernel
theorem dX10_goOne_264 : decode cX10_goOne 264 = .ok (.getfield 85, 3) := by decide +kernel
theorem dX10_goOne_267 : decode cX10_goOne 267 = .ok (.iload_n 2, 1) := by decide +kernel
theorem dX10_goOne_268 : decode cX10_goOne 268 = .ok (.laload, 1) := by decide +kernel
theorem dX10_goOne_269 : decode cX10_goOne 269 = .ok (.ldc2_w 352, 3) := by decide +kernel
theorem dX10_goOne_272 : decode cX10_goOne 272 = .ok (.land, 1) := by decide +kernel
theorem dX10_goOne_273 : decode cX10_goOne 273 = .ok (.lcmp, 1) := by decide +kernel
theorem dX10_goOne_274 : decode cX10_goOne 274 = .ok (.ifCond .eq 5, 3) := by decide +kernel
theorem dX10_goOne_277 : decode cX10_goOne 277 = .ok (.iconst 5, 1) := by decide +kernel
theorem dX10_goOne_278 : decode cX10_goOne 278 = .ok (.ireturn, 1) := by decide +kernel
theorem dX10_goOne_279 : decode cX10_goOne 279 = .ok (.aload_n 0, 1) := by decide +kernel
theorem dX10_goOne_280 : decode cX10_goOne 280 = .ok (.getfield 100, 3) := by decide +kernel
theorem dX10_goOne_283 : decode cX10_goOne 283 = .ok (.iload_n 2, 1) := by decide +kernel
theorem dX10_goOne_284 : decode cX10_goOne 284 = .ok (.iconst 2, 1) := by decide +kernel
theorem dX10_goOne_285 : decode cX10_goOne 285 = .ok (.iastore, 1) := by decide +kernel
theorem dX10_goOne_286 : decode cX10_goOne 286 = .ok (.aload_n 0, 1) := by decide +kernel
theorem dX10_goOne_287 : decode cX10_goOne 287 = .ok (.dup, 1) := by decide +kernel
theorem dX10_goOne_288 : decode cX10_goOne 288 = .ok (.getfield 315, 3) := by decide +kernel
theorem dX10_goOne_291 : decode cX10_goOne 291 = .ok (.iconst 1, 1) := by decide +kernel
theorem dX10_goOne_292 : decode cX10_goOne 292 = .ok (.isub, 1) := by decide +kernel
theorem dX10_goOne_293 : decode cX10_goOne 293 = .ok (.putfield 315, 3) := by decide +kernel
theorem dX10_goOne_296 : decode cX10_goOne 296 = .ok (.iconst 0, 1) := by decide +kernel
theorem dX10_goOne_297 : decode cX10_goOne 297 = .ok (.ireturn, 1) := by decide +kernel
theorem dX10_get_0 : decode cX10_get 0 = .ok (.aload_n 0, 1) := by decide +kernel
theorem dX10_get_1 : decode cX10_get 1 = .ok (.iconst 0, 1) := by decide +kernel
theorem dX10_get_2 : decode cX10_get 2 = .ok (.putfield 315, 3) := by decide +kernel
theorem dX10_get_5 : decode cX10_get 5 = .ok (.aload_n 0, 1) := by decide +kernel
theorem dX10_get_6 : decode cX10_get 6 = .ok (.iconst 0, 1) := by decide +kernel
theorem dX10_get_7 : decode cX10_get 7 = .ok (.putfield 302, 3) := by decide +kernel
theorem dX10_get_10 : decode cX10_get 10 = .ok (.aload_n 0, 1) := by decide +kernel
theorem dX10_get_11 : decode cX10_get 11 = .ok (.getfield 315, 3) := by decide +kernel
theorem dX10_get_14 : decode cX10_get 14 = .ok (.ifCond .le 10, 3) := by decide +kernel
theorem dX10_get_17 : decode cX10_get 17 = .ok (.aload_n 0, 1) := by decide +kernel
theorem dX10_get_18 : decode cX10_get 18 = .ok (.invokevirtual 364, 3) := by decide +kernel
theorem dX10_get_21 : decode cX10_get 21 = .ok (.goto 13, 3) := by decide +kernel
theorem dX10_get_24 : decode cX10_get 24 = .ok (.aload_n 0, 1) := by decide +kernel
theorem dX10_get_25 : decode cX10_get 25 = .ok (.iload_n 1, 1) := by decide +kernel
theorem dX10_get_26 : decode cX10_get 26 = .ok (.lload_n 2, 1) := by decide +kernel
theorem dX10_get_27 : decode cX10_get 27 = .ok (.bipush (-9), 2) := by decide +kernel
theorem dX10_get_29 : decode cX10_get 29 = .ok (.iload 4, 2) := by decide +kernel
theorem dX10_get_31 : decode cX10_get 31 = .ok (.invokevirtual 345, 3) := by decide +kernel
theorem dX10_get_34 : decode cX10_get 34 = .ok (.istore 5, 2) := by decide +kernel
theorem dX10_get_36 : decode cX10_get 36 = .ok (.iload 5, 2) := by decide +kernel
theorem dX10_get_38 : decode cX10_get 38 = .ok (.ifCond .le 11, 3) := by decide +kernel
theorem dX10_get_41 : decode cX10_get 41 = .ok (.aload_n 0, 1) := by decide +kernel
theorem dX10_get_42 : decode cX10_get 42 = .ok (.iload 5, 2) := by decide +kernel
theorem dX10_get_44 : decode cX10_get 44 = .ok (.invokevirtual 367, 3) := by decide +kernel
theorem dX10_get_47 : decode cX10_get 47 = .ok (.iconst 0, 1) := by decide +kernel
theorem dX10_get_48 : decode cX10_get 48 = .ok (.ireturn, 1) := by decide +kernel
theorem dX10_get_49 : decode cX10_get 49 = .ok (.iload 5, 2) := by decide +kernel
theorem dX10_get_51 : decode cX10_get 51 = .ok (.ifCond .ne 23, 3) := by decide +kernel
theorem dX10_get_54 : decode cX10_get 54 = .ok (.aload_n 0, 1) := by decide +kernel
theorem dX10_get_55 : decode cX10_get 55 = .ok (.getfield 315, 3) := by decide +kernel
theorem dX10_get_58 : decode cX10_get 58 = .ok (.ifCond .ne 16, 3) := by decide +kernel
theorem dX10_get_61 : decode cX10_get 61 = .ok (.aload_n 0, 1) := by decide +kernel
theorem dX10_get_62 : decode cX10_get 62 = .ok (.iload_n 1, 1) := by decide +kernel
theorem dX10_get_63 : decode cX10_get 63 = .ok (.lload_n 2, 1) := by decide +kernel
theorem dX10_get_64 : decode cX10_get 64 = .ok (.iload 4, 2) := by decide +kernel
theorem dX10_get_66 : decode cX10_get 66 = .ok (.invokevirtual 371, 3) := by decide +kernel
theorem dX10_get_69 : decode cX10_get 69 = .ok (.ifCond .eq 5, 3) := by decide +kernel
theorem dX10_get_72 : decode cX10_get 72 = .ok (.iconst 1, 1) := by decide +kernel
theorem dX10_get_73 : decode cX10_get 73 = .ok (.ireturn, 1) := by decide +kernel
theorem dX10_get_74 : decode cX10_get 74 = .ok (.goto (-64), 3) := by decide +kernel
theorem dX10_isAnswered_0 : decode cX10_isAnswered 0 = .ok (.aload_n 0, 1) := by decide +kernel
theorem dX10_isAnswered_1 : decode cX10_isAnswered 1 = .ok (.getfield 100, 3) := by decide +kernel
theorem dX10_isAnswered_4 : decode cX10_isAnswered 4 = .ok (.iload_n 1, 1) := by decide +kernel
theorem dX10_isAnswered_5 : decode cX10_isAnswered 5 = .ok (.iaload, 1) := by decide +kernel
theorem dX10_isAnswered_6 : decode cX10_isAnswered 6 = .ok (.iconst 2, 1) := by decide +kernel
theorem dX10_isAnswered_7 : decode cX10_isAnswered 7 = .ok (.if_icmp .ne 56, 3) := by decide +kernel
theorem dX10_isAnswered_10 : decode cX10_isAnswered 10 = .ok (.iload 4, 2) := by decide +kernel
theorem dX10_isAnswered_12 : decode cX10_isAnswered 12 = .ok (.ifCond .ne 47, 3) := by decide +kernel
theorem dX10_isAnswered_15 : decode cX10_isAnswered 15 = .ok (.lload_n 2, 1) := by decide +kernel
theorem dX10_isAnswered_16 : decode cX10_isAnswered 16 = .ok (.lconst 0, 1) := by decide +kernel
theorem dX10_isAnswered_17 : decode cX10_isAnswered 17 = .ok (.aload_n 0, 1) := by decide +kernel
theorem dX10_isAnswered_18 : decode cX10_isAnswered 18 = .ok (.getfield 88, 3) := by decide +kernel
theorem dX10_isAnswered_21 : decode cX10_isAnswered 21 = .ok (.iload_n 1, 1) := by decide +kernel
theorem dX10_isAnswered_22 : decode cX10_isAnswered 22 = .ok (.laload, 1) := by decide +kernel
theorem dX10_isAnswered_23 : decode cX10_isAnswered 23 = .ok (.lconst 1, 1) := by decide +kernel
theorem dX10_isAnswered_24 : decode cX10_isAnswered 24 = .ok (.lsub, 1) := by decide +kernel
theorem dX10_isAnswered_25 : decode cX10_isAnswered 25 = .ok (.invokestatic 305, 3) := by decide +kernel
theorem dX10_isAnswered_28 : decode cX10_isAnswered 28 = .ok (.ifCond .eq 35, 3) := by decide +kernel
theorem dX10_isAnswered_31 : decode cX10_isAnswered 31 = .ok (.aload_n 0, 1) := by decide +kernel
theorem dX10_isAnswered_32 : decode cX10_isAnswered 32 = .ok (.getfield 79, 3) := by decide +kernel
theorem dX10_isAnswered_35 : decode cX10_isAnswered 35 = .ok (.iload_n 1, 1) := by decide +kernel
theorem dX10_isAnswered_36 : decode cX10_isAnswered 36 = .ok (.baload, 1) := by decide +kernel
theorem dX10_isAnswered_37 : decode cX10_isAnswered 37 = .ok (.ifCond .ne 22, 3) := by decide +kernel
theorem dX10_isAnswered_40 : decode cX10_isAnswered 40 = .ok (.aload_n 0, 1) := by decide +kernel
theorem dX10_isAnswered_41 : decode cX10_isAnswered 41 = .ok (.getfield 103, 3) := by decide +kernel
theorem dX10_isAnswered_44 : decode cX10_isAnswered 44 = .ok (.bipush 25, 2) := by decide +kernel
theorem dX10_isAnswered_46 : decode cX10_isAnswered 46 = .ok (.iload_n 1, 1) := by decide +kernel
theorem dX10_isAnswered_47 : decode cX10_isAnswered 47 = .ok (.imul, 1) := by decide +kernel
theorem dX10_isAnswered_48 : decode cX10_isAnswered 48 = .ok (.lload_n 2, 1) := by decide +kernel
theorem dX10_isAnswered_49 : decode cX10_isAnswered 49 = .ok (.l2i, 1) := by decide +kernel
theorem dX10_isAnswered_50 : decode cX10_isAnswered 50 = .ok (.bipush 8, 2) := by decide +kernel
theorem dX10_isAnswered_52 : decode cX10_isAnswered 52 = .ok (.idiv, 1) := by decide +kernel
theorem dX10_isAnswered_53 : decode cX10_isAnswered 53 = .ok (.iadd, 1) := by decide +kernel
theorem dX10_isAnswered_54 : decode cX10_isAnswered 54 = .ok (.iaload, 1) := by decide +kernel
theorem dX10_isAnswered_55 : decode cX10_isAnswered 55 = .ok (.iconst 2, 1) := by decide +kernel
theorem dX10_isAnswered_56 : decode cX10_isAnswered 56 = .ok (.if_icmp .ne 7, 3) := by decide +kernel
theorem dX10_isAnswered_59 : decode cX10_isAnswered 59 = .ok (.iconst 1, 1) := by decide +kernel
theorem dX10_isAnswered_60 : decode cX10_isAnswered 60 = .ok (.goto 4, 3) := by decide +kernel
theorem dX10_isAnswered_63 : decode cX10_isAnswered 63 = .ok (.iconst 0, 1) := by decide +kernel
theorem dX10_isAnswered_64 : decode cX10_isAnswered 64 = .ok (.istore 5, 2) := by decide +kernel
theorem dX10_isAnswered_66 : decode cX10_isAnswered 66 = .ok (.iload 5, 2) := by decide +kernel
theorem dX10_isAnswered_68 : decode cX10_isAnswered 68 = .ok (.ifCond .eq 25, 3) := by decide +kernel
theorem dX10_isAnswered_71 : decode cX10_isAnswered 71 = .ok (.iload 4, 2) := by decide +kernel
theorem dX10_isAnswered_73 : decode cX10_isAnswered 73 = .ok (.ifCond .ne 20, 3) := by decide +kernel
theorem dX10_isAnswered_76 : decode cX10_isAnswered 76 = .ok (.aload_n 0, 1) := by decide +kernel
theorem dX10_isAnswered_77 : decode cX10_isAnswered 77 = .ok (.aload_n 0, 1) := by decide +kernel
theorem dX10_isAnswered_78 : decode cX10_isAnswered 78 = .ok (.getfield 106, 3) := by decide +kernel
theorem dX10_isAnswered_81 : decode cX10_isAnswered 81 = .ok (.sipush 200, 3) := by decide +kernel
theorem dX10_isAnswered_84 : decode cX10_isAnswered 84 = .ok (.iload_n 1, 1) := by decide +kernel
theorem dX10_isAnswered_85 : decode cX10_isAnswered 85 = .ok (.imul, 1) := by decide +kernel
theorem dX10_isAnswered_86 : decode cX10_isAnswered 86 = .ok (.lload_n 2, 1) := by decide +kernel
theorem dX10_isAnswered_87 : decode cX10_isAnswered 87 = .ok (.l2i, 1) := by decide +kernel
theorem dX10_isAnswered_88 : decode cX10_isAnswered 88 = .ok (.iadd, 1) := by decide +kernel
theorem dX10_isAnswered_89 : decode cX10_isAnswered 89 = .ok (.laload, 1) := by decide +kernel
theorem dX10_isAnswered_90 : decode cX10_isAnswered 90 = .ok (.putfield 328, 3) := by decide +kernel
theorem dX10_isAnswered_93 : decode cX10_isAnswered 93 = .ok (.iload 5, 2) := by decide +kernel
theorem dX10_isAnswered_95 : decode cX10_isAnswered 95 = .ok (.ireturn, 1) := by decide +kernel
theorem dX10_entry_0 : decode cX10_entry 0 = .ok (.aload_n 0, 1) := by decide +kernel
theorem dX10_entry_1 : decode cX10_entry 1 = .ok (.iconst 0, 1) := by decide +kernel
theorem dX10_entry_2 : decode cX10_entry 2 = .ok (.putfield 302, 3) := by decide +kernel
theorem dX10_entry_5 : decode cX10_entry 5 = .ok (.aload_n 0, 1) := by decide +kernel
theorem dX10_entry_6 : decode cX10_entry 6 = .ok (.iload_n 1, 1) := by decide +kernel
theorem dX10_entry_7 : decode cX10_entry 7 = .ok (.invokevirtual 309, 3) := by decide +kernel
theorem dX10_entry_10 : decode cX10_entry 10 = .ok (.ifCond .eq 21, 3) := by decide +kernel
theorem dX10_entry_13 : decode cX10_entry 13 = .ok (.aload_n 0, 1) := by decide +kernel
theorem dX10_entry_14 : decode cX10_entry 14 = .ok (.iload_n 1, 1) := by decide +kernel
theorem dX10_entry_15 : decode cX10_entry 15 = .ok (.iload_n 2, 1) := by decide +kernel
theorem dX10_entry_16 : decode cX10_entry 16 = .ok (.i2l, 1) := by decide +kernel
theorem dX10_entry_17 : decode cX10_entry 17 = .ok (.iconst 0, 1) := by decide +kernel
theorem dX10_entry_18 : decode cX10_entry 18 = .ok (.invokevirtual 375, 3) := by decide +kernel
theorem dX10_entry_21 : decode cX10_entry 21 = .ok (.ifCond .eq 10, 3) := by decide +kernel
theorem dX10_entry_24 : decode cX10_entry 24 = .ok (.aload_n 0, 1) := by decide +kernel
theorem dX10_entry_25 : decode cX10_entry 25 = .ok (.getfield 328, 3) := by decide +kernel
theorem dX10_entry_28 : decode cX10_entry 28 = .ok (.goto 4, 3) := by decide +kernel
theorem dX10_entry_31 : decode cX10_entry 31 = .ok (.lconst 0, 1) := by decide +kernel
theorem dX10_entry_32 : decode cX10_entry 32 = .ok (.lreturn, 1) := by decide +kernel
theorem dX10_reason_0 : decode cX10_reason 0 = .ok (.iload_n 1, 1) := by decide +kernel
theorem dX10_reason_1 : decode cX10_reason 1 = .ok (.i2l, 1) := by decide +kernel
theorem dX10_reason_2 : decode cX10_reason 2 = .ok (.lconst 0, 1) := by decide +kernel
theorem dX10_reason_3 : decode cX10_reason 3 = .ok (.aload_n 0, 1) := by decide +kernel
theorem dX10_reason_4 : decode cX10_reason 4 = .ok (.getfield 302, 3) := by decide +kernel
theorem dX10_reason_7 : decode cX10_reason 7 = .ok (.iconst 1, 1) := by decide +kernel
theorem dX10_reason_8 : decode cX10_reason 8 = .ok (.isub, 1) := by decide +kernel
theorem dX10_reason_9 : decode cX10_reason 9 = .ok (.i2l, 1) := by decide +kernel
theorem dX10_reason_10 : decode cX10_reason 10 = .ok (.invokestatic 305, 3) := by decide +kernel
theorem dX10_reason_13 : decode cX10_reason 13 = .ok (.ifCond .ne 8, 3) := by decide +kernel
theorem dX10_reason_16 : decode cX10_reason 16 = .ok (.bipush (-9), 2) := by decide +kernel
theorem dX10_reason_18 : decode cX10_reason 18 = .ok (.goto 22, 3) := by decide +kernel
theorem dX10_reason_21 : decode cX10_reason 21 = .ok (.iload_n 1, 1) := by decide +kernel
theorem dX10_reason_22 : decode cX10_reason 22 = .ok (.aload_n 0, 1) := by decide +kernel
theorem dX10_reason_23 : decode cX10_reason 23 = .ok (.getfield 302, 3) := by decide +kernel
theorem dX10_reason_26 : decode cX10_reason 26 = .ok (.iconst 1, 1) := by decide +kernel
theorem dX10_reason_27 : decode cX10_reason 27 = .ok (.isub, 1) := by decide +kernel
theorem dX10_reason_28 : decode cX10_reason 28 = .ok (.if_icmp .ne 10, 3) := by decide +kernel
theorem dX10_reason_31 : decode cX10_reason 31 = .ok (.aload_n 0, 1) := by decide +kernel
theorem dX10_reason_32 : decode cX10_reason 32 = .ok (.getfield 336, 3) := by decide +kernel
theorem dX10_reason_35 : decode cX10_reason 35 = .ok (.goto 5, 3) := by decide +kernel
theorem dX10_reason_38 : decode cX10_reason 38 = .ok (.bipush 7, 2) := by decide +kernel
theorem dX10_reason_40 : decode cX10_reason 40 = .ok (.ireturn, 1) := by decide +kernel
theorem dX10_sum_0 : decode cX10_sum 0 = .ok (.aload_n 0, 1) := by decide +kernel
theorem dX10_sum_1 : decode cX10_sum 1 = .ok (.iload_n 1, 1) := by decide +kernel
theorem dX10_sum_2 : decode cX10_sum 2 = .ok (.invokevirtual 309, 3) := by decide +kernel
theorem dX10_sum_5 : decode cX10_sum 5 = .ok (.ifCond .ne 7, 3) := by decide +kernel
theorem dX10_sum_8 : decode cX10_sum 8 = .ok (.ldc2_w 222, 3) := by decide +kernel
theorem dX10_sum_11 : decode cX10_sum 11 = .ok (.lreturn, 1) := by decide +kernel
theorem dX10_sum_12 : decode cX10_sum 12 = .ok (.iload 4, 2) := by decide +kernel
theorem dX10_sum_14 : decode cX10_sum 14 = .ok (.i2l, 1) := by decide +kernel
theorem dX10_sum_15 : decode cX10_sum 15 = .ok (.lconst 0, 1) := by decide +kernel
theorem dX10_sum_16 : decode cX10_sum 16 = .ok (.ldc2_w 378, 3) := by decide +kernel
theorem dX10_sum_19 : decode cX10_sum 19 = .ok (.invokestatic 305, 3) := by decide +kernel
theorem dX10_sum_22 : decode cX10_sum 22 = .ok (.ifCond .eq 20, 3) := by decide +kernel
theorem dX10_sum_25 : decode cX10_sum 25 = .ok (.iload_n 3, 1) := by decide +kernel
theorem dX10_sum_26 : decode cX10_sum 26 = .ok (.iload_n 2, 1) := by decide +kernel
theorem dX10_sum_27 : decode cX10_sum 27 = .ok (.if_icmp .lt 15, 3) := by decide +kernel
theorem dX10_sum_30 : decode cX10_sum 30 = .ok (.iload_n 3, 1) := by decide +kernel
theorem dX10_sum_31 : decode cX10_sum 31 = .ok (.i2l, 1) := by decide +kernel
theorem dX10_sum_32 : decode cX10_sum 32 = .ok (.iload_n 2, 1) := by decide +kernel
theorem dX10_sum_33 : decode cX10_sum 33 = .ok (.i2l, 1) := by decide +kernel
theorem dX10_sum_34 : decode cX10_sum 34 = .ok (.ldc2_w 380, 3) := by decide +kernel
theorem dX10_sum_37 : decode cX10_sum 37 = .ok (.ladd, 1) := by decide +kernel
theorem dX10_sum_38 : decode cX10_sum 38 = .ok (.lcmp, 1) := by decide +kernel
theorem dX10_sum_39 : decode cX10_sum 39 = .ok (.ifCond .le 7, 3) := by decide +kernel
theorem dX10_sum_42 : decode cX10_sum 42 = .ok (.ldc2_w 382, 3) := by decide +kernel
theorem dX10_sum_45 : decode cX10_sum 45 = .ok (.lreturn, 1) := by decide +kernel
theorem dX10_sum_46 : decode cX10_sum 46 = .ok (.lconst 0, 1) := by decide +kernel
theorem dX10_sum_47 : decode cX10_sum 47 = .ok (.lstore 5, 2) := by decide +kernel
theorem dX10_sum_49 : decode cX10_sum 49 = .ok (.lconst 0, 1) := by decide +kernel
theorem dX10_sum_50 : decode cX10_sum 50 = .ok (.lstore 7, 2) := by decide +kernel
theorem dX10_sum_52 : decode cX10_sum 52 = .ok (.iload_n 2, 1) := by decide +kernel
theorem dX10_sum_53 : decode cX10_sum 53 = .ok (.i2l, 1) := by decide +kernel
theorem dX10_sum_54 : decode cX10_sum 54 = .ok (.lstore 9, 2) := by decide +kernel
theorem dX10_sum_56 : decode cX10_sum 56 = .ok (.lload 9, 2) := by decide +kernel
theorem dX10_sum_58 : decode cX10_sum 58 = .ok (.iload_n 3, 1) := by decide +kernel
theorem dX10_sum_59 : decode cX10_sum 59 = .ok (.i2l, 1) := by decide +kernel
theorem dX10_sum_60 : decode cX10_sum 60 = .ok (.lcmp, 1) := by decide +kernel
theorem dX10_sum_61 : decode cX10_sum 61 = .ok (.ifCond .gt 64, 3) := by decide +kernel
theorem dX10_sum_64 : decode cX10_sum 64 = .ok (.aload_n 0, 1) := by decide +kernel
theorem dX10_sum_65 : decode cX10_sum 65 = .ok (.iload_n 1, 1) := by decide +kernel
theorem dX10_sum_66 : decode cX10_sum 66 = .ok (.lload 9, 2) := by decide +kernel
theorem dX10_sum_68 : decode cX10_sum 68 = .ok (.iconst 0, 1) := by decide +kernel
theorem dX10_sum_69 : decode cX10_sum 69 = .ok (.invokevirtual 375, 3) := by decide +kernel
theorem dX10_sum_72 : decode cX10_sum 72 = .ok (.ifCond .ne 5, 3) := by decide +kernel
theorem dX10_sum_75 : decode cX10_sum 75 = .ok (.lconst 0, 1) := by decide +kernel
theorem dX10_sum_76 : decode cX10_sum 76 = .ok (.lreturn, 1) := by decide +kernel
theorem dX10_sum_77 : decode cX10_sum 77 = .ok (.lload 7, 2) := by decide +kernel
theorem dX10_sum_79 : decode cX10_sum 79 = .ok (.aload_n 0, 1) := by decide +kernel
theorem dX10_sum_80 : decode cX10_sum 80 = .ok (.getfield 328, 3) := by decide +kernel
theorem dX10_sum_83 : decode cX10_sum 83 = .ok (.ldc2_w 352, 3) := by decide +kernel
theorem dX10_sum_86 : decode cX10_sum 86 = .ok (.land, 1) := by decide +kernel
theorem dX10_sum_87 : decode cX10_sum 87 = .ok (.ladd, 1) := by decide +kernel
theorem dX10_sum_88 : decode cX10_sum 88 = .ok (.lstore 7, 2) := by decide +kernel
theorem dX10_sum_90 : decode cX10_sum 90 = .ok (.lload 5, 2) := by decide +kernel
theorem dX10_sum_92 : decode cX10_sum 92 = .ok (.aload_n 0, 1) := by decide +kernel
theorem dX10_sum_93 : decode cX10_sum 93 = .ok (.getfield 328, 3) := by decide +kernel
theorem dX10_sum_96 : decode cX10_sum 96 = .ok (.bipush 32, 2) := by decide +kernel
theorem dX10_sum_98 : decode cX10_sum 98 = .ok (.lshr, 1) := by decide +kernel
theorem dX10_sum_99 : decode cX10_sum 99 = .ok (.lload 7, 2) := by decide +kernel
theorem dX10_sum_101 : decode cX10_sum 101 = .ok (.bipush 32, 2) := by decide +kernel
theorem dX10_sum_103 : decode cX10_sum 103 = .ok (.lshr, 1) := by decide +kernel
theorem dX10_sum_104 : decode cX10_sum 104 = .ok (.ladd, 1) := by decide +kernel
theorem dX10_sum_105 : decode cX10_sum 105 = .ok (.ladd, 1) := by decide +kernel
theorem dX10_sum_106 : decode cX10_sum 106 = .ok (.lstore 5, 2) := by decide +kernel
theorem dX10_sum_108 : decode cX10_sum 108 = .ok (.lload 7, 2) := by decide +kernel
theorem dX10_sum_110 : decode cX10_sum 110 = .ok (.ldc2_w 352, 3) := by decide +kernel
theorem dX10_sum_113 : decode cX10_sum 113 = .ok (.land, 1) := by decide +kernel
theorem dX10_sum_114 : decode cX10_sum 114 = .ok (.lstore 7, 2) := by decide +kernel
theorem dX10_sum_116 : decode cX10_sum 116 = .ok (.lload 9, 2) := by decide +kernel
theorem dX10_sum_118 : decode cX10_sum 118 = .ok (.lconst 1, 1) := by decide +kernel
theorem dX10_sum_119 : decode cX10_sum 119 = .ok (.ladd, 1) := by decide +kernel
theorem dX10_sum_120 : decode cX10_sum 120 = .ok (.lstore 9, 2) := by decide +kernel
theorem dX10_sum_122 : decode cX10_sum 122 = .ok (.goto (-66), 3) := by decide +kernel
theorem dX10_sum_125 : decode cX10_sum 125 = .ok (.iload 4, 2) := by decide +kernel
theorem dX10_sum_127 : decode cX10_sum 127 = .ok (.ifCond .ne 8, 3) := by decide +kernel
theorem dX10_sum_130 : decode cX10_sum 130 = .ok (.lload 7, 2) := by decide +kernel
theorem dX10_sum_132 : decode cX10_sum 132 = .ok (.goto 27, 3) := by decide +kernel
theorem dX10_sum_135 : decode cX10_sum 135 = .ok (.iload 4, 2) := by decide +kernel
theorem dX10_sum_137 : decode cX10_sum 137 = .ok (.iconst 1, 1) := by decide +kernel
theorem dX10_sum_138 : decode cX10_sum 138 = .ok (.if_icmp .ne 12, 3) := by decide +kernel
theorem dX10_sum_141 : decode cX10_sum 141 = .ok (.lload 5, 2) := by decide +kernel
theorem dX10_sum_143 : decode cX10_sum 143 = .ok (.ldc2_w 352, 3) := by decide +kernel
theorem dX10_sum_146 : decode cX10_sum 146 = .ok (.land, 1) := by decide +kernel
theorem dX10_sum_147 : decode cX10_sum 147 = .ok (.goto 12, 3) := by decide +kernel
theorem dX10_sum_150 : decode cX10_sum 150 = .ok (.lload 5, 2) := by decide +kernel
theorem dX10_sum_152 : decode cX10_sum 152 = .ok (.bipush 32, 2) := by decide +kernel
theorem dX10_sum_154 : decode cX10_sum 154 = .ok (.lshr, 1) := by decide +kernel
theorem dX10_sum_155 : decode cX10_sum 155 = .ok (.ldc2_w 352, 3) := by decide +kernel
theorem dX10_sum_158 : decode cX10_sum 158 = .ok (.land, 1) := by decide +kernel
theorem dX10_sum_159 : decode cX10_sum 159 = .ok (.lreturn, 1) := by decide +kernel
theorem dX10_find_0 : decode cX10_find 0 = .ok (.aload_n 0, 1) := by decide +kernel
theorem dX10_find_1 : decode cX10_find 1 = .ok (.iload_n 1, 1) := by decide +kernel
theorem dX10_find_2 : decode cX10_find 2 = .ok (.invokevirtual 309, 3) := by decide +kernel
theorem dX10_find_5 : decode cX10_find 5 = .ok (.ifCond .ne 5, 3) := by decide +kernel
theorem dX10_find_8 : decode cX10_find 8 = .ok (.iconst (-1), 1) := by decide +kernel
theorem dX10_find_9 : decode cX10_find 9 = .ok (.ireturn, 1) := by decide +kernel
theorem dX10_find_10 : decode cX10_find 10 = .ok (.aload_n 0, 1) := by decide +kernel
theorem dX10_find_11 : decode cX10_find 11 = .ok (.iload_n 1, 1) := by decide +kernel
theorem dX10_find_12 : decode cX10_find 12 = .ok (.lconst 0, 1) := by decide +kernel
theorem dX10_find_13 : decode cX10_find 13 = .ok (.iconst 1, 1) := by decide +kernel
theorem dX10_find_14 : decode cX10_find 14 = .ok (.invokevirtual 375, 3) := by decide +kernel
theorem dX10_find_17 : decode cX10_find 17 = .ok (.ifCond .ne 6, 3) := by decide +kernel
theorem dX10_find_20 : decode cX10_find 20 = .ok (.bipush (-10), 2) := by decide +kernel
theorem dX10_find_22 : decode cX10_find 22 = .ok (.ireturn, 1) := by decide +kernel
theorem dX10_find_23 : decode cX10_find 23 = .ok (.iconst 0, 1) := by decide +kernel
theorem dX10_find_24 : decode cX10_find 24 = .ok (.istore 4, 2) := by decide +kernel
theorem dX10_find_26 : decode cX10_find 26 = .ok (.iload 4, 2) := by decide +kernel
theorem dX10_find_28 : decode cX10_find 28 = .ok (.i2l, 1) := by decide +kernel
theorem dX10_find_29 : decode cX10_find 29 = .ok (.aload_n 0, 1) := by decide +kernel
theorem dX10_find_30 : decode cX10_find 30 = .ok (.getfield 88, 3) := by decide +kernel
theorem dX10_find_33 : decode cX10_find 33 = .ok (.iload_n 1, 1) := by decide +kernel
theorem dX10_find_34 : decode cX10_find 34 = .ok (.laload, 1) := by decide +kernel
theorem dX10_find_35 : decode cX10_find 35 = .ok (.lcmp, 1) := by decide +kernel
theorem dX10_find_36 : decode cX10_find 36 = .ok (.ifCond .ge 36, 3) := by decide +kernel
theorem dX10_find_39 : decode cX10_find 39 = .ok (.aload_n 0, 1) := by decide +kernel
theorem dX10_find_40 : decode cX10_find 40 = .ok (.iload_n 1, 1) := by decide +kernel
theorem dX10_find_41 : decode cX10_find 41 = .ok (.iload 4, 2) := by decide +kernel
theorem dX10_find_43 : decode cX10_find 43 = .ok (.i2l, 1) := by decide +kernel
theorem dX10_find_44 : decode cX10_find 44 = .ok (.iconst 0, 1) := by decide +kernel
theorem dX10_find_45 : decode cX10_find 45 = .ok (.invokevirtual 375, 3) := by decide +kernel
theorem dX10_find_48 : decode cX10_find 48 = .ok (.ifCond .ne 6, 3) := by decide +kernel
theorem dX10_find_51 : decode cX10_find 51 = .ok (.bipush (-10), 2) := by decide +kernel
theorem dX10_find_53 : decode cX10_find 53 = .ok (.ireturn, 1) := by decide +kernel
theorem dX10_find_54 : decode cX10_find 54 = .ok (.aload_n 0, 1) := by decide +kernel
theorem dX10_find_55 : decode cX10_find 55 = .ok (.getfield 328, 3) := by decide +kernel
theorem dX10_find_58 : decode cX10_find 58 = .ok (.lload_n 2, 1) := by decide +kernel
theorem dX10_find_59 : decode cX10_find 59 = .ok (.lcmp, 1) := by decide +kernel
theorem dX10_find_60 : decode cX10_find 60 = .ok (.ifCond .ne 6, 3) := by decide +kernel
theorem dX10_find_63 : decode cX10_find 63 = .ok (.iload 4, 2) := by decide +kernel
theorem dX10_find_65 : decode cX10_find 65 = .ok (.ireturn, 1) := by decide +kernel
theorem dX10_find_66 : decode cX10_find 66 = .ok (.iinc 4 1, 3) := by decide +kernel
theorem dX10_find_69 : decode cX10_find 69 = .ok (.goto (-43), 3) := by decide +kernel
theorem dX10_find_72 : decode cX10_find 72 = .ok (.bipush (-9), 2) := by decide +kernel
theorem dX10_find_74 : decode cX10_find 74 = .ok (.ireturn, 1) := by decide +kernel
theorem dX10_drop_0 : decode cX10_drop 0 = .ok (.aload_n 0, 1) := by decide +kernel
theorem dX10_drop_1 : decode cX10_drop 1 = .ok (.iload_n 1, 1) := by decide +kernel
theorem dX10_drop_2 : decode cX10_drop 2 = .ok (.invokevirtual 309, 3) := by decide +kernel
theorem dX10_drop_5 : decode cX10_drop 5 = .ok (.ifCond .ne 5, 3) := by decide +kernel
theorem dX10_drop_8 : decode cX10_drop 8 = .ok (.iconst (-1), 1) := by decide +kernel
theorem dX10_drop_9 : decode cX10_drop 9 = .ok (.ireturn, 1) := by decide +kernel
theorem dX10_drop_10 : decode cX10_drop 10 = .ok (.aload_n 0, 1) := by decide +kernel
theorem dX10_drop_11 : decode cX10_drop 11 = .ok (.getfield 100, 3) := by decide +kernel
theorem dX10_drop_14 : decode cX10_drop 14 = .ok (.iload_n 1, 1) := by decide +kernel
theorem dX10_drop_15 : decode cX10_drop 15 = .ok (.iaload, 1) := by decide +kernel
theorem dX10_drop_16 : decode cX10_drop 16 = .ok (.iconst 2, 1) := by decide +kernel
theorem dX10_drop_17 : decode cX10_drop 17 = .ok (.if_icmp .eq 6, 3) := by decide +kernel
theorem dX10_drop_20 : decode cX10_drop 20 = .ok (.bipush (-3), 2) := by decide +kernel
theorem dX10_drop_22 : decode cX10_drop 22 = .ok (.ireturn, 1) := by decide +kernel
theorem dX10_drop_23 : decode cX10_drop 23 = .ok (.aload_n 0, 1) := by decide +kernel
theorem dX10_drop_24 : decode cX10_drop 24 = .ok (.getfield 100, 3) := by decide +kernel
theorem dX10_drop_27 : decode cX10_drop 27 = .ok (.iload_n 1, 1) := by decide +kernel
theorem dX10_drop_28 : decode cX10_drop 28 = .ok (.iconst 0, 1) := by decide +kernel
theorem dX10_drop_29 : decode cX10_drop 29 = .ok (.iastore, 1) := by decide +kernel
theorem dX10_drop_30 : decode cX10_drop 30 = .ok (.aload_n 0, 1) := by decide +kernel
theorem dX10_drop_31 : decode cX10_drop 31 = .ok (.getfield 88, 3) := by decide +kernel
theorem dX10_drop_34 : decode cX10_drop 34 = .ok (.iload_n 1, 1) := by decide +kernel
theorem dX10_drop_35 : decode cX10_drop 35 = .ok (.laload, 1) := by decide +kernel
theorem dX10_drop_36 : decode cX10_drop 36 = .ok (.l2i, 1) := by decide +kernel
theorem dX10_drop_37 : decode cX10_drop 37 = .ok (.ireturn, 1) := by decide +kernel
theorem dX10_builds_0 : decode cX10_builds 0 = .ok (.aload_n 0, 1) := by decide +kernel
theorem dX10_builds_1 : decode cX10_builds 1 = .ok (.getfield 296, 3) := by decide +kernel
theorem dX10_builds_4 : decode cX10_builds 4 = .ok (.ireturn, 1) := by decide +kernel
theorem dX10_build_0 : decode cX10_build 0 = .ok (.iload_n 1, 1) := by decide +kernel
theorem dX10_build_1 : decode cX10_build 1 = .ok (.i2l, 1) := by decide +kernel
theorem dX10_build_2 : decode cX10_build 2 = .ok (.lconst 0, 1) := by decide +kernel
theorem dX10_build_3 : decode cX10_build 3 = .ok (.aload_n 0, 1) := by decide +kernel
theorem dX10_build_4 : decode cX10_build 4 = .ok (.getfield 296, 3) := by decide +kernel
theorem dX10_build_7 : decode cX10_build 7 = .ok (.bipush 100, 2) := by decide +kernel
theorem dX10_build_9 : decode cX10_build 9 = .ok (.if_icmp .ge 10, 3) := by decide +kernel
theorem dX10_build_12 : decode cX10_build 12 = .ok (.aload_n 0, 1) := by decide +kernel
theorem dX10_build_13 : decode cX10_build 13 = .ok (.getfield 296, 3) := by decide +kernel
theorem dX10_build_16 : decode cX10_build 16 = .ok (.goto 5, 3) := by decide +kernel
theorem dX10_build_19 : decode cX10_build 19 = .ok (.bipush 100, 2) := by decide +kernel
theorem dX10_build_21 : decode cX10_build 21 = .ok (.iconst 1, 1) := by decide +kernel
theorem dX10_build_22 : decode cX10_build 22 = .ok (.isub, 1) := by decide +kernel
theorem dX10_build_23 : decode cX10_build 23 = .ok (.i2l, 1) := by decide +kernel
theorem dX10_build_24 : decode cX10_build 24 = .ok (.invokestatic 305, 3) := by decide +kernel
theorem dX10_build_27 : decode cX10_build 27 = .ok (.ifCond .ne 5, 3) := by decide +kernel
theorem dX10_build_30 : decode cX10_build 30 = .ok (.iconst (-1), 1) := by decide +kernel
theorem dX10_build_31 : decode cX10_build 31 = .ok (.ireturn, 1) := by decide +kernel
theorem dX10_build_32 : decode cX10_build 32 = .ok (.iload_n 2, 1) := by decide +kernel
theorem dX10_build_33 : decode cX10_build 33 = .ok (.ifCond .ne 12, 3) := by decide +kernel
theorem dX10_build_36 : decode cX10_build 36 = .ok (.aload_n 0, 1) := by decide +kernel
theorem dX10_build_37 : decode cX10_build 37 = .ok (.getfield 109, 3) := by decide +kernel
theorem dX10_build_40 : decode cX10_build 40 = .ok (.iload_n 1, 1) := by decide +kernel
theorem dX10_build_41 : decode cX10_build 41 = .ok (.iaload, 1) := by decide +kernel
theorem dX10_build_42 : decode cX10_build 42 = .ok (.goto 33, 3) := by decide +kernel
theorem dX10_build_45 : decode cX10_build 45 = .ok (.iload_n 2, 1) := by decide +kernel
theorem dX10_build_46 : decode cX10_build 46 = .ok (.iconst 1, 1) := by decide +kernel
theorem dX10_build_47 : decode cX10_build 47 = .ok (.if_icmp .ne 12, 3) := by decide +kernel
theorem dX10_build_50 : decode cX10_build 50 = .ok (.aload_n 0, 1) := by decide +kernel
theorem dX10_build_51 : decode cX10_build 51 = .ok (.getfield 112, 3) := by decide +kernel
theorem dX10_build_54 : decode cX10_build 54 = .ok (.iload_n 1, 1) := by decide +kernel
theorem dX10_build_55 : decode cX10_build 55 = .ok (.iaload, 1) := by decide +kernel
theorem dX10_build_56 : decode cX10_build 56 = .ok (.goto 19, 3) := by decide +kernel
theorem dX10_build_59 : decode cX10_build 59 = .ok (.iload_n 2, 1) := by decide +kernel
theorem dX10_build_60 : decode cX10_build 60 = .ok (.iconst 2, 1) := by decide +kernel
theorem dX10_build_61 : decode cX10_build 61 = .ok (.if_icmp .ne 12, 3) := by decide +kernel
theorem dX10_build_64 : decode cX10_build 64 = .ok (.aload_n 0, 1) := by decide +kernel
theorem dX10_build_65 : decode cX10_build 65 = .ok (.getfield 115, 3) := by decide +kernel
theorem dX10_build_68 : decode cX10_build 68 = .ok (.iload_n 1, 1) := by decide +kernel
theorem dX10_build_69 : decode cX10_build 69 = .ok (.iaload, 1) := by decide +kernel
theorem dX10_build_70 : decode cX10_build 70 = .ok (.goto 5, 3) := by decide +kernel
theorem dX10_build_73 : decode cX10_build 73 = .ok (.bipush (-2), 2) := by decide +kernel
theorem dX10_build_75 : decode cX10_build 75 = .ok (.ireturn, 1) := by decide +kernel
theorem dX10_halves_0 : decode cX10_halves 0 = .ok (.aload_n 0, 1) := by decide +kernel
theorem dX10_halves_1 : decode cX10_halves 1 = .ok (.getfield 299, 3) := by decide +kernel
theorem dX10_halves_4 : decode cX10_halves 4 = .ok (.ireturn, 1) := by decide +kernel
theorem dX10_half__0 : decode cX10_half_ 0 = .ok (.iload_n 1, 1) := by decide +kernel
theorem dX10_half__1 : decode cX10_half_ 1 = .ok (.i2l, 1) := by decide +kernel
theorem dX10_half__2 : decode cX10_half_ 2 = .ok (.lconst 0, 1) := by decide +kernel
theorem dX10_half__3 : decode cX10_half_ 3 = .ok (.aload_n 0, 1) := by decide +kernel
theorem dX10_half__4 : decode cX10_half_ 4 = .ok (.getfield 299, 3) := by decide +kernel
theorem dX10_half__7 : decode cX10_half_ 7 = .ok (.bipush 100, 2) := by decide +kernel
theorem dX10_half__9 : decode cX10_half_ 9 = .ok (.if_icmp .ge 10, 3) := by decide +kernel
theorem dX10_half__12 : decode cX10_half_ 12 = .ok (.aload_n 0, 1) := by decide +kernel
theorem dX10_half__13 : decode cX10_half_ 13 = .ok (.getfield 299, 3) := by decide +kernel
theorem dX10_half__16 : decode cX10_half_ 16 = .ok (.goto 5, 3) := by decide +kernel
theorem dX10_half__19 : decode cX10_half_ 19 = .ok (.bipush 100, 2) := by decide +kernel
theorem dX10_half__21 : decode cX10_half_ 21 = .ok (.iconst 1, 1) := by decide +kernel
theorem dX10_half__22 : decode cX10_half_ 22 = .ok (.isub, 1) := by decide +kernel
theorem dX10_half__23 : decode cX10_half_ 23 = .ok (.i2l, 1) := by decide +kernel
theorem dX10_half__24 : decode cX10_half_ 24 = .ok (.invokestatic 305, 3) := by decide +kernel
theorem dX10_half__27 : decode cX10_half_ 27 = .ok (.ifCond .ne 7, 3) := by decide +kernel
theorem dX10_half__30 : decode cX10_half_ 30 = .ok (.ldc2_w 222, 3) := by decide +kernel
theorem dX10_half__33 : decode cX10_half_ 33 = .ok (.lreturn, 1) := by decide +kernel
theorem dX10_half__34 : decode cX10_half_ 34 = .ok (.iload_n 2, 1) := by decide +kernel
theorem dX10_half__35 : decode cX10_half_ 35 = .ok (.ifCond .ne 13, 3) := by decide +kernel
theorem dX10_half__38 : decode cX10_half_ 38 = .ok (.aload_n 0, 1) := by decide +kernel
theorem dX10_half__39 : decode cX10_half_ 39 = .ok (.getfield 118, 3) := by decide +kernel
theorem dX10_half__42 : decode cX10_half_ 42 = .ok (.iload_n 1, 1) := by decide +kernel
theorem dX10_half__43 : decode cX10_half_ 43 = .ok (.iaload, 1) := by decide +kernel
theorem dX10_half__44 : decode cX10_half_ 44 = .ok (.i2l, 1) := by decide +kernel
theorem dX10_half__45 : decode cX10_half_ 45 = .ok (.goto 50, 3) := by decide +kernel
theorem dX10_half__48 : decode cX10_half_ 48 = .ok (.iload_n 2, 1) := by decide +kernel
theorem dX10_half__49 : decode cX10_half_ 49 = .ok (.iconst 1, 1) := by decide +kernel
theorem dX10_half__50 : decode cX10_half_ 50 = .ok (.if_icmp .ne 13, 3) := by decide +kernel
theorem dX10_half__53 : decode cX10_half_ 53 = .ok (.aload_n 0, 1) := by decide +kernel
theorem dX10_half__54 : decode cX10_half_ 54 = .ok (.getfield 121, 3) := by decide +kernel
theorem dX10_half__57 : decode cX10_half_ 57 = .ok (.iload_n 1, 1) := by decide +kernel
theorem dX10_half__58 : decode cX10_half_ 58 = .ok (.iaload, 1) := by decide +kernel
theorem dX10_half__59 : decode cX10_half_ 59 = .ok (.i2l, 1) := by decide +kernel
theorem dX10_half__60 : decode cX10_half_ 60 = .ok (.goto 35, 3) := by decide +kernel
theorem dX10_half__63 : decode cX10_half_ 63 = .ok (.iload_n 2, 1) := by decide +kernel
theorem dX10_half__64 : decode cX10_half_ 64 = .ok (.iconst 2, 1) := by decide +kernel
theorem dX10_half__65 : decode cX10_half_ 65 = .ok (.if_icmp .ne 13, 3) := by decide +kernel
theorem dX10_half__68 : decode cX10_half_ 68 = .ok (.aload_n 0, 1) := by decide +kernel
theorem dX10_half__69 : decode cX10_half_ 69 = .ok (.getfield 124, 3) := by decide +kernel
theorem dX10_half__72 : decode cX10_half_ 72 = .ok (.iload_n 1, 1) := by decide +kernel
theorem dX10_half__73 : decode cX10_half_ 73 = .ok (.iaload, 1) := by decide +kernel
theorem dX10_half__74 : decode cX10_half_ 74 = .ok (.i2l, 1) := by decide +kernel
theorem dX10_half__75 : decode cX10_half_ 75 = .ok (.goto 20, 3) := by decide +kernel
theorem dX10_half__78 : decode cX10_half_ 78 = .ok (.iload_n 2, 1) := by decide +kernel
theorem dX10_half__79 : decode cX10_half_ 79 = .ok (.iconst 3, 1) := by decide +kernel
theorem dX10_half__80 : decode cX10_half_ 80 = .ok (.if_icmp .ne 12, 3) := by decide +kernel
theorem dX10_half__83 : decode cX10_half_ 83 = .ok (.aload_n 0, 1) := by decide +kernel
theorem dX10_half__84 : decode cX10_half_ 84 = .ok (.getfield 127, 3) := by decide +kernel
theorem dX10_half__87 : decode cX10_half_ 87 = .ok (.iload_n 1, 1) := by decide +kernel
theorem dX10_half__88 : decode cX10_half_ 88 = .ok (.laload, 1) := by decide +kernel
theorem dX10_half__89 : decode cX10_half_ 89 = .ok (.goto 6, 3) := by decide +kernel
theorem dX10_half__92 : decode cX10_half_ 92 = .ok (.ldc2_w 382, 3) := by decide +kernel
theorem dX10_half__95 : decode cX10_half_ 95 = .ok (.lreturn, 1) := by decide +kernel
theorem dX10_reads_0 : decode cX10_reads 0 = .ok (.aload_n 0, 1) := by decide +kernel
theorem dX10_reads_1 : decode cX10_reads 1 = .ok (.iload_n 1, 1) := by decide +kernel
theorem dX10_reads_2 : decode cX10_reads 2 = .ok (.invokevirtual 309, 3) := by decide +kernel
theorem dX10_reads_5 : decode cX10_reads 5 = .ok (.ifCond .eq 11, 3) := by decide +kernel
theorem dX10_reads_8 : decode cX10_reads 8 = .ok (.aload_n 0, 1) := by decide +kernel
theorem dX10_reads_9 : decode cX10_reads 9 = .ok (.iload_n 2, 1) := by decide +kernel
theorem dX10_reads_10 : decode cX10_reads 10 = .ok (.invokevirtual 309, 3) := by decide +kernel
theorem dX10_reads_13 : decode cX10_reads 13 = .ok (.ifCond .ne 5, 3) := by decide +kernel
theorem dX10_reads_16 : decode cX10_reads 16 = .ok (.iconst (-1), 1) := by decide +kernel
theorem dX10_reads_17 : decode cX10_reads 17 = .ok (.ireturn, 1) := by decide +kernel
theorem dX10_reads_18 : decode cX10_reads 18 = .ok (.iconst 0, 1) := by decide +kernel
theorem dX10_reads_19 : decode cX10_reads 19 = .ok (.istore_n 3, 1) := by decide +kernel
theorem dX10_reads_20 : decode cX10_reads 20 = .ok (.aload_n 0, 1) := by decide +kernel
theorem dX10_reads_21 : decode cX10_reads 21 = .ok (.getfield 91, 3) := by decide +kernel
theorem dX10_reads_24 : decode cX10_reads 24 = .ok (.iload_n 1, 1) := by decide +kernel
theorem dX10_reads_25 : decode cX10_reads 25 = .ok (.iaload, 1) := by decide +kernel
theorem dX10_reads_26 : decode cX10_reads 26 = .ok (.istore 4, 2) := by decide +kernel
theorem dX10_reads_28 : decode cX10_reads 28 = .ok (.iload 4, 2) := by decide +kernel
theorem dX10_reads_30 : decode cX10_reads 30 = .ok (.aload_n 0, 1) := by decide +kernel
theorem dX10_reads_31 : decode cX10_reads 31 = .ok (.getfield 91, 3) := by decide +kernel
theorem dX10_reads_34 : decode cX10_reads 34 = .ok (.iload_n 1, 1) := by decide +kernel
theorem dX10_reads_35 : decode cX10_reads 35 = .ok (.iconst 1, 1) := by decide +kernel
theorem dX10_reads_36 : decode cX10_reads 36 = .ok (.iadd, 1) := by decide +kernel
theorem dX10_reads_37 : decode cX10_reads 37 = .ok (.iaload, 1) := by decide +kernel
theorem dX10_reads_38 : decode cX10_reads 38 = .ok (.if_icmp .ge 39, 3) := by decide +kernel
theorem dX10_reads_41 : decode cX10_reads 41 = .ok (.aload_n 0, 1) := by decide +kernel
theorem dX10_reads_42 : decode cX10_reads 42 = .ok (.getfield 94, 3) := by decide +kernel
theorem dX10_reads_45 : decode cX10_reads 45 = .ok (.iload 4, 2) := by decide +kernel
theorem dX10_reads_47 : decode cX10_reads 47 = .ok (.iaload, 1) := by decide +kernel
theorem dX10_reads_48 : decode cX10_reads 48 = .ok (.iconst 4, 1) := by decide +kernel
theorem dX10_reads_49 : decode cX10_reads 49 = .ok (.if_icmp .ne 20, 3) := by decide +kernel
theorem dX10_reads_52 : decode cX10_reads 52 = .ok (.aload_n 0, 1) := by decide +kernel
theorem dX10_reads_53 : decode cX10_reads 53 = .ok (.getfield 97, 3) := by decide +kernel
theorem dX10_reads_56 : decode cX10_reads 56 = .ok (.iload 4, 2) := by decide +kernel
theorem dX10_reads_58 : decode cX10_reads 58 = .ok (.laload, 1) := by decide +kernel
theorem dX10_reads_59 : decode cX10_reads 59 = .ok (.iload_n 2, 1) := by decide +kernel
theorem dX10_reads_60 : decode cX10_reads 60 = .ok (.i2l, 1) := by decide +kernel
theorem dX10_reads_61 : decode cX10_reads 61 = .ok (.lcmp, 1) := by decide +kernel
theorem dX10_reads_62 : decode cX10_reads 62 = .ok (.ifCond .ne 7, 3) := by decide +kernel
theorem dX10_reads_65 : decode cX10_reads 65 = .ok (.iconst 1, 1) := by decide +kernel
theorem dX10_reads_66 : decode cX10_reads 66 = .ok (.goto 4, 3) := by decide +kernel
theorem dX10_reads_69 : decode cX10_reads 69 = .ok (.iload_n 3, 1) := by decide +kernel
theorem dX10_reads_70 : decode cX10_reads 70 = .ok (.istore_n 3, 1) := by decide +kernel
theorem dX10_reads_71 : decode cX10_reads 71 = .ok (.iinc 4 1, 3) := by decide +kernel
theorem dX10_reads_74 : decode cX10_reads 74 = .ok (.goto (-46), 3) := by decide +kernel
theorem dX10_reads_77 : decode cX10_reads 77 = .ok (.iload_n 3, 1) := by decide +kernel
theorem dX10_reads_78 : decode cX10_reads 78 = .ok (.ireturn, 1) := by decide +kernel
theorem dX10_count_0 : decode cX10_count 0 = .ok (.iconst 0, 1) := by decide +kernel
theorem dX10_count_1 : decode cX10_count 1 = .ok (.istore_n 2, 1) := by decide +kernel
theorem dX10_count_2 : decode cX10_count 2 = .ok (.iload_n 1, 1) := by decide +kernel
theorem dX10_count_3 : decode cX10_count 3 = .ok (.tableswitch 174 0 4 #[33, 38, 38, 83, 169], 33) := by decide +kernel
theorem dX10_count_36 : decode cX10_count 36 = .ok (.aload_n 0, 1) := by decide +kernel
theorem dX10_count_37 : decode cX10_count 37 = .ok (.getfield 289, 3) := by decide +kernel
theorem dX10_count_40 : decode cX10_count 40 = .ok (.ireturn, 1) := by decide +kernel
theorem dX10_count_41 : decode cX10_count 41 = .ok (.iconst 0, 1) := by decide +kernel
theorem dX10_count_42 : decode cX10_count 42 = .ok (.istore_n 3, 1) := by decide +kernel
theorem dX10_count_43 : decode cX10_count 43 = .ok (.iload_n 3, 1) := by decide +kernel
theorem dX10_count_44 : decode cX10_count 44 = .ok (.aload_n 0, 1) := by decide +kernel
theorem dX10_count_45 : decode cX10_count 45 = .ok (.getfield 289, 3) := by decide +kernel
theorem dX10_count_48 : decode cX10_count 48 = .ok (.if_icmp .ge 36, 3) := by decide +kernel
theorem dX10_count_51 : decode cX10_count 51 = .ok (.iload_n 2, 1) := by decide +kernel
theorem dX10_count_52 : decode cX10_count 52 = .ok (.aload_n 0, 1) := by decide +kernel
theorem dX10_count_53 : decode cX10_count 53 = .ok (.getfield 100, 3) := by decide +kernel
theorem dX10_count_56 : decode cX10_count 56 = .ok (.iload_n 3, 1) := by decide +kernel
theorem dX10_count_57 : decode cX10_count 57 = .ok (.iaload, 1) := by decide +kernel
theorem dX10_count_58 : decode cX10_count 58 = .ok (.iload_n 1, 1) := by decide +kernel
theorem dX10_count_59 : decode cX10_count 59 = .ok (.iconst 1, 1) := by decide +kernel
theorem dX10_count_60 : decode cX10_count 60 = .ok (.if_icmp .ne 7, 3) := by decide +kernel
theorem dX10_count_63 : decode cX10_count 63 = .ok (.iconst 2, 1) := by decide +kernel
theorem dX10_count_64 : decode cX10_count 64 = .ok (.goto 4, 3) := by decide +kernel
theorem dX10_count_67 : decode cX10_count 67 = .ok (.iconst 3, 1) := by decide +kernel
theorem dX10_count_68 : decode cX10_count 68 = .ok (.if_icmp .ne 7, 3) := by decide +kernel
theorem dX10_count_71 : decode cX10_count 71 = .ok (.iconst 1, 1) := by decide +kernel
theorem dX10_count_72 : decode cX10_count 72 = .ok (.goto 4, 3) := by decide +kernel
theorem dX10_count_75 : decode cX10_count 75 = .ok (.iconst 0, 1) := by decide +kernel
theorem dX10_count_76 : decode cX10_count 76 = .ok (.iadd, 1) := by decide +kernel
theorem dX10_count_77 : decode cX10_count 77 = .ok (.istore_n 2, 1) := by decide +kernel
theorem dX10_count_78 : decode cX10_count 78 = .ok (.iinc 3 1, 3) := by decide +kernel
theorem dX10_count_81 : decode cX10_count 81 = .ok (.goto (-38), 3) := by decide +kernel
theorem dX10_count_84 : decode cX10_count 84 = .ok (.iload_n 2, 1) := by decide +kernel
theorem dX10_count_85 : decode cX10_count 85 = .ok (.ireturn, 1) := by decide +kernel
theorem dX10_count_86 : decode cX10_count 86 = .ok (.iconst 0, 1) := by decide +kernel
theorem dX10_count_87 : decode cX10_count 87 = .ok (.istore_n 3, 1) := by decide +kernel
theorem dX10_count_88 : decode cX10_count 88 = .ok (.iload_n 3, 1) := by decide +kernel
theorem dX10_count_89 : decode cX10_count 89 = .ok (.aload_n 0, 1) := by decide +kernel
theorem dX10_count_90 : decode cX10_count 90 = .ok (.getfield 289, 3) := by decide +kernel
theorem dX10_count_93 : decode cX10_count 93 = .ok (.if_icmp .ge 77, 3) := by decide +kernel
theorem dX10_count_96 : decode cX10_count 96 = .ok (.iconst 0, 1) := by decide +kernel
theorem dX10_count_97 : decode cX10_count 97 = .ok (.istore 4, 2) := by decide +kernel
theorem dX10_count_99 : decode cX10_count 99 = .ok (.aload_n 0, 1) := by decide +kernel
theorem dX10_count_100 : decode cX10_count 100 = .ok (.getfield 100, 3) := by decide +kernel
theorem dX10_count_103 : decode cX10_count 103 = .ok (.iload_n 3, 1) := by decide +kernel
theorem dX10_count_104 : decode cX10_count 104 = .ok (.iaload, 1) := by decide +kernel
theorem dX10_count_105 : decode cX10_count 105 = .ok (.iconst 2, 1) := by decide +kernel
theorem dX10_count_106 : decode cX10_count 106 = .ok (.if_icmp .ne 58, 3) := by decide +kernel
theorem dX10_count_109 : decode cX10_count 109 = .ok (.iload 4, 2) := by decide +kernel
theorem dX10_count_111 : decode cX10_count 111 = .ok (.i2l, 1) := by decide +kernel
theorem dX10_count_112 : decode cX10_count 112 = .ok (.aload_n 0, 1) := by decide +kernel
theorem dX10_count_113 : decode cX10_count 113 = .ok (.getfield 88, 3) := by decide +kernel
theorem dX10_count_116 : decode cX10_count 116 = .ok (.iload_n 3, 1) := by decide +kernel
theorem dX10_count_117 : decode cX10_count 117 = .ok (.laload, 1) := by decide +kernel
theorem dX10_count_118 : decode cX10_count 118 = .ok (.lcmp, 1) := by decide +kernel
theorem dX10_count_119 : decode cX10_count 119 = .ok (.ifCond .ge 45, 3) := by decide +kernel
theorem dX10_count_122 : decode cX10_count 122 = .ok (.iload_n 2, 1) := by decide +kernel
theorem dX10_count_123 : decode cX10_count 123 = .ok (.aload_n 0, 1) := by decide +kernel
theorem dX10_count_124 : decode cX10_count 124 = .ok (.getfield 79, 3) := by decide +kernel
theorem dX10_count_127 : decode cX10_count 127 = .ok (.iload_n 3, 1) := by decide +kernel
theorem dX10_count_128 : decode cX10_count 128 = .ok (.baload, 1) := by decide +kernel
theorem dX10_count_129 : decode cX10_count 129 = .ok (.ifCond .ne 22, 3) := by decide +kernel
theorem dX10_count_132 : decode cX10_count 132 = .ok (.aload_n 0, 1) := by decide +kernel
theorem dX10_count_133 : decode cX10_count 133 = .ok (.getfield 103, 3) := by decide +kernel
theorem dX10_count_136 : decode cX10_count 136 = .ok (.bipush 25, 2) := by decide +kernel
theorem dX10_count_138 : decode cX10_count 138 = .ok (.iload_n 3, 1) := by decide +kernel
theorem dX10_count_139 : decode cX10_count 139 = .ok (.imul, 1) := by decide +kernel
theorem dX10_count_140 : decode cX10_count 140 = .ok (.iload 4, 2) := by decide +kernel
theorem dX10_count_142 : decode cX10_count 142 = .ok (.bipush 8, 2) := by decide +kernel
theorem dX10_count_144 : decode cX10_count 144 = .ok (.idiv, 1) := by decide +kernel
theorem dX10_count_145 : decode cX10_count 145 = .ok (.iadd, 1) := by decide +kernel
theorem dX10_count_146 : decode cX10_count 146 = .ok (.iaload, 1) := by decide +kernel
theorem dX10_count_147 : decode cX10_count 147 = .ok (.iconst 2, 1) := by decide +kernel
theorem dX10_count_148 : decode cX10_count 148 = .ok (.if_icmp .ne 7, 3) := by decide +kernel
theorem dX10_count_151 : decode cX10_count 151 = .ok (.iconst 1, 1) := by decide +kernel
theorem dX10_count_152 : decode cX10_count 152 = .ok (.goto 4, 3) := by decide +kernel
theorem dX10_count_155 : decode cX10_count 155 = .ok (.iconst 0, 1) := by decide +kernel
theorem dX10_count_156 : decode cX10_count 156 = .ok (.iadd, 1) := by decide +kernel
theorem dX10_count_157 : decode cX10_count 157 = .ok (.istore_n 2, 1) := by decide +kernel
theorem dX10_count_158 : decode cX10_count 158 = .ok (.iinc 4 1, 3) := by decide +kernel
theorem dX10_count_161 : decode cX10_count 161 = .ok (.goto (-62), 3) := by decide +kernel
theorem dX10_count_164 : decode cX10_count 164 = .ok (.iinc 3 1, 3) := by decide +kernel
theorem dX10_count_167 : decode cX10_count 167 = .ok (.goto (-79), 3) := by decide +kernel
theorem dX10_count_170 : decode cX10_count 170 = .ok (.iload_n 2, 1) := by decide +kernel
theorem dX10_count_171 : decode cX10_count 171 = .ok (.ireturn, 1) := by decide +kernel
theorem dX10_count_172 : decode cX10_count 172 = .ok (.aload_n 0, 1) := by decide +kernel
theorem dX10_count_173 : decode cX10_count 173 = .ok (.getfield 153, 3) := by decide +kernel
theorem dX10_count_176 : decode cX10_count 176 = .ok (.ireturn, 1) := by decide +kernel
theorem dX10_count_177 : decode cX10_count 177 = .ok (.bipush (-2), 2) := by decide +kernel
theorem dX10_count_179 : decode cX10_count 179 = .ok (.ireturn, 1) := by decide +kernel
end
section
/-! families of objects, their numbers in the order in which they are made; which words stand in the tables -/
def TB : List Cond := lw_tbl.filter goodWord
theorem tb_of {w : Cond} (i : Nat) (h : tables_1[i]? = some w) (g : goodWord w = true) : w ∈ TB := List.mem_filter.mpr ⟨List.mem_append_right _ (List.mem_of_getElem? h), g⟩
theorem tb_sel {w : Cond} (i : Nat) (h : (k2_sels lw_privs)[i]? = some w) (g : goodWord w = true) : w ∈ TB := List.mem_filter.mpr ⟨List.mem_append_left _ (List.mem_of_getElem? h), g⟩
theorem tb_ws (ws : List Cond) (ps : List Nat) (hp : ws = ps.filterMap (fun i => tables_1[i]?)) (h : ws.all goodWord = true) : ∀ w ∈ ws, w ∈ TB := by
  intro w hw
  have h1 := List.all_eq_true.mp h w hw
  rw [hp] at hw
  obtain ⟨i, -, hi⟩ := List.mem_filterMap.mp hw
  exact tb_of i hi h1
theorem tb_good : ∀ w ∈ TB, (w.onTables && w.keeps) = true ∨ ∃ ty, w = .arrayClass ty := fun w h => good_of_word (List.mem_filter.mp h).2
theorem tb_in : ∀ w ∈ TB, w ∈ lw_tbl := fun w h => (List.mem_filter.mp h).1
def kdT : List (Nat × Nat) := [(0, 9), (0, 3), (0, 5), (0, 6), (0, 4), (0, 2), (0, 0), (0, 8), (0, 1), (0, 7), (0, 10), (2, 900), (5, 12), (1, 48), (4, 48), (1, 48), (4, 200), (1, 25), (4, 400), (4, 288), (1, 12), (0, 99), (0, 99), (0, 99), (0, 99), (0, 99), (0, 99), (0, 99), (0, 99), (0, 99), (2, 900), (0, 99), (0, 99), (1, 901), (1, 901), (4, 901), (0, 99), (0, 99), (0, 99), (4, 12), (1, 12), (3, 12), (3, 12), (4, 12), (1, 13), (1, 13), (0, 99), (1, 900), (4, 900), (0, 99), (1, 120), (4, 120), (0, 99), (1, 901), (1, 901), (3, 901), (0, 99), (1, 64), (1, 64), (1, 64), (0, 99), (0, 99), (0, 99), (4, 12), (3, 12), (3, 12), (4, 12), (4, 12), (1, 13), (1, 900), (4, 900), (1, 12), (1, 300), (4, 2400), (0, 99), (1, 100), (1, 100), (1, 100), (0, 99), (1, 100), (1, 100), (1, 100), (4, 100), (0, 99), (0, 99), (0, 99), (1, 12), (1, 12), (1, 12), (1, 12), (1, 12), (1, 12), (4, 480), (0, 99), (0, 99), (0, 99)]
def tyT : List (List Nat) := [[501, 502, 507, 14, 14], [511, 0], [503, 16, 0, 0, 0], [501, 0, 0, 0, 1], [712, 0], [706, 716, 717, 1, 1, 2, 2, 1, 0], [713, 714, 715, 0], [508, 608, 509, 1, 609, 14, 519, 0, 0, 520, 0, 2], [718, 0], [1, 1], [530, 0, 0, 533, 534, 535, 0, 0, 0, 539, 540, 541, 542, 543, 544, 545, 0, 547, 548, 0, 550, 551, 0, 553, 554, 555, 0, 557, 558, 559, 0, 0, 0, 563, 564, 565, 566, 567, 568, 569, 570, 571, 572, 573, 0, 575, 576, 577, 0, 579, 580, 581, 582, 0, 0, 0, 586, 587, 588, 589, 590, 591, 592, 1, 1, 1], [], [], [], [], [], [], [], [], [], [], [], [], [], [], [], [], [], [], [], [], [], [], [], [], [], [], [], [], [], [], [], [], [], [], [], [], [], [], [], [], [], [], [], [], [], [], [], [], [], [], [], [], [], [], [], [], [], [], [], [], [], [], [], [], [], [], [], [], [], [], [], [], [], [], [], [], [], [], [], [], [], [], [], [], []]
def numT : List (List Nat) := [[0], [1], [3], [4], [5, 91], [7, 14, 21, 28, 35, 42, 49, 56, 63, 70, 77, 84, 93, 100, 107, 114, 121, 128, 135, 142, 149, 156, 163, 170], [8, 15, 22, 29, 36, 43, 50, 57, 64, 71, 78, 85, 94, 101, 108, 115, 122, 129, 136, 143, 150, 157, 164, 171], [177], [178, 180], [182, 183], [186], [2], [6, 92], [9, 16, 23, 30, 37, 44, 51, 58, 65, 72, 79, 86, 95, 102, 109, 116, 123, 130, 137, 144, 151, 158, 165, 172], [10, 17, 24, 31, 38, 45, 52, 59, 66, 73, 80, 87, 96, 103, 110, 117, 124, 131, 138, 145, 152, 159, 166, 173], [11, 18, 25, 32, 39, 46, 53, 60, 67, 74, 81, 88, 97, 104, 111, 118, 125, 132, 139, 146, 153, 160, 167, 174], [12, 19, 26, 33, 40, 47, 54, 61, 68, 75, 82, 89, 98, 105, 112, 119, 126, 133, 140, 147, 154, 161, 168, 175], [13, 20, 27, 34, 41, 48, 55, 62, 69, 76, 83, 90, 99, 106, 113, 120, 127, 134, 141, 148, 155, 162, 169, 176], [179, 181], [184], [185], [], [], [], [], [], [], [], [], [], [187], [], [], [188], [189], [190], [], [], [], [191], [192], [193], [194], [195], [196], [197], [], [198], [199], [], [200], [201], [], [202], [203], [204], [], [205], [206], [207], [], [], [], [208], [209], [210], [211], [212], [213], [214], [215], [216], [217], [218], [], [219], [220], [221], [], [222], [223], [224], [225], [], [], [], [226], [227], [228], [229], [230], [231], [232], [], [], []]
def ALL : List (Nat × Nat) := [(0, 0), (1, 0), (11, 0), (2, 0), (3, 0), (4, 0), (12, 0), (5, 0), (6, 0), (13, 0), (14, 0), (15, 0), (16, 0), (17, 0), (5, 1), (6, 1), (13, 1), (14, 1), (15, 1), (16, 1), (17, 1), (5, 2), (6, 2), (13, 2), (14, 2), (15, 2), (16, 2), (17, 2), (5, 3), (6, 3), (13, 3), (14, 3), (15, 3), (16, 3), (17, 3), (5, 4), (6, 4), (13, 4), (14, 4), (15, 4), (16, 4), (17, 4), (5, 5), (6, 5), (13, 5), (14, 5), (15, 5), (16, 5), (17, 5), (5, 6), (6, 6), (13, 6), (14, 6), (15, 6), (16, 6), (17, 6), (5, 7), (6, 7), (13, 7), (14, 7), (15, 7), (16, 7), (17, 7), (5, 8), (6, 8), (13, 8), (14, 8), (15, 8), (16, 8), (17, 8), (5, 9), (6, 9), (13, 9), (14, 9), (15, 9), (16, 9), (17, 9), (5, 10), (6, 10), (13, 10), (14, 10), (15, 10), (16, 10), (17, 10), (5, 11), (6, 11), (13, 11), (14, 11), (15, 11), (16, 11), (17, 11), (4, 1), (12, 1), (5, 12), (6, 12), (13, 12), (14, 12), (15, 12), (16, 12), (17, 12), (5, 13), (6, 13), (13, 13), (14, 13), (15, 13), (16, 13), (17, 13), (5, 14), (6, 14), (13, 14), (14, 14), (15, 14), (16, 14), (17, 14), (5, 15), (6, 15), (13, 15), (14, 15), (15, 15), (16, 15), (17, 15), (5, 16), (6, 16), (13, 16), (14, 16), (15, 16), (16, 16), (17, 16), (5, 17), (6, 17), (13, 17), (14, 17), (15, 17), (16, 17), (17, 17), (5, 18), (6, 18), (13, 18), (14, 18), (15, 18), (16, 18), (17, 18), (5, 19), (6, 19), (13, 19), (14, 19), (15, 19), (16, 19), (17, 19), (5, 20), (6, 20), (13, 20), (14, 20), (15, 20), (16, 20), (17, 20), (5, 21), (6, 21), (13, 21), (14, 21), (15, 21), (16, 21), (17, 21), (5, 22), (6, 22), (13, 22), (14, 22), (15, 22), (16, 22), (17, 22), (5, 23), (6, 23), (13, 23), (14, 23), (15, 23), (16, 23), (17, 23), (7, 0), (8, 0), (18, 0), (8, 1), (18, 1), (9, 0), (9, 1), (19, 0), (20, 0), (10, 0), (30, 0), (33, 0), (34, 0), (35, 0), (39, 0), (40, 0), (41, 0), (42, 0), (43, 0), (44, 0), (45, 0), (47, 0), (48, 0), (50, 0), (51, 0), (53, 0), (54, 0), (55, 0), (57, 0), (58, 0), (59, 0), (63, 0), (64, 0), (65, 0), (66, 0), (67, 0), (68, 0), (69, 0), (70, 0), (71, 0), (72, 0), (73, 0), (75, 0), (76, 0), (77, 0), (79, 0), (80, 0), (81, 0), (82, 0), (86, 0), (87, 0), (88, 0), (89, 0), (90, 0), (91, 0), (92, 0)]
abbrev NALL : Nat := 233
abbrev N1 : Nat := 186
def kd (f : Nat) : Nat × Nat := kdT.getD f (0, 99)
def cnt (f : Nat) : Nat := (numT.getD f []).length
def num (f k : Nat) : Nat := (numT.getD f []).getD k 0
def tyf (f j : Nat) : Nat := (tyT.getD f []).getD j 0
theorem numT_len : numT.length = 96 := by decide +kernel
theorem all_len : ALL.length = NALL := by decide +kernel
theorem all_num0 : (List.range 96).all (fun f => (List.range (cnt f)).all (fun k => ALL[num f k]? == some (f, k))) = true := by decide +kernel
theorem all_inv0 : (List.range NALL).all (fun i => match ALL[i]? with | some q => (num q.1 q.2 == i && decide (q.2 < cnt q.1)) | none => true) = true := by decide +kernel
theorem all_num {f k : Nat} (h : k < cnt f) : ALL[num f k]? = some (f, k) := by
  have hf : f < 96 := by
    rcases Nat.lt_or_ge f 96 with q | q
    · exact q
    · exfalso
      have e : numT.getD f [] = [] := by rw [List.getD_eq_getElem?_getD, List.getElem?_eq_none (by rw [numT_len]; exact q)]; rfl
      unfold cnt at h
      rw [e] at h
      exact absurd h (Nat.not_lt_zero _)
  have h1 := List.all_eq_true.mp (List.all_eq_true.mp all_num0 f (List.mem_range.mpr hf)) k (List.mem_range.mpr h)
  exact eq_of_beq h1
theorem all_inv {i : Nat} {q : Nat × Nat} (h : ALL[i]? = some q) : num q.1 q.2 = i ∧ q.2 < cnt q.1 := by
  have hi : i < NALL := by rw [← all_len]; exact (List.getElem?_eq_some_iff.mp h).1
  have h1 := List.all_eq_true.mp all_inv0 i (List.mem_range.mpr hi)
  rw [h] at h1
  simp only [Bool.and_eq_true, beq_iff_eq, decide_eq_true_eq] at h1
  exact h1
def okc (code : Nat) (ty : FieldType) : Prop := (code = 0 ∧ ty = .int) ∨ (code = 1 ∧ ty = .long) ∨ (code = 2 ∧ ty = .boolean) ∨ (3 ≤ code ∧ ∀ a : Nat, narrow ty (.ref a) = .ref a ∧ fits ty (.ref a) = true ∧ narrow ty .null = .null ∧ fits ty .null = true)
def Cl (f ci : Nat) (Cn : String) (T : u_T) (N : Nat) (ty : Nat → FieldType) : Prop := kd f = (0, ci) ∧ vwCl[ci]? = some (Cn, T, N) ∧ (∀ w ∈ u_ws Cn T N, w ∈ TB) ∧ (∀ k, k < N → parseFieldDescriptor (T k).2.2.1 = some (ty k)) ∧ (∀ a, a < N → ∀ b, b < N → a ≠ b → (T a).2.1 ≠ (T b).2.1) ∧ (tyT.getD f []).length = N ∧ (∀ k, k < N → okc (tyf f k) (ty k)) ∧ (∀ k, k < N → (T k).1 = Cn)
/-- a field's link: class of the code, place in its pool, family, field, code of its type, final -/
def Fl (own : String) (idx f j code : Nat) (fin : Bool) : Prop := ∃ (ci : Nat) (Cn : String) (T : u_T) (N : Nat) (ty : Nat → FieldType), Cl f ci Cn T N ty ∧ j < N ∧ tyf f j = code ∧ Cond.fieldLink own idx Cn (T j).2.1 (T j).2.2.1 ∈ TB ∧ (T j).2.2.2 = fin
theorem okc_obj (C : String) (code : Nat) (h : 3 ≤ code) : okc code (.object C) := Or.inr (Or.inr (Or.inr ⟨h, fun a => ⟨rfl, rfl, rfl, rfl⟩⟩))
theorem okc_arr (t : FieldType) (code : Nat) (h : 3 ≤ code) : okc code (.array t) := Or.inr (Or.inr (Or.inr ⟨h, fun a => ⟨rfl, rfl, rfl, rfl⟩⟩))
theorem okc_int : okc 0 .int := Or.inl ⟨rfl, rfl⟩
theorem okc_long : okc 1 .long := Or.inr (Or.inl ⟨rfl, rfl⟩)
theorem okc_bool : okc 2 .boolean := Or.inr (Or.inr (Or.inl ⟨rfl, rfl⟩))
set_option maxRecDepth 20000 in
theorem inT_9 : ∀ w ∈ u_ws RX9 TX9 5, w ∈ TB := tb_ws _ [257, 259, 261, 263, 265] (by decide +kernel) (by decide +kernel)
theorem ok_9 : ∀ k, k < 5 → okc (tyf 0 k) (tyX9 k) := fun k h => match k, h with | 0, _ => okc_obj _ _ (by decide) | 1, _ => okc_obj _ _ (by decide) | 2, _ => okc_obj _ _ (by decide) | 3, _ => okc_obj _ _ (by decide) | 4, _ => okc_obj _ _ (by decide) | k + 5, h => absurd h (by omega)
set_option maxRecDepth 20000 in
theorem cl_9 : Cl 0 9 RX9 TX9 5 tyX9 := ⟨by decide +kernel, rfl, inT_9, tyX9_ok, nmX9, by decide +kernel, ok_9, by decide +kernel⟩
set_option maxRecDepth 20000 in
theorem inT_3 : ∀ w ∈ u_ws RX3 TX3 2, w ∈ TB := tb_ws _ [30, 32] (by decide +kernel) (by decide +kernel)
theorem ok_3 : ∀ k, k < 2 → okc (tyf 1 k) (tyX3 k) := fun k h => match k, h with | 0, _ => okc_arr _ _ (by decide) | 1, _ => okc_int | k + 2, h => absurd h (by omega)
set_option maxRecDepth 20000 in
theorem cl_3 : Cl 1 3 RX3 TX3 2 tyX3 := ⟨by decide +kernel, rfl, inT_3, tyX3_ok, nmX3, by decide +kernel, ok_3, by decide +kernel⟩
set_option maxRecDepth 20000 in
theorem inT_5 : ∀ w ∈ u_ws RX5 TX5 5, w ∈ TB := tb_ws _ [72, 74, 76, 78, 80] (by decide +kernel) (by decide +kernel)
theorem ok_5 : ∀ k, k < 5 → okc (tyf 2 k) (tyX5 k) := fun k h => match k, h with | 0, _ => okc_obj _ _ (by decide) | 1, _ => okc_obj _ _ (by decide) | 2, _ => okc_int | 3, _ => okc_int | 4, _ => okc_int | k + 5, h => absurd h (by omega)
set_option maxRecDepth 20000 in
theorem cl_5 : Cl 2 5 RX5 TX5 5 tyX5 := ⟨by decide +kernel, rfl, inT_5, tyX5_ok, nmX5, by decide +kernel, ok_5, by decide +kernel⟩
set_option maxRecDepth 20000 in
theorem inT_6 : ∀ w ∈ u_ws RX6 TX6 5, w ∈ TB := tb_ws _ [56, 58, 60, 62, 64] (by decide +kernel) (by decide +kernel)
theorem ok_6 : ∀ k, k < 5 → okc (tyf 3 k) (tyX6 k) := fun k h => match k, h with | 0, _ => okc_obj _ _ (by decide) | 1, _ => okc_int | 2, _ => okc_int | 3, _ => okc_int | 4, _ => okc_long | k + 5, h => absurd h (by omega)
set_option maxRecDepth 20000 in
theorem cl_6 : Cl 3 6 RX6 TX6 5 tyX6 := ⟨by decide +kernel, rfl, inT_6, tyX6_ok, nmX6, by decide +kernel, ok_6, by decide +kernel⟩
set_option maxRecDepth 20000 in
theorem inT_4 : ∀ w ∈ u_ws RX4 TX4 2, w ∈ TB := tb_ws _ [173, 175] (by decide +kernel) (by decide +kernel)
theorem ok_4 : ∀ k, k < 2 → okc (tyf 4 k) (tyX4 k) := fun k h => match k, h with | 0, _ => okc_arr _ _ (by decide) | 1, _ => okc_int | k + 2, h => absurd h (by omega)
set_option maxRecDepth 20000 in
theorem cl_4 : Cl 4 4 RX4 TX4 2 tyX4 := ⟨by decide +kernel, rfl, inT_4, tyX4_ok, nmX4, by decide +kernel, ok_4, by decide +kernel⟩
set_option maxRecDepth 20000 in
theorem inT_2 : ∀ w ∈ u_ws RX2 TX2 9, w ∈ TB := tb_ws _ [150, 152, 154, 156, 158, 160, 162, 164, 166] (by decide +kernel) (by decide +kernel)
theorem ok_2 : ∀ k, k < 9 → okc (tyf 5 k) (tyX2 k) := fun k h => match k, h with | 0, _ => okc_obj _ _ (by decide) | 1, _ => okc_arr _ _ (by decide) | 2, _ => okc_arr _ _ (by decide) | 3, _ => okc_long | 4, _ => okc_long | 5, _ => okc_bool | 6, _ => okc_bool | 7, _ => okc_long | 8, _ => okc_int | k + 9, h => absurd h (by omega)
set_option maxRecDepth 20000 in
theorem cl_2 : Cl 5 2 RX2 TX2 9 tyX2 := ⟨by decide +kernel, rfl, inT_2, tyX2_ok, nmX2, by decide +kernel, ok_2, by decide +kernel⟩
set_option maxRecDepth 20000 in
theorem inT_0 : ∀ w ∈ u_ws RX0 TX0 4, w ∈ TB := tb_ws _ [108, 110, 112, 114] (by decide +kernel) (by decide +kernel)
theorem ok_0 : ∀ k, k < 4 → okc (tyf 6 k) (tyX0 k) := fun k h => match k, h with | 0, _ => okc_arr _ _ (by decide) | 1, _ => okc_arr _ _ (by decide) | 2, _ => okc_arr _ _ (by decide) | 3, _ => okc_int | k + 4, h => absurd h (by omega)
set_option maxRecDepth 20000 in
theorem cl_0 : Cl 6 0 RX0 TX0 4 tyX0 := ⟨by decide +kernel, rfl, inT_0, tyX0_ok, nmX0, by decide +kernel, ok_0, by decide +kernel⟩
set_option maxRecDepth 20000 in
theorem inT_8 : ∀ w ∈ u_ws RX8 TX8 12, w ∈ TB := tb_ws _ [227, 229, 231, 233, 235, 237, 239, 241, 243, 245, 247, 249] (by decide +kernel) (by decide +kernel)
theorem ok_8 : ∀ k, k < 12 → okc (tyf 7 k) (tyX8 k) := fun k h => match k, h with | 0, _ => okc_obj _ _ (by decide) | 1, _ => okc_obj _ _ (by decide) | 2, _ => okc_obj _ _ (by decide) | 3, _ => okc_long | 4, _ => okc_obj _ _ (by decide) | 5, _ => okc_obj _ _ (by decide) | 6, _ => okc_arr _ _ (by decide) | 7, _ => okc_int | 8, _ => okc_int | 9, _ => okc_arr _ _ (by decide) | 10, _ => okc_int | 11, _ => okc_bool | k + 12, h => absurd h (by omega)
set_option maxRecDepth 20000 in
theorem cl_8 : Cl 7 8 RX8 TX8 12 tyX8 := ⟨by decide +kernel, rfl, inT_8, tyX8_ok, nmX8, by decide +kernel, ok_8, by decide +kernel⟩
set_option maxRecDepth 20000 in
theorem inT_1 : ∀ w ∈ u_ws RX1 TX1 2, w ∈ TB := tb_ws _ [193, 195] (by decide +kernel) (by decide +kernel)
theorem ok_1 : ∀ k, k < 2 → okc (tyf 8 k) (tyX1 k) := fun k h => match k, h with | 0, _ => okc_arr _ _ (by decide) | 1, _ => okc_int | k + 2, h => absurd h (by omega)
set_option maxRecDepth 20000 in
theorem cl_1 : Cl 8 1 RX1 TX1 2 tyX1 := ⟨by decide +kernel, rfl, inT_1, tyX1_ok, nmX1, by decide +kernel, ok_1, by decide +kernel⟩
set_option maxRecDepth 20000 in
theorem inT_7 : ∀ w ∈ u_ws RX7 TX7 2, w ∈ TB := tb_ws _ [206, 208] (by decide +kernel) (by decide +kernel)
theorem ok_7 : ∀ k, k < 2 → okc (tyf 9 k) (tyX7 k) := fun k h => match k, h with | 0, _ => okc_long | 1, _ => okc_long | k + 2, h => absurd h (by omega)
set_option maxRecDepth 20000 in
theorem cl_7 : Cl 9 7 RX7 TX7 2 tyX7 := ⟨by decide +kernel, rfl, inT_7, tyX7_ok, nmX7, by decide +kernel, ok_7, by decide +kernel⟩
set_option maxRecDepth 20000 in
theorem inT_10 : ∀ w ∈ u_ws RX10 TX10 66, w ∈ TB := tb_ws _ [810, 812, 814, 816, 818, 820, 822, 824, 826, 828, 830, 832, 834, 836, 838, 840, 842, 844, 846, 848, 850, 852, 854, 856, 858, 860, 862, 864, 866, 868, 870, 872, 874, 876, 878, 880, 882, 884, 886, 888, 890, 892, 894, 896, 898, 900, 902, 904, 906, 908, 910, 912, 914, 916, 918, 920, 922, 924, 926, 928, 930, 932, 934, 936, 938, 940] (by decide +kernel) (by decide +kernel)
theorem ok_10 : ∀ k, k < 66 → okc (tyf 10 k) (tyX10 k) := fun k h => match k, h with | 0, _ => okc_arr _ _ (by decide) | 1, _ => okc_int | 2, _ => okc_int | 3, _ => okc_arr _ _ (by decide) | 4, _ => okc_arr _ _ (by decide) | 5, _ => okc_arr _ _ (by decide) | 6, _ => okc_int | 7, _ => okc_int | 8, _ => okc_int | 9, _ => okc_arr _ _ (by decide) | 10, _ => okc_arr _ _ (by decide) | 11, _ => okc_arr _ _ (by decide) | 12, _ => okc_arr _ _ (by decide) | 13, _ => okc_arr _ _ (by decide) | 14, _ => okc_arr _ _ (by decide) | 15, _ => okc_arr _ _ (by decide) | 16, _ => okc_int | 17, _ => okc_arr _ _ (by decide) | 18, _ => okc_arr _ _ (by decide) | 19, _ => okc_int | 20, _ => okc_arr _ _ (by decide) | 21, _ => okc_arr _ _ (by decide) | 22, _ => okc_int | 23, _ => okc_arr _ _ (by decide) | 24, _ => okc_arr _ _ (by decide) | 25, _ => okc_arr _ _ (by decide) | 26, _ => okc_int | 27, _ => okc_arr _ _ (by decide) | 28, _ => okc_arr _ _ (by decide) | 29, _ => okc_arr _ _ (by decide) | 30, _ => okc_int | 31, _ => okc_int | 32, _ => okc_int | 33, _ => okc_arr _ _ (by decide) | 34, _ => okc_arr _ _ (by decide) | 35, _ => okc_arr _ _ (by decide) | 36, _ => okc_arr _ _ (by decide) | 37, _ => okc_arr _ _ (by decide) | 38, _ => okc_arr _ _ (by decide) | 39, _ => okc_arr _ _ (by decide) | 40, _ => okc_arr _ _ (by decide) | 41, _ => okc_arr _ _ (by decide) | 42, _ => okc_arr _ _ (by decide) | 43, _ => okc_arr _ _ (by decide) | 44, _ => okc_int | 45, _ => okc_arr _ _ (by decide) | 46, _ => okc_arr _ _ (by decide) | 47, _ => okc_arr _ _ (by decide) | 48, _ => okc_int | 49, _ => okc_arr _ _ (by decide) | 50, _ => okc_arr _ _ (by decide) | 51, _ => okc_arr _ _ (by decide) | 52, _ => okc_arr _ _ (by decide) | 53, _ => okc_int | 54, _ => okc_int | 55, _ => okc_int | 56, _ => okc_arr _ _ (by decide) | 57, _ => okc_arr _ _ (by decide) | 58, _ => okc_arr _ _ (by decide) | 59, _ => okc_arr _ _ (by decide) | 60, _ => okc_arr _ _ (by decide) | 61, _ => okc_arr _ _ (by decide) | 62, _ => okc_arr _ _ (by decide) | 63, _ => okc_long | 64, _ => okc_long | 65, _ => okc_long | k + 66, h => absurd h (by omega)
set_option maxRecDepth 20000 in
theorem cl_10 : Cl 10 10 RX10 TX10 66 tyX10 := ⟨by decide +kernel, rfl, inT_10, tyX10_ok, nmX10, by decide +kernel, ok_10, by decide +kernel⟩
theorem fl_3_9 : Fl RX3 9 1 0 511 true := ⟨_, _, _, _, _, cl_3, by decide, rfl, tb_of 27 (by decide +kernel) rfl, rfl⟩
theorem fl_3_15 : Fl RX3 15 1 1 0 false := ⟨_, _, _, _, _, cl_3, by decide, rfl, tb_of 28 (by decide +kernel) rfl, rfl⟩
theorem fl_9_48 : Fl RX9 48 1 1 0 false := ⟨_, _, _, _, _, cl_3, by decide, rfl, tb_of 29 (by decide +kernel) rfl, rfl⟩
theorem fl_6_9 : Fl RX6 9 3 0 501 true := ⟨_, _, _, _, _, cl_6, by decide, rfl, tb_of 48 (by decide +kernel) rfl, rfl⟩
theorem fl_6_15 : Fl RX6 15 3 1 0 false := ⟨_, _, _, _, _, cl_6, by decide, rfl, tb_of 49 (by decide +kernel) rfl, rfl⟩
theorem fl_6_19 : Fl RX6 19 3 2 0 false := ⟨_, _, _, _, _, cl_6, by decide, rfl, tb_of 50 (by decide +kernel) rfl, rfl⟩
theorem fl_5_50 : Fl RX5 50 3 2 0 false := ⟨_, _, _, _, _, cl_6, by decide, rfl, tb_of 51 (by decide +kernel) rfl, rfl⟩
theorem fl_6_22 : Fl RX6 22 3 3 0 false := ⟨_, _, _, _, _, cl_6, by decide, rfl, tb_of 52 (by decide +kernel) rfl, rfl⟩
theorem fl_5_53 : Fl RX5 53 3 3 0 false := ⟨_, _, _, _, _, cl_6, by decide, rfl, tb_of 53 (by decide +kernel) rfl, rfl⟩
theorem fl_6_25 : Fl RX6 25 3 4 1 false := ⟨_, _, _, _, _, cl_6, by decide, rfl, tb_of 54 (by decide +kernel) rfl, rfl⟩
theorem fl_5_71 : Fl RX5 71 3 4 1 false := ⟨_, _, _, _, _, cl_6, by decide, rfl, tb_of 55 (by decide +kernel) rfl, rfl⟩
theorem fl_5_14 : Fl RX5 14 2 0 503 true := ⟨_, _, _, _, _, cl_5, by decide, rfl, tb_of 67 (by decide +kernel) rfl, rfl⟩
theorem fl_5_20 : Fl RX5 20 2 1 16 false := ⟨_, _, _, _, _, cl_5, by decide, rfl, tb_of 68 (by decide +kernel) rfl, rfl⟩
theorem fl_5_24 : Fl RX5 24 2 2 0 false := ⟨_, _, _, _, _, cl_5, by decide, rfl, tb_of 69 (by decide +kernel) rfl, rfl⟩
theorem fl_5_28 : Fl RX5 28 2 3 0 false := ⟨_, _, _, _, _, cl_5, by decide, rfl, tb_of 70 (by decide +kernel) rfl, rfl⟩
theorem fl_5_31 : Fl RX5 31 2 4 0 false := ⟨_, _, _, _, _, cl_5, by decide, rfl, tb_of 71 (by decide +kernel) rfl, rfl⟩
theorem fl_0_9 : Fl RX0 9 6 0 713 true := ⟨_, _, _, _, _, cl_0, by decide, rfl, tb_of 102 (by decide +kernel) rfl, rfl⟩
theorem fl_0_15 : Fl RX0 15 6 1 714 true := ⟨_, _, _, _, _, cl_0, by decide, rfl, tb_of 103 (by decide +kernel) rfl, rfl⟩
theorem fl_0_19 : Fl RX0 19 6 2 715 true := ⟨_, _, _, _, _, cl_0, by decide, rfl, tb_of 104 (by decide +kernel) rfl, rfl⟩
theorem fl_0_22 : Fl RX0 22 6 3 0 false := ⟨_, _, _, _, _, cl_0, by decide, rfl, tb_of 105 (by decide +kernel) rfl, rfl⟩
theorem fl_8_193 : Fl RX8 193 6 3 0 false := ⟨_, _, _, _, _, cl_0, by decide, rfl, tb_of 106 (by decide +kernel) rfl, rfl⟩
theorem fl_5_153 : Fl RX5 153 6 3 0 false := ⟨_, _, _, _, _, cl_0, by decide, rfl, tb_of 107 (by decide +kernel) rfl, rfl⟩
theorem fl_2_12 : Fl RX2 12 5 0 706 true := ⟨_, _, _, _, _, cl_2, by decide, rfl, tb_of 119 (by decide +kernel) rfl, rfl⟩
theorem fl_5_88 : Fl RX5 88 5 0 706 true := ⟨_, _, _, _, _, cl_2, by decide, rfl, tb_of 120 (by decide +kernel) rfl, rfl⟩
theorem fl_8_178 : Fl RX8 178 5 0 706 true := ⟨_, _, _, _, _, cl_2, by decide, rfl, tb_of 121 (by decide +kernel) rfl, rfl⟩
theorem fl_9_159 : Fl RX9 159 5 0 706 true := ⟨_, _, _, _, _, cl_2, by decide, rfl, tb_of 122 (by decide +kernel) rfl, rfl⟩
theorem fl_2_18 : Fl RX2 18 5 1 716 true := ⟨_, _, _, _, _, cl_2, by decide, rfl, tb_of 123 (by decide +kernel) rfl, rfl⟩
theorem fl_8_113 : Fl RX8 113 5 1 716 true := ⟨_, _, _, _, _, cl_2, by decide, rfl, tb_of 124 (by decide +kernel) rfl, rfl⟩
theorem fl_2_22 : Fl RX2 22 5 2 717 true := ⟨_, _, _, _, _, cl_2, by decide, rfl, tb_of 125 (by decide +kernel) rfl, rfl⟩
theorem fl_9_93 : Fl RX9 93 5 2 717 true := ⟨_, _, _, _, _, cl_2, by decide, rfl, tb_of 126 (by decide +kernel) rfl, rfl⟩
theorem fl_8_110 : Fl RX8 110 5 2 717 true := ⟨_, _, _, _, _, cl_2, by decide, rfl, tb_of 127 (by decide +kernel) rfl, rfl⟩
theorem fl_2_26 : Fl RX2 26 5 3 1 false := ⟨_, _, _, _, _, cl_2, by decide, rfl, tb_of 128 (by decide +kernel) rfl, rfl⟩
theorem fl_4_26 : Fl RX4 26 5 3 1 false := ⟨_, _, _, _, _, cl_2, by decide, rfl, tb_of 129 (by decide +kernel) rfl, rfl⟩
theorem fl_5_83 : Fl RX5 83 5 3 1 false := ⟨_, _, _, _, _, cl_2, by decide, rfl, tb_of 130 (by decide +kernel) rfl, rfl⟩
theorem fl_2_30 : Fl RX2 30 5 4 1 false := ⟨_, _, _, _, _, cl_2, by decide, rfl, tb_of 131 (by decide +kernel) rfl, rfl⟩
theorem fl_4_33 : Fl RX4 33 5 4 1 false := ⟨_, _, _, _, _, cl_2, by decide, rfl, tb_of 132 (by decide +kernel) rfl, rfl⟩
theorem fl_9_76 : Fl RX9 76 5 4 1 false := ⟨_, _, _, _, _, cl_2, by decide, rfl, tb_of 133 (by decide +kernel) rfl, rfl⟩
theorem fl_5_111 : Fl RX5 111 5 4 1 false := ⟨_, _, _, _, _, cl_2, by decide, rfl, tb_of 134 (by decide +kernel) rfl, rfl⟩
theorem fl_8_146 : Fl RX8 146 5 4 1 false := ⟨_, _, _, _, _, cl_2, by decide, rfl, tb_of 135 (by decide +kernel) rfl, rfl⟩
theorem fl_2_33 : Fl RX2 33 5 5 2 false := ⟨_, _, _, _, _, cl_2, by decide, rfl, tb_of 136 (by decide +kernel) rfl, rfl⟩
theorem fl_9_85 : Fl RX9 85 5 5 2 false := ⟨_, _, _, _, _, cl_2, by decide, rfl, tb_of 137 (by decide +kernel) rfl, rfl⟩
theorem fl_8_103 : Fl RX8 103 5 5 2 false := ⟨_, _, _, _, _, cl_2, by decide, rfl, tb_of 138 (by decide +kernel) rfl, rfl⟩
theorem fl_5_118 : Fl RX5 118 5 5 2 false := ⟨_, _, _, _, _, cl_2, by decide, rfl, tb_of 139 (by decide +kernel) rfl, rfl⟩
theorem fl_2_37 : Fl RX2 37 5 6 2 false := ⟨_, _, _, _, _, cl_2, by decide, rfl, tb_of 140 (by decide +kernel) rfl, rfl⟩
theorem fl_5_122 : Fl RX5 122 5 6 2 false := ⟨_, _, _, _, _, cl_2, by decide, rfl, tb_of 141 (by decide +kernel) rfl, rfl⟩
theorem fl_8_157 : Fl RX8 157 5 6 2 false := ⟨_, _, _, _, _, cl_2, by decide, rfl, tb_of 142 (by decide +kernel) rfl, rfl⟩
theorem fl_2_40 : Fl RX2 40 5 7 1 false := ⟨_, _, _, _, _, cl_2, by decide, rfl, tb_of 143 (by decide +kernel) rfl, rfl⟩
theorem fl_5_125 : Fl RX5 125 5 7 1 false := ⟨_, _, _, _, _, cl_2, by decide, rfl, tb_of 144 (by decide +kernel) rfl, rfl⟩
theorem fl_8_163 : Fl RX8 163 5 7 1 false := ⟨_, _, _, _, _, cl_2, by decide, rfl, tb_of 145 (by decide +kernel) rfl, rfl⟩
theorem fl_2_43 : Fl RX2 43 5 8 0 false := ⟨_, _, _, _, _, cl_2, by decide, rfl, tb_of 146 (by decide +kernel) rfl, rfl⟩
theorem fl_9_82 : Fl RX9 82 5 8 0 false := ⟨_, _, _, _, _, cl_2, by decide, rfl, tb_of 147 (by decide +kernel) rfl, rfl⟩
theorem fl_4_39 : Fl RX4 39 5 8 0 false := ⟨_, _, _, _, _, cl_2, by decide, rfl, tb_of 148 (by decide +kernel) rfl, rfl⟩
theorem fl_8_100 : Fl RX8 100 5 8 0 false := ⟨_, _, _, _, _, cl_2, by decide, rfl, tb_of 149 (by decide +kernel) rfl, rfl⟩
theorem fl_4_11 : Fl RX4 11 4 0 712 true := ⟨_, _, _, _, _, cl_4, by decide, rfl, tb_of 169 (by decide +kernel) rfl, rfl⟩
theorem fl_4_18 : Fl RX4 18 4 1 0 false := ⟨_, _, _, _, _, cl_4, by decide, rfl, tb_of 170 (by decide +kernel) rfl, rfl⟩
theorem fl_5_34 : Fl RX5 34 4 1 0 false := ⟨_, _, _, _, _, cl_4, by decide, rfl, tb_of 171 (by decide +kernel) rfl, rfl⟩
theorem fl_9_65 : Fl RX9 65 4 1 0 false := ⟨_, _, _, _, _, cl_4, by decide, rfl, tb_of 172 (by decide +kernel) rfl, rfl⟩
theorem fl_1_11 : Fl RX1 11 8 0 718 true := ⟨_, _, _, _, _, cl_1, by decide, rfl, tb_of 190 (by decide +kernel) rfl, rfl⟩
theorem fl_1_15 : Fl RX1 15 8 1 0 false := ⟨_, _, _, _, _, cl_1, by decide, rfl, tb_of 191 (by decide +kernel) rfl, rfl⟩
theorem fl_9_144 : Fl RX9 144 8 1 0 false := ⟨_, _, _, _, _, cl_1, by decide, rfl, tb_of 192 (by decide +kernel) rfl, rfl⟩
theorem fl_7_7 : Fl RX7 7 9 0 1 false := ⟨_, _, _, _, _, cl_7, by decide, rfl, tb_of 204 (by decide +kernel) rfl, rfl⟩
theorem fl_7_13 : Fl RX7 13 9 1 1 false := ⟨_, _, _, _, _, cl_7, by decide, rfl, tb_of 205 (by decide +kernel) rfl, rfl⟩
theorem fl_8_12 : Fl RX8 12 7 0 508 true := ⟨_, _, _, _, _, cl_8, by decide, rfl, tb_of 211 (by decide +kernel) rfl, rfl⟩
theorem fl_9_140 : Fl RX9 140 7 0 508 true := ⟨_, _, _, _, _, cl_8, by decide, rfl, tb_of 212 (by decide +kernel) rfl, rfl⟩
theorem fl_8_18 : Fl RX8 18 7 1 608 true := ⟨_, _, _, _, _, cl_8, by decide, rfl, tb_of 213 (by decide +kernel) rfl, rfl⟩
theorem fl_9_156 : Fl RX9 156 7 1 608 true := ⟨_, _, _, _, _, cl_8, by decide, rfl, tb_of 214 (by decide +kernel) rfl, rfl⟩
theorem fl_8_24 : Fl RX8 24 7 2 509 true := ⟨_, _, _, _, _, cl_8, by decide, rfl, tb_of 215 (by decide +kernel) rfl, rfl⟩
theorem fl_9_125 : Fl RX9 125 7 2 509 true := ⟨_, _, _, _, _, cl_8, by decide, rfl, tb_of 216 (by decide +kernel) rfl, rfl⟩
theorem fl_8_28 : Fl RX8 28 7 3 1 false := ⟨_, _, _, _, _, cl_8, by decide, rfl, tb_of 217 (by decide +kernel) rfl, rfl⟩
theorem fl_9_108 : Fl RX9 108 7 3 1 false := ⟨_, _, _, _, _, cl_8, by decide, rfl, tb_of 218 (by decide +kernel) rfl, rfl⟩
theorem fl_8_32 : Fl RX8 32 7 4 609 true := ⟨_, _, _, _, _, cl_8, by decide, rfl, tb_of 219 (by decide +kernel) rfl, rfl⟩
theorem fl_8_35 : Fl RX8 35 7 5 14 false := ⟨_, _, _, _, _, cl_8, by decide, rfl, tb_of 220 (by decide +kernel) rfl, rfl⟩
theorem fl_8_39 : Fl RX8 39 7 6 519 true := ⟨_, _, _, _, _, cl_8, by decide, rfl, tb_of 221 (by decide +kernel) rfl, rfl⟩
theorem fl_8_43 : Fl RX8 43 7 7 0 false := ⟨_, _, _, _, _, cl_8, by decide, rfl, tb_of 222 (by decide +kernel) rfl, rfl⟩
theorem fl_8_47 : Fl RX8 47 7 8 0 false := ⟨_, _, _, _, _, cl_8, by decide, rfl, tb_of 223 (by decide +kernel) rfl, rfl⟩
theorem fl_8_50 : Fl RX8 50 7 9 520 true := ⟨_, _, _, _, _, cl_8, by decide, rfl, tb_of 224 (by decide +kernel) rfl, rfl⟩
theorem fl_8_54 : Fl RX8 54 7 10 0 false := ⟨_, _, _, _, _, cl_8, by decide, rfl, tb_of 225 (by decide +kernel) rfl, rfl⟩
theorem fl_8_57 : Fl RX8 57 7 11 2 false := ⟨_, _, _, _, _, cl_8, by decide, rfl, tb_of 226 (by decide +kernel) rfl, rfl⟩
theorem fl_9_12 : Fl RX9 12 0 0 501 true := ⟨_, _, _, _, _, cl_9, by decide, rfl, tb_of 252 (by decide +kernel) rfl, rfl⟩
theorem fl_9_21 : Fl RX9 21 0 1 502 true := ⟨_, _, _, _, _, cl_9, by decide, rfl, tb_of 253 (by decide +kernel) rfl, rfl⟩
theorem fl_9_40 : Fl RX9 40 0 2 507 true := ⟨_, _, _, _, _, cl_9, by decide, rfl, tb_of 254 (by decide +kernel) rfl, rfl⟩
theorem fl_9_28 : Fl RX9 28 0 3 14 false := ⟨_, _, _, _, _, cl_9, by decide, rfl, tb_of 255 (by decide +kernel) rfl, rfl⟩
theorem fl_9_32 : Fl RX9 32 0 4 14 false := ⟨_, _, _, _, _, cl_9, by decide, rfl, tb_of 256 (by decide +kernel) rfl, rfl⟩
theorem fl_10_7 : Fl RX10 7 10 0 530 true := ⟨_, _, _, _, _, cl_10, by decide, rfl, tb_of 744 (by decide +kernel) rfl, rfl⟩
theorem fl_10_153 : Fl RX10 153 10 1 0 false := ⟨_, _, _, _, _, cl_10, by decide, rfl, tb_of 745 (by decide +kernel) rfl, rfl⟩
theorem fl_10_167 : Fl RX10 167 10 2 0 false := ⟨_, _, _, _, _, cl_10, by decide, rfl, tb_of 746 (by decide +kernel) rfl, rfl⟩
theorem fl_10_13 : Fl RX10 13 10 3 533 true := ⟨_, _, _, _, _, cl_10, by decide, rfl, tb_of 747 (by decide +kernel) rfl, rfl⟩
theorem fl_10_17 : Fl RX10 17 10 4 534 true := ⟨_, _, _, _, _, cl_10, by decide, rfl, tb_of 748 (by decide +kernel) rfl, rfl⟩
theorem fl_10_20 : Fl RX10 20 10 5 535 true := ⟨_, _, _, _, _, cl_10, by decide, rfl, tb_of 749 (by decide +kernel) rfl, rfl⟩
theorem fl_10_199 : Fl RX10 199 10 6 0 false := ⟨_, _, _, _, _, cl_10, by decide, rfl, tb_of 750 (by decide +kernel) rfl, rfl⟩
theorem fl_10_196 : Fl RX10 196 10 7 0 false := ⟨_, _, _, _, _, cl_10, by decide, rfl, tb_of 751 (by decide +kernel) rfl, rfl⟩
theorem fl_10_212 : Fl RX10 212 10 8 0 false := ⟨_, _, _, _, _, cl_10, by decide, rfl, tb_of 752 (by decide +kernel) rfl, rfl⟩
theorem fl_10_24 : Fl RX10 24 10 9 539 true := ⟨_, _, _, _, _, cl_10, by decide, rfl, tb_of 753 (by decide +kernel) rfl, rfl⟩
theorem fl_10_27 : Fl RX10 27 10 10 540 true := ⟨_, _, _, _, _, cl_10, by decide, rfl, tb_of 754 (by decide +kernel) rfl, rfl⟩
theorem fl_10_30 : Fl RX10 30 10 11 541 true := ⟨_, _, _, _, _, cl_10, by decide, rfl, tb_of 755 (by decide +kernel) rfl, rfl⟩
theorem fl_10_34 : Fl RX10 34 10 12 542 true := ⟨_, _, _, _, _, cl_10, by decide, rfl, tb_of 756 (by decide +kernel) rfl, rfl⟩
theorem fl_10_37 : Fl RX10 37 10 13 543 true := ⟨_, _, _, _, _, cl_10, by decide, rfl, tb_of 757 (by decide +kernel) rfl, rfl⟩
theorem fl_10_40 : Fl RX10 40 10 14 544 true := ⟨_, _, _, _, _, cl_10, by decide, rfl, tb_of 758 (by decide +kernel) rfl, rfl⟩
theorem fl_10_43 : Fl RX10 43 10 15 545 true := ⟨_, _, _, _, _, cl_10, by decide, rfl, tb_of 759 (by decide +kernel) rfl, rfl⟩
theorem fl_10_206 : Fl RX10 206 10 16 0 false := ⟨_, _, _, _, _, cl_10, by decide, rfl, tb_of 760 (by decide +kernel) rfl, rfl⟩
theorem fl_10_46 : Fl RX10 46 10 17 547 true := ⟨_, _, _, _, _, cl_10, by decide, rfl, tb_of 761 (by decide +kernel) rfl, rfl⟩
theorem fl_10_49 : Fl RX10 49 10 18 548 true := ⟨_, _, _, _, _, cl_10, by decide, rfl, tb_of 762 (by decide +kernel) rfl, rfl⟩
theorem fl_10_215 : Fl RX10 215 10 19 0 false := ⟨_, _, _, _, _, cl_10, by decide, rfl, tb_of 763 (by decide +kernel) rfl, rfl⟩
theorem fl_10_52 : Fl RX10 52 10 20 550 true := ⟨_, _, _, _, _, cl_10, by decide, rfl, tb_of 764 (by decide +kernel) rfl, rfl⟩
theorem fl_10_55 : Fl RX10 55 10 21 551 true := ⟨_, _, _, _, _, cl_10, by decide, rfl, tb_of 765 (by decide +kernel) rfl, rfl⟩
theorem fl_10_209 : Fl RX10 209 10 22 0 false := ⟨_, _, _, _, _, cl_10, by decide, rfl, tb_of 766 (by decide +kernel) rfl, rfl⟩
theorem fl_10_58 : Fl RX10 58 10 23 553 true := ⟨_, _, _, _, _, cl_10, by decide, rfl, tb_of 767 (by decide +kernel) rfl, rfl⟩
theorem fl_10_61 : Fl RX10 61 10 24 554 true := ⟨_, _, _, _, _, cl_10, by decide, rfl, tb_of 768 (by decide +kernel) rfl, rfl⟩
theorem fl_10_64 : Fl RX10 64 10 25 555 true := ⟨_, _, _, _, _, cl_10, by decide, rfl, tb_of 769 (by decide +kernel) rfl, rfl⟩
theorem fl_10_224 : Fl RX10 224 10 26 0 false := ⟨_, _, _, _, _, cl_10, by decide, rfl, tb_of 770 (by decide +kernel) rfl, rfl⟩
theorem fl_10_67 : Fl RX10 67 10 27 557 true := ⟨_, _, _, _, _, cl_10, by decide, rfl, tb_of 771 (by decide +kernel) rfl, rfl⟩
theorem fl_10_70 : Fl RX10 70 10 28 558 true := ⟨_, _, _, _, _, cl_10, by decide, rfl, tb_of 772 (by decide +kernel) rfl, rfl⟩
theorem fl_10_73 : Fl RX10 73 10 29 559 true := ⟨_, _, _, _, _, cl_10, by decide, rfl, tb_of 773 (by decide +kernel) rfl, rfl⟩
theorem fl_10_227 : Fl RX10 227 10 30 0 false := ⟨_, _, _, _, _, cl_10, by decide, rfl, tb_of 774 (by decide +kernel) rfl, rfl⟩
theorem fl_10_230 : Fl RX10 230 10 31 0 false := ⟨_, _, _, _, _, cl_10, by decide, rfl, tb_of 775 (by decide +kernel) rfl, rfl⟩
theorem fl_10_289 : Fl RX10 289 10 32 0 false := ⟨_, _, _, _, _, cl_10, by decide, rfl, tb_of 776 (by decide +kernel) rfl, rfl⟩
theorem fl_10_76 : Fl RX10 76 10 33 563 true := ⟨_, _, _, _, _, cl_10, by decide, rfl, tb_of 777 (by decide +kernel) rfl, rfl⟩
theorem fl_10_79 : Fl RX10 79 10 34 564 true := ⟨_, _, _, _, _, cl_10, by decide, rfl, tb_of 778 (by decide +kernel) rfl, rfl⟩
theorem fl_10_82 : Fl RX10 82 10 35 565 true := ⟨_, _, _, _, _, cl_10, by decide, rfl, tb_of 779 (by decide +kernel) rfl, rfl⟩
theorem fl_10_85 : Fl RX10 85 10 36 566 true := ⟨_, _, _, _, _, cl_10, by decide, rfl, tb_of 780 (by decide +kernel) rfl, rfl⟩
theorem fl_10_88 : Fl RX10 88 10 37 567 true := ⟨_, _, _, _, _, cl_10, by decide, rfl, tb_of 781 (by decide +kernel) rfl, rfl⟩
theorem fl_10_91 : Fl RX10 91 10 38 568 true := ⟨_, _, _, _, _, cl_10, by decide, rfl, tb_of 782 (by decide +kernel) rfl, rfl⟩
theorem fl_10_94 : Fl RX10 94 10 39 569 true := ⟨_, _, _, _, _, cl_10, by decide, rfl, tb_of 783 (by decide +kernel) rfl, rfl⟩
theorem fl_10_97 : Fl RX10 97 10 40 570 true := ⟨_, _, _, _, _, cl_10, by decide, rfl, tb_of 784 (by decide +kernel) rfl, rfl⟩
theorem fl_10_100 : Fl RX10 100 10 41 571 true := ⟨_, _, _, _, _, cl_10, by decide, rfl, tb_of 785 (by decide +kernel) rfl, rfl⟩
theorem fl_10_103 : Fl RX10 103 10 42 572 true := ⟨_, _, _, _, _, cl_10, by decide, rfl, tb_of 786 (by decide +kernel) rfl, rfl⟩
theorem fl_10_106 : Fl RX10 106 10 43 573 true := ⟨_, _, _, _, _, cl_10, by decide, rfl, tb_of 787 (by decide +kernel) rfl, rfl⟩
theorem fl_10_296 : Fl RX10 296 10 44 0 false := ⟨_, _, _, _, _, cl_10, by decide, rfl, tb_of 788 (by decide +kernel) rfl, rfl⟩
theorem fl_10_109 : Fl RX10 109 10 45 575 true := ⟨_, _, _, _, _, cl_10, by decide, rfl, tb_of 789 (by decide +kernel) rfl, rfl⟩
theorem fl_10_112 : Fl RX10 112 10 46 576 true := ⟨_, _, _, _, _, cl_10, by decide, rfl, tb_of 790 (by decide +kernel) rfl, rfl⟩
theorem fl_10_115 : Fl RX10 115 10 47 577 true := ⟨_, _, _, _, _, cl_10, by decide, rfl, tb_of 791 (by decide +kernel) rfl, rfl⟩
theorem fl_10_299 : Fl RX10 299 10 48 0 false := ⟨_, _, _, _, _, cl_10, by decide, rfl, tb_of 792 (by decide +kernel) rfl, rfl⟩
theorem fl_10_118 : Fl RX10 118 10 49 579 true := ⟨_, _, _, _, _, cl_10, by decide, rfl, tb_of 793 (by decide +kernel) rfl, rfl⟩
theorem fl_10_121 : Fl RX10 121 10 50 580 true := ⟨_, _, _, _, _, cl_10, by decide, rfl, tb_of 794 (by decide +kernel) rfl, rfl⟩
theorem fl_10_124 : Fl RX10 124 10 51 581 true := ⟨_, _, _, _, _, cl_10, by decide, rfl, tb_of 795 (by decide +kernel) rfl, rfl⟩
theorem fl_10_127 : Fl RX10 127 10 52 582 true := ⟨_, _, _, _, _, cl_10, by decide, rfl, tb_of 796 (by decide +kernel) rfl, rfl⟩
theorem fl_10_302 : Fl RX10 302 10 53 0 false := ⟨_, _, _, _, _, cl_10, by decide, rfl, tb_of 797 (by decide +kernel) rfl, rfl⟩
theorem fl_10_336 : Fl RX10 336 10 54 0 false := ⟨_, _, _, _, _, cl_10, by decide, rfl, tb_of 798 (by decide +kernel) rfl, rfl⟩
theorem fl_10_315 : Fl RX10 315 10 55 0 false := ⟨_, _, _, _, _, cl_10, by decide, rfl, tb_of 799 (by decide +kernel) rfl, rfl⟩
theorem fl_10_130 : Fl RX10 130 10 56 586 true := ⟨_, _, _, _, _, cl_10, by decide, rfl, tb_of 800 (by decide +kernel) rfl, rfl⟩
theorem fl_10_133 : Fl RX10 133 10 57 587 true := ⟨_, _, _, _, _, cl_10, by decide, rfl, tb_of 801 (by decide +kernel) rfl, rfl⟩
theorem fl_10_136 : Fl RX10 136 10 58 588 true := ⟨_, _, _, _, _, cl_10, by decide, rfl, tb_of 802 (by decide +kernel) rfl, rfl⟩
theorem fl_10_139 : Fl RX10 139 10 59 589 true := ⟨_, _, _, _, _, cl_10, by decide, rfl, tb_of 803 (by decide +kernel) rfl, rfl⟩
theorem fl_10_142 : Fl RX10 142 10 60 590 true := ⟨_, _, _, _, _, cl_10, by decide, rfl, tb_of 804 (by decide +kernel) rfl, rfl⟩
theorem fl_10_145 : Fl RX10 145 10 61 591 true := ⟨_, _, _, _, _, cl_10, by decide, rfl, tb_of 805 (by decide +kernel) rfl, rfl⟩
theorem fl_10_148 : Fl RX10 148 10 62 592 true := ⟨_, _, _, _, _, cl_10, by decide, rfl, tb_of 806 (by decide +kernel) rfl, rfl⟩
theorem fl_10_328 : Fl RX10 328 10 63 1 false := ⟨_, _, _, _, _, cl_10, by decide, rfl, tb_of 807 (by decide +kernel) rfl, rfl⟩
theorem fl_10_354 : Fl RX10 354 10 64 1 false := ⟨_, _, _, _, _, cl_10, by decide, rfl, tb_of 808 (by decide +kernel) rfl, rfl⟩
theorem fl_10_349 : Fl RX10 349 10 65 1 false := ⟨_, _, _, _, _, cl_10, by decide, rfl, tb_of 809 (by decide +kernel) rfl, rfl⟩
abbrev Mt : Type := MethodName × ByteArray × Nat × Option FieldType × Nat
/-- what every call needs of a method -/
def Mk (M : Mt) : Prop := Cond.code M.1 M.2.1 M.2.2.1 M.2.2.2.1 ∈ TB ∧ Cond.initialized M.1.cls ∈ TB ∧ (M.1.cls ≠ "java/lang/invoke/MethodHandle" ∧ M.1.cls ≠ "java/lang/invoke/VarHandle" ∧ (parseMethodDescriptor M.1.desc).map (fun d => d.parameters.length) = some M.2.2.2.2) ∧ M.2.2.1 ≤ 40
def MkV (M : Mt) : Prop := Mk M ∧ Cond.instanceMethod M.1 ∈ TB ∧ Cond.selects M.1.cls M.1 M.1 ∈ TB
def MkS (M : Mt) : Prop := Mk M ∧ Cond.static M.1 ∈ TB
def MkI (M : Mt) : Prop := Mk M ∧ Cond.instanceMethod M.1 ∈ TB ∧ M.1.name = "<init>" ∧ M.2.2.2.1 = none
def Lk (own : String) (idx : Nat) (M : Mt) : Prop := Cond.methodLink own idx M.1 ∈ TB
def nestL : List Cond := [.methodLinkNest "OfficeTables$Formula" (26 : Nat) ({ cls := "OfficeTables", name := "put", desc := "([III)V" } : Jvm.MethodName) "OfficeTables", .methodLinkNest "OfficeTables$Formula" (30 : Nat) ({ cls := "OfficeTables", name := "put", desc := "([JIJ)V" } : Jvm.MethodName) "OfficeTables", .methodLinkNest "OfficeTables$Formula" (33 : Nat) ({ cls := "OfficeTables", name := "at", desc := "([II)I" } : Jvm.MethodName) "OfficeTables", .methodLinkNest "OfficeTables$Formula" (37 : Nat) ({ cls := "OfficeTables", name := "at", desc := "([JI)J" } : Jvm.MethodName) "OfficeTables", .methodLinkNest "OfficeTables$Workshop" (170 : Nat) ({ cls := "OfficeTables", name := "put", desc := "([III)V" } : Jvm.MethodName) "OfficeTables", .methodLinkNest "OfficeTables$Log" (19 : Nat) ({ cls := "OfficeTables", name := "put", desc := "([JIJ)V" } : Jvm.MethodName) "OfficeTables", .methodLinkNest "OfficeTables$Workshop" (190 : Nat) ({ cls := "OfficeTables", name := "put", desc := "([JIJ)V" } : Jvm.MethodName) "OfficeTables", .methodLinkNest "OfficeTables$Workshop" (116 : Nat) ({ cls := "OfficeTables", name := "at", desc := "([JI)J" } : Jvm.MethodName) "OfficeTables", .methodLinkNest "OfficeTables$Workshop" (67 : Nat) ({ cls := "OfficeTables", name := "at", desc := "([II)I" } : Jvm.MethodName) "OfficeTables", .methodLinkNest "OfficeTables$Log" (23 : Nat) ({ cls := "OfficeTables", name := "at", desc := "([JI)J" } : Jvm.MethodName) "OfficeTables", .methodLinkNest "OfficeTables$Table" (68 : Nat) ({ cls := "OfficeTables", name := "at", desc := "([II)I" } : Jvm.MethodName) "OfficeTables"]
def LkN (own : String) (idx : Nat) (M : Mt) (host : String) : Prop := Cond.methodLinkNest own idx M.1 host ∈ nestL
abbrev mX0_init : Mt := (yX0_init, cX0_init, 1, none, 0)
set_option maxRecDepth 100000 in
theorem kX0_init : Mk mX0_init := ⟨tb_of 100 rfl rfl, tb_of 7 (by decide +kernel) rfl, by decide +kernel, by decide⟩
theorem kIX0_init : MkI mX0_init := ⟨kX0_init, tb_of 99 (by decide +kernel) rfl, rfl, rfl⟩
abbrev mX0_clear : Mt := (yX0_clear, cX0_clear, 1, none, 0)
set_option maxRecDepth 100000 in
theorem kX0_clear : Mk mX0_clear := ⟨tb_of 363 rfl rfl, tb_of 7 (by decide +kernel) rfl, by decide +kernel, by decide⟩
theorem kVX0_clear : MkV mX0_clear := ⟨kX0_clear, tb_of 361 (by decide +kernel) rfl, tb_of 362 (by decide +kernel) rfl⟩
abbrev mX0_add : Mt := (yX0_add, cX0_add, 5, none, 3)
set_option maxRecDepth 100000 in
theorem kX0_add : Mk mX0_add := ⟨tb_of 403 rfl rfl, tb_of 7 (by decide +kernel) rfl, by decide +kernel, by decide⟩
theorem kVX0_add : MkV mX0_add := ⟨kX0_add, tb_of 401 (by decide +kernel) rfl, tb_of 402 (by decide +kernel) rfl⟩
abbrev mX0_skipToHere : Mt := (yX0_skipToHere, cX0_skipToHere, 2, none, 1)
set_option maxRecDepth 100000 in
theorem kX0_skipToHere : Mk mX0_skipToHere := ⟨tb_of 425 rfl rfl, tb_of 7 (by decide +kernel) rfl, by decide +kernel, by decide⟩
theorem kVX0_skipToHere : MkV mX0_skipToHere := ⟨kX0_skipToHere, tb_of 423 (by decide +kernel) rfl, tb_of 424 (by decide +kernel) rfl⟩
abbrev mX0_stepAt : Mt := (yX0_stepAt, cX0_stepAt, 2, (some .int), 1)
set_option maxRecDepth 100000 in
theorem kX0_stepAt : Mk mX0_stepAt := ⟨tb_of 587 rfl rfl, tb_of 7 (by decide +kernel) rfl, by decide +kernel, by decide⟩
theorem kVX0_stepAt : MkV mX0_stepAt := ⟨kX0_stepAt, tb_of 585 (by decide +kernel) rfl, tb_of 586 (by decide +kernel) rfl⟩
abbrev mX0_withAt : Mt := (yX0_withAt, cX0_withAt, 2, (some .long), 1)
set_option maxRecDepth 100000 in
theorem kX0_withAt : Mk mX0_withAt := ⟨tb_of 451 rfl rfl, tb_of 7 (by decide +kernel) rfl, by decide +kernel, by decide⟩
theorem kVX0_withAt : MkV mX0_withAt := ⟨kX0_withAt, tb_of 449 (by decide +kernel) rfl, tb_of 450 (by decide +kernel) rfl⟩
abbrev mX0_skipAt : Mt := (yX0_skipAt, cX0_skipAt, 2, (some .int), 1)
set_option maxRecDepth 100000 in
theorem kX0_skipAt : Mk mX0_skipAt := ⟨tb_of 603 rfl rfl, tb_of 7 (by decide +kernel) rfl, by decide +kernel, by decide⟩
theorem kVX0_skipAt : MkV mX0_skipAt := ⟨kX0_skipAt, tb_of 601 (by decide +kernel) rfl, tb_of 602 (by decide +kernel) rfl⟩
abbrev mX0_isNameAt : Mt := (yX0_isNameAt, cX0_isNameAt, 3, (some .boolean), 1)
set_option maxRecDepth 100000 in
theorem kX0_isNameAt : Mk mX0_isNameAt := ⟨tb_of 444 rfl rfl, tb_of 7 (by decide +kernel) rfl, by decide +kernel, by decide⟩
theorem kVX0_isNameAt : MkV mX0_isNameAt := ⟨kX0_isNameAt, tb_of 442 (by decide +kernel) rfl, tb_of 443 (by decide +kernel) rfl⟩
abbrev mX0_placeAt : Mt := (yX0_placeAt, cX0_placeAt, 2, (some .int), 1)
set_option maxRecDepth 100000 in
theorem kX0_placeAt : Mk mX0_placeAt := ⟨tb_of 458 rfl rfl, tb_of 7 (by decide +kernel) rfl, by decide +kernel, by decide⟩
theorem kVX0_placeAt : MkV mX0_placeAt := ⟨kX0_placeAt, tb_of 456 (by decide +kernel) rfl, tb_of 457 (by decide +kernel) rfl⟩
abbrev mX0_resolve : Mt := (yX0_resolve, cX0_resolve, 3, none, 2)
set_option maxRecDepth 100000 in
theorem kX0_resolve : Mk mX0_resolve := ⟨tb_of 462 rfl rfl, tb_of 7 (by decide +kernel) rfl, by decide +kernel, by decide⟩
theorem kVX0_resolve : MkV mX0_resolve := ⟨kX0_resolve, tb_of 460 (by decide +kernel) rfl, tb_of 461 (by decide +kernel) rfl⟩
abbrev mX0_names : Mt := (yX0_names, cX0_names, 3, (some .boolean), 1)
set_option maxRecDepth 100000 in
theorem kX0_names : Mk mX0_names := ⟨tb_of 718 rfl rfl, tb_of 7 (by decide +kernel) rfl, by decide +kernel, by decide⟩
theorem kVX0_names : MkV mX0_names := ⟨kX0_names, tb_of 716 (by decide +kernel) rfl, tb_of 717 (by decide +kernel) rfl⟩
abbrev mX1_init : Mt := (yX1_init, cX1_init, 1, none, 0)
set_option maxRecDepth 100000 in
theorem kX1_init : Mk mX1_init := ⟨tb_of 188 rfl rfl, tb_of 9 (by decide +kernel) rfl, by decide +kernel, by decide⟩
theorem kIX1_init : MkI mX1_init := ⟨kX1_init, tb_of 187 (by decide +kernel) rfl, rfl, rfl⟩
abbrev mX1_clear : Mt := (yX1_clear, cX1_clear, 1, none, 0)
set_option maxRecDepth 100000 in
theorem kX1_clear : Mk mX1_clear := ⟨tb_of 478 rfl rfl, tb_of 9 (by decide +kernel) rfl, by decide +kernel, by decide⟩
theorem kVX1_clear : MkV mX1_clear := ⟨kX1_clear, tb_of 476 (by decide +kernel) rfl, tb_of 477 (by decide +kernel) rfl⟩
abbrev mX1_note : Mt := (yX1_note, cX1_note, 9, none, 4)
set_option maxRecDepth 100000 in
theorem kX1_note : Mk mX1_note := ⟨tb_of 560 rfl rfl, tb_of 9 (by decide +kernel) rfl, by decide +kernel, by decide⟩
theorem kVX1_note : MkV mX1_note := ⟨kX1_note, tb_of 558 (by decide +kernel) rfl, tb_of 559 (by decide +kernel) rfl⟩
abbrev mX1_keeps : Mt := (yX1_keeps, cX1_keeps, 2, (some .boolean), 1)
set_option maxRecDepth 100000 in
theorem kX1_keeps : Mk mX1_keeps := ⟨tb_of 697 rfl rfl, tb_of 9 (by decide +kernel) rfl, by decide +kernel, by decide⟩
theorem kVX1_keeps : MkV mX1_keeps := ⟨kX1_keeps, tb_of 695 (by decide +kernel) rfl, tb_of 696 (by decide +kernel) rfl⟩
abbrev mX1_told : Mt := (yX1_told, cX1_told, 3, (some .long), 2)
set_option maxRecDepth 100000 in
theorem kX1_told : Mk mX1_told := ⟨tb_of 701 rfl rfl, tb_of 9 (by decide +kernel) rfl, by decide +kernel, by decide⟩
theorem kVX1_told : MkV mX1_told := ⟨kX1_told, tb_of 699 (by decide +kernel) rfl, tb_of 700 (by decide +kernel) rfl⟩
abbrev mX2_init : Mt := (yX2_init, cX2_init, 1, none, 0)
set_option maxRecDepth 100000 in
theorem kX2_init : Mk mX2_init := ⟨tb_of 94 rfl rfl, tb_of 6 (by decide +kernel) rfl, by decide +kernel, by decide⟩
theorem kIX2_init : MkI mX2_init := ⟨kX2_init, tb_of 93 (by decide +kernel) rfl, rfl, rfl⟩
abbrev mX2_putToSleep : Mt := (yX2_putToSleep, cX2_putToSleep, 2, none, 0)
set_option maxRecDepth 100000 in
theorem kX2_putToSleep : Mk mX2_putToSleep := ⟨tb_of 470 rfl rfl, tb_of 6 (by decide +kernel) rfl, by decide +kernel, by decide⟩
theorem kVX2_putToSleep : MkV mX2_putToSleep := ⟨kX2_putToSleep, tb_of 468 (by decide +kernel) rfl, tb_of 469 (by decide +kernel) rfl⟩
abbrev mX2_entriesInAll : Mt := (yX2_entriesInAll, cX2_entriesInAll, 1, (some .int), 0)
set_option maxRecDepth 100000 in
theorem kX2_entriesInAll : Mk mX2_entriesInAll := ⟨tb_of 516 rfl rfl, tb_of 6 (by decide +kernel) rfl, by decide +kernel, by decide⟩
theorem kVX2_entriesInAll : MkV mX2_entriesInAll := ⟨kX2_entriesInAll, tb_of 514 (by decide +kernel) rfl, tb_of 515 (by decide +kernel) rfl⟩
abbrev mX2_rowsInAll : Mt := (yX2_rowsInAll, cX2_rowsInAll, 1, (some .int), 0)
set_option maxRecDepth 100000 in
theorem kX2_rowsInAll : Mk mX2_rowsInAll := ⟨tb_of 512 rfl rfl, tb_of 6 (by decide +kernel) rfl, by decide +kernel, by decide⟩
theorem kVX2_rowsInAll : MkV mX2_rowsInAll := ⟨kX2_rowsInAll, tb_of 510 (by decide +kernel) rfl, tb_of 511 (by decide +kernel) rfl⟩
abbrev mX2_endOfRow : Mt := (yX2_endOfRow, cX2_endOfRow, 2, (some .int), 1)
set_option maxRecDepth 100000 in
theorem kX2_endOfRow : Mk mX2_endOfRow := ⟨tb_of 619 rfl rfl, tb_of 6 (by decide +kernel) rfl, by decide +kernel, by decide⟩
theorem kVX2_endOfRow : MkV mX2_endOfRow := ⟨kX2_endOfRow, tb_of 617 (by decide +kernel) rfl, tb_of 618 (by decide +kernel) rfl⟩
abbrev mX2_clearEntries : Mt := (yX2_clearEntries, cX2_clearEntries, 2, none, 0)
set_option maxRecDepth 100000 in
theorem kX2_clearEntries : Mk mX2_clearEntries := ⟨tb_of 570 rfl rfl, tb_of 6 (by decide +kernel) rfl, by decide +kernel, by decide⟩
theorem kVX2_clearEntries : MkV mX2_clearEntries := ⟨kX2_clearEntries, tb_of 568 (by decide +kernel) rfl, tb_of 569 (by decide +kernel) rfl⟩
abbrev mX2_readyEntries : Mt := (yX2_readyEntries, cX2_readyEntries, 3, (some .int), 0)
set_option maxRecDepth 100000 in
theorem kX2_readyEntries : Mk mX2_readyEntries := ⟨tb_of 734 rfl rfl, tb_of 6 (by decide +kernel) rfl, by decide +kernel, by decide⟩
theorem kVX2_readyEntries : MkV mX2_readyEntries := ⟨kX2_readyEntries, tb_of 732 (by decide +kernel) rfl, tb_of 733 (by decide +kernel) rfl⟩
abbrev mX3_init : Mt := (yX3_init, cX3_init, 1, none, 0)
set_option maxRecDepth 100000 in
theorem kX3_init : Mk mX3_init := ⟨tb_of 25 rfl rfl, tb_of 2 (by decide +kernel) rfl, by decide +kernel, by decide⟩
theorem kIX3_init : MkI mX3_init := ⟨kX3_init, tb_of 24 (by decide +kernel) rfl, rfl, rfl⟩
abbrev mX3_append : Mt := (yX3_append, cX3_append, 5, (some .boolean), 1)
set_option maxRecDepth 100000 in
theorem kX3_append : Mk mX3_append := ⟨tb_of 275 rfl rfl, tb_of 2 (by decide +kernel) rfl, by decide +kernel, by decide⟩
theorem kVX3_append : MkV mX3_append := ⟨kX3_append, tb_of 273 (by decide +kernel) rfl, tb_of 274 (by decide +kernel) rfl⟩
abbrev mX3_bytesIn : Mt := (yX3_bytesIn, cX3_bytesIn, 3, (some .int), 1)
set_option maxRecDepth 100000 in
theorem kX3_bytesIn : Mk mX3_bytesIn := ⟨tb_of 278 rfl rfl, tb_of 2 (by decide +kernel) rfl, by decide +kernel, by decide⟩
theorem kSX3_bytesIn : MkS mX3_bytesIn := ⟨kX3_bytesIn, tb_of 277 (by decide +kernel) rfl⟩
abbrev mX3_putByte : Mt := (yX3_putByte, cX3_putByte, 3, none, 2)
set_option maxRecDepth 100000 in
theorem kX3_putByte : Mk mX3_putByte := ⟨tb_of 283 rfl rfl, tb_of 2 (by decide +kernel) rfl, by decide +kernel, by decide⟩
theorem kVX3_putByte : MkV mX3_putByte := ⟨kX3_putByte, tb_of 282 (by decide +kernel) rfl, tb_sel 0 (by decide +kernel) rfl⟩
abbrev mX3_byteAt : Mt := (yX3_byteAt, cX3_byteAt, 2, (some .int), 1)
set_option maxRecDepth 100000 in
theorem kX3_byteAt : Mk mX3_byteAt := ⟨tb_of 307 rfl rfl, tb_of 2 (by decide +kernel) rfl, by decide +kernel, by decide⟩
theorem kVX3_byteAt : MkV mX3_byteAt := ⟨kX3_byteAt, tb_of 305 (by decide +kernel) rfl, tb_of 306 (by decide +kernel) rfl⟩
abbrev mX3_empty : Mt := (yX3_empty, cX3_empty, 1, none, 0)
set_option maxRecDepth 100000 in
theorem kX3_empty : Mk mX3_empty := ⟨tb_of 486 rfl rfl, tb_of 2 (by decide +kernel) rfl, by decide +kernel, by decide⟩
theorem kVX3_empty : MkV mX3_empty := ⟨kX3_empty, tb_of 484 (by decide +kernel) rfl, tb_of 485 (by decide +kernel) rfl⟩
abbrev mX4_init : Mt := (yX4_init, cX4_init, 2, none, 0)
set_option maxRecDepth 100000 in
theorem kX4_init : Mk mX4_init := ⟨tb_of 87 rfl rfl, tb_of 5 (by decide +kernel) rfl, by decide +kernel, by decide⟩
theorem kIX4_init : MkI mX4_init := ⟨kX4_init, tb_of 86 (by decide +kernel) rfl, rfl, rfl⟩
abbrev mX4_slotAt : Mt := (yX4_slotAt, cX4_slotAt, 2, (some (.object "OfficeTables$Table")), 1)
set_option maxRecDepth 100000 in
theorem kX4_slotAt : Mk mX4_slotAt := ⟨tb_of 337 rfl rfl, tb_of 5 (by decide +kernel) rfl, by decide +kernel, by decide⟩
theorem kVX4_slotAt : MkV mX4_slotAt := ⟨kX4_slotAt, tb_of 335 (by decide +kernel) rfl, tb_of 336 (by decide +kernel) rfl⟩
abbrev mX4_tableAt : Mt := (yX4_tableAt, cX4_tableAt, 2, (some (.object "OfficeTables$Table")), 1)
set_option maxRecDepth 100000 in
theorem kX4_tableAt : Mk mX4_tableAt := ⟨tb_of 379 rfl rfl, tb_of 5 (by decide +kernel) rfl, by decide +kernel, by decide⟩
theorem kVX4_tableAt : MkV mX4_tableAt := ⟨kX4_tableAt, tb_of 377 (by decide +kernel) rfl, tb_of 378 (by decide +kernel) rfl⟩
abbrev mX4_numberOf : Mt := (yX4_numberOf, cX4_numberOf, 5, (some .int), 1)
set_option maxRecDepth 100000 in
theorem kX4_numberOf : Mk mX4_numberOf := ⟨tb_of 354 rfl rfl, tb_of 5 (by decide +kernel) rfl, by decide +kernel, by decide⟩
theorem kVX4_numberOf : MkV mX4_numberOf := ⟨kX4_numberOf, tb_of 352 (by decide +kernel) rfl, tb_of 353 (by decide +kernel) rfl⟩
abbrev mX4_sizeOf : Mt := (yX4_sizeOf, cX4_sizeOf, 3, (some .long), 1)
set_option maxRecDepth 100000 in
theorem kX4_sizeOf : Mk mX4_sizeOf := ⟨tb_of 375 rfl rfl, tb_of 5 (by decide +kernel) rfl, by decide +kernel, by decide⟩
theorem kVX4_sizeOf : MkV mX4_sizeOf := ⟨kX4_sizeOf, tb_of 373 (by decide +kernel) rfl, tb_of 374 (by decide +kernel) rfl⟩
abbrev mX4_putToSleep : Mt := (yX4_putToSleep, cX4_putToSleep, 3, none, 0)
set_option maxRecDepth 100000 in
theorem kX4_putToSleep : Mk mX4_putToSleep := ⟨tb_of 466 rfl rfl, tb_of 5 (by decide +kernel) rfl, by decide +kernel, by decide⟩
theorem kVX4_putToSleep : MkV mX4_putToSleep := ⟨kX4_putToSleep, tb_of 464 (by decide +kernel) rfl, tb_of 465 (by decide +kernel) rfl⟩
abbrev mX4_howManyAre : Mt := (yX4_howManyAre, cX4_howManyAre, 5, (some .int), 1)
set_option maxRecDepth 100000 in
theorem kX4_howManyAre : Mk mX4_howManyAre := ⟨tb_of 726 rfl rfl, tb_of 5 (by decide +kernel) rfl, by decide +kernel, by decide⟩
theorem kVX4_howManyAre : MkV mX4_howManyAre := ⟨kX4_howManyAre, tb_of 724 (by decide +kernel) rfl, tb_of 725 (by decide +kernel) rfl⟩
abbrev mX4_readyEntries : Mt := (yX4_readyEntries, cX4_readyEntries, 4, (some .int), 0)
set_option maxRecDepth 100000 in
theorem kX4_readyEntries : Mk mX4_readyEntries := ⟨tb_of 730 rfl rfl, tb_of 5 (by decide +kernel) rfl, by decide +kernel, by decide⟩
theorem kVX4_readyEntries : MkV mX4_readyEntries := ⟨kX4_readyEntries, tb_of 728 (by decide +kernel) rfl, tb_of 729 (by decide +kernel) rfl⟩
abbrev mX5_init : Mt := (yX5_init, cX5_init, 2, none, 1)
set_option maxRecDepth 100000 in
theorem kX5_init : Mk mX5_init := ⟨tb_of 40 rfl rfl, tb_of 3 (by decide +kernel) rfl, by decide +kernel, by decide⟩
theorem kIX5_init : MkI mX5_init := ⟨kX5_init, tb_of 39 (by decide +kernel) rfl, rfl, rfl⟩
abbrev mX5_parse : Mt := (yX5_parse, cX5_parse, 5, (some .int), 1)
set_option maxRecDepth 100000 in
theorem kX5_parse : Mk mX5_parse := ⟨tb_of 291 rfl rfl, tb_of 3 (by decide +kernel) rfl, by decide +kernel, by decide⟩
theorem kVX5_parse : MkV mX5_parse := ⟨kX5_parse, tb_of 289 (by decide +kernel) rfl, tb_of 290 (by decide +kernel) rfl⟩
abbrev mX5_faultHere : Mt := (yX5_faultHere, cX5_faultHere, 1, (some .boolean), 0)
set_option maxRecDepth 100000 in
theorem kX5_faultHere : Mk mX5_faultHere := ⟨tb_of 349 rfl rfl, tb_of 3 (by decide +kernel) rfl, by decide +kernel, by decide⟩
theorem kVX5_faultHere : MkV mX5_faultHere := ⟨kX5_faultHere, tb_of 348 (by decide +kernel) rfl, tb_sel 6 (by decide +kernel) rfl⟩
abbrev mX5_noteNameFault : Mt := (yX5_noteNameFault, cX5_noteNameFault, 2, none, 1)
set_option maxRecDepth 100000 in
theorem kX5_noteNameFault : Mk mX5_noteNameFault := ⟨tb_of 359 rfl rfl, tb_of 3 (by decide +kernel) rfl, by decide +kernel, by decide⟩
theorem kVX5_noteNameFault : MkV mX5_noteNameFault := ⟨kX5_noteNameFault, tb_of 358 (by decide +kernel) rfl, tb_sel 7 (by decide +kernel) rfl⟩
abbrev mX5_expect : Mt := (yX5_expect, cX5_expect, 2, (some .boolean), 1)
set_option maxRecDepth 100000 in
theorem kX5_expect : Mk mX5_expect := ⟨tb_of 345 rfl rfl, tb_of 3 (by decide +kernel) rfl, by decide +kernel, by decide⟩
theorem kVX5_expect : MkV mX5_expect := ⟨kX5_expect, tb_of 344 (by decide +kernel) rfl, tb_sel 5 (by decide +kernel) rfl⟩
abbrev mX5_takeTable : Mt := (yX5_takeTable, cX5_takeTable, 3, (some .boolean), 2)
set_option maxRecDepth 100000 in
theorem kX5_takeTable : Mk mX5_takeTable := ⟨tb_of 341 rfl rfl, tb_of 3 (by decide +kernel) rfl, by decide +kernel, by decide⟩
theorem kVX5_takeTable : MkV mX5_takeTable := ⟨kX5_takeTable, tb_of 340 (by decide +kernel) rfl, tb_sel 4 (by decide +kernel) rfl⟩
abbrev mX5_takeSize : Mt := (yX5_takeSize, cX5_takeSize, 10, (some .boolean), 2)
set_option maxRecDepth 100000 in
theorem kX5_takeSize : Mk mX5_takeSize := ⟨tb_of 367 rfl rfl, tb_of 3 (by decide +kernel) rfl, by decide +kernel, by decide⟩
theorem kVX5_takeSize : MkV mX5_takeSize := ⟨kX5_takeSize, tb_of 366 (by decide +kernel) rfl, tb_sel 8 (by decide +kernel) rfl⟩
abbrev mX5_sizeToldAhead : Mt := (yX5_sizeToldAhead, cX5_sizeToldAhead, 3, (some .long), 1)
set_option maxRecDepth 100000 in
theorem kX5_sizeToldAhead : Mk mX5_sizeToldAhead := ⟨tb_of 371 rfl rfl, tb_of 3 (by decide +kernel) rfl, by decide +kernel, by decide⟩
theorem kVX5_sizeToldAhead : MkV mX5_sizeToldAhead := ⟨kX5_sizeToldAhead, tb_of 370 (by decide +kernel) rfl, tb_sel 9 (by decide +kernel) rfl⟩
abbrev mX5_takeManner : Mt := (yX5_takeManner, cX5_takeManner, 2, (some .boolean), 1)
set_option maxRecDepth 100000 in
theorem kX5_takeManner : Mk mX5_takeManner := ⟨tb_of 383 rfl rfl, tb_of 3 (by decide +kernel) rfl, by decide +kernel, by decide⟩
theorem kVX5_takeManner : MkV mX5_takeManner := ⟨kX5_takeManner, tb_of 382 (by decide +kernel) rfl, tb_sel 10 (by decide +kernel) rfl⟩
abbrev mX5_takeEnd : Mt := (yX5_takeEnd, cX5_takeEnd, 3, (some .boolean), 1)
set_option maxRecDepth 100000 in
theorem kX5_takeEnd : Mk mX5_takeEnd := ⟨tb_of 432 rfl rfl, tb_of 3 (by decide +kernel) rfl, by decide +kernel, by decide⟩
theorem kVX5_takeEnd : MkV mX5_takeEnd := ⟨kX5_takeEnd, tb_of 431 (by decide +kernel) rfl, tb_sel 18 (by decide +kernel) rfl⟩
abbrev mX5_addStep : Mt := (yX5_addStep, cX5_addStep, 5, none, 3)
set_option maxRecDepth 100000 in
theorem kX5_addStep : Mk mX5_addStep := ⟨tb_of 399 rfl rfl, tb_of 3 (by decide +kernel) rfl, by decide +kernel, by decide⟩
theorem kVX5_addStep : MkV mX5_addStep := ⟨kX5_addStep, tb_of 398 (by decide +kernel) rfl, tb_sel 14 (by decide +kernel) rfl⟩
abbrev mX5_takeSum : Mt := (yX5_takeSum, cX5_takeSum, 4, (some .boolean), 1)
set_option maxRecDepth 100000 in
theorem kX5_takeSum : Mk mX5_takeSum := ⟨tb_of 387 rfl rfl, tb_of 3 (by decide +kernel) rfl, by decide +kernel, by decide⟩
theorem kVX5_takeSum : MkV mX5_takeSum := ⟨kX5_takeSum, tb_of 386 (by decide +kernel) rfl, tb_sel 11 (by decide +kernel) rfl⟩
abbrev mX5_takeProduct : Mt := (yX5_takeProduct, cX5_takeProduct, 4, (some .boolean), 1)
set_option maxRecDepth 100000 in
theorem kX5_takeProduct : Mk mX5_takeProduct := ⟨tb_of 391 rfl rfl, tb_of 3 (by decide +kernel) rfl, by decide +kernel, by decide⟩
theorem kVX5_takeProduct : MkV mX5_takeProduct := ⟨kX5_takeProduct, tb_of 390 (by decide +kernel) rfl, tb_sel 12 (by decide +kernel) rfl⟩
abbrev mX5_isProductSign : Mt := (yX5_isProductSign, cX5_isProductSign, 1, (some .boolean), 1)
set_option maxRecDepth 100000 in
theorem kX5_isProductSign : Mk mX5_isProductSign := ⟨tb_of 428 rfl rfl, tb_of 3 (by decide +kernel) rfl, by decide +kernel, by decide⟩
theorem kSX5_isProductSign : MkS mX5_isProductSign := ⟨kX5_isProductSign, tb_of 427 (by decide +kernel) rfl⟩
abbrev mX5_takeUnit : Mt := (yX5_takeUnit, cX5_takeUnit, 2, (some .boolean), 1)
set_option maxRecDepth 100000 in
theorem kX5_takeUnit : Mk mX5_takeUnit := ⟨tb_of 395 rfl rfl, tb_of 3 (by decide +kernel) rfl, by decide +kernel, by decide⟩
theorem kVX5_takeUnit : MkV mX5_takeUnit := ⟨kX5_takeUnit, tb_of 394 (by decide +kernel) rfl, tb_sel 13 (by decide +kernel) rfl⟩
abbrev mX5_takeEntry : Mt := (yX5_takeEntry, cX5_takeEntry, 5, (some .boolean), 1)
set_option maxRecDepth 100000 in
theorem kX5_takeEntry : Mk mX5_takeEntry := ⟨tb_of 413 rfl rfl, tb_of 3 (by decide +kernel) rfl, by decide +kernel, by decide⟩
theorem kVX5_takeEntry : MkV mX5_takeEntry := ⟨kX5_takeEntry, tb_of 412 (by decide +kernel) rfl, tb_sel 15 (by decide +kernel) rfl⟩
abbrev mX5_takeGroup : Mt := (yX5_takeGroup, cX5_takeGroup, 2, (some .boolean), 1)
set_option maxRecDepth 100000 in
theorem kX5_takeGroup : Mk mX5_takeGroup := ⟨tb_of 417 rfl rfl, tb_of 3 (by decide +kernel) rfl, by decide +kernel, by decide⟩
theorem kVX5_takeGroup : MkV mX5_takeGroup := ⟨kX5_takeGroup, tb_of 416 (by decide +kernel) rfl, tb_sel 16 (by decide +kernel) rfl⟩
abbrev mX5_takeChoice : Mt := (yX5_takeChoice, cX5_takeChoice, 4, (some .boolean), 1)
set_option maxRecDepth 100000 in
theorem kX5_takeChoice : Mk mX5_takeChoice := ⟨tb_of 421 rfl rfl, tb_of 3 (by decide +kernel) rfl, by decide +kernel, by decide⟩
theorem kVX5_takeChoice : MkV mX5_takeChoice := ⟨kX5_takeChoice, tb_of 420 (by decide +kernel) rfl, tb_sel 17 (by decide +kernel) rfl⟩
abbrev mX5_resolveNames : Mt := (yX5_resolveNames, cX5_resolveNames, 4, none, 1)
set_option maxRecDepth 100000 in
theorem kX5_resolveNames : Mk mX5_resolveNames := ⟨tb_of 436 rfl rfl, tb_of 3 (by decide +kernel) rfl, by decide +kernel, by decide⟩
theorem kVX5_resolveNames : MkV mX5_resolveNames := ⟨kX5_resolveNames, tb_of 435 (by decide +kernel) rfl, tb_sel 19 (by decide +kernel) rfl⟩
abbrev mX5_resolveNamesIn : Mt := (yX5_resolveNamesIn, cX5_resolveNamesIn, 5, none, 2)
set_option maxRecDepth 100000 in
theorem kX5_resolveNamesIn : Mk mX5_resolveNamesIn := ⟨tb_of 440 rfl rfl, tb_of 3 (by decide +kernel) rfl, by decide +kernel, by decide⟩
theorem kVX5_resolveNamesIn : MkV mX5_resolveNamesIn := ⟨kX5_resolveNamesIn, tb_of 439 (by decide +kernel) rfl, tb_sel 20 (by decide +kernel) rfl⟩
abbrev mX6_init : Mt := (yX6_init, cX6_init, 2, none, 1)
set_option maxRecDepth 100000 in
theorem kX6_init : Mk mX6_init := ⟨tb_of 46 rfl rfl, tb_of 4 (by decide +kernel) rfl, by decide +kernel, by decide⟩
theorem kIX6_init : MkI mX6_init := ⟨kX6_init, tb_of 45 (by decide +kernel) rfl, rfl, rfl⟩
abbrev mX6_start : Mt := (yX6_start, cX6_start, 1, none, 0)
set_option maxRecDepth 100000 in
theorem kX6_start : Mk mX6_start := ⟨tb_of 295 rfl rfl, tb_of 4 (by decide +kernel) rfl, by decide +kernel, by decide⟩
theorem kVX6_start : MkV mX6_start := ⟨kX6_start, tb_of 293 (by decide +kernel) rfl, tb_of 294 (by decide +kernel) rfl⟩
abbrev mX6_advance : Mt := (yX6_advance, cX6_advance, 2, none, 0)
set_option maxRecDepth 100000 in
theorem kX6_advance : Mk mX6_advance := ⟨tb_of 299 rfl rfl, tb_of 4 (by decide +kernel) rfl, by decide +kernel, by decide⟩
theorem kVX6_advance : MkV mX6_advance := ⟨kX6_advance, tb_of 297 (by decide +kernel) rfl, tb_of 298 (by decide +kernel) rfl⟩
abbrev mX6_skipBlanks : Mt := (yX6_skipBlanks, cX6_skipBlanks, 1, none, 0)
set_option maxRecDepth 100000 in
theorem kX6_skipBlanks : Mk mX6_skipBlanks := ⟨tb_of 303 rfl rfl, tb_of 4 (by decide +kernel) rfl, by decide +kernel, by decide⟩
theorem kVX6_skipBlanks : MkV mX6_skipBlanks := ⟨kX6_skipBlanks, tb_of 302 (by decide +kernel) rfl, tb_sel 1 (by decide +kernel) rfl⟩
abbrev mX6_takeDigits : Mt := (yX6_takeDigits, cX6_takeDigits, 2, (some .int), 0)
set_option maxRecDepth 100000 in
theorem kX6_takeDigits : Mk mX6_takeDigits := ⟨tb_of 314 rfl rfl, tb_of 4 (by decide +kernel) rfl, by decide +kernel, by decide⟩
theorem kVX6_takeDigits : MkV mX6_takeDigits := ⟨kX6_takeDigits, tb_of 313 (by decide +kernel) rfl, tb_sel 2 (by decide +kernel) rfl⟩
abbrev mX6_takeLetters : Mt := (yX6_takeLetters, cX6_takeLetters, 2, (some .int), 0)
set_option maxRecDepth 100000 in
theorem kX6_takeLetters : Mk mX6_takeLetters := ⟨tb_of 322 rfl rfl, tb_of 4 (by decide +kernel) rfl, by decide +kernel, by decide⟩
theorem kVX6_takeLetters : MkV mX6_takeLetters := ⟨kX6_takeLetters, tb_of 321 (by decide +kernel) rfl, tb_sel 3 (by decide +kernel) rfl⟩
abbrev mX6_isDigit : Mt := (yX6_isDigit, cX6_isDigit, 1, (some .boolean), 1)
set_option maxRecDepth 100000 in
theorem kX6_isDigit : Mk mX6_isDigit := ⟨tb_of 310 rfl rfl, tb_of 4 (by decide +kernel) rfl, by decide +kernel, by decide⟩
theorem kSX6_isDigit : MkS mX6_isDigit := ⟨kX6_isDigit, tb_of 309 (by decide +kernel) rfl⟩
abbrev mX6_isLetter : Mt := (yX6_isLetter, cX6_isLetter, 1, (some .boolean), 1)
set_option maxRecDepth 100000 in
theorem kX6_isLetter : Mk mX6_isLetter := ⟨tb_of 318 rfl rfl, tb_of 4 (by decide +kernel) rfl, by decide +kernel, by decide⟩
theorem kSX6_isLetter : MkS mX6_isLetter := ⟨kX6_isLetter, tb_of 317 (by decide +kernel) rfl⟩
abbrev mX6_isSign : Mt := (yX6_isSign, cX6_isSign, 1, (some .boolean), 1)
set_option maxRecDepth 100000 in
theorem kX6_isSign : Mk mX6_isSign := ⟨tb_of 333 rfl rfl, tb_of 4 (by decide +kernel) rfl, by decide +kernel, by decide⟩
theorem kSX6_isSign : MkS mX6_isSign := ⟨kX6_isSign, tb_of 332 (by decide +kernel) rfl⟩
abbrev mX6_kindOfWord : Mt := (yX6_kindOfWord, cX6_kindOfWord, 2, (some .int), 1)
set_option maxRecDepth 100000 in
theorem kX6_kindOfWord : Mk mX6_kindOfWord := ⟨tb_of 325 rfl rfl, tb_of 4 (by decide +kernel) rfl, by decide +kernel, by decide⟩
theorem kSX6_kindOfWord : MkS mX6_kindOfWord := ⟨kX6_kindOfWord, tb_of 324 (by decide +kernel) rfl⟩
abbrev mX7_init : Mt := (yX7_init, cX7_init, 1, none, 0)
set_option maxRecDepth 100000 in
theorem kX7_init : Mk mX7_init := ⟨tb_of 202 rfl rfl, tb_of 10 (by decide +kernel) rfl, by decide +kernel, by decide⟩
theorem kIX7_init : MkI mX7_init := ⟨kX7_init, tb_of 201 (by decide +kernel) rfl, rfl, rfl⟩
abbrev mX7_clear : Mt := (yX7_clear, cX7_clear, 1, none, 0)
set_option maxRecDepth 100000 in
theorem kX7_clear : Mk mX7_clear := ⟨tb_of 634 rfl rfl, tb_of 10 (by decide +kernel) rfl, by decide +kernel, by decide⟩
theorem kVX7_clear : MkV mX7_clear := ⟨kX7_clear, tb_of 632 (by decide +kernel) rfl, tb_of 633 (by decide +kernel) rfl⟩
abbrev mX7_add : Mt := (yX7_add, cX7_add, 7, none, 1)
set_option maxRecDepth 100000 in
theorem kX7_add : Mk mX7_add := ⟨tb_of 638 rfl rfl, tb_of 10 (by decide +kernel) rfl, by decide +kernel, by decide⟩
theorem kVX7_add : MkV mX7_add := ⟨kX7_add, tb_of 636 (by decide +kernel) rfl, tb_of 637 (by decide +kernel) rfl⟩
abbrev mX7_is : Mt := (yX7_is, cX7_is, 3, (some .boolean), 1)
set_option maxRecDepth 100000 in
theorem kX7_is : Mk mX7_is := ⟨tb_of 643 rfl rfl, tb_of 10 (by decide +kernel) rfl, by decide +kernel, by decide⟩
theorem kVX7_is : MkV mX7_is := ⟨kX7_is, tb_of 641 (by decide +kernel) rfl, tb_of 642 (by decide +kernel) rfl⟩
abbrev mX7_part : Mt := (yX7_part, cX7_part, 4, (some .long), 1)
set_option maxRecDepth 100000 in
theorem kX7_part : Mk mX7_part := ⟨tb_of 671 rfl rfl, tb_of 10 (by decide +kernel) rfl, by decide +kernel, by decide⟩
theorem kVX7_part : MkV mX7_part := ⟨kX7_part, tb_of 669 (by decide +kernel) rfl, tb_of 670 (by decide +kernel) rfl⟩
abbrev mX8_init : Mt := (yX8_init, cX8_init, 2, none, 1)
set_option maxRecDepth 100000 in
theorem kX8_init : Mk mX8_init := ⟨tb_of 182 rfl rfl, tb_of 8 (by decide +kernel) rfl, by decide +kernel, by decide⟩
theorem kIX8_init : MkI mX8_init := ⟨kX8_init, tb_of 181 (by decide +kernel) rfl, rfl, rfl⟩
abbrev mX8_open : Mt := (yX8_open, cX8_open, 2, none, 1)
set_option maxRecDepth 100000 in
theorem kX8_open : Mk mX8_open := ⟨tb_of 474 rfl rfl, tb_of 8 (by decide +kernel) rfl, by decide +kernel, by decide⟩
theorem kVX8_open : MkV mX8_open := ⟨kX8_open, tb_of 472 (by decide +kernel) rfl, tb_of 473 (by decide +kernel) rfl⟩
abbrev mX8_startCall : Mt := (yX8_startCall, cX8_startCall, 1, none, 0)
set_option maxRecDepth 100000 in
theorem kX8_startCall : Mk mX8_startCall := ⟨tb_of 482 rfl rfl, tb_of 8 (by decide +kernel) rfl, by decide +kernel, by decide⟩
theorem kVX8_startCall : MkV mX8_startCall := ⟨kX8_startCall, tb_of 480 (by decide +kernel) rfl, tb_of 481 (by decide +kernel) rfl⟩
abbrev mX8_reasonAt : Mt := (yX8_reasonAt, cX8_reasonAt, 2, (some .int), 1)
set_option maxRecDepth 100000 in
theorem kX8_reasonAt : Mk mX8_reasonAt := ⟨tb_of 656 rfl rfl, tb_of 8 (by decide +kernel) rfl, by decide +kernel, by decide⟩
theorem kVX8_reasonAt : MkV mX8_reasonAt := ⟨kX8_reasonAt, tb_of 654 (by decide +kernel) rfl, tb_of 655 (by decide +kernel) rfl⟩
abbrev mX8_askFor : Mt := (yX8_askFor, cX8_askFor, 4, (some .boolean), 2)
set_option maxRecDepth 100000 in
theorem kX8_askFor : Mk mX8_askFor := ⟨tb_of 533 rfl rfl, tb_of 8 (by decide +kernel) rfl, by decide +kernel, by decide⟩
theorem kVX8_askFor : MkV mX8_askFor := ⟨kX8_askFor, tb_of 531 (by decide +kernel) rfl, tb_of 532 (by decide +kernel) rfl⟩
abbrev mX8_addUp : Mt := (yX8_addUp, cX8_addUp, 6, (some .boolean), 3)
set_option maxRecDepth 100000 in
theorem kX8_addUp : Mk mX8_addUp := ⟨tb_of 667 rfl rfl, tb_of 8 (by decide +kernel) rfl, by decide +kernel, by decide⟩
theorem kVX8_addUp : MkV mX8_addUp := ⟨kX8_addUp, tb_of 665 (by decide +kernel) rfl, tb_of 666 (by decide +kernel) rfl⟩
abbrev mX8_search : Mt := (yX8_search, cX8_search, 6, (some .int), 2)
set_option maxRecDepth 100000 in
theorem kX8_search : Mk mX8_search := ⟨tb_of 680 rfl rfl, tb_of 8 (by decide +kernel) rfl, by decide +kernel, by decide⟩
theorem kVX8_search : MkV mX8_search := ⟨kX8_search, tb_of 678 (by decide +kernel) rfl, tb_of 679 (by decide +kernel) rfl⟩
abbrev mX8_ask : Mt := (yX8_ask, cX8_ask, 9, (some .boolean), 3)
set_option maxRecDepth 100000 in
theorem kX8_ask : Mk mX8_ask := ⟨tb_of 537 rfl rfl, tb_of 8 (by decide +kernel) rfl, by decide +kernel, by decide⟩
theorem kVX8_ask : MkV mX8_ask := ⟨kX8_ask, tb_of 536 (by decide +kernel) rfl, tb_sel 21 (by decide +kernel) rfl⟩
abbrev mX8_awaken : Mt := (yX8_awaken, cX8_awaken, 4, (some .boolean), 3)
set_option maxRecDepth 100000 in
theorem kX8_awaken : Mk mX8_awaken := ⟨tb_of 542 rfl rfl, tb_of 8 (by decide +kernel) rfl, by decide +kernel, by decide⟩
theorem kVX8_awaken : MkV mX8_awaken := ⟨kX8_awaken, tb_of 541 (by decide +kernel) rfl, tb_sel 22 (by decide +kernel) rfl⟩
abbrev mX8_awakenRow : Mt := (yX8_awakenRow, cX8_awakenRow, 6, (some .boolean), 4)
set_option maxRecDepth 100000 in
theorem kX8_awakenRow : Mk mX8_awakenRow := ⟨tb_of 647 rfl rfl, tb_of 8 (by decide +kernel) rfl, by decide +kernel, by decide⟩
theorem kVX8_awakenRow : MkV mX8_awakenRow := ⟨kX8_awakenRow, tb_of 646 (by decide +kernel) rfl, tb_sel 36 (by decide +kernel) rfl⟩
abbrev mX8_wake : Mt := (yX8_wake, cX8_wake, 5, (some .boolean), 3)
set_option maxRecDepth 100000 in
theorem kX8_wake : Mk mX8_wake := ⟨tb_of 555 rfl rfl, tb_of 8 (by decide +kernel) rfl, by decide +kernel, by decide⟩
theorem kVX8_wake : MkV mX8_wake := ⟨kX8_wake, tb_of 554 (by decide +kernel) rfl, tb_sel 25 (by decide +kernel) rfl⟩
abbrev mX8_layOut : Mt := (yX8_layOut, cX8_layOut, 2, (some .boolean), 1)
set_option maxRecDepth 100000 in
theorem kX8_layOut : Mk mX8_layOut := ⟨tb_of 565 rfl rfl, tb_of 8 (by decide +kernel) rfl, by decide +kernel, by decide⟩
theorem kVX8_layOut : MkV mX8_layOut := ⟨kX8_layOut, tb_of 564 (by decide +kernel) rfl, tb_sel 26 (by decide +kernel) rfl⟩
abbrev mX8_fill : Mt := (yX8_fill, cX8_fill, 4, (some .boolean), 2)
set_option maxRecDepth 100000 in
theorem kX8_fill : Mk mX8_fill := ⟨tb_of 574 rfl rfl, tb_of 8 (by decide +kernel) rfl, by decide +kernel, by decide⟩
theorem kVX8_fill : MkV mX8_fill := ⟨kX8_fill, tb_of 573 (by decide +kernel) rfl, tb_sel 27 (by decide +kernel) rfl⟩
abbrev mX8_keepsPromise : Mt := (yX8_keepsPromise, cX8_keepsPromise, 3, (some .boolean), 1)
set_option maxRecDepth 100000 in
theorem kX8_keepsPromise : Mk mX8_keepsPromise := ⟨tb_of 630 rfl rfl, tb_of 8 (by decide +kernel) rfl, by decide +kernel, by decide⟩
theorem kVX8_keepsPromise : MkV mX8_keepsPromise := ⟨kX8_keepsPromise, tb_of 629 (by decide +kernel) rfl, tb_sel 35 (by decide +kernel) rfl⟩
abbrev mX8_makeRow : Mt := (yX8_makeRow, cX8_makeRow, 6, (some .boolean), 4)
set_option maxRecDepth 100000 in
theorem kX8_makeRow : Mk mX8_makeRow := ⟨tb_of 615 rfl rfl, tb_of 8 (by decide +kernel) rfl, by decide +kernel, by decide⟩
theorem kVX8_makeRow : MkV mX8_makeRow := ⟨kX8_makeRow, tb_of 614 (by decide +kernel) rfl, tb_sel 33 (by decide +kernel) rfl⟩
abbrev mX8_makeEntries : Mt := (yX8_makeEntries, cX8_makeEntries, 6, (some .boolean), 4)
set_option maxRecDepth 100000 in
theorem kX8_makeEntries : Mk mX8_makeEntries := ⟨tb_of 579 rfl rfl, tb_of 8 (by decide +kernel) rfl, by decide +kernel, by decide⟩
theorem kVX8_makeEntries : MkV mX8_makeEntries := ⟨kX8_makeEntries, tb_of 578 (by decide +kernel) rfl, tb_sel 28 (by decide +kernel) rfl⟩
abbrev mX8_workOut : Mt := (yX8_workOut, cX8_workOut, 6, (some .boolean), 3)
set_option maxRecDepth 100000 in
theorem kX8_workOut : Mk mX8_workOut := ⟨tb_of 583 rfl rfl, tb_of 8 (by decide +kernel) rfl, by decide +kernel, by decide⟩
theorem kVX8_workOut : MkV mX8_workOut := ⟨kX8_workOut, tb_of 582 (by decide +kernel) rfl, tb_sel 29 (by decide +kernel) rfl⟩
abbrev mX8_workOutPair : Mt := (yX8_workOutPair, cX8_workOutPair, 6, (some .boolean), 1)
set_option maxRecDepth 100000 in
theorem kX8_workOutPair : Mk mX8_workOutPair := ⟨tb_of 610 rfl rfl, tb_of 8 (by decide +kernel) rfl, by decide +kernel, by decide⟩
theorem kVX8_workOutPair : MkV mX8_workOutPair := ⟨kX8_workOutPair, tb_of 609 (by decide +kernel) rfl, tb_sel 32 (by decide +kernel) rfl⟩
abbrev mX8_push : Mt := (yX8_push, cX8_push, 3, none, 1)
set_option maxRecDepth 100000 in
theorem kX8_push : Mk mX8_push := ⟨tb_of 592 rfl rfl, tb_of 8 (by decide +kernel) rfl, by decide +kernel, by decide⟩
theorem kVX8_push : MkV mX8_push := ⟨kX8_push, tb_of 591 (by decide +kernel) rfl, tb_sel 30 (by decide +kernel) rfl⟩
abbrev mX8_pop : Mt := (yX8_pop, cX8_pop, 1, (some .long), 0)
set_option maxRecDepth 100000 in
theorem kX8_pop : Mk mX8_pop := ⟨tb_of 598 rfl rfl, tb_of 8 (by decide +kernel) rfl, by decide +kernel, by decide⟩
theorem kVX8_pop : MkV mX8_pop := ⟨kX8_pop, tb_of 597 (by decide +kernel) rfl, tb_sel 31 (by decide +kernel) rfl⟩
abbrev mX8_fail : Mt := (yX8_fail, cX8_fail, 2, (some .boolean), 1)
set_option maxRecDepth 100000 in
theorem kX8_fail : Mk mX8_fail := ⟨tb_of 546 rfl rfl, tb_of 8 (by decide +kernel) rfl, by decide +kernel, by decide⟩
theorem kVX8_fail : MkV mX8_fail := ⟨kX8_fail, tb_of 545 (by decide +kernel) rfl, tb_sel 23 (by decide +kernel) rfl⟩
abbrev mX8_failWithReason : Mt := (yX8_failWithReason, cX8_failWithReason, 1, (some .boolean), 0)
set_option maxRecDepth 100000 in
theorem kX8_failWithReason : Mk mX8_failWithReason := ⟨tb_of 626 rfl rfl, tb_of 8 (by decide +kernel) rfl, by decide +kernel, by decide⟩
theorem kVX8_failWithReason : MkV mX8_failWithReason := ⟨kX8_failWithReason, tb_of 625 (by decide +kernel) rfl, tb_sel 34 (by decide +kernel) rfl⟩
abbrev mX8_addReason : Mt := (yX8_addReason, cX8_addReason, 2, none, 1)
set_option maxRecDepth 100000 in
theorem kX8_addReason : Mk mX8_addReason := ⟨tb_of 550 rfl rfl, tb_of 8 (by decide +kernel) rfl, by decide +kernel, by decide⟩
theorem kVX8_addReason : MkV mX8_addReason := ⟨kX8_addReason, tb_of 549 (by decide +kernel) rfl, tb_sel 24 (by decide +kernel) rfl⟩
abbrev mX9_init : Mt := (yX9_init, cX9_init, 1, none, 0)
set_option maxRecDepth 100000 in
theorem kX9_init : Mk mX9_init := ⟨tb_of 17 rfl rfl, tb_of 1 (by decide +kernel) rfl, by decide +kernel, by decide⟩
theorem kIX9_init : MkI mX9_init := ⟨kX9_init, tb_of 16 (by decide +kernel) rfl, rfl, rfl⟩
abbrev mX9_feed : Mt := (yX9_feed, cX9_feed, 3, (some .int), 1)
set_option maxRecDepth 100000 in
theorem kX9_feed : Mk mX9_feed := ⟨tb_of 271 rfl rfl, tb_of 1 (by decide +kernel) rfl, by decide +kernel, by decide⟩
theorem kVX9_feed : MkV mX9_feed := ⟨kX9_feed, tb_of 269 (by decide +kernel) rfl, tb_of 270 (by decide +kernel) rfl⟩
abbrev mX9_read : Mt := (yX9_read, cX9_read, 3, (some .int), 0)
set_option maxRecDepth 100000 in
theorem kX9_read : Mk mX9_read := ⟨tb_of 287 rfl rfl, tb_of 1 (by decide +kernel) rfl, by decide +kernel, by decide⟩
theorem kVX9_read : MkV mX9_read := ⟨kX9_read, tb_of 285 (by decide +kernel) rfl, tb_of 286 (by decide +kernel) rfl⟩
abbrev mX9_cut : Mt := (yX9_cut, cX9_cut, 2, (some .int), 0)
set_option maxRecDepth 100000 in
theorem kX9_cut : Mk mX9_cut := ⟨tb_of 490 rfl rfl, tb_of 1 (by decide +kernel) rfl, by decide +kernel, by decide⟩
theorem kVX9_cut : MkV mX9_cut := ⟨kX9_cut, tb_of 488 (by decide +kernel) rfl, tb_of 489 (by decide +kernel) rfl⟩
abbrev mX9_named : Mt := (yX9_named, cX9_named, 3, (some .int), 1)
set_option maxRecDepth 100000 in
theorem kX9_named : Mk mX9_named := ⟨tb_of 494 rfl rfl, tb_of 1 (by decide +kernel) rfl, by decide +kernel, by decide⟩
theorem kVX9_named : MkV mX9_named := ⟨kX9_named, tb_of 492 (by decide +kernel) rfl, tb_of 493 (by decide +kernel) rfl⟩
abbrev mX9_size : Mt := (yX9_size, cX9_size, 3, (some .int), 1)
set_option maxRecDepth 100000 in
theorem kX9_size : Mk mX9_size := ⟨tb_of 499 rfl rfl, tb_of 1 (by decide +kernel) rfl, by decide +kernel, by decide⟩
theorem kVX9_size : MkV mX9_size := ⟨kX9_size, tb_of 497 (by decide +kernel) rfl, tb_of 498 (by decide +kernel) rfl⟩
abbrev mX9_state : Mt := (yX9_state, cX9_state, 3, (some .int), 1)
set_option maxRecDepth 100000 in
theorem kX9_state : Mk mX9_state := ⟨tb_of 504 rfl rfl, tb_of 1 (by decide +kernel) rfl, by decide +kernel, by decide⟩
theorem kVX9_state : MkV mX9_state := ⟨kX9_state, tb_of 502 (by decide +kernel) rfl, tb_of 503 (by decide +kernel) rfl⟩
abbrev mX9_row : Mt := (yX9_row, cX9_row, 4, (some .int), 2)
set_option maxRecDepth 100000 in
theorem kX9_row : Mk mX9_row := ⟨tb_of 508 rfl rfl, tb_of 1 (by decide +kernel) rfl, by decide +kernel, by decide⟩
theorem kVX9_row : MkV mX9_row := ⟨kX9_row, tb_of 506 (by decide +kernel) rfl, tb_of 507 (by decide +kernel) rfl⟩
abbrev mX9_entry : Mt := (yX9_entry, cX9_entry, 3, (some .long), 2)
set_option maxRecDepth 100000 in
theorem kX9_entry : Mk mX9_entry := ⟨tb_of 528 rfl rfl, tb_of 1 (by decide +kernel) rfl, by decide +kernel, by decide⟩
theorem kVX9_entry : MkV mX9_entry := ⟨kX9_entry, tb_of 526 (by decide +kernel) rfl, tb_of 527 (by decide +kernel) rfl⟩
abbrev mX9_reason : Mt := (yX9_reason, cX9_reason, 2, (some .int), 1)
set_option maxRecDepth 100000 in
theorem kX9_reason : Mk mX9_reason := ⟨tb_of 652 rfl rfl, tb_of 1 (by decide +kernel) rfl, by decide +kernel, by decide⟩
theorem kVX9_reason : MkV mX9_reason := ⟨kX9_reason, tb_of 650 (by decide +kernel) rfl, tb_of 651 (by decide +kernel) rfl⟩
abbrev mX9_sum : Mt := (yX9_sum, cX9_sum, 7, (some .long), 4)
set_option maxRecDepth 100000 in
theorem kX9_sum : Mk mX9_sum := ⟨tb_of 660 rfl rfl, tb_of 1 (by decide +kernel) rfl, by decide +kernel, by decide⟩
theorem kVX9_sum : MkV mX9_sum := ⟨kX9_sum, tb_of 658 (by decide +kernel) rfl, tb_of 659 (by decide +kernel) rfl⟩
abbrev mX9_find : Mt := (yX9_find, cX9_find, 4, (some .int), 2)
set_option maxRecDepth 100000 in
theorem kX9_find : Mk mX9_find := ⟨tb_of 676 rfl rfl, tb_of 1 (by decide +kernel) rfl, by decide +kernel, by decide⟩
theorem kVX9_find : MkV mX9_find := ⟨kX9_find, tb_of 674 (by decide +kernel) rfl, tb_of 675 (by decide +kernel) rfl⟩
abbrev mX9_drop : Mt := (yX9_drop, cX9_drop, 3, (some .int), 1)
set_option maxRecDepth 100000 in
theorem kX9_drop : Mk mX9_drop := ⟨tb_of 684 rfl rfl, tb_of 1 (by decide +kernel) rfl, by decide +kernel, by decide⟩
theorem kVX9_drop : MkV mX9_drop := ⟨kX9_drop, tb_of 682 (by decide +kernel) rfl, tb_of 683 (by decide +kernel) rfl⟩
abbrev mX9_builds : Mt := (yX9_builds, cX9_builds, 1, (some .int), 0)
set_option maxRecDepth 100000 in
theorem kX9_builds : Mk mX9_builds := ⟨tb_of 689 rfl rfl, tb_of 1 (by decide +kernel) rfl, by decide +kernel, by decide⟩
theorem kVX9_builds : MkV mX9_builds := ⟨kX9_builds, tb_of 687 (by decide +kernel) rfl, tb_of 688 (by decide +kernel) rfl⟩
abbrev mX9_build : Mt := (yX9_build, cX9_build, 4, (some .int), 2)
set_option maxRecDepth 100000 in
theorem kX9_build : Mk mX9_build := ⟨tb_of 693 rfl rfl, tb_of 1 (by decide +kernel) rfl, by decide +kernel, by decide⟩
theorem kVX9_build : MkV mX9_build := ⟨kX9_build, tb_of 691 (by decide +kernel) rfl, tb_of 692 (by decide +kernel) rfl⟩
abbrev mX9_halves : Mt := (yX9_halves, cX9_halves, 1, (some .int), 0)
set_option maxRecDepth 100000 in
theorem kX9_halves : Mk mX9_halves := ⟨tb_of 706 rfl rfl, tb_of 1 (by decide +kernel) rfl, by decide +kernel, by decide⟩
theorem kVX9_halves : MkV mX9_halves := ⟨kX9_halves, tb_of 704 (by decide +kernel) rfl, tb_of 705 (by decide +kernel) rfl⟩
abbrev mX9_half : Mt := (yX9_half, cX9_half, 4, (some .long), 2)
set_option maxRecDepth 100000 in
theorem kX9_half : Mk mX9_half := ⟨tb_of 710 rfl rfl, tb_of 1 (by decide +kernel) rfl, by decide +kernel, by decide⟩
theorem kVX9_half : MkV mX9_half := ⟨kX9_half, tb_of 708 (by decide +kernel) rfl, tb_of 709 (by decide +kernel) rfl⟩
abbrev mX9_reads : Mt := (yX9_reads, cX9_reads, 4, (some .int), 2)
set_option maxRecDepth 100000 in
theorem kX9_reads : Mk mX9_reads := ⟨tb_of 714 rfl rfl, tb_of 1 (by decide +kernel) rfl, by decide +kernel, by decide⟩
theorem kVX9_reads : MkV mX9_reads := ⟨kX9_reads, tb_of 712 (by decide +kernel) rfl, tb_of 713 (by decide +kernel) rfl⟩
abbrev mX9_count : Mt := (yX9_count, cX9_count, 2, (some .int), 1)
set_option maxRecDepth 100000 in
theorem kX9_count : Mk mX9_count := ⟨tb_of 722 rfl rfl, tb_of 1 (by decide +kernel) rfl, by decide +kernel, by decide⟩
theorem kVX9_count : MkV mX9_count := ⟨kX9_count, tb_of 720 (by decide +kernel) rfl, tb_of 721 (by decide +kernel) rfl⟩
abbrev mX9_at : Mt := (yX9_at, cX9_at, 2, (some .int), 2)
set_option maxRecDepth 100000 in
theorem kX9_at : Mk mX9_at := ⟨tb_of 447 rfl rfl, tb_of 1 (by decide +kernel) rfl, by decide +kernel, by decide⟩
theorem kSX9_at : MkS mX9_at := ⟨kX9_at, tb_of 446 (by decide +kernel) rfl⟩
abbrev mX9_at_ : Mt := (yX9_at_, cX9_at_, 2, (some .long), 2)
set_option maxRecDepth 100000 in
theorem kX9_at_ : Mk mX9_at_ := ⟨tb_of 454 rfl rfl, tb_of 1 (by decide +kernel) rfl, by decide +kernel, by decide⟩
theorem kSX9_at_ : MkS mX9_at_ := ⟨kX9_at_, tb_of 453 (by decide +kernel) rfl⟩
abbrev mX9_put : Mt := (yX9_put, cX9_put, 3, none, 3)
set_option maxRecDepth 100000 in
theorem kX9_put : Mk mX9_put := ⟨tb_of 406 rfl rfl, tb_of 1 (by decide +kernel) rfl, by decide +kernel, by decide⟩
theorem kSX9_put : MkS mX9_put := ⟨kX9_put, tb_of 405 (by decide +kernel) rfl⟩
abbrev mX9_put_ : Mt := (yX9_put_, cX9_put_, 4, none, 3)
set_option maxRecDepth 100000 in
theorem kX9_put_ : Mk mX9_put_ := ⟨tb_of 409 rfl rfl, tb_of 1 (by decide +kernel) rfl, by decide +kernel, by decide⟩
theorem kSX9_put_ : MkS mX9_put_ := ⟨kX9_put_, tb_of 408 (by decide +kernel) rfl⟩
abbrev mX10_init : Mt := (yX10_init, cX10_init, 1, none, 0)
set_option maxRecDepth 100000 in
theorem kX10_init : Mk mX10_init := ⟨tb_of 742 rfl rfl, tb_of 11 (by decide +kernel) rfl, by decide +kernel, by decide⟩
theorem kIX10_init : MkI mX10_init := ⟨kX10_init, tb_of 741 (by decide +kernel) rfl, rfl, rfl⟩
abbrev mX10_in : Mt := (yX10_in, cX10_in, 6, (some .boolean), 3)
set_option maxRecDepth 100000 in
theorem kX10_in : Mk mX10_in := ⟨tb_of 1078 rfl rfl, tb_of 11 (by decide +kernel) rfl, by decide +kernel, by decide⟩
theorem kSX10_in : MkS mX10_in := ⟨kX10_in, tb_of 1077 (by decide +kernel) rfl⟩
abbrev mX10_feed : Mt := (yX10_feed, cX10_feed, 5, (some .int), 1)
set_option maxRecDepth 100000 in
theorem kX10_feed : Mk mX10_feed := ⟨tb_of 947 rfl rfl, tb_of 11 (by decide +kernel) rfl, by decide +kernel, by decide⟩
theorem kVX10_feed : MkV mX10_feed := ⟨kX10_feed, tb_of 945 (by decide +kernel) rfl, tb_of 946 (by decide +kernel) rfl⟩
abbrev mX10_cut : Mt := (yX10_cut, cX10_cut, 2, (some .int), 0)
set_option maxRecDepth 100000 in
theorem kX10_cut : Mk mX10_cut := ⟨tb_of 952 rfl rfl, tb_of 11 (by decide +kernel) rfl, by decide +kernel, by decide⟩
theorem kVX10_cut : MkV mX10_cut := ⟨kX10_cut, tb_of 950 (by decide +kernel) rfl, tb_of 951 (by decide +kernel) rfl⟩
abbrev mX10_at : Mt := (yX10_at, cX10_at, 2, (some .int), 1)
set_option maxRecDepth 100000 in
theorem kX10_at : Mk mX10_at := ⟨tb_of 964 rfl rfl, tb_of 11 (by decide +kernel) rfl, by decide +kernel, by decide⟩
theorem kVX10_at : MkV mX10_at := ⟨kX10_at, tb_of 963 (by decide +kernel) rfl, tb_sel 38 (by decide +kernel) rfl⟩
abbrev mX10_isLetter : Mt := (yX10_isLetter, cX10_isLetter, 1, (some .boolean), 1)
set_option maxRecDepth 100000 in
theorem kX10_isLetter : Mk mX10_isLetter := ⟨tb_of 967 rfl rfl, tb_of 11 (by decide +kernel) rfl, by decide +kernel, by decide⟩
theorem kSX10_isLetter : MkS mX10_isLetter := ⟨kX10_isLetter, tb_of 966 (by decide +kernel) rfl⟩
abbrev mX10_isDigit : Mt := (yX10_isDigit, cX10_isDigit, 1, (some .boolean), 1)
set_option maxRecDepth 100000 in
theorem kX10_isDigit : Mk mX10_isDigit := ⟨tb_of 982 rfl rfl, tb_of 11 (by decide +kernel) rfl, by decide +kernel, by decide⟩
theorem kSX10_isDigit : MkS mX10_isDigit := ⟨kX10_isDigit, tb_of 981 (by decide +kernel) rfl⟩
abbrev mX10_isSign : Mt := (yX10_isSign, cX10_isSign, 1, (some .boolean), 1)
set_option maxRecDepth 100000 in
theorem kX10_isSign : Mk mX10_isSign := ⟨tb_of 987 rfl rfl, tb_of 11 (by decide +kernel) rfl, by decide +kernel, by decide⟩
theorem kSX10_isSign : MkS mX10_isSign := ⟨kX10_isSign, tb_of 986 (by decide +kernel) rfl⟩
abbrev mX10_wordSort : Mt := (yX10_wordSort, cX10_wordSort, 2, (some .int), 1)
set_option maxRecDepth 100000 in
theorem kX10_wordSort : Mk mX10_wordSort := ⟨tb_of 970 rfl rfl, tb_of 11 (by decide +kernel) rfl, by decide +kernel, by decide⟩
theorem kSX10_wordSort : MkS mX10_wordSort := ⟨kX10_wordSort, tb_of 969 (by decide +kernel) rfl⟩
abbrev mX10_addToken : Mt := (yX10_addToken, cX10_addToken, 5, none, 3)
set_option maxRecDepth 100000 in
theorem kX10_addToken : Mk mX10_addToken := ⟨tb_of 979 rfl rfl, tb_of 11 (by decide +kernel) rfl, by decide +kernel, by decide⟩
theorem kVX10_addToken : MkV mX10_addToken := ⟨kX10_addToken, tb_of 978 (by decide +kernel) rfl, tb_sel 39 (by decide +kernel) rfl⟩
abbrev mX10_cutUp : Mt := (yX10_cutUp, cX10_cutUp, 6, none, 0)
set_option maxRecDepth 100000 in
theorem kX10_cutUp : Mk mX10_cutUp := ⟨tb_of 960 rfl rfl, tb_of 11 (by decide +kernel) rfl, by decide +kernel, by decide⟩
theorem kVX10_cutUp : MkV mX10_cutUp := ⟨kX10_cutUp, tb_of 959 (by decide +kernel) rfl, tb_sel 37 (by decide +kernel) rfl⟩
abbrev mX10_must : Mt := (yX10_must, cX10_must, 2, (some .boolean), 1)
set_option maxRecDepth 100000 in
theorem kX10_must : Mk mX10_must := ⟨tb_of 995 rfl rfl, tb_of 11 (by decide +kernel) rfl, by decide +kernel, by decide⟩
theorem kVX10_must : MkV mX10_must := ⟨kX10_must, tb_of 994 (by decide +kernel) rfl, tb_sel 41 (by decide +kernel) rfl⟩
abbrev mX10_take : Mt := (yX10_take, cX10_take, 2, (some .boolean), 1)
set_option maxRecDepth 100000 in
theorem kX10_take : Mk mX10_take := ⟨tb_of 999 rfl rfl, tb_of 11 (by decide +kernel) rfl, by decide +kernel, by decide⟩
theorem kVX10_take : MkV mX10_take := ⟨kX10_take, tb_of 998 (by decide +kernel) rfl, tb_sel 42 (by decide +kernel) rfl⟩
abbrev mX10_emit : Mt := (yX10_emit, cX10_emit, 4, none, 2)
set_option maxRecDepth 100000 in
theorem kX10_emit : Mk mX10_emit := ⟨tb_of 1020 rfl rfl, tb_of 11 (by decide +kernel) rfl, by decide +kernel, by decide⟩
theorem kVX10_emit : MkV mX10_emit := ⟨kX10_emit, tb_of 1019 (by decide +kernel) rfl, tb_sel 47 (by decide +kernel) rfl⟩
abbrev mX10_use : Mt := (yX10_use, cX10_use, 2, none, 1)
set_option maxRecDepth 100000 in
theorem kX10_use : Mk mX10_use := ⟨tb_of 1007 rfl rfl, tb_of 11 (by decide +kernel) rfl, by decide +kernel, by decide⟩
theorem kVX10_use : MkV mX10_use := ⟨kX10_use, tb_of 1006 (by decide +kernel) rfl, tb_sel 44 (by decide +kernel) rfl⟩
abbrev mX10_readSize : Mt := (yX10_readSize, cX10_readSize, 4, none, 0)
set_option maxRecDepth 100000 in
theorem kX10_readSize : Mk mX10_readSize := ⟨tb_of 1003 rfl rfl, tb_of 11 (by decide +kernel) rfl, by decide +kernel, by decide⟩
theorem kVX10_readSize : MkV mX10_readSize := ⟨kX10_readSize, tb_of 1002 (by decide +kernel) rfl, tb_sel 43 (by decide +kernel) rfl⟩
abbrev mX10_push : Mt := (yX10_push, cX10_push, 3, none, 2)
set_option maxRecDepth 100000 in
theorem kX10_push : Mk mX10_push := ⟨tb_of 1024 rfl rfl, tb_of 11 (by decide +kernel) rfl, by decide +kernel, by decide⟩
theorem kVX10_push : MkV mX10_push := ⟨kX10_push, tb_of 1023 (by decide +kernel) rfl, tb_sel 48 (by decide +kernel) rfl⟩
abbrev mX10_top : Mt := (yX10_top, cX10_top, 1, (some .int), 0)
set_option maxRecDepth 100000 in
theorem kX10_top : Mk mX10_top := ⟨tb_of 1032 rfl rfl, tb_of 11 (by decide +kernel) rfl, by decide +kernel, by decide⟩
theorem kVX10_top : MkV mX10_top := ⟨kX10_top, tb_of 1031 (by decide +kernel) rfl, tb_sel 50 (by decide +kernel) rfl⟩
abbrev mX10_readUnit : Mt := (yX10_readUnit, cX10_readUnit, 3, none, 0)
set_option maxRecDepth 100000 in
theorem kX10_readUnit : Mk mX10_readUnit := ⟨tb_of 1016 rfl rfl, tb_of 11 (by decide +kernel) rfl, by decide +kernel, by decide⟩
theorem kVX10_readUnit : MkV mX10_readUnit := ⟨kX10_readUnit, tb_of 1015 (by decide +kernel) rfl, tb_sel 46 (by decide +kernel) rfl⟩
abbrev mX10_actOf : Mt := (yX10_actOf, cX10_actOf, 1, (some .int), 1)
set_option maxRecDepth 100000 in
theorem kX10_actOf : Mk mX10_actOf := ⟨tb_of 1039 rfl rfl, tb_of 11 (by decide +kernel) rfl, by decide +kernel, by decide⟩
theorem kSX10_actOf : MkS mX10_actOf := ⟨kX10_actOf, tb_of 1038 (by decide +kernel) rfl⟩
abbrev mX10_isLow : Mt := (yX10_isLow, cX10_isLow, 2, (some .boolean), 1)
set_option maxRecDepth 100000 in
theorem kX10_isLow : Mk mX10_isLow := ⟨tb_of 1047 rfl rfl, tb_of 11 (by decide +kernel) rfl, by decide +kernel, by decide⟩
theorem kVX10_isLow : MkV mX10_isLow := ⟨kX10_isLow, tb_of 1046 (by decide +kernel) rfl, tb_sel 53 (by decide +kernel) rfl⟩
abbrev mX10_isHigh : Mt := (yX10_isHigh, cX10_isHigh, 2, (some .boolean), 1)
set_option maxRecDepth 100000 in
theorem kX10_isHigh : Mk mX10_isHigh := ⟨tb_of 1036 rfl rfl, tb_of 11 (by decide +kernel) rfl, by decide +kernel, by decide⟩
theorem kVX10_isHigh : MkV mX10_isHigh := ⟨kX10_isHigh, tb_of 1035 (by decide +kernel) rfl, tb_sel 51 (by decide +kernel) rfl⟩
abbrev mX10_endUnit : Mt := (yX10_endUnit, cX10_endUnit, 1, none, 0)
set_option maxRecDepth 100000 in
theorem kX10_endUnit : Mk mX10_endUnit := ⟨tb_of 1028 rfl rfl, tb_of 11 (by decide +kernel) rfl, by decide +kernel, by decide⟩
theorem kVX10_endUnit : MkV mX10_endUnit := ⟨kX10_endUnit, tb_of 1027 (by decide +kernel) rfl, tb_sel 49 (by decide +kernel) rfl⟩
abbrev mX10_endLow : Mt := (yX10_endLow, cX10_endLow, 1, none, 0)
set_option maxRecDepth 100000 in
theorem kX10_endLow : Mk mX10_endLow := ⟨tb_of 1051 rfl rfl, tb_of 11 (by decide +kernel) rfl, by decide +kernel, by decide⟩
theorem kVX10_endLow : MkV mX10_endLow := ⟨kX10_endLow, tb_of 1050 (by decide +kernel) rfl, tb_sel 54 (by decide +kernel) rfl⟩
abbrev mX10_goOn : Mt := (yX10_goOn, cX10_goOn, 4, (some .boolean), 0)
set_option maxRecDepth 100000 in
theorem kX10_goOn : Mk mX10_goOn := ⟨tb_of 1043 rfl rfl, tb_of 11 (by decide +kernel) rfl, by decide +kernel, by decide⟩
theorem kVX10_goOn : MkV mX10_goOn := ⟨kX10_goOn, tb_of 1042 (by decide +kernel) rfl, tb_sel 52 (by decide +kernel) rfl⟩
abbrev mX10_readSum : Mt := (yX10_readSum, cX10_readSum, 2, none, 0)
set_option maxRecDepth 100000 in
theorem kX10_readSum : Mk mX10_readSum := ⟨tb_of 1012 rfl rfl, tb_of 11 (by decide +kernel) rfl, by decide +kernel, by decide⟩
theorem kVX10_readSum : MkV mX10_readSum := ⟨kX10_readSum, tb_of 1011 (by decide +kernel) rfl, tb_sel 45 (by decide +kernel) rfl⟩
abbrev mX10_readTable : Mt := (yX10_readTable, cX10_readTable, 2, none, 0)
set_option maxRecDepth 100000 in
theorem kX10_readTable : Mk mX10_readTable := ⟨tb_of 991 rfl rfl, tb_of 11 (by decide +kernel) rfl, by decide +kernel, by decide⟩
theorem kVX10_readTable : MkV mX10_readTable := ⟨kX10_readTable, tb_of 990 (by decide +kernel) rfl, tb_sel 40 (by decide +kernel) rfl⟩
abbrev mX10_tableOf : Mt := (yX10_tableOf, cX10_tableOf, 5, (some .int), 2)
set_option maxRecDepth 100000 in
theorem kX10_tableOf : Mk mX10_tableOf := ⟨tb_of 1059 rfl rfl, tb_of 11 (by decide +kernel) rfl, by decide +kernel, by decide⟩
theorem kVX10_tableOf : MkV mX10_tableOf := ⟨kX10_tableOf, tb_of 1058 (by decide +kernel) rfl, tb_sel 56 (by decide +kernel) rfl⟩
abbrev mX10_checkNames : Mt := (yX10_checkNames, cX10_checkNames, 4, none, 0)
set_option maxRecDepth 100000 in
theorem kX10_checkNames : Mk mX10_checkNames := ⟨tb_of 1055 rfl rfl, tb_of 11 (by decide +kernel) rfl, by decide +kernel, by decide⟩
theorem kVX10_checkNames : MkV mX10_checkNames := ⟨kX10_checkNames, tb_of 1054 (by decide +kernel) rfl, tb_sel 55 (by decide +kernel) rfl⟩
abbrev mX10_read : Mt := (yX10_read, cX10_read, 4, (some .int), 0)
set_option maxRecDepth 100000 in
theorem kX10_read : Mk mX10_read := ⟨tb_of 956 rfl rfl, tb_of 11 (by decide +kernel) rfl, by decide +kernel, by decide⟩
theorem kVX10_read : MkV mX10_read := ⟨kX10_read, tb_of 954 (by decide +kernel) rfl, tb_of 955 (by decide +kernel) rfl⟩
abbrev mX10_sizeOf : Mt := (yX10_sizeOf, cX10_sizeOf, 7, (some .long), 1)
set_option maxRecDepth 100000 in
theorem kX10_sizeOf : Mk mX10_sizeOf := ⟨tb_of 1063 rfl rfl, tb_of 11 (by decide +kernel) rfl, by decide +kernel, by decide⟩
theorem kVX10_sizeOf : MkV mX10_sizeOf := ⟨kX10_sizeOf, tb_of 1062 (by decide +kernel) rfl, tb_sel 57 (by decide +kernel) rfl⟩
abbrev mX10_named : Mt := (yX10_named, cX10_named, 4, (some .int), 1)
set_option maxRecDepth 100000 in
theorem kX10_named : Mk mX10_named := ⟨tb_of 1067 rfl rfl, tb_of 11 (by decide +kernel) rfl, by decide +kernel, by decide⟩
theorem kVX10_named : MkV mX10_named := ⟨kX10_named, tb_of 1065 (by decide +kernel) rfl, tb_of 1066 (by decide +kernel) rfl⟩
abbrev mX10_isTable : Mt := (yX10_isTable, cX10_isTable, 2, (some .boolean), 1)
set_option maxRecDepth 100000 in
theorem kX10_isTable : Mk mX10_isTable := ⟨tb_of 1075 rfl rfl, tb_of 11 (by decide +kernel) rfl, by decide +kernel, by decide⟩
theorem kVX10_isTable : MkV mX10_isTable := ⟨kX10_isTable, tb_of 1074 (by decide +kernel) rfl, tb_sel 58 (by decide +kernel) rfl⟩
abbrev mX10_size : Mt := (yX10_size, cX10_size, 2, (some .int), 1)
set_option maxRecDepth 100000 in
theorem kX10_size : Mk mX10_size := ⟨tb_of 1071 rfl rfl, tb_of 11 (by decide +kernel) rfl, by decide +kernel, by decide⟩
theorem kVX10_size : MkV mX10_size := ⟨kX10_size, tb_of 1069 (by decide +kernel) rfl, tb_of 1070 (by decide +kernel) rfl⟩
abbrev mX10_state : Mt := (yX10_state, cX10_state, 2, (some .int), 1)
set_option maxRecDepth 100000 in
theorem kX10_state : Mk mX10_state := ⟨tb_of 1082 rfl rfl, tb_of 11 (by decide +kernel) rfl, by decide +kernel, by decide⟩
theorem kVX10_state : MkV mX10_state := ⟨kX10_state, tb_of 1080 (by decide +kernel) rfl, tb_of 1081 (by decide +kernel) rfl⟩
abbrev mX10_row : Mt := (yX10_row, cX10_row, 3, (some .int), 2)
set_option maxRecDepth 100000 in
theorem kX10_row : Mk mX10_row := ⟨tb_of 1086 rfl rfl, tb_of 11 (by decide +kernel) rfl, by decide +kernel, by decide⟩
theorem kVX10_row : MkV mX10_row := ⟨kX10_row, tb_of 1084 (by decide +kernel) rfl, tb_of 1085 (by decide +kernel) rfl⟩
abbrev mX10_rowsOf : Mt := (yX10_rowsOf, cX10_rowsOf, 2, (some .int), 1)
set_option maxRecDepth 100000 in
theorem kX10_rowsOf : Mk mX10_rowsOf := ⟨tb_of 1090 rfl rfl, tb_of 11 (by decide +kernel) rfl, by decide +kernel, by decide⟩
theorem kVX10_rowsOf : MkV mX10_rowsOf := ⟨kX10_rowsOf, tb_of 1089 (by decide +kernel) rfl, tb_sel 59 (by decide +kernel) rfl⟩
abbrev mX10_noteBuild : Mt := (yX10_noteBuild, cX10_noteBuild, 4, none, 3)
set_option maxRecDepth 100000 in
theorem kX10_noteBuild : Mk mX10_noteBuild := ⟨tb_of 1126 rfl rfl, tb_of 11 (by decide +kernel) rfl, by decide +kernel, by decide⟩
theorem kVX10_noteBuild : MkV mX10_noteBuild := ⟨kX10_noteBuild, tb_of 1125 (by decide +kernel) rfl, tb_sel 67 (by decide +kernel) rfl⟩
abbrev mX10_half : Mt := (yX10_half, cX10_half, 6, (some .long), 4)
set_option maxRecDepth 100000 in
theorem kX10_half : Mk mX10_half := ⟨tb_of 1131 rfl rfl, tb_of 11 (by decide +kernel) rfl, by decide +kernel, by decide⟩
theorem kVX10_half : MkV mX10_half := ⟨kX10_half, tb_of 1130 (by decide +kernel) rfl, tb_sel 68 (by decide +kernel) rfl⟩
abbrev mX10_begin : Mt := (yX10_begin, cX10_begin, 6, (some .int), 3)
set_option maxRecDepth 100000 in
theorem kX10_begin : Mk mX10_begin := ⟨tb_of 1122 rfl rfl, tb_of 11 (by decide +kernel) rfl, by decide +kernel, by decide⟩
theorem kVX10_begin : MkV mX10_begin := ⟨kX10_begin, tb_of 1121 (by decide +kernel) rfl, tb_sel 66 (by decide +kernel) rfl⟩
abbrev mX10_ask : Mt := (yX10_ask, cX10_ask, 8, (some .int), 4)
set_option maxRecDepth 100000 in
theorem kX10_ask : Mk mX10_ask := ⟨tb_of 1118 rfl rfl, tb_of 11 (by decide +kernel) rfl, by decide +kernel, by decide⟩
theorem kVX10_ask : MkV mX10_ask := ⟨kX10_ask, tb_of 1117 (by decide +kernel) rfl, tb_sel 65 (by decide +kernel) rfl⟩
abbrev mX10_failAll : Mt := (yX10_failAll, cX10_failAll, 4, none, 1)
set_option maxRecDepth 100000 in
theorem kX10_failAll : Mk mX10_failAll := ⟨tb_of 1140 rfl rfl, tb_of 11 (by decide +kernel) rfl, by decide +kernel, by decide⟩
theorem kVX10_failAll : MkV mX10_failAll := ⟨kX10_failAll, tb_of 1139 (by decide +kernel) rfl, tb_sel 70 (by decide +kernel) rfl⟩
abbrev mX10_takeTop : Mt := (yX10_takeTop, cX10_takeTop, 2, (some .long), 1)
set_option maxRecDepth 100000 in
theorem kX10_takeTop : Mk mX10_takeTop := ⟨tb_of 1114 rfl rfl, tb_of 11 (by decide +kernel) rfl, by decide +kernel, by decide⟩
theorem kVX10_takeTop : MkV mX10_takeTop := ⟨kX10_takeTop, tb_of 1113 (by decide +kernel) rfl, tb_sel 64 (by decide +kernel) rfl⟩
abbrev mX10_putTop : Mt := (yX10_putTop, cX10_putTop, 4, none, 2)
set_option maxRecDepth 100000 in
theorem kX10_putTop : Mk mX10_putTop := ⟨tb_of 1110 rfl rfl, tb_of 11 (by decide +kernel) rfl, by decide +kernel, by decide⟩
theorem kVX10_putTop : MkV mX10_putTop := ⟨kX10_putTop, tb_of 1109 (by decide +kernel) rfl, tb_sel 63 (by decide +kernel) rfl⟩
abbrev mX10_step : Mt := (yX10_step, cX10_step, 8, (some .int), 1)
set_option maxRecDepth 100000 in
theorem kX10_step : Mk mX10_step := ⟨tb_of 1106 rfl rfl, tb_of 11 (by decide +kernel) rfl, by decide +kernel, by decide⟩
theorem kVX10_step : MkV mX10_step := ⟨kX10_step, tb_of 1105 (by decide +kernel) rfl, tb_sel 62 (by decide +kernel) rfl⟩
abbrev mX10_add : Mt := (yX10_add, cX10_add, 3, none, 1)
set_option maxRecDepth 100000 in
theorem kX10_add : Mk mX10_add := ⟨tb_of 1135 rfl rfl, tb_of 11 (by decide +kernel) rfl, by decide +kernel, by decide⟩
theorem kVX10_add : MkV mX10_add := ⟨kX10_add, tb_of 1134 (by decide +kernel) rfl, tb_sel 69 (by decide +kernel) rfl⟩
abbrev mX10_goOne : Mt := (yX10_goOne, cX10_goOne, 4, (some .int), 0)
set_option maxRecDepth 100000 in
theorem kX10_goOne : Mk mX10_goOne := ⟨tb_of 1102 rfl rfl, tb_of 11 (by decide +kernel) rfl, by decide +kernel, by decide⟩
theorem kVX10_goOne : MkV mX10_goOne := ⟨kX10_goOne, tb_of 1101 (by decide +kernel) rfl, tb_sel 61 (by decide +kernel) rfl⟩
abbrev mX10_get : Mt := (yX10_get, cX10_get, 6, (some .boolean), 3)
set_option maxRecDepth 100000 in
theorem kX10_get : Mk mX10_get := ⟨tb_of 1098 rfl rfl, tb_of 11 (by decide +kernel) rfl, by decide +kernel, by decide⟩
theorem kVX10_get : MkV mX10_get := ⟨kX10_get, tb_of 1097 (by decide +kernel) rfl, tb_sel 60 (by decide +kernel) rfl⟩
abbrev mX10_isAnswered : Mt := (yX10_isAnswered, cX10_isAnswered, 6, (some .boolean), 3)
set_option maxRecDepth 100000 in
theorem kX10_isAnswered : Mk mX10_isAnswered := ⟨tb_of 1144 rfl rfl, tb_of 11 (by decide +kernel) rfl, by decide +kernel, by decide⟩
theorem kVX10_isAnswered : MkV mX10_isAnswered := ⟨kX10_isAnswered, tb_of 1143 (by decide +kernel) rfl, tb_sel 71 (by decide +kernel) rfl⟩
abbrev mX10_entry : Mt := (yX10_entry, cX10_entry, 3, (some .long), 2)
set_option maxRecDepth 100000 in
theorem kX10_entry : Mk mX10_entry := ⟨tb_of 1094 rfl rfl, tb_of 11 (by decide +kernel) rfl, by decide +kernel, by decide⟩
theorem kVX10_entry : MkV mX10_entry := ⟨kX10_entry, tb_of 1092 (by decide +kernel) rfl, tb_of 1093 (by decide +kernel) rfl⟩
abbrev mX10_reason : Mt := (yX10_reason, cX10_reason, 2, (some .int), 1)
set_option maxRecDepth 100000 in
theorem kX10_reason : Mk mX10_reason := ⟨tb_of 1148 rfl rfl, tb_of 11 (by decide +kernel) rfl, by decide +kernel, by decide⟩
theorem kVX10_reason : MkV mX10_reason := ⟨kX10_reason, tb_of 1146 (by decide +kernel) rfl, tb_of 1147 (by decide +kernel) rfl⟩
abbrev mX10_sum : Mt := (yX10_sum, cX10_sum, 11, (some .long), 4)
set_option maxRecDepth 100000 in
theorem kX10_sum : Mk mX10_sum := ⟨tb_of 1152 rfl rfl, tb_of 11 (by decide +kernel) rfl, by decide +kernel, by decide⟩
theorem kVX10_sum : MkV mX10_sum := ⟨kX10_sum, tb_of 1150 (by decide +kernel) rfl, tb_of 1151 (by decide +kernel) rfl⟩
abbrev mX10_find : Mt := (yX10_find, cX10_find, 5, (some .int), 2)
set_option maxRecDepth 100000 in
theorem kX10_find : Mk mX10_find := ⟨tb_of 1159 rfl rfl, tb_of 11 (by decide +kernel) rfl, by decide +kernel, by decide⟩
theorem kVX10_find : MkV mX10_find := ⟨kX10_find, tb_of 1157 (by decide +kernel) rfl, tb_of 1158 (by decide +kernel) rfl⟩
abbrev mX10_drop : Mt := (yX10_drop, cX10_drop, 2, (some .int), 1)
set_option maxRecDepth 100000 in
theorem kX10_drop : Mk mX10_drop := ⟨tb_of 1163 rfl rfl, tb_of 11 (by decide +kernel) rfl, by decide +kernel, by decide⟩
theorem kVX10_drop : MkV mX10_drop := ⟨kX10_drop, tb_of 1161 (by decide +kernel) rfl, tb_of 1162 (by decide +kernel) rfl⟩
abbrev mX10_builds : Mt := (yX10_builds, cX10_builds, 1, (some .int), 0)
set_option maxRecDepth 100000 in
theorem kX10_builds : Mk mX10_builds := ⟨tb_of 1167 rfl rfl, tb_of 11 (by decide +kernel) rfl, by decide +kernel, by decide⟩
theorem kVX10_builds : MkV mX10_builds := ⟨kX10_builds, tb_of 1165 (by decide +kernel) rfl, tb_of 1166 (by decide +kernel) rfl⟩
abbrev mX10_build : Mt := (yX10_build, cX10_build, 3, (some .int), 2)
set_option maxRecDepth 100000 in
theorem kX10_build : Mk mX10_build := ⟨tb_of 1171 rfl rfl, tb_of 11 (by decide +kernel) rfl, by decide +kernel, by decide⟩
theorem kVX10_build : MkV mX10_build := ⟨kX10_build, tb_of 1169 (by decide +kernel) rfl, tb_of 1170 (by decide +kernel) rfl⟩
abbrev mX10_halves : Mt := (yX10_halves, cX10_halves, 1, (some .int), 0)
set_option maxRecDepth 100000 in
theorem kX10_halves : Mk mX10_halves := ⟨tb_of 1175 rfl rfl, tb_of 11 (by decide +kernel) rfl, by decide +kernel, by decide⟩
theorem kVX10_halves : MkV mX10_halves := ⟨kX10_halves, tb_of 1173 (by decide +kernel) rfl, tb_of 1174 (by decide +kernel) rfl⟩
abbrev mX10_half_ : Mt := (yX10_half_, cX10_half_, 3, (some .long), 2)
set_option maxRecDepth 100000 in
theorem kX10_half_ : Mk mX10_half_ := ⟨tb_of 1179 rfl rfl, tb_of 11 (by decide +kernel) rfl, by decide +kernel, by decide⟩
theorem kVX10_half_ : MkV mX10_half_ := ⟨kX10_half_, tb_of 1177 (by decide +kernel) rfl, tb_of 1178 (by decide +kernel) rfl⟩
abbrev mX10_reads : Mt := (yX10_reads, cX10_reads, 5, (some .int), 2)
set_option maxRecDepth 100000 in
theorem kX10_reads : Mk mX10_reads := ⟨tb_of 1183 rfl rfl, tb_of 11 (by decide +kernel) rfl, by decide +kernel, by decide⟩
theorem kVX10_reads : MkV mX10_reads := ⟨kX10_reads, tb_of 1181 (by decide +kernel) rfl, tb_of 1182 (by decide +kernel) rfl⟩
abbrev mX10_count : Mt := (yX10_count, cX10_count, 5, (some .int), 1)
set_option maxRecDepth 100000 in
theorem kX10_count : Mk mX10_count := ⟨tb_of 1187 rfl rfl, tb_of 11 (by decide +kernel) rfl, by decide +kernel, by decide⟩
theorem kVX10_count : MkV mX10_count := ⟨kX10_count, tb_of 1185 (by decide +kernel) rfl, tb_of 1186 (by decide +kernel) rfl⟩
abbrev mJ9_max_f86c9 : Mt := (yJ9_max_f86c9, cJ9_max_f86c9, 4, (some .long), 2)
set_option maxRecDepth 100000 in
theorem kJ9_max_f86c9 : Mk mJ9_max_f86c9 := ⟨tb_of 523 rfl rfl, tb_of 12 (by decide +kernel) rfl, by decide +kernel, by decide⟩
theorem kSJ9_max_f86c9 : MkS mJ9_max_f86c9 := ⟨kJ9_max_f86c9, tb_of 522 (by decide +kernel) rfl⟩
abbrev mJ9_min_7cf53 : Mt := (yJ9_min_7cf53, cJ9_min_7cf53, 2, (some .int), 2)
set_option maxRecDepth 100000 in
theorem kJ9_min_7cf53 : Mk mJ9_min_7cf53 := ⟨tb_of 622 rfl rfl, tb_of 12 (by decide +kernel) rfl, by decide +kernel, by decide⟩
theorem kSJ9_min_7cf53 : MkS mJ9_min_7cf53 := ⟨kJ9_min_7cf53, tb_of 621 (by decide +kernel) rfl⟩
abbrev mJ9_min_f86c9 : Mt := (yJ9_min_f86c9, cJ9_min_f86c9, 4, (some .long), 2)
set_option maxRecDepth 100000 in
theorem kJ9_min_f86c9 : Mk mJ9_min_f86c9 := ⟨tb_of 520 rfl rfl, tb_of 12 (by decide +kernel) rfl, by decide +kernel, by decide⟩
theorem kSJ9_min_f86c9 : MkS mJ9_min_f86c9 := ⟨kJ9_min_f86c9, tb_of 519 (by decide +kernel) rfl⟩
theorem lkL_9 : Lk RL 9 mX9_init := tb_of 15 (by decide +kernel) rfl
theorem lkX9_3 : Cond.methodLink RX9 3 objectInit ∈ TB := tb_of 18 (by decide +kernel) rfl
theorem lkX9_11 : Lk RX9 11 mX3_init := tb_of 23 (by decide +kernel) rfl
theorem lkX3_3 : Cond.methodLink RX3 3 objectInit ∈ TB := tb_of 26 (by decide +kernel) rfl
theorem lkX9_18 : Lk RX9 18 mX5_init := tb_of 38 (by decide +kernel) rfl
theorem lkX5_3 : Cond.methodLink RX5 3 objectInit ∈ TB := tb_of 41 (by decide +kernel) rfl
theorem lkX5_11 : Lk RX5 11 mX6_init := tb_of 44 (by decide +kernel) rfl
theorem lkX6_3 : Cond.methodLink RX6 3 objectInit ∈ TB := tb_of 47 (by decide +kernel) rfl
theorem lkX9_27 : Lk RX9 27 mX4_init := tb_of 85 (by decide +kernel) rfl
theorem lkX4_3 : Cond.methodLink RX4 3 objectInit ∈ TB := tb_of 88 (by decide +kernel) rfl
theorem lkX4_17 : Lk RX4 17 mX2_init := tb_of 92 (by decide +kernel) rfl
theorem lkX2_3 : Cond.methodLink RX2 3 objectInit ∈ TB := tb_of 95 (by decide +kernel) rfl
theorem lkX2_11 : Lk RX2 11 mX0_init := tb_of 98 (by decide +kernel) rfl
theorem lkX0_3 : Cond.methodLink RX0 3 objectInit ∈ TB := tb_of 101 (by decide +kernel) rfl
theorem lkX9_37 : Lk RX9 37 mX8_init := tb_of 180 (by decide +kernel) rfl
theorem lkX8_3 : Cond.methodLink RX8 3 objectInit ∈ TB := tb_of 183 (by decide +kernel) rfl
theorem lkX8_11 : Lk RX8 11 mX1_init := tb_of 186 (by decide +kernel) rfl
theorem lkX1_3 : Cond.methodLink RX1 3 objectInit ∈ TB := tb_of 189 (by decide +kernel) rfl
theorem lkX8_23 : Lk RX8 23 mX7_init := tb_of 200 (by decide +kernel) rfl
theorem lkX7_1 : Cond.methodLink RX7 1 objectInit ∈ TB := tb_of 203 (by decide +kernel) rfl
theorem lkL_15 : Lk RL 15 mX9_feed := tb_of 268 (by decide +kernel) rfl
theorem lkX9_44 : Lk RX9 44 mX3_append := tb_of 272 (by decide +kernel) rfl
theorem lkX3_19 : Lk RX3 19 mX3_bytesIn := tb_of 276 (by decide +kernel) rfl
theorem lkX3_23 : Lk RX3 23 mX3_putByte := tb_of 280 (by decide +kernel) rfl
theorem lkL_20 : Lk RL 20 mX9_read := tb_of 284 (by decide +kernel) rfl
theorem lkX9_52 : Lk RX9 52 mX5_parse := tb_of 288 (by decide +kernel) rfl
theorem lkX5_39 : Lk RX5 39 mX6_start := tb_of 292 (by decide +kernel) rfl
theorem lkX6_29 : Lk RX6 29 mX6_advance := tb_of 296 (by decide +kernel) rfl
theorem lkX6_32 : Lk RX6 32 mX6_skipBlanks := tb_of 300 (by decide +kernel) rfl
theorem lkX6_35 : Lk RX6 35 mX3_byteAt := tb_of 304 (by decide +kernel) rfl
theorem lkX6_41 : Lk RX6 41 mX6_isDigit := tb_of 308 (by decide +kernel) rfl
theorem lkX6_45 : Lk RX6 45 mX6_takeDigits := tb_of 311 (by decide +kernel) rfl
theorem lkX6_49 : Lk RX6 49 mX6_isLetter := tb_of 316 (by decide +kernel) rfl
theorem lkX6_52 : Lk RX6 52 mX6_takeLetters := tb_of 319 (by decide +kernel) rfl
theorem lkX6_55 : Lk RX6 55 mX6_kindOfWord := tb_of 323 (by decide +kernel) rfl
theorem lkX6_59 : Lk RX6 59 mX6_isSign := tb_of 331 (by decide +kernel) rfl
theorem lkX5_42 : Lk RX5 42 mX4_slotAt := tb_of 334 (by decide +kernel) rfl
theorem lkX5_46 : Lk RX5 46 mX5_takeTable := tb_of 338 (by decide +kernel) rfl
theorem lkX5_67 : Lk RX5 67 mX5_expect := tb_of 342 (by decide +kernel) rfl
theorem lkX5_60 : Lk RX5 60 mX5_faultHere := tb_of 346 (by decide +kernel) rfl
theorem lkX5_64 : Lk RX5 64 mX6_advance := tb_of 350 (by decide +kernel) rfl
theorem lkX5_75 : Lk RX5 75 mX4_numberOf := tb_of 351 (by decide +kernel) rfl
theorem lkX4_22 : Lk RX4 22 mX4_slotAt := tb_of 355 (by decide +kernel) rfl
theorem lkX5_79 : Lk RX5 79 mX5_noteNameFault := tb_of 356 (by decide +kernel) rfl
theorem lkX5_89 : Lk RX5 89 mX0_clear := tb_of 360 (by decide +kernel) rfl
theorem lkX5_94 : Lk RX5 94 mX5_takeSize := tb_of 364 (by decide +kernel) rfl
theorem lkX5_107 : Lk RX5 107 mX5_sizeToldAhead := tb_of 368 (by decide +kernel) rfl
theorem lkX5_114 : Lk RX5 114 mX4_sizeOf := tb_of 372 (by decide +kernel) rfl
theorem lkX4_30 : Lk RX4 30 mX4_tableAt := tb_of 376 (by decide +kernel) rfl
theorem lkX5_97 : Lk RX5 97 mX5_takeManner := tb_of 380 (by decide +kernel) rfl
theorem lkX5_101 : Lk RX5 101 mX5_takeSum := tb_of 384 (by decide +kernel) rfl
theorem lkX5_132 : Lk RX5 132 mX5_takeProduct := tb_of 388 (by decide +kernel) rfl
theorem lkX5_138 : Lk RX5 138 mX5_takeUnit := tb_of 392 (by decide +kernel) rfl
theorem lkX5_135 : Lk RX5 135 mX5_addStep := tb_of 396 (by decide +kernel) rfl
theorem lkX5_128 : Lk RX5 128 mX0_add := tb_of 400 (by decide +kernel) rfl
theorem lkX5_144 : Lk RX5 144 mX5_takeEntry := tb_of 410 (by decide +kernel) rfl
theorem lkX5_147 : Lk RX5 147 mX5_takeGroup := tb_of 414 (by decide +kernel) rfl
theorem lkX5_150 : Lk RX5 150 mX5_takeChoice := tb_of 418 (by decide +kernel) rfl
theorem lkX5_156 : Lk RX5 156 mX0_skipToHere := tb_of 422 (by decide +kernel) rfl
theorem lkX5_141 : Lk RX5 141 mX5_isProductSign := tb_of 426 (by decide +kernel) rfl
theorem lkX5_104 : Lk RX5 104 mX5_takeEnd := tb_of 429 (by decide +kernel) rfl
theorem lkX5_56 : Lk RX5 56 mX5_resolveNames := tb_of 433 (by decide +kernel) rfl
theorem lkX5_159 : Lk RX5 159 mX5_resolveNamesIn := tb_of 437 (by decide +kernel) rfl
theorem lkX5_163 : Lk RX5 163 mX0_isNameAt := tb_of 441 (by decide +kernel) rfl
theorem lkX5_166 : Lk RX5 166 mX0_withAt := tb_of 448 (by decide +kernel) rfl
theorem lkX5_169 : Lk RX5 169 mX0_placeAt := tb_of 455 (by decide +kernel) rfl
theorem lkX5_173 : Lk RX5 173 mX0_resolve := tb_of 459 (by decide +kernel) rfl
theorem lkX9_56 : Lk RX9 56 mX4_putToSleep := tb_of 463 (by decide +kernel) rfl
theorem lkX4_36 : Lk RX4 36 mX2_putToSleep := tb_of 467 (by decide +kernel) rfl
theorem lkX9_59 : Lk RX9 59 mX8_open := tb_of 471 (by decide +kernel) rfl
theorem lkX8_61 : Lk RX8 61 mX1_clear := tb_of 475 (by decide +kernel) rfl
theorem lkX8_64 : Lk RX8 64 mX8_startCall := tb_of 479 (by decide +kernel) rfl
theorem lkX9_62 : Lk RX9 62 mX3_empty := tb_of 483 (by decide +kernel) rfl
theorem lkL_25 : Lk RL 25 mX9_cut := tb_of 487 (by decide +kernel) rfl
theorem lkL_29 : Lk RL 29 mX9_named := tb_of 491 (by decide +kernel) rfl
theorem lkX9_68 : Lk RX9 68 mX4_numberOf := tb_of 495 (by decide +kernel) rfl
theorem lkL_33 : Lk RL 33 mX9_size := tb_of 496 (by decide +kernel) rfl
theorem lkX9_72 : Lk RX9 72 mX4_tableAt := tb_of 500 (by decide +kernel) rfl
theorem lkL_38 : Lk RL 38 mX9_state := tb_of 501 (by decide +kernel) rfl
theorem lkL_42 : Lk RL 42 mX9_row := tb_of 505 (by decide +kernel) rfl
theorem lkX9_89 : Lk RX9 89 mX2_rowsInAll := tb_of 509 (by decide +kernel) rfl
theorem lkX2_58 : Lk RX2 58 mX2_entriesInAll := tb_of 513 (by decide +kernel) rfl
theorem lkX2_49 : Lk RX2 49 mJ9_min_f86c9 := tb_of 518 (by decide +kernel) rfl
theorem lkX2_55 : Lk RX2 55 mJ9_max_f86c9 := tb_of 521 (by decide +kernel) rfl
theorem lkX9_97 : Lk RX9 97 mX9_at := tb_of 524 (by decide +kernel) rfl
theorem lkL_47 : Lk RL 47 mX9_entry := tb_of 525 (by decide +kernel) rfl
theorem lkX9_101 : Lk RX9 101 mX8_startCall := tb_of 529 (by decide +kernel) rfl
theorem lkX9_104 : Lk RX9 104 mX8_askFor := tb_of 530 (by decide +kernel) rfl
theorem lkX8_71 : Lk RX8 71 mX8_ask := tb_of 534 (by decide +kernel) rfl
theorem lkX8_80 : Lk RX8 80 mX4_tableAt := tb_of 538 (by decide +kernel) rfl
theorem lkX8_86 : Lk RX8 86 mX8_awaken := tb_of 539 (by decide +kernel) rfl
theorem lkX8_96 : Lk RX8 96 mX8_fail := tb_of 543 (by decide +kernel) rfl
theorem lkX8_217 : Lk RX8 217 mX8_addReason := tb_of 547 (by decide +kernel) rfl
theorem lkX8_123 : Lk RX8 123 mX8_wake := tb_of 552 (by decide +kernel) rfl
theorem lkX8_119 : Lk RX8 119 mX1_note := tb_of 557 (by decide +kernel) rfl
theorem lkX8_131 : Lk RX8 131 mX8_layOut := tb_of 562 (by decide +kernel) rfl
theorem lkX8_151 : Lk RX8 151 mX2_clearEntries := tb_of 567 (by decide +kernel) rfl
theorem lkX8_135 : Lk RX8 135 mX8_fill := tb_of 571 (by decide +kernel) rfl
theorem lkX8_90 : Lk RX8 90 mX2_entriesInAll := tb_of 575 (by decide +kernel) rfl
theorem lkX8_154 : Lk RX8 154 mX8_makeEntries := tb_of 576 (by decide +kernel) rfl
theorem lkX8_182 : Lk RX8 182 mX8_workOut := tb_of 580 (by decide +kernel) rfl
theorem lkX8_198 : Lk RX8 198 mX0_stepAt := tb_of 584 (by decide +kernel) rfl
theorem lkX8_201 : Lk RX8 201 mX0_withAt := tb_of 588 (by decide +kernel) rfl
theorem lkX8_205 : Lk RX8 205 mX8_push := tb_of 589 (by decide +kernel) rfl
theorem lkX8_208 : Lk RX8 208 mX4_sizeOf := tb_of 594 (by decide +kernel) rfl
theorem lkX8_186 : Lk RX8 186 mX8_pop := tb_of 595 (by decide +kernel) rfl
theorem lkX8_211 : Lk RX8 211 mX0_skipAt := tb_of 600 (by decide +kernel) rfl
theorem lkX0_42 : Lk RX0 42 mJ9_min_f86c9 := tb_of 605 (by decide +kernel) rfl
theorem lkX0_48 : Lk RX0 48 mJ9_max_f86c9 := tb_of 606 (by decide +kernel) rfl
theorem lkX8_214 : Lk RX8 214 mX8_workOutPair := tb_of 607 (by decide +kernel) rfl
theorem lkX8_160 : Lk RX8 160 mX2_rowsInAll := tb_of 611 (by decide +kernel) rfl
theorem lkX8_126 : Lk RX8 126 mX8_makeRow := tb_of 612 (by decide +kernel) rfl
theorem lkX8_174 : Lk RX8 174 mX2_endOfRow := tb_of 616 (by decide +kernel) rfl
theorem lkX2_62 : Lk RX2 62 mJ9_min_7cf53 := tb_of 620 (by decide +kernel) rfl
theorem lkX8_142 : Lk RX8 142 mX8_failWithReason := tb_of 623 (by decide +kernel) rfl
theorem lkX8_139 : Lk RX8 139 mX8_keepsPromise := tb_of 627 (by decide +kernel) rfl
theorem lkX8_75 : Lk RX8 75 mX7_clear := tb_of 631 (by decide +kernel) rfl
theorem lkX8_76 : Lk RX8 76 mX7_add := tb_of 635 (by decide +kernel) rfl
theorem lkX8_166 : Lk RX8 166 mX7_is := tb_of 640 (by decide +kernel) rfl
theorem lkX8_106 : Lk RX8 106 mX8_awakenRow := tb_of 644 (by decide +kernel) rfl
theorem lkL_52 : Lk RL 52 mX9_reason := tb_of 649 (by decide +kernel) rfl
theorem lkX9_111 : Lk RX9 111 mX8_reasonAt := tb_of 653 (by decide +kernel) rfl
theorem lkL_56 : Lk RL 56 mX9_sum := tb_of 657 (by decide +kernel) rfl
theorem lkX9_121 : Lk RX9 121 mX8_addUp := tb_of 664 (by decide +kernel) rfl
theorem lkX9_129 : Lk RX9 129 mX7_part := tb_of 668 (by decide +kernel) rfl
theorem lkL_61 : Lk RL 61 mX9_find := tb_of 673 (by decide +kernel) rfl
theorem lkX9_135 : Lk RX9 135 mX8_search := tb_of 677 (by decide +kernel) rfl
theorem lkL_66 : Lk RL 66 mX9_drop := tb_of 681 (by decide +kernel) rfl
theorem lkX9_139 : Lk RX9 139 mX2_putToSleep := tb_of 685 (by decide +kernel) rfl
theorem lkL_70 : Lk RL 70 mX9_builds := tb_of 686 (by decide +kernel) rfl
theorem lkL_74 : Lk RL 74 mX9_build := tb_of 690 (by decide +kernel) rfl
theorem lkX9_149 : Lk RX9 149 mX1_keeps := tb_of 694 (by decide +kernel) rfl
theorem lkX9_153 : Lk RX9 153 mX1_told := tb_of 698 (by decide +kernel) rfl
theorem lkL_78 : Lk RL 78 mX9_halves := tb_of 703 (by decide +kernel) rfl
theorem lkL_82 : Lk RL 82 mX9_half := tb_of 707 (by decide +kernel) rfl
theorem lkL_86 : Lk RL 86 mX9_reads := tb_of 711 (by decide +kernel) rfl
theorem lkX9_163 : Lk RX9 163 mX0_names := tb_of 715 (by decide +kernel) rfl
theorem lkL_90 : Lk RL 90 mX9_count := tb_of 719 (by decide +kernel) rfl
theorem lkX9_168 : Lk RX9 168 mX4_howManyAre := tb_of 723 (by decide +kernel) rfl
theorem lkX9_171 : Lk RX9 171 mX4_readyEntries := tb_of 727 (by decide +kernel) rfl
theorem lkX4_42 : Lk RX4 42 mX2_readyEntries := tb_of 731 (by decide +kernel) rfl
theorem lkX2_65 : Lk RX2 65 mX2_rowsInAll := tb_of 735 (by decide +kernel) rfl
theorem lkX2_72 : Lk RX2 72 mX2_endOfRow := tb_of 737 (by decide +kernel) rfl
theorem lkL_12 : Lk RL 12 mX10_init := tb_of 740 (by decide +kernel) rfl
theorem lkX10_1 : Cond.methodLink RX10 1 objectInit ∈ TB := tb_of 743 (by decide +kernel) rfl
theorem lkL_19 : Lk RL 19 mX10_feed := tb_of 944 (by decide +kernel) rfl
theorem lkL_28 : Lk RL 28 mX10_cut := tb_of 949 (by decide +kernel) rfl
theorem lkL_24 : Lk RL 24 mX10_read := tb_of 953 (by decide +kernel) rfl
theorem lkX10_280 : Lk RX10 280 mX10_cutUp := tb_of 957 (by decide +kernel) rfl
theorem lkX10_170 : Lk RX10 170 mX10_at := tb_of 961 (by decide +kernel) rfl
theorem lkX10_174 : Lk RX10 174 mX10_isLetter := tb_of 965 (by decide +kernel) rfl
theorem lkX10_178 : Lk RX10 178 mX10_wordSort := tb_of 968 (by decide +kernel) rfl
theorem lkX10_182 : Lk RX10 182 mX10_addToken := tb_of 976 (by decide +kernel) rfl
theorem lkX10_186 : Lk RX10 186 mX10_isDigit := tb_of 980 (by decide +kernel) rfl
theorem lkX10_193 : Lk RX10 193 mX10_isSign := tb_of 985 (by decide +kernel) rfl
theorem lkX10_283 : Lk RX10 283 mX10_readTable := tb_of 988 (by decide +kernel) rfl
theorem lkX10_202 : Lk RX10 202 mX10_must := tb_of 992 (by decide +kernel) rfl
theorem lkX10_241 : Lk RX10 241 mX10_take := tb_of 996 (by decide +kernel) rfl
theorem lkX10_270 : Lk RX10 270 mX10_readSize := tb_of 1000 (by decide +kernel) rfl
theorem lkX10_218 : Lk RX10 218 mX10_use := tb_of 1004 (by decide +kernel) rfl
theorem lkX10_273 : Lk RX10 273 mX10_readSum := tb_of 1009 (by decide +kernel) rfl
theorem lkX10_257 : Lk RX10 257 mX10_readUnit := tb_of 1013 (by decide +kernel) rfl
theorem lkX10_233 : Lk RX10 233 mX10_emit := tb_of 1017 (by decide +kernel) rfl
theorem lkX10_237 : Lk RX10 237 mX10_push := tb_of 1021 (by decide +kernel) rfl
theorem lkX10_263 : Lk RX10 263 mX10_endUnit := tb_of 1025 (by decide +kernel) rfl
theorem lkX10_244 : Lk RX10 244 mX10_top := tb_of 1029 (by decide +kernel) rfl
theorem lkX10_248 : Lk RX10 248 mX10_isHigh := tb_of 1033 (by decide +kernel) rfl
theorem lkX10_251 : Lk RX10 251 mX10_actOf := tb_of 1037 (by decide +kernel) rfl
theorem lkX10_266 : Lk RX10 266 mX10_goOn := tb_of 1040 (by decide +kernel) rfl
theorem lkX10_254 : Lk RX10 254 mX10_isLow := tb_of 1044 (by decide +kernel) rfl
theorem lkX10_260 : Lk RX10 260 mX10_endLow := tb_of 1048 (by decide +kernel) rfl
theorem lkX10_286 : Lk RX10 286 mX10_checkNames := tb_of 1052 (by decide +kernel) rfl
theorem lkX10_276 : Lk RX10 276 mX10_tableOf := tb_of 1056 (by decide +kernel) rfl
theorem lkX10_292 : Lk RX10 292 mX10_sizeOf := tb_of 1060 (by decide +kernel) rfl
theorem lkL_32 : Lk RL 32 mX10_named := tb_of 1064 (by decide +kernel) rfl
theorem lkL_37 : Lk RL 37 mX10_size := tb_of 1068 (by decide +kernel) rfl
theorem lkX10_309 : Lk RX10 309 mX10_isTable := tb_of 1072 (by decide +kernel) rfl
theorem lkX10_305 : Lk RX10 305 mX10_in := tb_of 1076 (by decide +kernel) rfl
theorem lkL_41 : Lk RL 41 mX10_state := tb_of 1079 (by decide +kernel) rfl
theorem lkL_46 : Lk RL 46 mX10_row := tb_of 1083 (by decide +kernel) rfl
theorem lkX10_312 : Lk RX10 312 mX10_rowsOf := tb_of 1087 (by decide +kernel) rfl
theorem lkL_51 : Lk RL 51 mX10_entry := tb_of 1091 (by decide +kernel) rfl
theorem lkX10_375 : Lk RX10 375 mX10_get := tb_of 1095 (by decide +kernel) rfl
theorem lkX10_364 : Lk RX10 364 mX10_goOne := tb_of 1099 (by decide +kernel) rfl
theorem lkX10_357 : Lk RX10 357 mX10_step := tb_of 1103 (by decide +kernel) rfl
theorem lkX10_339 : Lk RX10 339 mX10_putTop := tb_of 1107 (by decide +kernel) rfl
theorem lkX10_342 : Lk RX10 342 mX10_takeTop := tb_of 1111 (by decide +kernel) rfl
theorem lkX10_345 : Lk RX10 345 mX10_ask := tb_of 1115 (by decide +kernel) rfl
theorem lkX10_324 : Lk RX10 324 mX10_begin := tb_of 1119 (by decide +kernel) rfl
theorem lkX10_318 : Lk RX10 318 mX10_noteBuild := tb_of 1123 (by decide +kernel) rfl
theorem lkX10_332 : Lk RX10 332 mX10_half := tb_of 1128 (by decide +kernel) rfl
theorem lkX10_360 : Lk RX10 360 mX10_add := tb_of 1132 (by decide +kernel) rfl
theorem lkX10_367 : Lk RX10 367 mX10_failAll := tb_of 1137 (by decide +kernel) rfl
theorem lkX10_371 : Lk RX10 371 mX10_isAnswered := tb_of 1141 (by decide +kernel) rfl
theorem lkL_55 : Lk RL 55 mX10_reason := tb_of 1145 (by decide +kernel) rfl
theorem lkL_60 : Lk RL 60 mX10_sum := tb_of 1149 (by decide +kernel) rfl
theorem lkL_65 : Lk RL 65 mX10_find := tb_of 1156 (by decide +kernel) rfl
theorem lkL_69 : Lk RL 69 mX10_drop := tb_of 1160 (by decide +kernel) rfl
theorem lkL_73 : Lk RL 73 mX10_builds := tb_of 1164 (by decide +kernel) rfl
theorem lkL_77 : Lk RL 77 mX10_build := tb_of 1168 (by decide +kernel) rfl
theorem lkL_81 : Lk RL 81 mX10_halves := tb_of 1172 (by decide +kernel) rfl
theorem lkL_85 : Lk RL 85 mX10_half_ := tb_of 1176 (by decide +kernel) rfl
theorem lkL_89 : Lk RL 89 mX10_reads := tb_of 1180 (by decide +kernel) rfl
theorem lkL_93 : Lk RL 93 mX10_count := tb_of 1184 (by decide +kernel) rfl
theorem lkNX0_26 : LkN RX0 26 mX9_put "OfficeTables" := List.mem_of_getElem? (i := 0) (by decide +kernel)
theorem lkNX0_30 : LkN RX0 30 mX9_put_ "OfficeTables" := List.mem_of_getElem? (i := 1) (by decide +kernel)
theorem lkNX0_33 : LkN RX0 33 mX9_at "OfficeTables" := List.mem_of_getElem? (i := 2) (by decide +kernel)
theorem lkNX0_37 : LkN RX0 37 mX9_at_ "OfficeTables" := List.mem_of_getElem? (i := 3) (by decide +kernel)
theorem lkNX8_170 : LkN RX8 170 mX9_put "OfficeTables" := List.mem_of_getElem? (i := 4) (by decide +kernel)
theorem lkNX1_19 : LkN RX1 19 mX9_put_ "OfficeTables" := List.mem_of_getElem? (i := 5) (by decide +kernel)
theorem lkNX8_190 : LkN RX8 190 mX9_put_ "OfficeTables" := List.mem_of_getElem? (i := 6) (by decide +kernel)
theorem lkNX8_116 : LkN RX8 116 mX9_at_ "OfficeTables" := List.mem_of_getElem? (i := 7) (by decide +kernel)
theorem lkNX8_67 : LkN RX8 67 mX9_at "OfficeTables" := List.mem_of_getElem? (i := 8) (by decide +kernel)
theorem lkNX1_23 : LkN RX1 23 mX9_at_ "OfficeTables" := List.mem_of_getElem? (i := 9) (by decide +kernel)
theorem lkNX2_68 : LkN RX2 68 mX9_at "OfficeTables" := List.mem_of_getElem? (i := 10) (by decide +kernel)
theorem nest_in : nestL = [404, 407, 445, 452, 551, 561, 593, 599, 648, 702, 736].filterMap (fun i => tables_1[i]?) := by decide +kernel
theorem nest_lw : ∀ w ∈ nestL, w ∈ lw_tbl := by
  intro w hw
  rw [nest_in] at hw
  obtain ⟨i, -, hi⟩ := List.mem_filterMap.mp hw
  exact List.mem_append_right _ (List.mem_of_getElem? hi)
theorem ckL_7 : Cond.classLink RL 7 RX9 ∈ TB := tb_of 13 (by decide +kernel) rfl
theorem ckX9_9 : Cond.classLink RX9 9 RX3 ∈ TB := tb_of 21 (by decide +kernel) rfl
theorem ckX9_16 : Cond.classLink RX9 16 RX5 ∈ TB := tb_of 36 (by decide +kernel) rfl
theorem ckX5_9 : Cond.classLink RX5 9 RX6 ∈ TB := tb_of 42 (by decide +kernel) rfl
theorem ckX9_25 : Cond.classLink RX9 25 RX4 ∈ TB := tb_of 83 (by decide +kernel) rfl
theorem ckX4_9 : Cond.classLink RX4 9 RX2 ∈ TB := tb_of 89 (by decide +kernel) rfl
theorem ckX2_9 : Cond.classLink RX2 9 RX0 ∈ TB := tb_of 96 (by decide +kernel) rfl
theorem ckX9_35 : Cond.classLink RX9 35 RX8 ∈ TB := tb_of 178 (by decide +kernel) rfl
theorem ckX8_9 : Cond.classLink RX8 9 RX1 ∈ TB := tb_of 184 (by decide +kernel) rfl
theorem ckX8_21 : Cond.classLink RX8 21 RX7 ∈ TB := tb_of 198 (by decide +kernel) rfl
theorem ckL_10 : Cond.classLink RL 10 RX10 ∈ TB := tb_of 738 (by decide +kernel) rfl
theorem in0 : Cond.instantiable RX0 4 ∈ TB := tb_of 97 (by decide +kernel) rfl
theorem iz0 : Cond.initialized RX0 ∈ TB := tb_of 7 (by decide +kernel) rfl
theorem in1 : Cond.instantiable RX1 2 ∈ TB := tb_of 185 (by decide +kernel) rfl
theorem iz1 : Cond.initialized RX1 ∈ TB := tb_of 9 (by decide +kernel) rfl
theorem in2 : Cond.instantiable RX2 9 ∈ TB := tb_of 91 (by decide +kernel) rfl
theorem iz2 : Cond.initialized RX2 ∈ TB := tb_of 6 (by decide +kernel) rfl
theorem in3 : Cond.instantiable RX3 2 ∈ TB := tb_of 22 (by decide +kernel) rfl
theorem iz3 : Cond.initialized RX3 ∈ TB := tb_of 2 (by decide +kernel) rfl
theorem in4 : Cond.instantiable RX4 2 ∈ TB := tb_of 84 (by decide +kernel) rfl
theorem iz4 : Cond.initialized RX4 ∈ TB := tb_of 5 (by decide +kernel) rfl
theorem in5 : Cond.instantiable RX5 5 ∈ TB := tb_of 37 (by decide +kernel) rfl
theorem iz5 : Cond.initialized RX5 ∈ TB := tb_of 3 (by decide +kernel) rfl
theorem in6 : Cond.instantiable RX6 5 ∈ TB := tb_of 43 (by decide +kernel) rfl
theorem iz6 : Cond.initialized RX6 ∈ TB := tb_of 4 (by decide +kernel) rfl
theorem in7 : Cond.instantiable RX7 2 ∈ TB := tb_of 199 (by decide +kernel) rfl
theorem iz7 : Cond.initialized RX7 ∈ TB := tb_of 10 (by decide +kernel) rfl
theorem in8 : Cond.instantiable RX8 12 ∈ TB := tb_of 179 (by decide +kernel) rfl
theorem iz8 : Cond.initialized RX8 ∈ TB := tb_of 8 (by decide +kernel) rfl
theorem in9 : Cond.instantiable RX9 5 ∈ TB := tb_of 14 (by decide +kernel) rfl
theorem iz9 : Cond.initialized RX9 ∈ TB := tb_of 1 (by decide +kernel) rfl
theorem in10 : Cond.instantiable RX10 66 ∈ TB := tb_of 739 (by decide +kernel) rfl
theorem iz10 : Cond.initialized RX10 ∈ TB := tb_of 11 (by decide +kernel) rfl
theorem klX3_27 : Cond.constantLong RX3 27 (255) ∈ TB := tb_of 279 (by decide +kernel) rfl
theorem klX6_62 : Cond.constantLong RX6 62 (10) ∈ TB := tb_of 315 (by decide +kernel) rfl
theorem klX6_64 : Cond.constantLong RX6 64 (435610083700) ∈ TB := tb_of 326 (by decide +kernel) rfl
theorem klX6_66 : Cond.constantLong RX6 66 (435610937463) ∈ TB := tb_of 327 (by decide +kernel) rfl
theorem klX6_68 : Cond.constantLong RX6 68 (1937207154) ∈ TB := tb_of 328 (by decide +kernel) rfl
theorem klX6_70 : Cond.constantLong RX6 70 (7173491) ∈ TB := tb_of 329 (by decide +kernel) rfl
theorem klX6_72 : Cond.constantLong RX6 72 (105) ∈ TB := tb_of 330 (by decide +kernel) rfl
theorem klX2_47 : Cond.constantLong RX2 47 (200) ∈ TB := tb_of 517 (by decide +kernel) rfl
theorem klX8_129 : Cond.constantLong RX8 129 (-9) ∈ TB := tb_of 556 (by decide +kernel) rfl
theorem klX8_149 : Cond.constantLong RX8 149 (200) ∈ TB := tb_of 566 (by decide +kernel) rfl
theorem klX0_40 : Cond.constantLong RX0 40 (48) ∈ TB := tb_of 604 (by decide +kernel) rfl
theorem klX7_16 : Cond.constantLong RX7 16 (-1) ∈ TB := tb_of 639 (by decide +kernel) rfl
theorem klX9_115 : Cond.constantLong RX9 115 (-1) ∈ TB := tb_of 661 (by decide +kernel) rfl
theorem klX9_117 : Cond.constantLong RX9 117 (1000) ∈ TB := tb_of 662 (by decide +kernel) rfl
theorem klX9_119 : Cond.constantLong RX9 119 (-2) ∈ TB := tb_of 663 (by decide +kernel) rfl
theorem klX7_18 : Cond.constantLong RX7 18 (4294967295) ∈ TB := tb_of 672 (by decide +kernel) rfl
theorem klX10_151 : Cond.constantLong RX10 151 (255) ∈ TB := tb_of 948 (by decide +kernel) rfl
theorem klX10_157 : Cond.constantLong RX10 157 (105) ∈ TB := tb_of 971 (by decide +kernel) rfl
theorem klX10_159 : Cond.constantLong RX10 159 (7173491) ∈ TB := tb_of 972 (by decide +kernel) rfl
theorem klX10_161 : Cond.constantLong RX10 161 (1937207154) ∈ TB := tb_of 973 (by decide +kernel) rfl
theorem klX10_163 : Cond.constantLong RX10 163 (435610937463) ∈ TB := tb_of 974 (by decide +kernel) rfl
theorem klX10_165 : Cond.constantLong RX10 165 (435610083700) ∈ TB := tb_of 975 (by decide +kernel) rfl
theorem klX10_189 : Cond.constantLong RX10 189 (10) ∈ TB := tb_of 983 (by decide +kernel) rfl
theorem klX10_191 : Cond.constantLong RX10 191 (48) ∈ TB := tb_of 984 (by decide +kernel) rfl
theorem klX10_222 : Cond.constantLong RX10 222 (-1) ∈ TB := tb_of 1008 (by decide +kernel) rfl
theorem klX10_322 : Cond.constantLong RX10 322 (200) ∈ TB := tb_of 1127 (by decide +kernel) rfl
theorem klX10_352 : Cond.constantLong RX10 352 (4294967295) ∈ TB := tb_of 1136 (by decide +kernel) rfl
theorem klX10_378 : Cond.constantLong RX10 378 (2) ∈ TB := tb_of 1153 (by decide +kernel) rfl
theorem klX10_380 : Cond.constantLong RX10 380 (1000) ∈ TB := tb_of 1154 (by decide +kernel) rfl
theorem klX10_382 : Cond.constantLong RX10 382 (-2) ∈ TB := tb_of 1155 (by decide +kernel) rfl
theorem klL_13 : Cond.constantLong RL 13 (4294967295) ∈ TB := tb_of 1188 (by decide +kernel) rfl
theorem ak_byte : Cond.arrayClass .byte ∈ TB := tb_of 35 (by decide +kernel) rfl
theorem ak_boolean : Cond.arrayClass .boolean ∈ TB := tb_of 943 (by decide +kernel) rfl
theorem ak_int : Cond.arrayClass .int ∈ TB := tb_of 117 (by decide +kernel) rfl
theorem ak_long : Cond.arrayClass .long ∈ TB := tb_of 118 (by decide +kernel) rfl
theorem ao_tb : Cond.arrayOver (.object RX2) ∈ lw_tbl := List.mem_append_right _ (List.mem_of_getElem? (i := 90) (by decide +kernel))
theorem oi_tb : Cond.instanceMethod objectInit ∈ TB := tb_of 19 (by decide +kernel) rfl
set_option maxRecDepth 100000 in
theorem oc_tb : Cond.code objectInit ⟨#[0xb1]⟩ 1 none ∈ TB := tb_of 20 rfl rfl
end
section
/-! the picture of memory: numbers by family, member, place; and the judgement X: from here the method ends as its context says -/
abbrev PV : Type := Int ⊕ Int ⊕ Option (Nat × Nat)
abbrev vI (x : Int) : PV := .inl x
abbrev vL (x : Int) : PV := .inr (.inl x)
abbrev vR (f k : Nat) : PV := .inr (.inr (some (f, k)))
abbrev vN : PV := .inr (.inr none)
abbrev Mm : Type := Nat → Nat → Nat → Int
def up3 (σ : Mm) (f k j : Nat) (x : Int) : Mm := fun f' k' j' => if f' = f ∧ k' = k ∧ j' = j then x else σ f' k' j'
def up2 (σ : Mm) (f k : Nat) (g : Nat → Int) : Mm := fun f' k' => if f' = f ∧ k' = k then g else σ f' k'
def up1 (g : Nat → Int) (j : Nat) (x : Int) : Nat → Int := fun j' => if j' = j then x else g j'
theorem up3_up2 (σ : Mm) (f k j : Nat) (x : Int) : up3 σ f k j x = up2 σ f k (up1 (σ f k) j x) := by
  funext f' k' j'
  unfold up3 up2 up1
  by_cases h : f' = f ∧ k' = k
  · obtain ⟨rfl, rfl⟩ := h
    by_cases h2 : j' = j <;> simp [h2]
  · have h3 : ¬ (f' = f ∧ k' = k ∧ j' = j) := fun q => h ⟨q.1, q.2.1⟩
    simp [h, h3]
/-- a place's number as a value -/
def vv (bs : Nat) : PV → Value
  | .inl x => .int (Int32.ofInt x)
  | .inr (.inl x) => .long (Int64.ofInt x)
  | .inr (.inr (some (f, k))) => .ref (bs + num f k)
  | .inr (.inr none) => .null
def pcat : PV → Nat
  | .inr (.inl _) => 2
  | _ => 1
theorem vv_cat (bs : Nat) (v : PV) : (vv bs v).category = pcat v := by
  rcases v with x | x | ⟨⟨f, k⟩⟩ | _ <;> rfl
/-- the member that a final field of member k names -/
def fmem (code k : Nat) : Nat := if 700 ≤ code then k else if 600 ≤ code then 1 else 0
/-- what a field of this code holds -/
def pv (ph code k : Nat) (x : Int) : PV :=
  if code = 0 then vI x else if code = 1 then vL x else if code = 2 then vI x
  else if code < 500 then (if x < 0 then vN else vR (code - 10) x.toNat)
  else if ph = 0 then (if x < 0 then vN else vR (code % 100) x.toNat)
  else vR (code % 100) (fmem code k)
def rfo (bs ph k j : Nat) (x : Int) : Option Nat := if ph = 0 then (if x < 0 then none else some (bs + num 5 x.toNat)) else some (bs + num 5 (12 * k + j))
def cel (ca : Nat → ClassId) (bs ph f k : Nat) (g : Nat → Int) : va_E :=
  if (kd f).1 = 0 then .inr ((kd f).2, (tyT.getD f []).mapIdx (fun j t => vv bs (pv ph t k (g j))))
  else if (kd f).1 = 4 then .inl (ca 3, (kd f).2, .inr (.inl (fun j => Int64.ofInt (g j))))
  else if (kd f).1 = 5 then .inl (ca 4, (kd f).2, .inr (.inr (.inr (.inr (fun j => rfo bs ph k j (g j))))))
  else .inl (ca ((kd f).1 - 1), (kd f).2, .inl (fun j => Int32.ofInt (g j)))
def wo (ca : Nat → ClassId) (bs ph n : Nat) (σ : Mm) : va_W := (ALL.take n).map (fun q => (bs + num q.1 q.2, cel ca bs ph q.1 q.2 (σ q.1 q.2)))
/-- a cell that is there -/
def Lv (n f k : Nat) : Prop := k < cnt f ∧ num f k < n
theorem wo_at {ca : Nat → ClassId} {bs ph n f k : Nat} {σ : Mm} (h : Lv n f k) : (wo ca bs ph n σ)[num f k]? = some (bs + num f k, cel ca bs ph f k (σ f k)) := by
  unfold wo
  rw [List.getElem?_map, List.getElem?_take, if_pos h.2, all_num h.1]
  rfl
theorem wo_set {ca : Nat → ClassId} {bs ph n f k : Nat} {σ : Mm} {g : Nat → Int} (h : Lv n f k) : (wo ca bs ph n σ).set (num f k) (bs + num f k, cel ca bs ph f k g) = wo ca bs ph n (up2 σ f k g) := by
  apply List.ext_getElem?
  intro i
  by_cases hi : i = num f k
  · subst hi
    rw [wo_at (σ := up2 σ f k g) h, List.getElem?_set_self (List.getElem?_eq_some_iff.mp (wo_at (ca := ca) (bs := bs) (ph := ph) (σ := σ) h)).1]
    simp [up2]
  · rw [List.getElem?_set_ne (Ne.symm hi)]
    unfold wo
    rw [List.getElem?_map, List.getElem?_map]
    cases hq : (ALL.take n)[i]? with
    | none => rfl
    | some q =>
      rw [List.getElem?_take] at hq
      split at hq
      · have h2 := all_inv hq
        have hne : ¬ (q.1 = f ∧ q.2 = k) := fun z => hi (by rw [← h2.1, z.1, z.2])
        simp [up2, hne]
      · cases hq
theorem wo_succ {ca : Nat → ClassId} {bs ph n f k : Nat} {σ : Mm} (h : ALL[n]? = some (f, k)) : wo ca bs ph (n + 1) σ = wo ca bs ph n σ ++ [(bs + num f k, cel ca bs ph f k (σ f k))] := by
  unfold wo
  rw [List.take_add_one, h]
  simp
theorem wo_D (ca : Nat → ClassId) (bs ph n : Nat) (σ : Mm) : va_D (fun q => bs ≤ q) (wo ca bs ph n σ) := by
  have key : ∀ (i : Nat) (p : Nat × va_E), (wo ca bs ph n σ)[i]? = some p → p.1 = bs + i := by
    intro i p hp
    unfold wo at hp
    rw [List.getElem?_map] at hp
    cases hq : (ALL.take n)[i]? with
    | none => rw [hq] at hp; cases hp
    | some q =>
      rw [hq] at hp
      rw [List.getElem?_take] at hq
      split at hq
      · cases hp
        show bs + num q.1 q.2 = bs + i
        rw [(all_inv hq).1]
      · cases hq
  refine ⟨fun i j p q hp hq hpq => ?_, fun k q hk => ?_⟩
  · have h1 := key i p hp
    have h2 := key j q hq
    omega
  · show bs ≤ q.1
    rw [key k q hk]
    omega
def tyl (ca : Nat → ClassId) : List (ClassId × FieldType) := [(ca 0, .int), (ca 1, .byte), (ca 2, .boolean), (ca 3, .long), (ca 4, .object RX2)]
/-- what the tables say at a state: classes, array classes, nest mates -/
def KK (D : va_G) (ca : Nat → ClassId) (U : State) : Prop := va_K D vwCl (tyl ca) U ∧ va_AO RX2 U ∧ ∀ w ∈ nestL, va_Nw w U
theorem nest_kind : ∀ w ∈ nestL, ∃ a i x h, w = .methodLinkNest a i x h := by
  intro w hw
  simp only [nestL, List.mem_cons, List.not_mem_nil, or_false] at hw
  rcases hw with rfl | rfl | rfl | rfl | rfl | rfl | rfl | rfl | rfl | rfl | rfl <;> exact ⟨_, _, _, _, rfl⟩
theorem KK.warm {D : va_G} {ca : Nat → ClassId} {s U : State} (hW : s.WarmedH U.vm) (h : KK D ca s) : KK D ca U := by
  refine ⟨va_K.moved hW.alike h.1, va_AO.moved hW.alike h.2.1, fun w hw => ?_⟩
  obtain ⟨a, i, x, hh, rfl⟩ := nest_kind w hw
  exact va_Nw.warmM hW (h.2.2 _ hw)
theorem KK.same {D : va_G} {ca : Nat → ClassId} {s U : State} (hv : s.vm = U.vm) (h : KK D ca s) : KK D ca U := by
  have ha : s.vm.Alike U.vm := by rw [hv]; exact Vm.Alike.refl _
  refine ⟨va_K.moved ha h.1, va_AO.moved ha h.2.1, fun w hw => ?_⟩
  obtain ⟨a, i, x, hh, rfl⟩ := nest_kind w hw
  exact va_Nw.same rfl hv (h.2.2 _ hw)
/-- memory's picture at a heap, what has not changed since the start of the method -/
def Rl (D : va_G) (ca : Nat → ClassId) (bs ph n : Nat) (σ : Mm) (H0 H : Heap) (locs : List Loc) : Prop := H.size = bs + n ∧ va_P D vwCl (wo ca bs ph n σ) H ∧ va_S (fun q => bs ≤ q) H0 H locs
abbrev Cx : Type := Program × Launch × Env × Room × State × MethodId × Array Value × List Frame × Method × Code × (State → Prop) × va_G × (Nat → ClassId) × Nat
def lvs (bs : Nat) (ls : List (Nat × PV)) : List (Nat × Value) := ls.map (fun q => (q.1, vv bs q.2))
def X : Cx → Nat → Nat → List (Nat × PV) → List PV → Nat → Mm → Nat → Nat → Prop
  | (p, l, e, R, s, m, args, below, meth, c, Q, D, ca, bs), ph, pc, ls, st, n, σ, nc, ns => ∀ (H : Heap) (locs : List Loc) (lm : Array Slot), Rl D ca bs ph n σ s.heap H locs → lv_has lm c.maxLocals (lvs bs ls) → W p l e R s m args below meth c H locs nc ns Q (F0 m pc lm (st.map (vv bs)))
/-- the context of a method: class, code, locals, depth -/
def Ok : Cx → String → ByteArray → Nat → Nat → Prop
  | (p, l, e, R, s, m, args, below, meth, c, Q, D, ca, bs), own, cc, nL, d => p.tables.exec = Jvm.exec ∧ c.code = cc ∧ c.maxLocals = nL ∧ s.vm.findClass own = some m.cls ∧ (∀ w ∈ TB, w.before args s = true) ∧ KK D ca s ∧ bs ≤ s.heap.size ∧ d ≤ R.frames ∧ 64 * d ≤ R.locals
/-- locals: read, write, fewer -/
def lget : List (Nat × PV) → Nat → Option PV
  | [], _ => none
  | (j, v) :: r, i => if j = i then some v else lget r i
def lput1 (i : Nat) (v : PV) (ls : List (Nat × PV)) : List (Nat × PV) := (i, v) :: ls.filter (fun q => !(q.1 == i) && !(q.1 + 1 == i && pcat q.2 == 2))
def lput2 (i : Nat) (v : PV) (ls : List (Nat × PV)) : List (Nat × PV) := (i, v) :: ls.filter (fun q => !(q.1 == i) && (!(q.1 == i + 1) && !(q.1 + 1 == i && pcat q.2 == 2)))
def lsub : List (Nat × PV) → List (Nat × PV) → Prop
  | [], _ => True
  | (i, v) :: r, ls => lget ls i = some v ∧ lsub r ls
theorem lget_mem : ∀ {ls : List (Nat × PV)} {i : Nat} {v : PV}, lget ls i = some v → (i, v) ∈ ls
  | [], i, v, h => by cases h
  | (j, w) :: r, i, v, h => by
    unfold lget at h
    split at h
    · next e => subst e; cases h; exact List.mem_cons_self
    · exact List.mem_cons_of_mem _ (lget_mem h)
theorem lv_get {bs nL : Nat} {lm : Array Slot} {ls : List (Nat × PV)} {i : Nat} {v : PV} (h : lv_has lm nL (lvs bs ls)) (hg : lget ls i = some v) : lm[i]? = some (.val (vv bs v)) := h.2.2 (i, vv bs v) (List.mem_map.mpr ⟨(i, v), lget_mem hg, rfl⟩)
theorem lvs_1 (bs i : Nat) (v : PV) (ls : List (Nat × PV)) : (i, vv bs v) :: (lvs bs ls).filter (fun q => !(q.1 == i) && !(q.1 + 1 == i && q.2.category == 2)) = lvs bs (lput1 i v ls) := by
  unfold lvs lput1
  rw [List.filter_map, List.map_cons]
  congr 2
  apply List.filter_congr
  intro q _
  simp [Function.comp, vv_cat]
theorem lvs_2 (bs i : Nat) (v : PV) (ls : List (Nat × PV)) : (i, vv bs v) :: (lvs bs ls).filter (fun q => !(q.1 == i) && (!(q.1 == i + 1) && !(q.1 + 1 == i && q.2.category == 2))) = lvs bs (lput2 i v ls) := by
  unfold lvs lput2
  rw [List.filter_map, List.map_cons]
  congr 2
  apply List.filter_congr
  intro q _
  simp [Function.comp, vv_cat]
theorem lsub_has {bs nL : Nat} {lm : Array Slot} : ∀ {r ls : List (Nat × PV)}, lsub r ls → lv_has lm nL (lvs bs ls) → lv_has lm nL (lvs bs r) := by
  intro r ls h hl
  refine ⟨hl.1, hl.2.1, ?_⟩
  induction r with
  | nil => intro q hq; cases hq
  | cons a r ih =>
    obtain ⟨i, v⟩ := a
    obtain ⟨h1, h2⟩ := h
    intro q hq
    rcases List.mem_cons.mp hq with rfl | hq
    · exact lv_get hl h1
    · exact ih h2 q hq
section ROWS
variable {C : Cx} {own : String} {cc : ByteArray} {nL d ph pc n nc ns : Nat} {ls : List (Nat × PV)} {st : List PV} {σ : Mm}
theorem x_loc {ls' : List (Nat × PV)} (h : lsub ls' ls) (k : X C ph pc ls' st n σ nc ns) : X C ph pc ls st n σ nc ns := by
  obtain ⟨p, l, e, R, s, m, args, below, meth, c, Q, D, ca, bs⟩ := C
  intro H locs lm hR hl
  exact k H locs lm hR (lsub_has h hl)
theorem x_mem {σ' : Mm} (h : σ = σ') (k : X C ph pc ls st n σ' nc ns) : X C ph pc ls st n σ nc ns := h ▸ k
theorem x_iload (h : Ok C own cc nL d) {i : Nat} {x : Int} (hd : decode cc pc = .ok (.iload i, 2)) (hl : lget ls i = some (vI x)) (k : X C ph (pc + 2) ls (vI x :: st) n σ nc ns) : X C ph pc ls st n σ nc ns := by
  obtain ⟨p, l, e, R, s, m, args, below, meth, c, Q, D, ca, bs⟩ := C
  intro H locs lm hR hm
  exact lv_iload h.1 h.2.1 hd (lv_get hm hl) (k H locs lm hR hm)
theorem x_iload_n (h : Ok C own cc nL d) {i : Fin 4} {x : Int} (hd : decode cc pc = .ok (.iload_n i, 1)) (hl : lget ls i.val = some (vI x)) (k : X C ph (pc + 1) ls (vI x :: st) n σ nc ns) : X C ph pc ls st n σ nc ns := by
  obtain ⟨p, l, e, R, s, m, args, below, meth, c, Q, D, ca, bs⟩ := C
  intro H locs lm hR hm
  exact lv_iload_n h.1 h.2.1 hd rfl (lv_get hm hl) (k H locs lm hR hm)
theorem x_lload (h : Ok C own cc nL d) {i : Nat} {x : Int} (hd : decode cc pc = .ok (.lload i, 2)) (hl : lget ls i = some (vL x)) (k : X C ph (pc + 2) ls (vL x :: st) n σ nc ns) : X C ph pc ls st n σ nc ns := by
  obtain ⟨p, l, e, R, s, m, args, below, meth, c, Q, D, ca, bs⟩ := C
  intro H locs lm hR hm
  exact lv_lload h.1 h.2.1 hd (lv_get hm hl) (k H locs lm hR hm)
theorem x_lload_n (h : Ok C own cc nL d) {i : Fin 4} {x : Int} (hd : decode cc pc = .ok (.lload_n i, 1)) (hl : lget ls i.val = some (vL x)) (k : X C ph (pc + 1) ls (vL x :: st) n σ nc ns) : X C ph pc ls st n σ nc ns := by
  obtain ⟨p, l, e, R, s, m, args, below, meth, c, Q, D, ca, bs⟩ := C
  intro H locs lm hR hm
  exact lv_lload_n h.1 h.2.1 hd rfl (lv_get hm hl) (k H locs lm hR hm)
theorem x_aload (h : Ok C own cc nL d) {i f j : Nat} (hd : decode cc pc = .ok (.aload i, 2)) (hl : lget ls i = some (vR f j)) (k : X C ph (pc + 2) ls (vR f j :: st) n σ nc ns) : X C ph pc ls st n σ nc ns := by
  obtain ⟨p, l, e, R, s, m, args, below, meth, c, Q, D, ca, bs⟩ := C
  intro H locs lm hR hm
  exact lv_aload h.1 h.2.1 hd (lv_get hm hl) (k H locs lm hR hm)
theorem x_aload_n (h : Ok C own cc nL d) {i : Fin 4} {f j : Nat} (hd : decode cc pc = .ok (.aload_n i, 1)) (hl : lget ls i.val = some (vR f j)) (k : X C ph (pc + 1) ls (vR f j :: st) n σ nc ns) : X C ph pc ls st n σ nc ns := by
  obtain ⟨p, l, e, R, s, m, args, below, meth, c, Q, D, ca, bs⟩ := C
  intro H locs lm hR hm
  exact lv_aload_n h.1 h.2.1 hd rfl (lv_get hm hl) (k H locs lm hR hm)
theorem x_istore (h : Ok C own cc nL d) {i : Nat} {x : Int} (hd : decode cc pc = .ok (.istore i, 2)) (hi : i < nL) (k : X C ph (pc + 2) (lput1 i (vI x) ls) st n σ nc ns) : X C ph pc ls (vI x :: st) n σ nc ns := by
  obtain ⟨p, l, e, R, s, m, args, below, meth, c, Q, D, ca, bs⟩ := C
  intro H locs lm hR hm
  exact lv_istore h.1 h.2.1 hd hm (h.2.2.1 ▸ hi) (lvs_1 bs i (vI x) ls) (fun ls' hl' => k H locs ls' hR hl')
theorem x_istore_n (h : Ok C own cc nL d) {i : Fin 4} {x : Int} (hd : decode cc pc = .ok (.istore_n i, 1)) (hi : i.val < nL) (k : X C ph (pc + 1) (lput1 i.val (vI x) ls) st n σ nc ns) : X C ph pc ls (vI x :: st) n σ nc ns := by
  obtain ⟨p, l, e, R, s, m, args, below, meth, c, Q, D, ca, bs⟩ := C
  intro H locs lm hR hm
  exact lv_istore_n h.1 h.2.1 hd rfl hm (h.2.2.1 ▸ hi) (lvs_1 bs i.val (vI x) ls) (fun ls' hl' => k H locs ls' hR hl')
theorem x_lstore (h : Ok C own cc nL d) {i : Nat} {x : Int} (hd : decode cc pc = .ok (.lstore i, 2)) (hi : i + 1 < nL) (k : X C ph (pc + 2) (lput2 i (vL x) ls) st n σ nc ns) : X C ph pc ls (vL x :: st) n σ nc ns := by
  obtain ⟨p, l, e, R, s, m, args, below, meth, c, Q, D, ca, bs⟩ := C
  intro H locs lm hR hm
  exact lv_lstore h.1 h.2.1 hd hm (h.2.2.1 ▸ hi) (lvs_2 bs i (vL x) ls) (fun ls' hl' => k H locs ls' hR hl')
theorem x_lstore_n (h : Ok C own cc nL d) {i : Fin 4} {x : Int} (hd : decode cc pc = .ok (.lstore_n i, 1)) (hi : i.val + 1 < nL) (k : X C ph (pc + 1) (lput2 i.val (vL x) ls) st n σ nc ns) : X C ph pc ls (vL x :: st) n σ nc ns := by
  obtain ⟨p, l, e, R, s, m, args, below, meth, c, Q, D, ca, bs⟩ := C
  intro H locs lm hR hm
  exact lv_lstore_n h.1 h.2.1 hd rfl hm (h.2.2.1 ▸ hi) (lvs_2 bs i.val (vL x) ls) (fun ls' hl' => k H locs ls' hR hl')
theorem x_astore (h : Ok C own cc nL d) {i f j : Nat} (hd : decode cc pc = .ok (.astore i, 2)) (hi : i < nL) (k : X C ph (pc + 2) (lput1 i (vR f j) ls) st n σ nc ns) : X C ph pc ls (vR f j :: st) n σ nc ns := by
  obtain ⟨p, l, e, R, s, m, args, below, meth, c, Q, D, ca, bs⟩ := C
  intro H locs lm hR hm
  exact lv_astore h.1 h.2.1 hd hm (h.2.2.1 ▸ hi) (lvs_1 bs i (vR f j) ls) (fun ls' hl' => k H locs ls' hR hl')
theorem x_astore_n (h : Ok C own cc nL d) {i : Fin 4} {f j : Nat} (hd : decode cc pc = .ok (.astore_n i, 1)) (hi : i.val < nL) (k : X C ph (pc + 1) (lput1 i.val (vR f j) ls) st n σ nc ns) : X C ph pc ls (vR f j :: st) n σ nc ns := by
  obtain ⟨p, l, e, R, s, m, args, below, meth, c, Q, D, ca, bs⟩ := C
  intro H locs lm hR hm
  exact lv_astore_n h.1 h.2.1 hd rfl hm (h.2.2.1 ▸ hi) (lvs_1 bs i.val (vR f j) ls) (fun ls' hl' => k H locs ls' hR hl')
theorem x_iinc (h : Ok C own cc nL d) {i : Nat} {v x : Int} (hd : decode cc pc = .ok (.iinc i v, 3)) (hl : lget ls i = some (vI x)) (hi : i < nL) (k : X C ph (pc + 3) (lput1 i (vI (x + v)) ls) st n σ nc ns) : X C ph pc ls st n σ nc ns := by
  obtain ⟨p, l, e, R, s, m, args, below, meth, c, Q, D, ca, bs⟩ := C
  intro H locs lm hR hm
  obtain ⟨k0, hk0⟩ := List.getElem?_of_mem (List.mem_map.mpr ⟨(i, vI x), lget_mem hl, rfl⟩ : (i, vv bs (vI x)) ∈ lvs bs ls)
  exact lv_iinc (x := Int32.ofInt x) h.1 h.2.1 hd hm hk0 (Int32.ofInt_add _ _).symm (h.2.2.1 ▸ hi) (lvs_1 bs i (vI (x + v)) ls) (fun ls' hl' => k H locs ls' hR hl')
theorem x_iconst (h : Ok C own cc nL d) {v : Int} (hd : decode cc pc = .ok (.iconst v, 1)) (k : X C ph (pc + 1) ls (vI v :: st) n σ nc ns) : X C ph pc ls st n σ nc ns := by
  obtain ⟨p, l, e, R, s, m, args, below, meth, c, Q, D, ca, bs⟩ := C
  intro H locs lm hR hm
  exact lv_iconst h.1 h.2.1 hd rfl (k H locs lm hR hm)
theorem x_bipush (h : Ok C own cc nL d) {v : Int} (hd : decode cc pc = .ok (.bipush v, 2)) (hv : (Int8.ofInt v).toInt32 = Int32.ofInt v) (k : X C ph (pc + 2) ls (vI v :: st) n σ nc ns) : X C ph pc ls st n σ nc ns := by
  obtain ⟨p, l, e, R, s, m, args, below, meth, c, Q, D, ca, bs⟩ := C
  intro H locs lm hR hm
  exact lv_bipush h.1 h.2.1 hd hv (k H locs lm hR hm)
theorem x_sipush (h : Ok C own cc nL d) {v : Int} (hd : decode cc pc = .ok (.sipush v, 3)) (hv : (Int16.ofInt v).toInt32 = Int32.ofInt v) (k : X C ph (pc + 3) ls (vI v :: st) n σ nc ns) : X C ph pc ls st n σ nc ns := by
  obtain ⟨p, l, e, R, s, m, args, below, meth, c, Q, D, ca, bs⟩ := C
  intro H locs lm hR hm
  exact lv_sipush h.1 h.2.1 hd hv (k H locs lm hR hm)
theorem x_lconst (h : Ok C own cc nL d) {v : Fin 2} (hd : decode cc pc = .ok (.lconst v, 1)) (k : X C ph (pc + 1) ls (vL v.val :: st) n σ nc ns) : X C ph pc ls st n σ nc ns := by
  obtain ⟨p, l, e, R, s, m, args, below, meth, c, Q, D, ca, bs⟩ := C
  intro H locs lm hR hm
  exact lv_lconst h.1 h.2.1 hd rfl (k H locs lm hR hm)
theorem x_ldc2 (h : Ok C own cc nL d) {i : Nat} {v : Int64} {x : Int} (hd : decode cc pc = .ok (.ldc2_w i, 3)) (hw : Cond.constantLong own i v ∈ TB) (hv : v = Int64.ofInt x) (k : X C ph (pc + 3) ls (vL x :: st) n σ nc ns) : X C ph pc ls st n σ nc ns := by
  obtain ⟨p, l, e, R, s, m, args, below, meth, c, Q, D, ca, bs⟩ := C
  intro H locs lm hR hm
  subst hv
  exact lv_ldc2 h.1 h.2.1 h.2.2.2.1 (h.2.2.2.2.1 _ hw) hd (k H locs lm hR hm)
end ROWS
end
section
/-! rows of X: arithmetic, branches -/
def w64 (x : Int) : Int := (Int64.ofInt x).toInt
def w32 (x : Int) : Int := (Int32.ofInt x).toInt
theorem w64_id {x : Int} (h : -9223372036854775808 ≤ x ∧ x < 9223372036854775808) : w64 x = x := Int64.toInt_ofInt_of_le (by omega) (by omega)
theorem w32_id {x : Int} (h : -2147483648 ≤ x ∧ x < 2147483648) : w32 x = x := Int32.toInt_ofInt_of_le (by omega) (by omega)
theorem w64_range (x : Int) : -9223372036854775808 ≤ w64 x ∧ w64 x < 9223372036854775808 := by
  have h1 := Int64.le_toInt (Int64.ofInt x)
  have h2 := Int64.toInt_lt (Int64.ofInt x)
  unfold w64
  omega
theorem of_w64 (x : Int) : Int64.ofInt (w64 x) = Int64.ofInt x := Int64.ofInt_toInt _
theorem of_w32 (x : Int) : Int32.ofInt (w32 x) = Int32.ofInt x := Int32.ofInt_toInt _
theorem i32_eq {x y : Int} (hx : -2147483648 ≤ x ∧ x < 2147483648) (hy : -2147483648 ≤ y ∧ y < 2147483648) : Int32.ofInt x = Int32.ofInt y ↔ x = y := by
  rw [← Int32.toInt_inj, Int32.toInt_ofInt_of_le (by omega) (by omega), Int32.toInt_ofInt_of_le (by omega) (by omega)]
theorem i32_lt {x y : Int} (hx : -2147483648 ≤ x ∧ x < 2147483648) (hy : -2147483648 ≤ y ∧ y < 2147483648) : Int32.ofInt x < Int32.ofInt y ↔ x < y := by
  rw [Int32.lt_iff_toInt_lt, Int32.toInt_ofInt_of_le (by omega) (by omega), Int32.toInt_ofInt_of_le (by omega) (by omega)]
theorem i32_le {x y : Int} (hx : -2147483648 ≤ x ∧ x < 2147483648) (hy : -2147483648 ≤ y ∧ y < 2147483648) : Int32.ofInt x ≤ Int32.ofInt y ↔ x ≤ y := by
  rw [Int32.le_iff_toInt_le, Int32.toInt_ofInt_of_le (by omega) (by omega), Int32.toInt_ofInt_of_le (by omega) (by omega)]
theorem i64_eq {x y : Int} (hx : -9223372036854775808 ≤ x ∧ x < 9223372036854775808) (hy : -9223372036854775808 ≤ y ∧ y < 9223372036854775808) : Int64.ofInt x = Int64.ofInt y ↔ x = y := by
  rw [← Int64.toInt_inj, Int64.toInt_ofInt_of_le (by omega) (by omega), Int64.toInt_ofInt_of_le (by omega) (by omega)]
theorem i64_lt {x y : Int} (hx : -9223372036854775808 ≤ x ∧ x < 9223372036854775808) (hy : -9223372036854775808 ≤ y ∧ y < 9223372036854775808) : Int64.ofInt x < Int64.ofInt y ↔ x < y := by
  rw [Int64.lt_iff_toInt_lt, Int64.toInt_ofInt_of_le (by omega) (by omega), Int64.toInt_ofInt_of_le (by omega) (by omega)]
theorem i32_0 : (0 : Int32) = Int32.ofInt 0 := by decide
theorem i64_0 : (0 : Int64) = Int64.ofInt 0 := by decide
def cmpI (a b : Int) : Int := if b < a then 1 else if a = b then 0 else -1
def andI (a b : Int) : Int := (Int32.ofInt a &&& Int32.ofInt b).toInt
def andL (a b : Int) : Int := (Int64.ofInt a &&& Int64.ofInt b).toInt
def orL (a b : Int) : Int := (Int64.ofInt a ||| Int64.ofInt b).toInt
def xorL (a b : Int) : Int := (Int64.ofInt a ^^^ Int64.ofInt b).toInt
def shlL (a b : Int) : Int := (Int64.ofInt a <<< ((Int32.ofInt b).toInt64 &&& 63)).toInt
def shrL (a b : Int) : Int := (Int64.ofInt a >>> ((Int32.ofInt b).toInt64 &&& 63)).toInt
def ushrL (a b : Int) : Int := ((Int64.ofInt a).toUInt64 >>> ((Int32.ofInt b).toInt64.toUInt64 &&& Int64.toUInt64 63)).toInt64.toInt
def w8 (x : Int) : Int := (Int32.ofInt x).toInt8.toInt
section ROWS2
variable {C : Cx} {own : String} {cc : ByteArray} {nL d ph pc n nc ns : Nat} {ls : List (Nat × PV)} {st : List PV} {σ : Mm}
theorem x_iadd (h : Ok C own cc nL d) {a b : Int} (hd : decode cc pc = .ok (.iadd, 1)) (k : X C ph (pc + 1) ls (vI (a + b) :: st) n σ nc ns) : X C ph pc ls (vI b :: vI a :: st) n σ nc ns := by
  obtain ⟨p, l, e, R, s, m, args, below, meth, c, Q, D, ca, bs⟩ := C
  intro H locs lm hR hm
  refine lv_iadd h.1 h.2.1 hd ?_
  rw [← Int32.ofInt_add]
  exact k H locs lm hR hm
theorem x_isub (h : Ok C own cc nL d) {a b : Int} (hd : decode cc pc = .ok (.isub, 1)) (k : X C ph (pc + 1) ls (vI (a - b) :: st) n σ nc ns) : X C ph pc ls (vI b :: vI a :: st) n σ nc ns := by
  obtain ⟨p, l, e, R, s, m, args, below, meth, c, Q, D, ca, bs⟩ := C
  intro H locs lm hR hm
  refine lv_isub h.1 h.2.1 hd ?_
  rw [← Int32.ofInt_sub]
  exact k H locs lm hR hm
theorem x_imul (h : Ok C own cc nL d) {a b : Int} (hd : decode cc pc = .ok (.imul, 1)) (k : X C ph (pc + 1) ls (vI (a * b) :: st) n σ nc ns) : X C ph pc ls (vI b :: vI a :: st) n σ nc ns := by
  obtain ⟨p, l, e, R, s, m, args, below, meth, c, Q, D, ca, bs⟩ := C
  intro H locs lm hR hm
  refine lv_imul h.1 h.2.1 hd ?_
  rw [← Int32.ofInt_mul]
  exact k H locs lm hR hm
theorem x_ladd (h : Ok C own cc nL d) {a b : Int} (hd : decode cc pc = .ok (.ladd, 1)) (k : X C ph (pc + 1) ls (vL (a + b) :: st) n σ nc ns) : X C ph pc ls (vL b :: vL a :: st) n σ nc ns := by
  obtain ⟨p, l, e, R, s, m, args, below, meth, c, Q, D, ca, bs⟩ := C
  intro H locs lm hR hm
  refine lv_ladd h.1 h.2.1 hd ?_
  rw [← Int64.ofInt_add]
  exact k H locs lm hR hm
theorem x_lsub (h : Ok C own cc nL d) {a b : Int} (hd : decode cc pc = .ok (.lsub, 1)) (k : X C ph (pc + 1) ls (vL (a - b) :: st) n σ nc ns) : X C ph pc ls (vL b :: vL a :: st) n σ nc ns := by
  obtain ⟨p, l, e, R, s, m, args, below, meth, c, Q, D, ca, bs⟩ := C
  intro H locs lm hR hm
  refine lv_lsub h.1 h.2.1 hd ?_
  rw [← Int64.ofInt_sub]
  exact k H locs lm hR hm
theorem x_lmul (h : Ok C own cc nL d) {a b : Int} (hd : decode cc pc = .ok (.lmul, 1)) (k : X C ph (pc + 1) ls (vL (a * b) :: st) n σ nc ns) : X C ph pc ls (vL b :: vL a :: st) n σ nc ns := by
  obtain ⟨p, l, e, R, s, m, args, below, meth, c, Q, D, ca, bs⟩ := C
  intro H locs lm hR hm
  refine lv_lmul h.1 h.2.1 hd ?_
  rw [← Int64.ofInt_mul]
  exact k H locs lm hR hm
theorem x_ineg (h : Ok C own cc nL d) {a : Int} (hd : decode cc pc = .ok (.ineg, 1)) (k : X C ph (pc + 1) ls (vI (-a) :: st) n σ nc ns) : X C ph pc ls (vI a :: st) n σ nc ns := by
  obtain ⟨p, l, e, R, s, m, args, below, meth, c, Q, D, ca, bs⟩ := C
  intro H locs lm hR hm
  refine lv_ineg h.1 h.2.1 hd ?_
  rw [← Int32.ofInt_neg]
  exact k H locs lm hR hm
theorem x_lneg (h : Ok C own cc nL d) {a : Int} (hd : decode cc pc = .ok (.lneg, 1)) (k : X C ph (pc + 1) ls (vL (-a) :: st) n σ nc ns) : X C ph pc ls (vL a :: st) n σ nc ns := by
  obtain ⟨p, l, e, R, s, m, args, below, meth, c, Q, D, ca, bs⟩ := C
  intro H locs lm hR hm
  refine lv_lneg h.1 h.2.1 hd ?_
  rw [← Int64.ofInt_neg]
  exact k H locs lm hR hm
theorem x_iand (h : Ok C own cc nL d) {a b : Int} (hd : decode cc pc = .ok (.iand, 1)) (k : X C ph (pc + 1) ls (vI (andI a b) :: st) n σ nc ns) : X C ph pc ls (vI b :: vI a :: st) n σ nc ns := by
  obtain ⟨p, l, e, R, s, m, args, below, meth, c, Q, D, ca, bs⟩ := C
  intro H locs lm hR hm
  refine lv_iand h.1 h.2.1 hd ?_
  rw [← Int32.ofInt_toInt (Int32.ofInt a &&& Int32.ofInt b)]
  exact k H locs lm hR hm
theorem x_land (h : Ok C own cc nL d) {a b : Int} (hd : decode cc pc = .ok (.land, 1)) (k : X C ph (pc + 1) ls (vL (andL a b) :: st) n σ nc ns) : X C ph pc ls (vL b :: vL a :: st) n σ nc ns := by
  obtain ⟨p, l, e, R, s, m, args, below, meth, c, Q, D, ca, bs⟩ := C
  intro H locs lm hR hm
  refine lv_land h.1 h.2.1 hd ?_
  rw [← Int64.ofInt_toInt (Int64.ofInt a &&& Int64.ofInt b)]
  exact k H locs lm hR hm
theorem x_lor (h : Ok C own cc nL d) {a b : Int} (hd : decode cc pc = .ok (.lor, 1)) (k : X C ph (pc + 1) ls (vL (orL a b) :: st) n σ nc ns) : X C ph pc ls (vL b :: vL a :: st) n σ nc ns := by
  obtain ⟨p, l, e, R, s, m, args, below, meth, c, Q, D, ca, bs⟩ := C
  intro H locs lm hR hm
  refine lv_lor h.1 h.2.1 hd ?_
  rw [← Int64.ofInt_toInt (Int64.ofInt a ||| Int64.ofInt b)]
  exact k H locs lm hR hm
theorem x_lxor (h : Ok C own cc nL d) {a b : Int} (hd : decode cc pc = .ok (.lxor, 1)) (k : X C ph (pc + 1) ls (vL (xorL a b) :: st) n σ nc ns) : X C ph pc ls (vL b :: vL a :: st) n σ nc ns := by
  obtain ⟨p, l, e, R, s, m, args, below, meth, c, Q, D, ca, bs⟩ := C
  intro H locs lm hR hm
  refine lv_lxor h.1 h.2.1 hd ?_
  rw [← Int64.ofInt_toInt (Int64.ofInt a ^^^ Int64.ofInt b)]
  exact k H locs lm hR hm
theorem x_lshl (h : Ok C own cc nL d) {a b : Int} (hd : decode cc pc = .ok (.lshl, 1)) (k : X C ph (pc + 1) ls (vL (shlL a b) :: st) n σ nc ns) : X C ph pc ls (vI b :: vL a :: st) n σ nc ns := by
  obtain ⟨p, l, e, R, s, m, args, below, meth, c, Q, D, ca, bs⟩ := C
  intro H locs lm hR hm
  exact lv_lshl h.1 h.2.1 hd (Int64.ofInt_toInt _).symm (k H locs lm hR hm)
theorem x_lshr (h : Ok C own cc nL d) {a b : Int} (hd : decode cc pc = .ok (.lshr, 1)) (k : X C ph (pc + 1) ls (vL (shrL a b) :: st) n σ nc ns) : X C ph pc ls (vI b :: vL a :: st) n σ nc ns := by
  obtain ⟨p, l, e, R, s, m, args, below, meth, c, Q, D, ca, bs⟩ := C
  intro H locs lm hR hm
  exact lv_lshr h.1 h.2.1 hd (Int64.ofInt_toInt _).symm (k H locs lm hR hm)
theorem x_lushr (h : Ok C own cc nL d) {a b : Int} (hd : decode cc pc = .ok (.lushr, 1)) (k : X C ph (pc + 1) ls (vL (ushrL a b) :: st) n σ nc ns) : X C ph pc ls (vI b :: vL a :: st) n σ nc ns := by
  obtain ⟨p, l, e, R, s, m, args, below, meth, c, Q, D, ca, bs⟩ := C
  intro H locs lm hR hm
  exact lv_lushr h.1 h.2.1 hd (Int64.ofInt_toInt _).symm (k H locs lm hR hm)
theorem x_i2l (h : Ok C own cc nL d) {a : Int} (hr : -2147483648 ≤ a ∧ a < 2147483648) (hd : decode cc pc = .ok (.i2l, 1)) (k : X C ph (pc + 1) ls (vL a :: st) n σ nc ns) : X C ph pc ls (vI a :: st) n σ nc ns := by
  obtain ⟨p, l, e, R, s, m, args, below, meth, c, Q, D, ca, bs⟩ := C
  intro H locs lm hR hm
  refine lv_i2l h.1 h.2.1 hd ?_ (k H locs lm hR hm)
  exact Int64.toInt_inj.mp (by rw [Int32.toInt_toInt64, Int32.toInt_ofInt_of_le (by omega) (by omega), Int64.toInt_ofInt_of_le (by omega) (by omega)])
theorem x_l2i (h : Ok C own cc nL d) {a : Int} (hd : decode cc pc = .ok (.l2i, 1)) (k : X C ph (pc + 1) ls (vI a :: st) n σ nc ns) : X C ph pc ls (vL a :: st) n σ nc ns := by
  obtain ⟨p, l, e, R, s, m, args, below, meth, c, Q, D, ca, bs⟩ := C
  intro H locs lm hR hm
  exact lv_l2i h.1 h.2.1 hd Int64.toInt32_ofInt (k H locs lm hR hm)
theorem x_i2b (h : Ok C own cc nL d) {a : Int} (hd : decode cc pc = .ok (.i2b, 1)) (k : X C ph (pc + 1) ls (vI (w8 a) :: st) n σ nc ns) : X C ph pc ls (vI a :: st) n σ nc ns := by
  obtain ⟨p, l, e, R, s, m, args, below, meth, c, Q, D, ca, bs⟩ := C
  intro H locs lm hR hm
  refine lv_i2b h.1 h.2.1 hd ?_ (k H locs lm hR hm)
  exact (Int32.ofInt_int8ToInt _).symm
theorem x_idivP (h : Ok C own cc nL d) {a b : Int} (hr : 0 ≤ a ∧ a < 2147483648 ∧ 0 < b ∧ b < 2147483648) (hd : decode cc pc = .ok (.idiv, 1)) (k : X C ph (pc + 1) ls (vI (a / b) :: st) n σ nc ns) : X C ph pc ls (vI b :: vI a :: st) n σ nc ns := by
  obtain ⟨p, l, e, R, s, m, args, below, meth, c, Q, D, ca, bs⟩ := C
  intro H locs lm hR hm
  refine lv_idiv h.1 h.2.1 hd ?_ ?_
  · rw [i32_0, i32_eq (by omega) (by omega)]; omega
  · have e : Int32.ofInt a / Int32.ofInt b = Int32.ofInt (a / b) := by
      rw [← Int.tdiv_eq_ediv_of_nonneg hr.1]
      have z1 : Int32.minValue.toInt = -2147483648 := by decide
      have z2 : Int32.maxValue.toInt = 2147483647 := by decide
      exact (Int32.ofInt_tdiv (by omega) (by omega) (by omega) (by omega)).symm
    rw [e]
    exact k H locs lm hR hm
theorem x_ldiv (h : Ok C own cc nL d) {a b : Int} (hr : -9223372036854775808 ≤ a ∧ a < 9223372036854775808 ∧ -9223372036854775808 ≤ b ∧ b < 9223372036854775808 ∧ b ≠ 0) (hd : decode cc pc = .ok (.ldiv, 1)) (k : X C ph (pc + 1) ls (vL (Int.tdiv a b) :: st) n σ nc ns) : X C ph pc ls (vL b :: vL a :: st) n σ nc ns := by
  obtain ⟨p, l, e, R, s, m, args, below, meth, c, Q, D, ca, bs⟩ := C
  intro H locs lm hR hm
  refine lv_ldiv h.1 h.2.1 hd ?_ ?_
  · rw [i64_0, i64_eq (by omega) (by omega)]; omega
  · have e : Int64.ofInt a / Int64.ofInt b = Int64.ofInt (Int.tdiv a b) := by
      have z1 : Int64.minValue.toInt = -9223372036854775808 := by decide
      have z2 : Int64.maxValue.toInt = 9223372036854775807 := by decide
      exact (Int64.ofInt_tdiv (by omega) (by omega) (by omega) (by omega)).symm
    rw [e]
    exact k H locs lm hR hm
theorem x_lrem (h : Ok C own cc nL d) {a b : Int} (hr : -9223372036854775808 ≤ a ∧ a < 9223372036854775808 ∧ -9223372036854775808 ≤ b ∧ b < 9223372036854775808 ∧ b ≠ 0) (hd : decode cc pc = .ok (.lrem, 1)) (k : X C ph (pc + 1) ls (vL (a - Int.tdiv a b * b) :: st) n σ nc ns) : X C ph pc ls (vL b :: vL a :: st) n σ nc ns := by
  obtain ⟨p, l, e, R, s, m, args, below, meth, c, Q, D, ca, bs⟩ := C
  intro H locs lm hR hm
  refine lv_lrem h.1 h.2.1 hd ?_ ?_
  · rw [i64_0, i64_eq (by omega) (by omega)]; omega
  · have e : Int64.ofInt a / Int64.ofInt b = Int64.ofInt (Int.tdiv a b) := by
      have z1 : Int64.minValue.toInt = -9223372036854775808 := by decide
      have z2 : Int64.maxValue.toInt = 9223372036854775807 := by decide
      exact (Int64.ofInt_tdiv (by omega) (by omega) (by omega) (by omega)).symm
    rw [e, ← Int64.ofInt_mul, ← Int64.ofInt_sub]
    exact k H locs lm hR hm
theorem x_lcmp (h : Ok C own cc nL d) {a b : Int} (hr : (-9223372036854775808 ≤ a ∧ a < 9223372036854775808) ∧ (-9223372036854775808 ≤ b ∧ b < 9223372036854775808)) (hd : decode cc pc = .ok (.lcmp, 1)) (k : X C ph (pc + 1) ls (vI (cmpI a b) :: st) n σ nc ns) : X C ph pc ls (vL b :: vL a :: st) n σ nc ns := by
  obtain ⟨p, l, e, R, s, m, args, below, meth, c, Q, D, ca, bs⟩ := C
  intro H locs lm hR hm
  refine W.lcmp h.1 h.2.1 hd ?_
  have e : lg_cmp (Int64.ofInt a) (Int64.ofInt b) = Int32.ofInt (cmpI a b) := by
    unfold lg_cmp cmpI
    simp only [gt_iff_lt, i64_lt hr.2 hr.1, i64_eq hr.1 hr.2]
    split
    · rfl
    · split <;> rfl
  rw [e]
  exact k H locs lm hR hm
theorem x_eqL {a b : Int} (hab : Int64.ofInt a = Int64.ofInt b) (k : X C ph pc ls (vL b :: st) n σ nc ns) : X C ph pc ls (vL a :: st) n σ nc ns := by
  obtain ⟨p, l, e, R, s, m, args, below, meth, c, Q, D, ca, bs⟩ := C
  intro H locs lm hR hm
  have e := k H locs lm hR hm
  simp only [List.map_cons, vv] at e ⊢
  rw [hab]
  exact e
theorem x_eqI {a b : Int} (hab : Int32.ofInt a = Int32.ofInt b) (k : X C ph pc ls (vI b :: st) n σ nc ns) : X C ph pc ls (vI a :: st) n σ nc ns := by
  obtain ⟨p, l, e, R, s, m, args, below, meth, c, Q, D, ca, bs⟩ := C
  intro H locs lm hR hm
  have e := k H locs lm hR hm
  simp only [List.map_cons, vv] at e ⊢
  rw [hab]
  exact e
theorem x_wL {a : Int} (k : X C ph pc ls (vL (w64 a) :: st) n σ nc ns) : X C ph pc ls (vL a :: st) n σ nc ns := x_eqL (of_w64 a).symm k
theorem x_dup (h : Ok C own cc nL d) {v : PV} (hd : decode cc pc = .ok (.dup, 1)) (hv : pcat v = 1) (k : X C ph (pc + 1) ls (v :: v :: st) n σ nc ns) : X C ph pc ls (v :: st) n σ nc ns := by
  obtain ⟨p, l, e, R, s, m, args, below, meth, c, Q, D, ca, bs⟩ := C
  intro H locs lm hR hm
  exact lv_dup h.1 h.2.1 hd ((vv_cat bs v).trans hv) (k H locs lm hR hm)
theorem x_pop (h : Ok C own cc nL d) {v : PV} (hd : decode cc pc = .ok (.pop, 1)) (hv : pcat v = 1) (k : X C ph (pc + 1) ls st n σ nc ns) : X C ph pc ls (v :: st) n σ nc ns := by
  obtain ⟨p, l, e, R, s, m, args, below, meth, c, Q, D, ca, bs⟩ := C
  intro H locs lm hR hm
  exact lv_pop h.1 h.2.1 hd ((vv_cat bs v).trans hv) (k H locs lm hR hm)
theorem x_dup2 (h : Ok C own cc nL d) {v u : PV} (hd : decode cc pc = .ok (.dup2, 1)) (hv : pcat v = 1) (hu : pcat u = 1) (k : X C ph (pc + 1) ls (v :: u :: v :: u :: st) n σ nc ns) : X C ph pc ls (v :: u :: st) n σ nc ns := by
  obtain ⟨p, l, e, R, s, m, args, below, meth, c, Q, D, ca, bs⟩ := C
  intro H locs lm hR hm
  exact lv_dup2_11 h.1 h.2.1 hd ((vv_cat bs v).trans hv) ((vv_cat bs u).trans hu) (k H locs lm hR hm)
theorem x_goto (h : Ok C own cc nL d) {off : Int} {tgt : Nat} (hd : decode cc pc = .ok (.goto off, 3)) (ht : (pc : Int) + off = (tgt : Int)) (k : X C ph tgt ls st n σ nc ns) : X C ph pc ls st n σ nc ns := by
  obtain ⟨p, l, e, R, s, m, args, below, meth, c, Q, D, ca, bs⟩ := C
  intro H locs lm hR hm
  exact lv_goto h.1 h.2.1 hd ht (k H locs lm hR hm)
theorem x_null (h : Ok C own cc nL d) (hd : decode cc pc = .ok (.aconst_null, 1)) (k : X C ph (pc + 1) ls (vN :: st) n σ nc ns) : X C ph pc ls st n σ nc ns := by
  obtain ⟨p, l, e, R, s, m, args, below, meth, c, Q, D, ca, bs⟩ := C
  intro H locs lm hR hm
  exact lv_null h.1 h.2.1 hd (k H locs lm hR hm)
theorem x_ifnull (h : Ok C own cc nL d) {f j : Nat} {off : Int} (hd : decode cc pc = .ok (.ifnull off, 3)) (k : X C ph (pc + 3) ls st n σ nc ns) : X C ph pc ls (vR f j :: st) n σ nc ns := by
  obtain ⟨p, l, e, R, s, m, args, below, meth, c, Q, D, ca, bs⟩ := C
  intro H locs lm hR hm
  exact lv_ifnull h.1 h.2.1 hd (k H locs lm hR hm)
theorem x_ifnonnull (h : Ok C own cc nL d) {f j : Nat} {off : Int} {tgt : Nat} (hd : decode cc pc = .ok (.ifnonnull off, 3)) (ht : (pc : Int) + off = (tgt : Int)) (k : X C ph tgt ls st n σ nc ns) : X C ph pc ls (vR f j :: st) n σ nc ns := by
  obtain ⟨p, l, e, R, s, m, args, below, meth, c, Q, D, ca, bs⟩ := C
  intro H locs lm hR hm
  exact lv_ifnonnull h.1 h.2.1 hd ht (k H locs lm hR hm)
theorem x_ifnullN (h : Ok C own cc nL d) {off : Int} {tgt : Nat} (hd : decode cc pc = .ok (.ifnull off, 3)) (ht : (pc : Int) + off = (tgt : Int)) (k : X C ph tgt ls st n σ nc ns) : X C ph pc ls (vN :: st) n σ nc ns := by
  obtain ⟨p, l, e, R, s, m, args, below, meth, c, Q, D, ca, bs⟩ := C
  intro H locs lm hR hm
  exact lv_ifnullN h.1 h.2.1 hd ht (k H locs lm hR hm)
theorem x_ifnonnullN (h : Ok C own cc nL d) {off : Int} (hd : decode cc pc = .ok (.ifnonnull off, 3)) (k : X C ph (pc + 3) ls st n σ nc ns) : X C ph pc ls (vN :: st) n σ nc ns := by
  obtain ⟨p, l, e, R, s, m, args, below, meth, c, Q, D, ca, bs⟩ := C
  intro H locs lm hR hm
  exact lv_ifnonnullN h.1 h.2.1 hd (k H locs lm hR hm)
theorem x_if_eq (h : Ok C own cc nL d) {x off : Int} {tgt : Nat} (hr : -2147483648 ≤ x ∧ x < 2147483648) (hd : decode cc pc = .ok (.ifCond .eq off, 3)) (ht : (pc : Int) + off = (tgt : Int)) (kt : x = 0 → X C ph tgt ls st n σ nc ns) (kf : ¬ (x = 0) → X C ph (pc + 3) ls st n σ nc ns) : X C ph pc ls (vI x :: st) n σ nc ns := by
  obtain ⟨p, l, e, R, s, m, args, below, meth, c, Q, D, ca, bs⟩ := C
  intro H locs lm hR hm
  have e1 := i32_eq hr (y := 0) (by omega)
  have e2 := i32_lt hr (y := 0) (by omega)
  have e3 := i32_le hr (y := 0) (by omega)
  have e4 := i32_lt (x := 0) (by omega) hr
  have e5 := i32_le (x := 0) (by omega) hr
  rw [← i32_0] at e1 e2 e3 e4 e5
  refine lv_if_eq h.1 h.2.1 hd ht (fun q => kt ?_ H locs lm hR hm) (fun q => kf ?_ H locs lm hR hm) <;> simp_all
theorem x_ic_eq (h : Ok C own cc nL d) {x y off : Int} {tgt : Nat} (hr : (-2147483648 ≤ x ∧ x < 2147483648) ∧ (-2147483648 ≤ y ∧ y < 2147483648)) (hd : decode cc pc = .ok (.if_icmp .eq off, 3)) (ht : (pc : Int) + off = (tgt : Int)) (kt : x = y → X C ph tgt ls st n σ nc ns) (kf : ¬ (x = y) → X C ph (pc + 3) ls st n σ nc ns) : X C ph pc ls (vI y :: vI x :: st) n σ nc ns := by
  obtain ⟨p, l, e, R, s, m, args, below, meth, c, Q, D, ca, bs⟩ := C
  intro H locs lm hR hm
  have e1 := i32_eq hr.1 hr.2
  have e2 := i32_lt hr.1 hr.2
  have e3 := i32_le hr.1 hr.2
  have e4 := i32_lt hr.2 hr.1
  have e5 := i32_le hr.2 hr.1
  refine lv_icmp_eq h.1 h.2.1 hd ht (fun q => kt ?_ H locs lm hR hm) (fun q => kf ?_ H locs lm hR hm) <;> simp_all
theorem x_if_eq_T (h : Ok C own cc nL d) {x off : Int} {tgt : Nat} (hr : -2147483648 ≤ x ∧ x < 2147483648) (hd : decode cc pc = .ok (.ifCond .eq off, 3)) (ht : (pc : Int) + off = (tgt : Int)) (hc : x = 0) (kt : X C ph tgt ls st n σ nc ns) : X C ph pc ls (vI x :: st) n σ nc ns := x_if_eq h hr hd ht (fun _ => kt) (fun q => absurd hc q)
theorem x_if_eq_F (h : Ok C own cc nL d) {x off : Int} {tgt : Nat} (hr : -2147483648 ≤ x ∧ x < 2147483648) (hd : decode cc pc = .ok (.ifCond .eq off, 3)) (ht : (pc : Int) + off = (tgt : Int)) (hc : ¬ (x = 0)) (kf : X C ph (pc + 3) ls st n σ nc ns) : X C ph pc ls (vI x :: st) n σ nc ns := x_if_eq h hr hd ht (fun q => absurd q hc) (fun _ => kf)
theorem x_ic_eq_T (h : Ok C own cc nL d) {x y off : Int} {tgt : Nat} (hr : (-2147483648 ≤ x ∧ x < 2147483648) ∧ (-2147483648 ≤ y ∧ y < 2147483648)) (hd : decode cc pc = .ok (.if_icmp .eq off, 3)) (ht : (pc : Int) + off = (tgt : Int)) (hc : x = y) (kt : X C ph tgt ls st n σ nc ns) : X C ph pc ls (vI y :: vI x :: st) n σ nc ns := x_ic_eq h hr hd ht (fun _ => kt) (fun q => absurd hc q)
theorem x_ic_eq_F (h : Ok C own cc nL d) {x y off : Int} {tgt : Nat} (hr : (-2147483648 ≤ x ∧ x < 2147483648) ∧ (-2147483648 ≤ y ∧ y < 2147483648)) (hd : decode cc pc = .ok (.if_icmp .eq off, 3)) (ht : (pc : Int) + off = (tgt : Int)) (hc : ¬ (x = y)) (kf : X C ph (pc + 3) ls st n σ nc ns) : X C ph pc ls (vI y :: vI x :: st) n σ nc ns := x_ic_eq h hr hd ht (fun q => absurd q hc) (fun _ => kf)
theorem x_lc_eq (h : Ok C own cc nL d) {a b off : Int} {tgt : Nat} (hr : (-9223372036854775808 ≤ a ∧ a < 9223372036854775808) ∧ (-9223372036854775808 ≤ b ∧ b < 9223372036854775808)) (hd : decode cc pc = .ok (.lcmp, 1)) (hd2 : decode cc (pc + 1) = .ok (.ifCond .eq off, 3)) (ht : ((pc + 1 : Nat) : Int) + off = (tgt : Int)) (kt : a = b → X C ph tgt ls st n σ nc ns) (kf : ¬ (a = b) → X C ph (pc + 1 + 3) ls st n σ nc ns) : X C ph pc ls (vL b :: vL a :: st) n σ nc ns := by
  refine x_lcmp h hr hd (x_if_eq h ?_ hd2 ht (fun q => kt ?_) (fun q => kf ?_))
  · unfold cmpI; split <;> (try split) <;> omega
  all_goals (revert q; unfold cmpI; split <;> (try split) <;> omega)
theorem x_if_ne (h : Ok C own cc nL d) {x off : Int} {tgt : Nat} (hr : -2147483648 ≤ x ∧ x < 2147483648) (hd : decode cc pc = .ok (.ifCond .ne off, 3)) (ht : (pc : Int) + off = (tgt : Int)) (kt : ¬ x = 0 → X C ph tgt ls st n σ nc ns) (kf : ¬ (¬ x = 0) → X C ph (pc + 3) ls st n σ nc ns) : X C ph pc ls (vI x :: st) n σ nc ns := by
  obtain ⟨p, l, e, R, s, m, args, below, meth, c, Q, D, ca, bs⟩ := C
  intro H locs lm hR hm
  have e1 := i32_eq hr (y := 0) (by omega)
  have e2 := i32_lt hr (y := 0) (by omega)
  have e3 := i32_le hr (y := 0) (by omega)
  have e4 := i32_lt (x := 0) (by omega) hr
  have e5 := i32_le (x := 0) (by omega) hr
  rw [← i32_0] at e1 e2 e3 e4 e5
  refine lv_if_ne h.1 h.2.1 hd ht (fun q => kt ?_ H locs lm hR hm) (fun q => kf ?_ H locs lm hR hm) <;> simp_all
theorem x_ic_ne (h : Ok C own cc nL d) {x y off : Int} {tgt : Nat} (hr : (-2147483648 ≤ x ∧ x < 2147483648) ∧ (-2147483648 ≤ y ∧ y < 2147483648)) (hd : decode cc pc = .ok (.if_icmp .ne off, 3)) (ht : (pc : Int) + off = (tgt : Int)) (kt : ¬ x = y → X C ph tgt ls st n σ nc ns) (kf : ¬ (¬ x = y) → X C ph (pc + 3) ls st n σ nc ns) : X C ph pc ls (vI y :: vI x :: st) n σ nc ns := by
  obtain ⟨p, l, e, R, s, m, args, below, meth, c, Q, D, ca, bs⟩ := C
  intro H locs lm hR hm
  have e1 := i32_eq hr.1 hr.2
  have e2 := i32_lt hr.1 hr.2
  have e3 := i32_le hr.1 hr.2
  have e4 := i32_lt hr.2 hr.1
  have e5 := i32_le hr.2 hr.1
  refine lv_icmp_ne h.1 h.2.1 hd ht (fun q => kt ?_ H locs lm hR hm) (fun q => kf ?_ H locs lm hR hm) <;> simp_all
theorem x_if_ne_T (h : Ok C own cc nL d) {x off : Int} {tgt : Nat} (hr : -2147483648 ≤ x ∧ x < 2147483648) (hd : decode cc pc = .ok (.ifCond .ne off, 3)) (ht : (pc : Int) + off = (tgt : Int)) (hc : ¬ x = 0) (kt : X C ph tgt ls st n σ nc ns) : X C ph pc ls (vI x :: st) n σ nc ns := x_if_ne h hr hd ht (fun _ => kt) (fun q => absurd hc q)
theorem x_if_ne_F (h : Ok C own cc nL d) {x off : Int} {tgt : Nat} (hr : -2147483648 ≤ x ∧ x < 2147483648) (hd : decode cc pc = .ok (.ifCond .ne off, 3)) (ht : (pc : Int) + off = (tgt : Int)) (hc : ¬ (¬ x = 0)) (kf : X C ph (pc + 3) ls st n σ nc ns) : X C ph pc ls (vI x :: st) n σ nc ns := x_if_ne h hr hd ht (fun q => absurd q hc) (fun _ => kf)
theorem x_ic_ne_T (h : Ok C own cc nL d) {x y off : Int} {tgt : Nat} (hr : (-2147483648 ≤ x ∧ x < 2147483648) ∧ (-2147483648 ≤ y ∧ y < 2147483648)) (hd : decode cc pc = .ok (.if_icmp .ne off, 3)) (ht : (pc : Int) + off = (tgt : Int)) (hc : ¬ x = y) (kt : X C ph tgt ls st n σ nc ns) : X C ph pc ls (vI y :: vI x :: st) n σ nc ns := x_ic_ne h hr hd ht (fun _ => kt) (fun q => absurd hc q)
theorem x_ic_ne_F (h : Ok C own cc nL d) {x y off : Int} {tgt : Nat} (hr : (-2147483648 ≤ x ∧ x < 2147483648) ∧ (-2147483648 ≤ y ∧ y < 2147483648)) (hd : decode cc pc = .ok (.if_icmp .ne off, 3)) (ht : (pc : Int) + off = (tgt : Int)) (hc : ¬ (¬ x = y)) (kf : X C ph (pc + 3) ls st n σ nc ns) : X C ph pc ls (vI y :: vI x :: st) n σ nc ns := x_ic_ne h hr hd ht (fun q => absurd q hc) (fun _ => kf)
theorem x_lc_ne (h : Ok C own cc nL d) {a b off : Int} {tgt : Nat} (hr : (-9223372036854775808 ≤ a ∧ a < 9223372036854775808) ∧ (-9223372036854775808 ≤ b ∧ b < 9223372036854775808)) (hd : decode cc pc = .ok (.lcmp, 1)) (hd2 : decode cc (pc + 1) = .ok (.ifCond .ne off, 3)) (ht : ((pc + 1 : Nat) : Int) + off = (tgt : Int)) (kt : ¬ a = b → X C ph tgt ls st n σ nc ns) (kf : ¬ (¬ a = b) → X C ph (pc + 1 + 3) ls st n σ nc ns) : X C ph pc ls (vL b :: vL a :: st) n σ nc ns := by
  refine x_lcmp h hr hd (x_if_ne h ?_ hd2 ht (fun q => kt ?_) (fun q => kf ?_))
  · unfold cmpI; split <;> (try split) <;> omega
  all_goals (revert q; unfold cmpI; split <;> (try split) <;> omega)
theorem x_if_lt (h : Ok C own cc nL d) {x off : Int} {tgt : Nat} (hr : -2147483648 ≤ x ∧ x < 2147483648) (hd : decode cc pc = .ok (.ifCond .lt off, 3)) (ht : (pc : Int) + off = (tgt : Int)) (kt : x < 0 → X C ph tgt ls st n σ nc ns) (kf : ¬ (x < 0) → X C ph (pc + 3) ls st n σ nc ns) : X C ph pc ls (vI x :: st) n σ nc ns := by
  obtain ⟨p, l, e, R, s, m, args, below, meth, c, Q, D, ca, bs⟩ := C
  intro H locs lm hR hm
  have e1 := i32_eq hr (y := 0) (by omega)
  have e2 := i32_lt hr (y := 0) (by omega)
  have e3 := i32_le hr (y := 0) (by omega)
  have e4 := i32_lt (x := 0) (by omega) hr
  have e5 := i32_le (x := 0) (by omega) hr
  rw [← i32_0] at e1 e2 e3 e4 e5
  refine lv_if_lt h.1 h.2.1 hd ht (fun q => kt ?_ H locs lm hR hm) (fun q => kf ?_ H locs lm hR hm) <;> simp_all
theorem x_ic_lt (h : Ok C own cc nL d) {x y off : Int} {tgt : Nat} (hr : (-2147483648 ≤ x ∧ x < 2147483648) ∧ (-2147483648 ≤ y ∧ y < 2147483648)) (hd : decode cc pc = .ok (.if_icmp .lt off, 3)) (ht : (pc : Int) + off = (tgt : Int)) (kt : x < y → X C ph tgt ls st n σ nc ns) (kf : ¬ (x < y) → X C ph (pc + 3) ls st n σ nc ns) : X C ph pc ls (vI y :: vI x :: st) n σ nc ns := by
  obtain ⟨p, l, e, R, s, m, args, below, meth, c, Q, D, ca, bs⟩ := C
  intro H locs lm hR hm
  have e1 := i32_eq hr.1 hr.2
  have e2 := i32_lt hr.1 hr.2
  have e3 := i32_le hr.1 hr.2
  have e4 := i32_lt hr.2 hr.1
  have e5 := i32_le hr.2 hr.1
  refine lv_icmp_lt h.1 h.2.1 hd ht (fun q => kt ?_ H locs lm hR hm) (fun q => kf ?_ H locs lm hR hm) <;> simp_all
theorem x_if_lt_T (h : Ok C own cc nL d) {x off : Int} {tgt : Nat} (hr : -2147483648 ≤ x ∧ x < 2147483648) (hd : decode cc pc = .ok (.ifCond .lt off, 3)) (ht : (pc : Int) + off = (tgt : Int)) (hc : x < 0) (kt : X C ph tgt ls st n σ nc ns) : X C ph pc ls (vI x :: st) n σ nc ns := x_if_lt h hr hd ht (fun _ => kt) (fun q => absurd hc q)
theorem x_if_lt_F (h : Ok C own cc nL d) {x off : Int} {tgt : Nat} (hr : -2147483648 ≤ x ∧ x < 2147483648) (hd : decode cc pc = .ok (.ifCond .lt off, 3)) (ht : (pc : Int) + off = (tgt : Int)) (hc : ¬ (x < 0)) (kf : X C ph (pc + 3) ls st n σ nc ns) : X C ph pc ls (vI x :: st) n σ nc ns := x_if_lt h hr hd ht (fun q => absurd q hc) (fun _ => kf)
theorem x_ic_lt_T (h : Ok C own cc nL d) {x y off : Int} {tgt : Nat} (hr : (-2147483648 ≤ x ∧ x < 2147483648) ∧ (-2147483648 ≤ y ∧ y < 2147483648)) (hd : decode cc pc = .ok (.if_icmp .lt off, 3)) (ht : (pc : Int) + off = (tgt : Int)) (hc : x < y) (kt : X C ph tgt ls st n σ nc ns) : X C ph pc ls (vI y :: vI x :: st) n σ nc ns := x_ic_lt h hr hd ht (fun _ => kt) (fun q => absurd hc q)
theorem x_ic_lt_F (h : Ok C own cc nL d) {x y off : Int} {tgt : Nat} (hr : (-2147483648 ≤ x ∧ x < 2147483648) ∧ (-2147483648 ≤ y ∧ y < 2147483648)) (hd : decode cc pc = .ok (.if_icmp .lt off, 3)) (ht : (pc : Int) + off = (tgt : Int)) (hc : ¬ (x < y)) (kf : X C ph (pc + 3) ls st n σ nc ns) : X C ph pc ls (vI y :: vI x :: st) n σ nc ns := x_ic_lt h hr hd ht (fun q => absurd q hc) (fun _ => kf)
theorem x_lc_lt (h : Ok C own cc nL d) {a b off : Int} {tgt : Nat} (hr : (-9223372036854775808 ≤ a ∧ a < 9223372036854775808) ∧ (-9223372036854775808 ≤ b ∧ b < 9223372036854775808)) (hd : decode cc pc = .ok (.lcmp, 1)) (hd2 : decode cc (pc + 1) = .ok (.ifCond .lt off, 3)) (ht : ((pc + 1 : Nat) : Int) + off = (tgt : Int)) (kt : a < b → X C ph tgt ls st n σ nc ns) (kf : ¬ (a < b) → X C ph (pc + 1 + 3) ls st n σ nc ns) : X C ph pc ls (vL b :: vL a :: st) n σ nc ns := by
  refine x_lcmp h hr hd (x_if_lt h ?_ hd2 ht (fun q => kt ?_) (fun q => kf ?_))
  · unfold cmpI; split <;> (try split) <;> omega
  all_goals (revert q; unfold cmpI; split <;> (try split) <;> omega)
theorem x_if_ge (h : Ok C own cc nL d) {x off : Int} {tgt : Nat} (hr : -2147483648 ≤ x ∧ x < 2147483648) (hd : decode cc pc = .ok (.ifCond .ge off, 3)) (ht : (pc : Int) + off = (tgt : Int)) (kt : 0 ≤ x → X C ph tgt ls st n σ nc ns) (kf : ¬ (0 ≤ x) → X C ph (pc + 3) ls st n σ nc ns) : X C ph pc ls (vI x :: st) n σ nc ns := by
  obtain ⟨p, l, e, R, s, m, args, below, meth, c, Q, D, ca, bs⟩ := C
  intro H locs lm hR hm
  have e1 := i32_eq hr (y := 0) (by omega)
  have e2 := i32_lt hr (y := 0) (by omega)
  have e3 := i32_le hr (y := 0) (by omega)
  have e4 := i32_lt (x := 0) (by omega) hr
  have e5 := i32_le (x := 0) (by omega) hr
  rw [← i32_0] at e1 e2 e3 e4 e5
  refine lv_if_ge h.1 h.2.1 hd ht (fun q => kt ?_ H locs lm hR hm) (fun q => kf ?_ H locs lm hR hm) <;> simp_all
theorem x_ic_ge (h : Ok C own cc nL d) {x y off : Int} {tgt : Nat} (hr : (-2147483648 ≤ x ∧ x < 2147483648) ∧ (-2147483648 ≤ y ∧ y < 2147483648)) (hd : decode cc pc = .ok (.if_icmp .ge off, 3)) (ht : (pc : Int) + off = (tgt : Int)) (kt : y ≤ x → X C ph tgt ls st n σ nc ns) (kf : ¬ (y ≤ x) → X C ph (pc + 3) ls st n σ nc ns) : X C ph pc ls (vI y :: vI x :: st) n σ nc ns := by
  obtain ⟨p, l, e, R, s, m, args, below, meth, c, Q, D, ca, bs⟩ := C
  intro H locs lm hR hm
  have e1 := i32_eq hr.1 hr.2
  have e2 := i32_lt hr.1 hr.2
  have e3 := i32_le hr.1 hr.2
  have e4 := i32_lt hr.2 hr.1
  have e5 := i32_le hr.2 hr.1
  refine lv_icmp_ge h.1 h.2.1 hd ht (fun q => kt ?_ H locs lm hR hm) (fun q => kf ?_ H locs lm hR hm) <;> simp_all
theorem x_if_ge_T (h : Ok C own cc nL d) {x off : Int} {tgt : Nat} (hr : -2147483648 ≤ x ∧ x < 2147483648) (hd : decode cc pc = .ok (.ifCond .ge off, 3)) (ht : (pc : Int) + off = (tgt : Int)) (hc : 0 ≤ x) (kt : X C ph tgt ls st n σ nc ns) : X C ph pc ls (vI x :: st) n σ nc ns := x_if_ge h hr hd ht (fun _ => kt) (fun q => absurd hc q)
theorem x_if_ge_F (h : Ok C own cc nL d) {x off : Int} {tgt : Nat} (hr : -2147483648 ≤ x ∧ x < 2147483648) (hd : decode cc pc = .ok (.ifCond .ge off, 3)) (ht : (pc : Int) + off = (tgt : Int)) (hc : ¬ (0 ≤ x)) (kf : X C ph (pc + 3) ls st n σ nc ns) : X C ph pc ls (vI x :: st) n σ nc ns := x_if_ge h hr hd ht (fun q => absurd q hc) (fun _ => kf)
theorem x_ic_ge_T (h : Ok C own cc nL d) {x y off : Int} {tgt : Nat} (hr : (-2147483648 ≤ x ∧ x < 2147483648) ∧ (-2147483648 ≤ y ∧ y < 2147483648)) (hd : decode cc pc = .ok (.if_icmp .ge off, 3)) (ht : (pc : Int) + off = (tgt : Int)) (hc : y ≤ x) (kt : X C ph tgt ls st n σ nc ns) : X C ph pc ls (vI y :: vI x :: st) n σ nc ns := x_ic_ge h hr hd ht (fun _ => kt) (fun q => absurd hc q)
theorem x_ic_ge_F (h : Ok C own cc nL d) {x y off : Int} {tgt : Nat} (hr : (-2147483648 ≤ x ∧ x < 2147483648) ∧ (-2147483648 ≤ y ∧ y < 2147483648)) (hd : decode cc pc = .ok (.if_icmp .ge off, 3)) (ht : (pc : Int) + off = (tgt : Int)) (hc : ¬ (y ≤ x)) (kf : X C ph (pc + 3) ls st n σ nc ns) : X C ph pc ls (vI y :: vI x :: st) n σ nc ns := x_ic_ge h hr hd ht (fun q => absurd q hc) (fun _ => kf)
theorem x_lc_ge (h : Ok C own cc nL d) {a b off : Int} {tgt : Nat} (hr : (-9223372036854775808 ≤ a ∧ a < 9223372036854775808) ∧ (-9223372036854775808 ≤ b ∧ b < 9223372036854775808)) (hd : decode cc pc = .ok (.lcmp, 1)) (hd2 : decode cc (pc + 1) = .ok (.ifCond .ge off, 3)) (ht : ((pc + 1 : Nat) : Int) + off = (tgt : Int)) (kt : b ≤ a → X C ph tgt ls st n σ nc ns) (kf : ¬ (b ≤ a) → X C ph (pc + 1 + 3) ls st n σ nc ns) : X C ph pc ls (vL b :: vL a :: st) n σ nc ns := by
  refine x_lcmp h hr hd (x_if_ge h ?_ hd2 ht (fun q => kt ?_) (fun q => kf ?_))
  · unfold cmpI; split <;> (try split) <;> omega
  all_goals (revert q; unfold cmpI; split <;> (try split) <;> omega)
theorem x_if_gt (h : Ok C own cc nL d) {x off : Int} {tgt : Nat} (hr : -2147483648 ≤ x ∧ x < 2147483648) (hd : decode cc pc = .ok (.ifCond .gt off, 3)) (ht : (pc : Int) + off = (tgt : Int)) (kt : 0 < x → X C ph tgt ls st n σ nc ns) (kf : ¬ (0 < x) → X C ph (pc + 3) ls st n σ nc ns) : X C ph pc ls (vI x :: st) n σ nc ns := by
  obtain ⟨p, l, e, R, s, m, args, below, meth, c, Q, D, ca, bs⟩ := C
  intro H locs lm hR hm
  have e1 := i32_eq hr (y := 0) (by omega)
  have e2 := i32_lt hr (y := 0) (by omega)
  have e3 := i32_le hr (y := 0) (by omega)
  have e4 := i32_lt (x := 0) (by omega) hr
  have e5 := i32_le (x := 0) (by omega) hr
  rw [← i32_0] at e1 e2 e3 e4 e5
  refine lv_if_gt h.1 h.2.1 hd ht (fun q => kt ?_ H locs lm hR hm) (fun q => kf ?_ H locs lm hR hm) <;> simp_all
theorem x_ic_gt (h : Ok C own cc nL d) {x y off : Int} {tgt : Nat} (hr : (-2147483648 ≤ x ∧ x < 2147483648) ∧ (-2147483648 ≤ y ∧ y < 2147483648)) (hd : decode cc pc = .ok (.if_icmp .gt off, 3)) (ht : (pc : Int) + off = (tgt : Int)) (kt : y < x → X C ph tgt ls st n σ nc ns) (kf : ¬ (y < x) → X C ph (pc + 3) ls st n σ nc ns) : X C ph pc ls (vI y :: vI x :: st) n σ nc ns := by
  obtain ⟨p, l, e, R, s, m, args, below, meth, c, Q, D, ca, bs⟩ := C
  intro H locs lm hR hm
  have e1 := i32_eq hr.1 hr.2
  have e2 := i32_lt hr.1 hr.2
  have e3 := i32_le hr.1 hr.2
  have e4 := i32_lt hr.2 hr.1
  have e5 := i32_le hr.2 hr.1
  refine lv_icmp_gt h.1 h.2.1 hd ht (fun q => kt ?_ H locs lm hR hm) (fun q => kf ?_ H locs lm hR hm) <;> simp_all
theorem x_if_gt_T (h : Ok C own cc nL d) {x off : Int} {tgt : Nat} (hr : -2147483648 ≤ x ∧ x < 2147483648) (hd : decode cc pc = .ok (.ifCond .gt off, 3)) (ht : (pc : Int) + off = (tgt : Int)) (hc : 0 < x) (kt : X C ph tgt ls st n σ nc ns) : X C ph pc ls (vI x :: st) n σ nc ns := x_if_gt h hr hd ht (fun _ => kt) (fun q => absurd hc q)
theorem x_if_gt_F (h : Ok C own cc nL d) {x off : Int} {tgt : Nat} (hr : -2147483648 ≤ x ∧ x < 2147483648) (hd : decode cc pc = .ok (.ifCond .gt off, 3)) (ht : (pc : Int) + off = (tgt : Int)) (hc : ¬ (0 < x)) (kf : X C ph (pc + 3) ls st n σ nc ns) : X C ph pc ls (vI x :: st) n σ nc ns := x_if_gt h hr hd ht (fun q => absurd q hc) (fun _ => kf)
theorem x_ic_gt_T (h : Ok C own cc nL d) {x y off : Int} {tgt : Nat} (hr : (-2147483648 ≤ x ∧ x < 2147483648) ∧ (-2147483648 ≤ y ∧ y < 2147483648)) (hd : decode cc pc = .ok (.if_icmp .gt off, 3)) (ht : (pc : Int) + off = (tgt : Int)) (hc : y < x) (kt : X C ph tgt ls st n σ nc ns) : X C ph pc ls (vI y :: vI x :: st) n σ nc ns := x_ic_gt h hr hd ht (fun _ => kt) (fun q => absurd hc q)
theorem x_ic_gt_F (h : Ok C own cc nL d) {x y off : Int} {tgt : Nat} (hr : (-2147483648 ≤ x ∧ x < 2147483648) ∧ (-2147483648 ≤ y ∧ y < 2147483648)) (hd : decode cc pc = .ok (.if_icmp .gt off, 3)) (ht : (pc : Int) + off = (tgt : Int)) (hc : ¬ (y < x)) (kf : X C ph (pc + 3) ls st n σ nc ns) : X C ph pc ls (vI y :: vI x :: st) n σ nc ns := x_ic_gt h hr hd ht (fun q => absurd q hc) (fun _ => kf)
theorem x_lc_gt (h : Ok C own cc nL d) {a b off : Int} {tgt : Nat} (hr : (-9223372036854775808 ≤ a ∧ a < 9223372036854775808) ∧ (-9223372036854775808 ≤ b ∧ b < 9223372036854775808)) (hd : decode cc pc = .ok (.lcmp, 1)) (hd2 : decode cc (pc + 1) = .ok (.ifCond .gt off, 3)) (ht : ((pc + 1 : Nat) : Int) + off = (tgt : Int)) (kt : b < a → X C ph tgt ls st n σ nc ns) (kf : ¬ (b < a) → X C ph (pc + 1 + 3) ls st n σ nc ns) : X C ph pc ls (vL b :: vL a :: st) n σ nc ns := by
  refine x_lcmp h hr hd (x_if_gt h ?_ hd2 ht (fun q => kt ?_) (fun q => kf ?_))
  · unfold cmpI; split <;> (try split) <;> omega
  all_goals (revert q; unfold cmpI; split <;> (try split) <;> omega)
theorem x_if_le (h : Ok C own cc nL d) {x off : Int} {tgt : Nat} (hr : -2147483648 ≤ x ∧ x < 2147483648) (hd : decode cc pc = .ok (.ifCond .le off, 3)) (ht : (pc : Int) + off = (tgt : Int)) (kt : x ≤ 0 → X C ph tgt ls st n σ nc ns) (kf : ¬ (x ≤ 0) → X C ph (pc + 3) ls st n σ nc ns) : X C ph pc ls (vI x :: st) n σ nc ns := by
  obtain ⟨p, l, e, R, s, m, args, below, meth, c, Q, D, ca, bs⟩ := C
  intro H locs lm hR hm
  have e1 := i32_eq hr (y := 0) (by omega)
  have e2 := i32_lt hr (y := 0) (by omega)
  have e3 := i32_le hr (y := 0) (by omega)
  have e4 := i32_lt (x := 0) (by omega) hr
  have e5 := i32_le (x := 0) (by omega) hr
  rw [← i32_0] at e1 e2 e3 e4 e5
  refine lv_if_le h.1 h.2.1 hd ht (fun q => kt ?_ H locs lm hR hm) (fun q => kf ?_ H locs lm hR hm) <;> simp_all
theorem x_ic_le (h : Ok C own cc nL d) {x y off : Int} {tgt : Nat} (hr : (-2147483648 ≤ x ∧ x < 2147483648) ∧ (-2147483648 ≤ y ∧ y < 2147483648)) (hd : decode cc pc = .ok (.if_icmp .le off, 3)) (ht : (pc : Int) + off = (tgt : Int)) (kt : x ≤ y → X C ph tgt ls st n σ nc ns) (kf : ¬ (x ≤ y) → X C ph (pc + 3) ls st n σ nc ns) : X C ph pc ls (vI y :: vI x :: st) n σ nc ns := by
  obtain ⟨p, l, e, R, s, m, args, below, meth, c, Q, D, ca, bs⟩ := C
  intro H locs lm hR hm
  have e1 := i32_eq hr.1 hr.2
  have e2 := i32_lt hr.1 hr.2
  have e3 := i32_le hr.1 hr.2
  have e4 := i32_lt hr.2 hr.1
  have e5 := i32_le hr.2 hr.1
  refine lv_icmp_le h.1 h.2.1 hd ht (fun q => kt ?_ H locs lm hR hm) (fun q => kf ?_ H locs lm hR hm) <;> simp_all
theorem x_if_le_T (h : Ok C own cc nL d) {x off : Int} {tgt : Nat} (hr : -2147483648 ≤ x ∧ x < 2147483648) (hd : decode cc pc = .ok (.ifCond .le off, 3)) (ht : (pc : Int) + off = (tgt : Int)) (hc : x ≤ 0) (kt : X C ph tgt ls st n σ nc ns) : X C ph pc ls (vI x :: st) n σ nc ns := x_if_le h hr hd ht (fun _ => kt) (fun q => absurd hc q)
theorem x_if_le_F (h : Ok C own cc nL d) {x off : Int} {tgt : Nat} (hr : -2147483648 ≤ x ∧ x < 2147483648) (hd : decode cc pc = .ok (.ifCond .le off, 3)) (ht : (pc : Int) + off = (tgt : Int)) (hc : ¬ (x ≤ 0)) (kf : X C ph (pc + 3) ls st n σ nc ns) : X C ph pc ls (vI x :: st) n σ nc ns := x_if_le h hr hd ht (fun q => absurd q hc) (fun _ => kf)
theorem x_ic_le_T (h : Ok C own cc nL d) {x y off : Int} {tgt : Nat} (hr : (-2147483648 ≤ x ∧ x < 2147483648) ∧ (-2147483648 ≤ y ∧ y < 2147483648)) (hd : decode cc pc = .ok (.if_icmp .le off, 3)) (ht : (pc : Int) + off = (tgt : Int)) (hc : x ≤ y) (kt : X C ph tgt ls st n σ nc ns) : X C ph pc ls (vI y :: vI x :: st) n σ nc ns := x_ic_le h hr hd ht (fun _ => kt) (fun q => absurd hc q)
theorem x_ic_le_F (h : Ok C own cc nL d) {x y off : Int} {tgt : Nat} (hr : (-2147483648 ≤ x ∧ x < 2147483648) ∧ (-2147483648 ≤ y ∧ y < 2147483648)) (hd : decode cc pc = .ok (.if_icmp .le off, 3)) (ht : (pc : Int) + off = (tgt : Int)) (hc : ¬ (x ≤ y)) (kf : X C ph (pc + 3) ls st n σ nc ns) : X C ph pc ls (vI y :: vI x :: st) n σ nc ns := x_ic_le h hr hd ht (fun q => absurd q hc) (fun _ => kf)
theorem x_lc_le (h : Ok C own cc nL d) {a b off : Int} {tgt : Nat} (hr : (-9223372036854775808 ≤ a ∧ a < 9223372036854775808) ∧ (-9223372036854775808 ≤ b ∧ b < 9223372036854775808)) (hd : decode cc pc = .ok (.lcmp, 1)) (hd2 : decode cc (pc + 1) = .ok (.ifCond .le off, 3)) (ht : ((pc + 1 : Nat) : Int) + off = (tgt : Int)) (kt : a ≤ b → X C ph tgt ls st n σ nc ns) (kf : ¬ (a ≤ b) → X C ph (pc + 1 + 3) ls st n σ nc ns) : X C ph pc ls (vL b :: vL a :: st) n σ nc ns := by
  refine x_lcmp h hr hd (x_if_le h ?_ hd2 ht (fun q => kt ?_) (fun q => kf ?_))
  · unfold cmpI; split <;> (try split) <;> omega
  all_goals (revert q; unfold cmpI; split <;> (try split) <;> omega)
end ROWS2
end
section
/-! rows of X: memory; calls; a method's contract -/
theorem rl_set {D : va_G} {ca : Nat → ClassId} {bs ph n f k j : Nat} {σ : Mm} {g : Nat → Int} {H0 H H1 : Heap} {locs : List Loc} (hR : Rl D ca bs ph n σ H0 H locs) (hk : Lv n f k) (he : va_at D vwCl (bs + num f k, cel ca bs ph f k g) H1) (z : H1.size = H.size) (oq : ∀ q : Nat, q ≠ bs + num f k → H1[q]? = H[q]?) : Rl D ca bs ph n (up2 σ f k g) H0 H1 (locs ++ [⟨bs + num f k, j⟩]) := by
  refine ⟨z.trans hR.1, ?_, hR.2.2.put z oq (Nat.le_add_right _ _)⟩
  rw [← wo_set hk]
  exact hR.2.1.set (wo_D ca bs ph n σ) (wo_at hk) he oq
theorem cel_obj {ca : Nat → ClassId} {bs ph f k ci : Nat} {g : Nat → Int} (h : kd f = (0, ci)) : cel ca bs ph f k g = .inr (ci, (tyT.getD f []).mapIdx (fun j t => vv bs (pv ph t k (g j)))) := by
  unfold cel
  rw [h]
  rfl
theorem cel_int {ca : Nat → ClassId} {bs ph f k m len : Nat} {g : Nat → Int} (h : kd f = (m, len)) (hm : m = 1 ∨ m = 2 ∨ m = 3) : cel ca bs ph f k g = .inl (ca (m - 1), len, .inl (fun j => Int32.ofInt (g j))) := by
  unfold cel
  rw [h]
  rcases hm with rfl | rfl | rfl <;> rfl
theorem cel_long {ca : Nat → ClassId} {bs ph f k len : Nat} {g : Nat → Int} (h : kd f = (4, len)) : cel ca bs ph f k g = .inl (ca 3, len, .inr (.inl (fun j => Int64.ofInt (g j)))) := by
  unfold cel
  rw [h]
  rfl
theorem cel_ref {ca : Nat → ClassId} {bs ph f k len : Nat} {g : Nat → Int} (h : kd f = (5, len)) : cel ca bs ph f k g = .inl (ca 4, len, .inr (.inr (.inr (.inr (fun j => rfo bs ph k j (g j)))))) := by
  unfold cel
  rw [h]
  rfl
theorem pv_ok {ph code k : Nat} {x : Int} {q : PV} {ty : FieldType} (bs : Nat) (ho : okc code ty) (hq : pv ph code k x = q) (hz : code = 2 → x = 0 ∨ x = 1) : narrow ty (vv bs q) = vv bs q ∧ fits ty (vv bs q) = true := by
  subst hq
  rcases ho with ⟨rfl, rfl⟩ | ⟨rfl, rfl⟩ | ⟨rfl, rfl⟩ | ⟨h3, ho⟩
  · exact ⟨rfl, rfl⟩
  · exact ⟨rfl, rfl⟩
  · rcases hz rfl with rfl | rfl
    · exact ⟨(by decide : narrow FieldType.boolean (.int (Int32.ofInt 0)) = .int (Int32.ofInt 0)), (by decide : fits FieldType.boolean (.int (Int32.ofInt 0)) = true)⟩
    · exact ⟨(by decide : narrow FieldType.boolean (.int (Int32.ofInt 1)) = .int (Int32.ofInt 1)), (by decide : fits FieldType.boolean (.int (Int32.ofInt 1)) = true)⟩
  · have h0 : ¬ code = 0 := by omega
    have h1 : ¬ code = 1 := by omega
    have h2 : ¬ code = 2 := by omega
    have key : pv ph code k x = vN ∨ ∃ f j, pv ph code k x = vR f j := by
      unfold pv
      rw [if_neg h0, if_neg h1, if_neg h2]
      split
      · split
        · exact Or.inl rfl
        · exact Or.inr ⟨_, _, rfl⟩
      · split
        · split
          · exact Or.inl rfl
          · exact Or.inr ⟨_, _, rfl⟩
        · exact Or.inr ⟨_, _, rfl⟩
    rcases key with e | ⟨f, j, e⟩
    · rw [e]; exact ⟨(ho 0).2.2.1, (ho 0).2.2.2⟩
    · rw [e]; exact ⟨(ho _).1, (ho _).2.1⟩
theorem fs_at {ph bs f k j code N : Nat} {g : Nat → Int} (hN : (tyT.getD f []).length = N) (hj : j < N) (hc : tyf f j = code) : ((tyT.getD f []).mapIdx (fun j t => vv bs (pv ph t k (g j))))[j]? = some (vv bs (pv ph code k (g j))) := by
  rw [List.getElem?_mapIdx]
  have h1 : (tyT.getD f [])[j]? = some code := by
    unfold tyf at hc
    rw [List.getD_eq_getElem?_getD] at hc
    rw [List.getElem?_eq_getElem (by omega)] at hc ⊢
    exact congrArg some hc
  rw [h1]
  rfl
theorem fs_V {ph bs f k j code N : Nat} {g : Nat → Int} {x : Int} (hN : (tyT.getD f []).length = N) (hj : j < N) (hc : tyf f j = code) (i : Nat) : updV (vp_V ((tyT.getD f []).mapIdx (fun j t => vv bs (pv ph t k (g j))))) j (vv bs (pv ph code k x)) i = vp_V ((tyT.getD f []).mapIdx (fun i t => vv bs (pv ph t k (up1 g j x i)))) i := by
  unfold updV vp_V
  by_cases h : i = j
  · subst h
    rw [if_pos rfl, List.getD_eq_getElem?_getD, fs_at (g := up1 g i x) hN hj hc]
    simp [up1]
  · rw [if_neg h]
    simp only [List.getD_eq_getElem?_getD, List.getElem?_mapIdx, up1, if_neg h]
section MEM
variable {C : Cx} {own : String} {cc : ByteArray} {nL d ph pc n nc ns : Nat} {ls : List (Nat × PV)} {st : List PV} {σ : Mm}
theorem x_get (h : Ok C own cc nL d) {idx f j code k : Nat} {fin : Bool} {q : PV} (hF : Fl own idx f j code fin) (hk : Lv n f k) (hd : decode cc pc = .ok (.getfield idx, 3)) (hq : pv ph code k (σ f k j) = q) (kk : X C ph (pc + 3) ls (q :: st) n σ nc ns) : X C ph pc ls (vR f k :: st) n σ nc ns := by
  obtain ⟨p, l, e, R, s, m, args, below, meth, c, Q, D, ca, bs⟩ := C
  intro H locs lm hR hm
  obtain ⟨ci, Cn, T, N, ty, ⟨h1, h2, h3, h4, h5, h6, h7, h8⟩, hj, hc, hw, hfin⟩ := hF
  have hat := wo_at (ca := ca) (bs := bs) (ph := ph) (σ := σ) hk
  rw [cel_obj h1] at hat
  refine va_get (D := D) (cl := vwCl) (ci := ci) (v := vv bs q) (C := Cn) (ref := Cn) (T := T) (N := N) h.1 h.2.1 h.2.2.2.2.1 h3 h.2.2.2.1 h.2.2.2.2.2.1.1 hR.2.1 (num f k) hat h2 j hj (h.2.2.2.2.1 _ hw) (fun x hx => by rw [h8 j hj] at hx; exact hx) ?_ hd (kk H locs lm hR hm)
  rw [fs_at h6 hj hc, hq]
theorem x_put (h : Ok C own cc nL d) {idx f j code k : Nat} {x : Int} {q : PV} (hF : Fl own idx f j code false) (hk : Lv n f k) (hd : decode cc pc = .ok (.putfield idx, 3)) (hq : pv ph code k x = q) (hz : code = 2 → x = 0 ∨ x = 1) (kk : X C ph (pc + 3) ls st n (up3 σ f k j x) nc ns) : X C ph pc ls (q :: vR f k :: st) n σ nc ns := by
  obtain ⟨p, l, e, R, s, m, args, below, meth, c, Q, D, ca, bs⟩ := C
  intro H locs lm hR hm
  obtain ⟨ci, Cn, T, N, ty, ⟨h1, h2, h3, h4, h5, h6, h7, h8⟩, hj, hc, hw, hfin⟩ := hF
  have hat := wo_at (ca := ca) (bs := bs) (ph := ph) (σ := σ) hk
  rw [cel_obj h1] at hat
  have hnf := pv_ok bs (hc ▸ h7 j hj) hq hz
  have hap := va_apart (own := own) (D := D) h.2.2.2.2.1 h3 ty h4 h5 h.2.2.2.2.2.1.1 h2
  obtain ⟨r, g1, cell, q1, q2, q3, q4⟩ := hR.2.1 (num f k) _ hat
  have hr : r = (Cn, T, N) := Option.some.inj (g1.symm.trans h2)
  subst hr
  obtain ⟨hS, hfc, kC, hkC, hkind⟩ := h.2.2.2.2.2.1.1.1 ci _ h2
  obtain ⟨cf, kf, fi, ff, hi, hsl⟩ := hS j hj
  have hlay := h.2.2.2.2.1 _ (h3 _ (u_in_lay hj))
  unfold u_lay at hlay
  rw [if_neg (by rw [hfin]; decide)] at hlay
  have hst := (u_facts hfc hkC (u_lays h.2.2.2.2.1 h3 hj) hi).1
  have h6' := u_store hfc hkC hkind hlay hi (h4 j hj) hnf.1 hnf.2
  have hi2 : s.fieldFound? Cn (T j).2.1 (T j).2.2.1 = some (cf, kf, fi, ff) := by rw [← h8 j hj]; exact hi
  refine W.putK h.1 h.2.1 (f := ff) ⟨h.2.2.2.1, h.2.2.2.2.1 _ hw, ⟨_, _, _, hi2⟩, hst⟩ (by rw [q2]; exact h6') q1 q3 (by rw [hsl]; exact k2_hasslot (q4 j hj)) rfl rfl hd fun H' e1 e2 e3 => ?_
  rw [hsl] at e1 ⊢
  refine kk H' _ lm ?_ hm
  rw [up3_up2]
  refine rl_set hR hk ?_ e2 e3
  rw [cel_obj h1]
  refine ⟨_, h2, t_OB.to (V := updV (vp_V ((tyT.getD f []).mapIdx (fun j t => vv bs (pv ph t k (σ f k j))))) j (vv bs q)) ⟨_, e1, q2, q3, t_set q4 hap hj (vv bs q)⟩ (fun i _ => ?_)⟩
  rw [← hq]
  exact fs_V h6 hj hc i
theorem idx_in {i : Int} {m len : Nat} (hm : i = (m : Int)) (hlt : m < len) (hl : len < 2147483648) : vp_in (Int32.ofInt i) len ∧ (Int32.ofInt i).toNatClampNeg = m := by
  have e : (Int32.ofInt i).toInt = (m : Int) := by rw [hm]; exact Int32.toInt_ofInt_of_le (by omega) (by omega)
  refine ⟨vp_in_iff.mpr (by omega), ?_⟩
  show (Int32.ofInt i).toInt.toNat = m
  rw [e]; rfl
theorem kdT_small : kdT.all (fun q => decide (q.2 < 2147483648)) = true := by decide +kernel
theorem kd_small {f : Nat} : (kd f).2 < 2147483648 := by
  unfold kd
  rw [List.getD_eq_getElem?_getD]
  cases h : kdT[f]? with
  | none => decide
  | some q => exact of_decide_eq_true (List.all_eq_true.mp kdT_small q (List.mem_of_getElem? h))
theorem x_iald (h : Ok C own cc nL d) {f k m len : Nat} {i : Int} (hf : kd f = (1, len)) (hk : Lv n f k) (hd : decode cc pc = .ok (.iaload, 1)) (hm : i = (m : Int)) (hlt : m < len) (kk : X C ph (pc + 1) ls (vI (σ f k m) :: st) n σ nc ns) : X C ph pc ls (vI i :: vR f k :: st) n σ nc ns := by
  obtain ⟨p, l, e, R, s, m', args, below, meth, c, Q, D, ca, bs⟩ := C
  intro H locs lm hR hl
  have hat := wo_at (ca := ca) (bs := bs) (ph := ph) (σ := σ) hk
  rw [cel_int hf (Or.inl rfl)] at hat
  obtain ⟨hin, hc⟩ := idx_in hm hlt (by have := kd_small (f := f); rw [hf] at this; exact this)
  refine va_iald (D := D) (cl := vwCl) h.1 h.2.1 h.2.2.2.2.2.1.1 hR.2.1 (num f k) 0 hat rfl hin hd ?_
  rw [hc]
  exact kk H locs lm hR hl
theorem x_lald (h : Ok C own cc nL d) {f k m len : Nat} {i : Int} (hf : kd f = (4, len)) (hk : Lv n f k) (hd : decode cc pc = .ok (.laload, 1)) (hm : i = (m : Int)) (hlt : m < len) (kk : X C ph (pc + 1) ls (vL (σ f k m) :: st) n σ nc ns) : X C ph pc ls (vI i :: vR f k :: st) n σ nc ns := by
  obtain ⟨p, l, e, R, s, m', args, below, meth, c, Q, D, ca, bs⟩ := C
  intro H locs lm hR hl
  have hat := wo_at (ca := ca) (bs := bs) (ph := ph) (σ := σ) hk
  rw [cel_long hf] at hat
  obtain ⟨hin, hc⟩ := idx_in hm hlt (by have := kd_small (f := f); rw [hf] at this; exact this)
  refine va_lald (D := D) (cl := vwCl) h.1 h.2.1 h.2.2.2.2.2.1.1 hR.2.1 (num f k) 3 hat rfl hin hd ?_
  rw [hc]
  exact kk H locs lm hR hl
theorem x_bald (h : Ok C own cc nL d) {f k m len : Nat} {i : Int} (hf : kd f = (2, len)) (hk : Lv n f k) (hd : decode cc pc = .ok (.baload, 1)) (hm : i = (m : Int)) (hlt : m < len) (kk : X C ph (pc + 1) ls (vI (σ f k m) :: st) n σ nc ns) : X C ph pc ls (vI i :: vR f k :: st) n σ nc ns := by
  obtain ⟨p, l, e, R, s, m', args, below, meth, c, Q, D, ca, bs⟩ := C
  intro H locs lm hR hl
  have hat := wo_at (ca := ca) (bs := bs) (ph := ph) (σ := σ) hk
  rw [cel_int hf (Or.inr (Or.inl rfl))] at hat
  obtain ⟨hin, hc⟩ := idx_in hm hlt (by have := kd_small (f := f); rw [hf] at this; exact this)
  refine va_bald (D := D) (cl := vwCl) h.1 h.2.1 h.2.2.2.2.2.1.1 hR.2.1 (num f k) 1 hat rfl hin hd ?_
  rw [hc]
  exact kk H locs lm hR hl
theorem x_zald (h : Ok C own cc nL d) {f k m len : Nat} {i : Int} (hf : kd f = (3, len)) (hk : Lv n f k) (hd : decode cc pc = .ok (.baload, 1)) (hm : i = (m : Int)) (hlt : m < len) (kk : X C ph (pc + 1) ls (vI (σ f k m) :: st) n σ nc ns) : X C ph pc ls (vI i :: vR f k :: st) n σ nc ns := by
  obtain ⟨p, l, e, R, s, m', args, below, meth, c, Q, D, ca, bs⟩ := C
  intro H locs lm hR hl
  have hat := wo_at (ca := ca) (bs := bs) (ph := ph) (σ := σ) hk
  rw [cel_int hf (Or.inr (Or.inr rfl))] at hat
  obtain ⟨hin, hc⟩ := idx_in hm hlt (by have := kd_small (f := f); rw [hf] at this; exact this)
  refine va_zald (D := D) (cl := vwCl) h.1 h.2.1 h.2.2.2.2.2.1.1 hR.2.1 (num f k) 2 hat rfl hin hd ?_
  rw [hc]
  exact kk H locs lm hR hl
/-- an entry of a TEXT's TABLES, behind the constructors -/
theorem x_aald (h : Ok C own cc nL d) {f k m len : Nat} {i : Int} (hf : kd f = (5, len)) (hk : Lv n f k) (hd : decode cc pc = .ok (.aaload, 1)) (hm : i = (m : Int)) (hlt : m < len) (kk : X C 1 (pc + 1) ls (vR 5 (12 * k + m) :: st) n σ nc ns) : X C 1 pc ls (vI i :: vR f k :: st) n σ nc ns := by
  obtain ⟨p, l, e, R, s, m', args, below, meth, c, Q, D, ca, bs⟩ := C
  intro H locs lm hR hl
  have hat := wo_at (ca := ca) (bs := bs) (ph := 1) (σ := σ) hk
  rw [cel_ref hf] at hat
  obtain ⟨hin, hc⟩ := idx_in hm hlt (by have := kd_small (f := f); rw [hf] at this; exact this)
  refine va_aldq (D := D) (cl := vwCl) (C := RX2) h.1 h.2.1 h.2.2.2.2.2.1.1 hR.2.1 (num f k) 4 hat rfl hin hd ?_
  rw [hc]
  exact kk H locs lm hR hl
theorem x_alen (h : Ok C own cc nL d) {f k m len : Nat} (hf : kd f = (m, len)) (hm : m = 1 ∨ m = 2 ∨ m = 3 ∨ m = 4 ∨ m = 5) (hk : Lv n f k) (hd : decode cc pc = .ok (.arraylength, 1)) (kk : X C ph (pc + 1) ls (vI (len : Int) :: st) n σ nc ns) : X C ph pc ls (vR f k :: st) n σ nc ns := by
  obtain ⟨p, l, e, R, s, m', args, below, meth, c, Q, D, ca, bs⟩ := C
  intro H locs lm hR hl
  have hat := wo_at (ca := ca) (bs := bs) (ph := ph) (σ := σ) hk
  have hv : Int32.ofNat len = Int32.ofInt (len : Int) := (Int32.ofInt_eq_ofNat).symm
  rcases hm with rfl | rfl | rfl | rfl | rfl
  · rw [cel_int hf (Or.inl rfl)] at hat
    exact va_alen (D := D) (cl := vwCl) h.1 h.2.1 h.2.2.2.2.2.1.1 hR.2.1 (num f k) 0 hat (ty := .int) rfl hv hd (kk H locs lm hR hl)
  · rw [cel_int hf (Or.inr (Or.inl rfl))] at hat
    exact va_alen (D := D) (cl := vwCl) h.1 h.2.1 h.2.2.2.2.2.1.1 hR.2.1 (num f k) 1 hat (ty := .byte) rfl hv hd (kk H locs lm hR hl)
  · rw [cel_int hf (Or.inr (Or.inr rfl))] at hat
    exact va_alen (D := D) (cl := vwCl) h.1 h.2.1 h.2.2.2.2.2.1.1 hR.2.1 (num f k) 2 hat (ty := .boolean) rfl hv hd (kk H locs lm hR hl)
  · rw [cel_long hf] at hat
    exact va_alen (D := D) (cl := vwCl) h.1 h.2.1 h.2.2.2.2.2.1.1 hR.2.1 (num f k) 3 hat (ty := .long) rfl hv hd (kk H locs lm hR hl)
  · rw [cel_ref hf] at hat
    exact va_alen (D := D) (cl := vwCl) h.1 h.2.1 h.2.2.2.2.2.1.1 hR.2.1 (num f k) 4 hat (ty := .object RX2) rfl hv hd (kk H locs lm hR hl)
theorem mm_set {cA : ClassId} {len m : Nat} {g : Nat → Int} {x : Int} (v : Int → Value) : (arrV cA len (fun j => v (g j))).setSlot m (v x) = arrV cA len (fun j => v (up1 g m x j)) := by
  rw [arrV_store]
  congr 1
  funext q
  by_cases hq : q = m
  · subst hq; simp [updV, up1]
  · simp [updV, up1, hq]
theorem x_iast (h : Ok C own cc nL d) {f k m len : Nat} {i x : Int} (hf : kd f = (1, len)) (hk : Lv n f k) (hd : decode cc pc = .ok (.iastore, 1)) (hm : i = (m : Int)) (hlt : m < len) (kk : X C ph (pc + 1) ls st n (up3 σ f k m x) nc ns) : X C ph pc ls (vI x :: vI i :: vR f k :: st) n σ nc ns := by
  obtain ⟨p, l, e, R, s, m', args, below, meth, c, Q, D, ca, bs⟩ := C
  intro H locs lm hR hl
  have hat := wo_at (ca := ca) (bs := bs) (ph := ph) (σ := σ) hk
  rw [cel_int hf (Or.inl rfl)] at hat
  obtain ⟨hin, hc⟩ := idx_in hm hlt (by have := kd_small (f := f); rw [hf] at this; exact this)
  refine W.iast h.1 h.2.1 (hR.2.1 (num f k) _ hat) ((h.2.2.2.2.2.1.1.2 0 _ rfl).1 len (fun j => .int (Int32.ofInt (σ f k j)))) (fun q => by cases q) (by show ¬ (_ < 0 ∨ (arrV _ _ _).slots.size ≤ _); rw [arrV_size]; exact hin) rfl rfl hd fun H1 e1 z oq => ?_
  rw [hc] at e1 ⊢
  refine kk H1 _ lm ?_ hl
  rw [up3_up2]
  refine rl_set hR hk ?_ z oq
  rw [cel_int hf (Or.inl rfl)]
  show H1[_]? = some (vp_cell _ _)
  rw [e1, vp_cell_i, vp_cell_i]
  exact congrArg some (mm_set (fun x => .int (Int32.ofInt x)))
theorem x_last (h : Ok C own cc nL d) {f k m len : Nat} {i x : Int} (hf : kd f = (4, len)) (hk : Lv n f k) (hd : decode cc pc = .ok (.lastore, 1)) (hm : i = (m : Int)) (hlt : m < len) (kk : X C ph (pc + 1) ls st n (up3 σ f k m x) nc ns) : X C ph pc ls (vL x :: vI i :: vR f k :: st) n σ nc ns := by
  obtain ⟨p, l, e, R, s, m', args, below, meth, c, Q, D, ca, bs⟩ := C
  intro H locs lm hR hl
  have hat := wo_at (ca := ca) (bs := bs) (ph := ph) (σ := σ) hk
  rw [cel_long hf] at hat
  obtain ⟨hin, hc⟩ := idx_in hm hlt (by have := kd_small (f := f); rw [hf] at this; exact this)
  refine W.last h.1 h.2.1 (hR.2.1 (num f k) _ hat) ((h.2.2.2.2.2.1.1.2 3 _ rfl).1 len (fun j => .long (Int64.ofInt (σ f k j)))) (fun q => by cases q) (by show ¬ (_ < 0 ∨ (arrV _ _ _).slots.size ≤ _); rw [arrV_size]; exact hin) rfl rfl hd fun H1 e1 z oq => ?_
  rw [hc] at e1 ⊢
  refine kk H1 _ lm ?_ hl
  rw [up3_up2]
  refine rl_set hR hk ?_ z oq
  rw [cel_long hf]
  show H1[_]? = some (vp_cell _ _)
  rw [e1, vp_cell_l, vp_cell_l]
  exact congrArg some (mm_set (fun x => .long (Int64.ofInt x)))
theorem nar_b {x : Int} (h : -128 ≤ x ∧ x < 128) : narrow .byte (.int (Int32.ofInt x)) = .int (Int32.ofInt x) := by
  show Value.int (Int32.ofInt x).toInt8.toInt32 = _
  congr 1
  rw [Int32.toInt8_ofInt]
  have e : (Int8.ofInt x).toInt32 = Int32.ofInt (Int8.ofInt x).toInt := (Int32.ofInt_int8ToInt _).symm
  rw [e, Int8.toInt_ofInt_of_le (by omega) (by omega)]
theorem x_bast (h : Ok C own cc nL d) {f k m len : Nat} {i x : Int} (hf : kd f = (2, len)) (hk : Lv n f k) (hx : -128 ≤ x ∧ x < 128) (hd : decode cc pc = .ok (.bastore, 1)) (hm : i = (m : Int)) (hlt : m < len) (kk : X C ph (pc + 1) ls st n (up3 σ f k m x) nc ns) : X C ph pc ls (vI x :: vI i :: vR f k :: st) n σ nc ns := by
  obtain ⟨p, l, e, R, s, m', args, below, meth, c, Q, D, ca, bs⟩ := C
  intro H locs lm hR hl
  have hat := wo_at (ca := ca) (bs := bs) (ph := ph) (σ := σ) hk
  rw [cel_int hf (Or.inr (Or.inl rfl))] at hat
  obtain ⟨hin, hc⟩ := idx_in hm hlt (by have := kd_small (f := f); rw [hf] at this; exact this)
  refine W.bast h.1 h.2.1 (hR.2.1 (num f k) _ hat) ((h.2.2.2.2.2.1.1.2 1 _ rfl).1 len (fun j => .int (Int32.ofInt (σ f k j)))) (fun q => by cases q) (by show ¬ (_ < 0 ∨ (arrV _ _ _).slots.size ≤ _); rw [arrV_size]; exact hin) rfl rfl hd fun H1 e1 z oq => ?_
  rw [hc] at e1 ⊢
  rw [nar_b hx] at e1
  refine kk H1 _ lm ?_ hl
  rw [up3_up2]
  refine rl_set hR hk ?_ z oq
  rw [cel_int hf (Or.inr (Or.inl rfl))]
  show H1[_]? = some (vp_cell _ _)
  rw [e1, vp_cell_i, vp_cell_i]
  exact congrArg some (mm_set (fun x => .int (Int32.ofInt x)))
theorem x_zast (h : Ok C own cc nL d) {f k m len : Nat} {i x : Int} (hf : kd f = (3, len)) (hk : Lv n f k) (hx : x = 0 ∨ x = 1) (hd : decode cc pc = .ok (.bastore, 1)) (hm : i = (m : Int)) (hlt : m < len) (kk : X C ph (pc + 1) ls st n (up3 σ f k m x) nc ns) : X C ph pc ls (vI x :: vI i :: vR f k :: st) n σ nc ns := by
  obtain ⟨p, l, e, R, s, m', args, below, meth, c, Q, D, ca, bs⟩ := C
  intro H locs lm hR hl
  have hat := wo_at (ca := ca) (bs := bs) (ph := ph) (σ := σ) hk
  rw [cel_int hf (Or.inr (Or.inr rfl))] at hat
  obtain ⟨hin, hc⟩ := idx_in hm hlt (by have := kd_small (f := f); rw [hf] at this; exact this)
  refine W.zast h.1 h.2.1 (hR.2.1 (num f k) _ hat) ((h.2.2.2.2.2.1.1.2 2 _ rfl).1 len (fun j => .int (Int32.ofInt (σ f k j)))) (fun q => by cases q) (by show ¬ (_ < 0 ∨ (arrV _ _ _).slots.size ≤ _); rw [arrV_size]; exact hin) rfl rfl hd fun H1 e1 z oq => ?_
  have hnz : narrow .boolean (.int (Int32.ofInt x)) = .int (Int32.ofInt x) := by rcases hx with rfl | rfl <;> decide
  rw [hc] at e1 ⊢
  rw [hnz] at e1
  refine kk H1 _ lm ?_ hl
  rw [up3_up2]
  refine rl_set hR hk ?_ z oq
  rw [cel_int hf (Or.inr (Or.inr rfl))]
  show H1[_]? = some (vp_cell _ _)
  rw [e1, vp_cell_i, vp_cell_i]
  exact congrArg some (mm_set (fun x => .int (Int32.ofInt x)))
end MEM
end
section
/-! contracts and calls -/
def rmm (d mc ms : Nat) : Room := { frames := d, cells := mc, slots := ms, locals := 64 * d }
def Pcx (D : va_G) (ca : Nat → ClassId) (bs ph : Nat) (as : List PV) (n : Nat) (σ : Mm) : Array Value → State → Prop := va_Pc (as.map (vv bs)) (fun U => U.heap.size = bs + n ∧ va_P D vwCl (wo ca bs ph n σ) U.heap ∧ KK D ca U)
def Qcx (D : va_G) (ca : Nat → ClassId) (bs ph : Nat) (r : Option PV) (n : Nat) (σ : Mm) : Array Value → State → Outcome → State → Prop := fun _ st oc t => (oc = .returned (r.map (vv bs)) ∧ t.heap.size = bs + n ∧ va_P D vwCl (wo ca bs ph n σ) t.heap) ∧ va_F (fun q => bs ≤ q) st t
/-- a method's contract: from these arguments and this memory it returns r and leaves that memory -/
def Ct (d : Nat) (M : Mt) (ph : Nat) (as : List PV) (n : Nat) (σ : Mm) (r : Option PV) (n' : Nat) (σ' : Mm) (mc ms : Nat) : Prop := ∀ (l : Launch) (D : va_G) (ca : Nat → ClassId) (bs : Nat), Met l M.1 (Cond.code M.1 M.2.1 M.2.2.1 M.2.2.2.1 :: TB) (rmm d mc ms) (Pcx D ca bs ph as n σ) (Qcx D ca bs ph r n' σ') mc ms (fun q => bs ≤ q)
/-- what a context owes at its end -/
def Rt : Cx → Nat → Option FieldType → Option PV → Nat → Mm → Nat → Nat → Prop
  | (p, l, e, R, s, m, args, below, meth, c, Q, D, ca, bs), ph, ret, r, n, σ, mc, ms => Q = MQ below (Qcx D ca bs ph r n σ) args s mc ms (fun q => bs ≤ q) ∧ meth.sig.returnType = ret ∧ meth.locks = false ∧ R.cells = mc ∧ R.slots = ms
def Ini : Cx → Prop
  | (p, l, e, R, s, m, args, below, meth, c, Q, D, ca, bs) => meth.name = "<init>"
def lpa : Nat → List PV → List (Nat × PV)
  | _, [] => []
  | i, v :: vs => (i, v) :: lpa (if pcat v = 2 then i + 2 else i + 1) vs
theorem lpa_lvs (bs : Nat) : ∀ (vs : List PV) (i : Nat), lv_args i (vs.map (vv bs)) = lvs bs (lpa i vs) := by
  intro vs
  induction vs with
  | nil => intro i; rfl
  | cons v vs ih =>
    intro i
    show (i, vv bs v) :: lv_args (if (vv bs v).category = 2 then i + 2 else i + 1) (vs.map (vv bs)) = (i, vv bs v) :: lvs bs (lpa (if pcat v = 2 then i + 2 else i + 1) vs)
    rw [vv_cat, ih]
theorem sl_len (bs : Nat) : ∀ vs : List PV, (lg_sl (vs.map (vv bs))).length = (vs.map pcat).sum := by
  intro vs
  induction vs with
  | nil => rfl
  | cons v vs ih =>
    have e : lg_sl ((v :: vs).map (vv bs)) = lg_sl [vv bs v] ++ lg_sl (vs.map (vv bs)) := by simp [lg_sl]
    rw [e, List.length_append, ih, List.map_cons, List.sum_cons]
    congr 1
    rcases v with x | x | ⟨⟨f, k⟩⟩ | _ <;> rfl
theorem ct_of {d : Nat} {M : Mt} {ph : Nat} {as : List PV} {n : Nat} {σ : Mm} {r : Option PV} {n' : Nat} {σ' : Mm} {mc ms : Nat} (hp : plainName M.1.cls = true) (hlen : (as.map pcat).sum ≤ M.2.2.1)
    (body : ∀ C : Cx, Ok C M.1.cls M.2.1 M.2.2.1 d → Rt C ph M.2.2.2.1 r n' σ' mc ms → (M.1.name = "<init>" → Ini C) → X C ph 0 (lpa 0 as) [] n σ 0 0) : Ct d M ph as n σ r n' σ' mc ms := by
  intro l D ca bs
  refine Met.ofW (cc := M.2.1) (maxL := M.2.2.1) (ret := M.2.2.2.1) hp rfl ?_
  intro p e s m args below meth c s₁ B hml hv
  obtain ⟨rfl, hsz, hP, hK⟩ := hv
  have hts := atoms_spec (ws := Cond.code M.1 M.2.1 M.2.2.1 M.2.2.2.1 :: TB) B.pre
  have hown : s.vm.findClass M.1.cls = some m.cls := findClass_of_methodNamed B.named
  have hbs : bs ≤ s.heap.size := by rw [hsz]; omega
  have hl := lv_entry (as.map (vv bs)) (n := M.2.2.1) (by rw [sl_len]; exact hlen)
  rw [lg_entry_eq]
  rw [lpa_lvs] at hl
  have hC := body (p, l, e, rmm d mc ms, s, m, (as.map (vv bs)).toArray, below, meth, c, MQ below (Qcx D ca bs ph r n' σ') (as.map (vv bs)).toArray s mc ms (fun q => bs ≤ q), D, ca, bs)
    ⟨B.exec, B.bytes, hml, hown, fun w hw => hts w (List.mem_cons_of_mem _ hw), hK, hbs, Nat.le_refl _, Nat.le_refl _⟩
    ⟨rfl, B.returns, B.notSynchronized, rfl, rfl⟩ (fun hn => (name_of_methodNamed B.named B.method).1.trans hn)
  refine hC s.heap [] _ ⟨hsz, hP, va_S.rf⟩ ?_
  rw [hml]
  exact hl
section CALLS
variable {C : Cx} {own : String} {cc : ByteArray} {nL d ph pc n nc ns : Nat} {ls : List (Nat × PV)} {st : List PV} {σ : Mm}
theorem blind {D : va_G} {ca : Nat → ClassId} {bs ph : Nat} {as : List PV} {n : Nat} {σ : Mm} : FrameBlind (Pcx D ca bs ph as n σ) := fun a U g mk q => ⟨q.1, q.2.1, q.2.2.1, KK.same (s := U) (U := U.calling g mk a) rfl q.2.2.2⟩
theorem x_end (p : Program) (l : Launch) (e : Env) (R : Room) (s : State) (m : MethodId) (args : Array Value) (below : List Frame) (meth : Method) (c : Code) (Q : State → Prop) (D : va_G) (ca : Nat → ClassId) (bs : Nat) {stk rest : List Value} {a : Array Value} {r : Option PV} {n' : Nat} {σ' : Mm} {mc ms : Nat} {H : Heap} {locs : List Loc} {lm : Array Slot}
    (hr : va_Run p l e R s m args below meth c H locs nc ns mc ms (F0 m pc lm stk) rest (Qcx D ca bs ph r n' σ' a) (fun q => bs ≤ q)) (hR : Rl D ca bs ph n σ s.heap H locs)
    (k : ∀ (H1 : Heap) (locs1 : List Loc), Rl D ca bs ph n' σ' s.heap H1 locs1 → W p l e R s m args below meth c H1 locs1 (nc + mc) (ns + ms) Q (F0 m (pc + 3) lm ((r.map (vv bs)).toList ++ rest))) : W p l e R s m args below meth c H locs nc ns Q (F0 m pc lm stk) := by
  intro T hT X
  obtain ⟨v, st₀, t, T', L, h0, X', hL, e1, e2, ⟨⟨hv, hz, hP⟩, hF1, hF2⟩, st⟩ := hr T hT X
  cases hv
  rw [h0] at hF1 hF2
  obtain ⟨t2, a1, b1⟩ := k T'.heap (locs ++ L) ⟨by rw [e1]; exact hz, by rw [e1]; exact hP, Nat.le_trans hR.2.2.1 (by rw [e1]; exact hF1), fun q h1 h2 => by
      rw [e1, hF2 q (Nat.lt_of_lt_of_le h1 hR.2.2.1) h2]; exact hR.2.2.2.1 q h1 h2, fun q hq => by
      rcases List.mem_append.mp hq with h | h
      · exact hR.2.2.2.2 q h
      · exact hL q h⟩ T' rfl X'
  exact ⟨t2, st t2 a1, b1⟩
theorem good_V {own : String} {idx : Nat} {M : Mt} (hM : MkV M) (hl : Lk own idx M) : GoodIn TB (wsV own idx M.1.cls M.1 (Cond.code M.1 M.2.1 M.2.2.1 M.2.2.2.1 :: TB)) := by
  intro w hw
  have : w ∈ TB := by
    simp only [wsV, List.cons_append, List.nil_append, List.mem_cons] at hw
    rcases hw with rfl | rfl | rfl | rfl | rfl | hw
    · exact hl
    · exact hM.2.1
    · exact hM.2.2
    · exact hM.1.2.1
    · exact hM.1.1
    · exact hw
  exact ⟨this, tb_good w this⟩
theorem good_M {M : Mt} (hM : Mk M) : GoodIn TB (Cond.code M.1 M.2.1 M.2.2.1 M.2.2.2.1 :: TB) := by
  intro w hw
  have : w ∈ TB := by
    rcases List.mem_cons.mp hw with rfl | hw
    · exact hM.1
    · exact hw
  exact ⟨this, tb_good w this⟩
theorem good_S {own : String} {idx : Nat} {M : Mt} (hM : MkS M) (hl : Lk own idx M) : GoodIn TB (va_wsS own idx M.1 (Cond.code M.1 M.2.1 M.2.2.1 M.2.2.2.1 :: TB)) := by
  intro w hw
  have : w ∈ TB := by
    simp only [va_wsS, List.cons_append, List.nil_append, List.mem_cons] at hw
    rcases hw with rfl | rfl | rfl | rfl | hw
    · exact hl
    · exact hM.2
    · exact hM.1.2.1
    · exact hM.1.1
    · exact hw
  exact ⟨this, tb_good w this⟩
/-- the receiver's class -/
def Rc (f : Nat) (M : Mt) : Prop := ∃ (ci : Nat) (T : u_T) (N : Nat), kd f = (0, ci) ∧ vwCl[ci]? = some (M.1.cls, T, N)
theorem cat_sum (bs : Nat) (st : List PV) : ((st.map (vv bs)).map fun v => v.category).sum = (st.map pcat).sum := by
  rw [List.map_map]
  congr 1
  apply List.map_congr_left
  intro v _
  exact vv_cat bs v
theorem x_callV (h : Ok C own cc nL d) {d' idx f k mc ms : Nat} {M : Mt} {As : List PV} {stk : List PV} {r : Option PV} {n' : Nat} {σ' : Mm} (hM : MkV M) (hl : Lk own idx M) (hrc : Rc f M) (hk : Lv n f k) (hc : Ct d' M ph (vR f k :: As) n σ r n' σ' mc ms) (hst : stk = As.reverse ++ vR f k :: st) (hd : decode cc pc = .ok (.invokevirtual idx, 3)) (hA : As.length = M.2.2.2.2) (hcat : (st.map pcat).sum ≤ 8) (hdd : d' + 1 ≤ d)
    (hroom : nc + mc ≤ C.2.2.2.1.cells ∧ ns + ms ≤ C.2.2.2.1.slots) (kk : X C ph (pc + 3) ls (r.toList ++ st) n' σ' (nc + mc) (ns + ms)) : X C ph pc ls stk n σ nc ns := by
  obtain ⟨p, l, e, R, s, m, args, below, meth, c, Q, D, ca, bs⟩ := C
  intro H locs lm hR hm
  subst hst
  obtain ⟨ci, T, N, hf, hcl⟩ := hrc
  have hat := wo_at (ca := ca) (bs := bs) (ph := ph) (σ := σ) hk
  rw [cel_obj hf] at hat
  have hrun := va_runV (e := e) (below := below) (meth := meth) (nL := nL) (n := M.2.2.2.2) (As := As.map (vv bs)) (b := bs + num f k) (rest := st.map (vv bs)) (g := F0 m pc lm ((As.reverse ++ vR f k :: st).map (vv bs))) (locs := locs) (cells := nc) (slots := ns)
    (⟨h.1, h.2.1, h.2.2.1, h.2.2.2.1, h.2.2.2.2.1⟩ : CallFix p m c cc nL s args TB own) (hc l D ca bs)
    (cwV (R := R) (C := M.1.cls) M.2.2.2.2 h.2.2.2.2.1 (good_V hM hl) rfl rfl rfl ⟨rfl, hM.1.2.2.1⟩ ⟨by show d' + 1 ≤ R.frames; have := h.2.2.2.2.2.2.2.1; omega, by show 8 + (M.2.2.1 + 11) + 64 * d' ≤ R.locals; have := h.2.2.2.2.2.2.2.2; have := hM.1.2.2.2; omega⟩)
    ⟨blind, va_recv h.2.2.2.2.2.1.1 hR.2.1 hcl hat, fun U hU hW => ⟨rfl, by rw [hU]; exact hR.1, by rw [hU]; exact hR.2.1, KK.warm hW h.2.2.2.2.2.1⟩⟩
    rfl (by rw [List.length_map]; exact hA) (hm.1.trans h.2.2.1) (by simp [vv]) (by show 2 * 0 + _ ≤ 8; rw [cat_sum]; omega) hd hroom
  refine x_end p l e R s m args below meth c Q D ca bs hrun hR (fun H1 locs1 hR1 => ?_)
  have hk2 := kk H1 locs1 lm hR1 hm
  cases r <;> exact hk2
theorem x_callS (h : Ok C own cc nL d) {d' idx mc ms : Nat} {M : Mt} {As : List PV} {stk : List PV} {r : Option PV} {n' : Nat} {σ' : Mm} (hM : MkS M) (hl : Lk own idx M) (hc : Ct d' M ph As n σ r n' σ' mc ms) (hst : stk = As.reverse ++ st) (hd : decode cc pc = .ok (.invokestatic idx, 3)) (hA : As.length = M.2.2.2.2) (hcat : (st.map pcat).sum ≤ 8) (hdd : d' + 1 ≤ d)
    (hroom : nc + mc ≤ C.2.2.2.1.cells ∧ ns + ms ≤ C.2.2.2.1.slots) (kk : X C ph (pc + 3) ls (r.toList ++ st) n' σ' (nc + mc) (ns + ms)) : X C ph pc ls stk n σ nc ns := by
  obtain ⟨p, l, e, R, s, m, args, below, meth, c, Q, D, ca, bs⟩ := C
  intro H locs lm hR hm
  subst hst
  have hrun := va_runS (e := e) (below := below) (meth := meth) (nL := nL) (n := M.2.2.2.2) (As := As.map (vv bs)) (rest := st.map (vv bs)) (g := F0 m pc lm ((As.reverse ++ st).map (vv bs))) (H := H) (locs := locs) (cells := nc) (slots := ns)
    (⟨h.1, h.2.1, h.2.2.1, h.2.2.2.1, h.2.2.2.2.1⟩ : CallFix p m c cc nL s args TB own) (hc l D ca bs)
    (va_cwS (R := R) M.2.2.2.2 h.2.2.2.2.1 (good_S hM hl) rfl rfl rfl hM.1.2.2.1 ⟨by show d' + 1 ≤ R.frames; have := h.2.2.2.2.2.2.2.1; omega, by show 8 + (M.2.2.1 + 11) + 64 * d' ≤ R.locals; have := h.2.2.2.2.2.2.2.2; have := hM.1.2.2.2; omega⟩)
    ⟨blind, fun U hU hW => ⟨rfl, by rw [hU]; exact hR.1, by rw [hU]; exact hR.2.1, KK.warm hW h.2.2.2.2.2.1⟩⟩
    rfl (by rw [List.length_map]; exact hA) (hm.1.trans h.2.2.1) (by simp) (by show 2 * 0 + _ ≤ 8; rw [cat_sum]; omega) hd hroom
  refine x_end p l e R s m args below meth c Q D ca bs hrun hR (fun H1 locs1 hR1 => ?_)
  have hk2 := kk H1 locs1 lm hR1 hm
  cases r <;> exact hk2
theorem x_callN (h : Ok C own cc nL d) {d' idx mc ms : Nat} {host : String} {M : Mt} {As : List PV} {stk : List PV} {r : Option PV} {n' : Nat} {σ' : Mm} (hM : MkS M) (hl : LkN own idx M host) (hc : Ct d' M ph As n σ r n' σ' mc ms) (hst : stk = As.reverse ++ st) (hd : decode cc pc = .ok (.invokestatic idx, 3)) (hA : As.length = M.2.2.2.2) (hcat : (st.map pcat).sum ≤ 8) (hdd : d' + 1 ≤ d)
    (hroom : nc + mc ≤ C.2.2.2.1.cells ∧ ns + ms ≤ C.2.2.2.1.slots) (kk : X C ph (pc + 3) ls (r.toList ++ st) n' σ' (nc + mc) (ns + ms)) : X C ph pc ls stk n σ nc ns := by
  obtain ⟨p, l, e, R, s, m, args, below, meth, c, Q, D, ca, bs⟩ := C
  intro H locs lm hR hm
  subst hst
  have hrun := va_runSN (e := e) (below := below) (meth := meth) (nL := nL) (n := M.2.2.2.2) (As := As.map (vv bs)) (rest := st.map (vv bs)) (g := F0 m pc lm ((As.reverse ++ st).map (vv bs))) (H := H) (locs := locs) (cells := nc) (slots := ns)
    (⟨h.1, h.2.1, h.2.2.1, h.2.2.2.1, h.2.2.2.2.1⟩ : CallFix p m c cc nL s args TB own) (hc l D ca bs)
    ⟨va_cnB (R := R) M.2.2.2.2 h.2.2.2.2.1 (good_M hM.1) rfl rfl rfl (h.2.2.2.2.2.1.2.2 _ hl) (h.2.2.2.2.1 _ hM.1.2.1) hM.1.2.2.1 ⟨by show d' + 1 ≤ R.frames; have := h.2.2.2.2.2.2.2.1; omega, by show 8 + (M.2.2.1 + 11) + 64 * d' ≤ R.locals; have := h.2.2.2.2.2.2.2.2; have := hM.1.2.2.2; omega⟩, h.2.2.2.2.1 _ hM.2, trivial⟩
    ⟨blind, fun U hU hW => ⟨rfl, by rw [hU]; exact hR.1, by rw [hU]; exact hR.2.1, KK.warm hW h.2.2.2.2.2.1⟩⟩
    rfl (by rw [List.length_map]; exact hA) (hm.1.trans h.2.2.1) (by simp) (by show 2 * 0 + _ ≤ 8; rw [cat_sum]; omega) hd hroom
  refine x_end p l e R s m args below meth c Q D ca bs hrun hR (fun H1 locs1 hR1 => ?_)
  have hk2 := kk H1 locs1 lm hR1 hm
  cases r <;> exact hk2
theorem x_callI (h : Ok C own cc nL d) {d' idx f k mc ms : Nat} {M : Mt} {As : List PV} {stk : List PV} {n' : Nat} {σ' : Mm} (hM : MkI M) (hl : Lk own idx M) (hc : Ct d' M ph (vR f k :: As) n σ none n' σ' mc ms) (hst : stk = As.reverse ++ vR f k :: st) (hd : decode cc pc = .ok (.invokespecial idx, 3)) (hA : As.length = M.2.2.2.2) (hcat : (st.map pcat).sum ≤ 8) (hdd : d' + 1 ≤ d)
    (hroom : nc + mc ≤ C.2.2.2.1.cells ∧ ns + ms ≤ C.2.2.2.1.slots) (kk : X C ph (pc + 3) ls st n' σ' (nc + mc) (ns + ms)) : X C ph pc ls stk n σ nc ns := by
  obtain ⟨p, l, e, R, s, m, args, below, meth, c, Q, D, ca, bs⟩ := C
  intro H locs lm hR hm
  subst hst
  obtain ⟨⟨y, cb, mL, ret, na⟩, rfl⟩ : ∃ M', M = M' := ⟨_, rfl⟩
  obtain rfl : ret = none := hM.2.2.2
  have hrun := va_runI (e := e) (below := below) (meth := meth) (nL := nL) (n := na) (As := As.map (vv bs)) (b := bs + num f k) (rest := st.map (vv bs)) (g := F0 m pc lm ((As.reverse ++ vR f k :: st).map (vv bs))) (H := H) (locs := locs) (cells := nc) (slots := ns)
    (⟨h.1, h.2.1, h.2.2.1, h.2.2.2.1, h.2.2.2.2.1⟩ : CallFix p m c cc nL s args TB own) (hc l D ca bs)
    (cwI (R := R) na h.2.2.2.2.1 (good_M hM.1) rfl rfl rfl (h.2.2.2.2.1 _ hM.1.2.1) (h.2.2.2.2.1 _ hl) (h.2.2.2.2.1 _ hM.2.1) hM.2.2.1 hM.1.2.2.1 ⟨by show d' + 1 ≤ R.frames; have := h.2.2.2.2.2.2.2.1; omega, by show 8 + (mL + 11) + 64 * d' ≤ R.locals; have := h.2.2.2.2.2.2.2.2; have : mL ≤ 40 := hM.1.2.2.2; omega⟩)
    ⟨blind, fun U hU hW => ⟨rfl, by rw [hU]; exact hR.1, by rw [hU]; exact hR.2.1, KK.warm hW h.2.2.2.2.2.1⟩⟩
    rfl (by rw [List.length_map]; exact hA) (hm.1.trans h.2.2.1) (by simp [vv]) (by show 2 * 0 + _ ≤ 8; rw [cat_sum]; omega) hd hroom
  exact x_end p l e R s m args below meth c Q D ca bs hrun hR (fun H1 locs1 hR1 => kk H1 locs1 lm hR1 hm)
theorem x_objinit (h : Ok C own cc nL d) {idx f k : Nat} (h1 : 1 ≤ d) (hl : Cond.methodLink own idx objectInit ∈ TB) (hd : decode cc pc = .ok (.invokespecial idx, 3)) (hcat : (st.map pcat).sum ≤ 8) (kk : X C ph (pc + 3) ls st n σ nc ns) : X C ph pc ls (vR f k :: st) n σ nc ns := by
  obtain ⟨p, l, e, R, s, m, args, below, meth, c, Q, D, ca, bs⟩ := C
  intro H locs lm hR hm
  have hfr := h.2.2.2.2.2.2.2.1
  have hlo := h.2.2.2.2.2.2.2.2
  refine W.objInit h.1 h.2.1 h.2.2.2.1 (h.2.2.2.2.1 _ hl) (h.2.2.2.2.1 _ oi_tb) (h.2.2.2.2.1 _ oc_tb) rfl hm.1 (a := bs + num f k) (rest := st.map (vv bs)) rfl hd (by omega) ?_ (kk H locs lm hR hm)
  show 2 * 0 + _ + 12 ≤ R.locals
  rw [cat_sum]
  omega
/-- returns -/
theorem q_end {D : va_G} {ca : Nat → ClassId} {bs ph n : Nat} {σ : Mm} {r : Option PV} {s t : State} {H : Heap} {locs : List Loc} {a : Array Value} (hR : Rl D ca bs ph n σ s.heap H locs) (ht : t.heap = H) : Qcx D ca bs ph r n σ a s (.returned (r.map (vv bs))) t := ⟨⟨rfl, by rw [ht]; exact hR.1, by rw [ht]; exact hR.2.1⟩, hR.2.2.F ht⟩
theorem x_ireturn (h : Ok C own cc nL d) {ret : Option FieldType} {x : Int} {mc ms : Nat} (hr : Rt C ph ret (some (vI x)) n σ mc ms) (hd : decode cc pc = .ok (.ireturn, 1)) (hty : ret = some .int ∨ (ret = some .boolean ∧ (x = 0 ∨ x = 1))) (hn : nc ≤ mc ∧ ns ≤ ms) : X C ph pc ls [vI x] n σ nc ns := by
  obtain ⟨p, l, e, R, s, m, args, below, meth, c, Q, D, ca, bs⟩ := C
  intro H locs lm hR hm
  obtain ⟨rfl, hret, hlk, -, -⟩ := hr
  refine W.widen hn.1 hn.2 ?_
  rcases hty with rfl | ⟨rfl, hx⟩
  · exact W.iret (v := Int32.ofInt x) h.1 h.2.1 hret (fun t ht hW => q_end (r := some (vI x)) hR ht) hR.2.2.2.2 hd hlk
  · exact W.zret (v := Int32.ofInt x) (ty := .boolean) h.1 h.2.1 hret (by rcases hx with rfl | rfl <;> decide) (fun t ht hW => q_end (r := some (vI x)) hR ht) hR.2.2.2.2 hd hlk
theorem x_lreturn (h : Ok C own cc nL d) {x : Int} {mc ms : Nat} (hr : Rt C ph (some .long) (some (vL x)) n σ mc ms) (hd : decode cc pc = .ok (.lreturn, 1)) (hn : nc ≤ mc ∧ ns ≤ ms) : X C ph pc ls [vL x] n σ nc ns := by
  obtain ⟨p, l, e, R, s, m, args, below, meth, c, Q, D, ca, bs⟩ := C
  intro H locs lm hR hm
  obtain ⟨rfl, hret, hlk, -, -⟩ := hr
  refine W.widen hn.1 hn.2 ?_
  exact W.lret (v := Int64.ofInt x) h.1 h.2.1 hret (fun t ht hW => q_end (r := some (vL x)) hR ht) hR.2.2.2.2 hd hlk
theorem x_areturn (h : Ok C own cc nL d) {v : PV} {Cn : String} {mc ms : Nat} (hr : Rt C ph (some (.object Cn)) (some v) n σ mc ms) (hd : decode cc pc = .ok (.areturn, 1)) (hv : v = vN ∨ ∃ f k, v = vR f k) (hn : nc ≤ mc ∧ ns ≤ ms) : X C ph pc ls [v] n σ nc ns := by
  obtain ⟨p, l, e, R, s, m, args, below, meth, c, Q, D, ca, bs⟩ := C
  intro H locs lm hR hm
  obtain ⟨rfl, hret, hlk, -, -⟩ := hr
  refine W.widen hn.1 hn.2 ?_
  refine W.aret (v := vv bs v) h.1 h.2.1 hret (Or.inl ⟨_, rfl⟩) ?_ (fun t ht hW => q_end (r := some v) hR ht) hR.2.2.2.2 hd hlk
  rcases hv with rfl | ⟨f, k, rfl⟩
  · exact Or.inl rfl
  · exact Or.inr ⟨_, rfl⟩
theorem x_return (h : Ok C own cc nL d) {mc ms : Nat} (hr : Rt C ph none none n σ mc ms) (hd : decode cc pc = .ok (.return_, 1)) (hn : nc ≤ mc ∧ ns ≤ ms) : X C ph pc ls [] n σ nc ns := by
  obtain ⟨p, l, e, R, s, m, args, below, meth, c, Q, D, ca, bs⟩ := C
  intro H locs lm hR hm
  obtain ⟨rfl, hret, hlk, -, -⟩ := hr
  refine W.widen hn.1 hn.2 ?_
  exact W.vret h.1 h.2.1 hret (fun t ht hW => q_end (r := none) hR ht) hR.2.2.2.2 hd hlk
/-- switches, at a known number -/
theorem x_tsIn (h : Ok C own cc nL d) {dflt lo hi : Int} {offs : Array Int} {len : Nat} {x off : Int} {tgt : Nat} (hd : decode cc pc = .ok (.tableswitch dflt lo hi offs, len)) (hr : -2147483648 ≤ x ∧ x < 2147483648) (h1 : lo ≤ x ∧ x ≤ hi) (ho : offs[(x - lo).toNat]? = some off) (ht : (pc : Int) + off = (tgt : Int)) (k : X C ph tgt ls st n σ nc ns) : X C ph pc ls (vI x :: st) n σ nc ns := by
  obtain ⟨p, l, e, R, s, m, args, below, meth, c, Q, D, ca, bs⟩ := C
  intro H locs lm hR hm
  have ex : (Int32.ofInt x).toInt = x := Int32.toInt_ofInt_of_le (by omega) (by omega)
  exact lv_tableIn h.1 h.2.1 hd (by rw [ex]; omega) (by rw [ex]; omega) (by rw [ex]; exact ho) ht (k H locs lm hR hm)
theorem x_tsOut (h : Ok C own cc nL d) {dflt lo hi : Int} {offs : Array Int} {len : Nat} {x : Int} {tgt : Nat} (hd : decode cc pc = .ok (.tableswitch dflt lo hi offs, len)) (hr : -2147483648 ≤ x ∧ x < 2147483648) (h1 : x < lo ∨ hi < x) (ht : (pc : Int) + dflt = (tgt : Int)) (k : X C ph tgt ls st n σ nc ns) : X C ph pc ls (vI x :: st) n σ nc ns := by
  obtain ⟨p, l, e, R, s, m, args, below, meth, c, Q, D, ca, bs⟩ := C
  intro H locs lm hR hm
  have ex : (Int32.ofInt x).toInt = x := Int32.toInt_ofInt_of_le (by omega) (by omega)
  exact lv_tableOut h.1 h.2.1 hd (by rw [ex]; exact h1) ht (k H locs lm hR hm)
theorem x_ls (h : Ok C own cc nL d) {dflt : Int} {ps : Array (Int × Int)} {len : Nat} {x off : Int} {tgt : Nat} (hd : decode cc pc = .ok (.lookupswitch dflt ps, len)) (hp : (ps.toList.zip (ps.toList.drop 1)).all (fun (a, next) => a.1 < next.1) = true) (hr : -2147483648 ≤ x ∧ x < 2147483648) (ho : Op.lookupswitch.offset ps.toList dflt x = off) (ht : (pc : Int) + off = (tgt : Int)) (k : X C ph tgt ls st n σ nc ns) : X C ph pc ls (vI x :: st) n σ nc ns := by
  obtain ⟨p, l, e, R, s, m, args, below, meth, c, Q, D, ca, bs⟩ := C
  intro H locs lm hR hm
  have ex : (Int32.ofInt x).toInt = x := Int32.toInt_ofInt_of_le (by omega) (by omega)
  exact lv_lookup h.1 h.2.1 hd hp (by rw [ex]; exact ho) ht (k H locs lm hR hm)
/-- calls that make nothing -/
theorem x_cV1 (h : Ok C own cc nL d) {d' idx f k : Nat} {M : Mt} {As : List PV} {stk : List PV} {v : PV} {n' : Nat} {σ' : Mm} (hM : MkV M) (hl : Lk own idx M) (hrc : Rc f M) (hd : decode cc pc = .ok (.invokevirtual idx, 3)) (hc : Ct d' M ph (vR f k :: As) n σ (some v) n' σ' 0 0) (hk : Lv n f k) (hst : stk = As.reverse ++ vR f k :: st) (hA : As.length = M.2.2.2.2) (hcat : (st.map pcat).sum ≤ 8) (hdd : d' + 1 ≤ d) (kk : X C ph (pc + 3) ls (v :: st) n' σ' 0 0) : X C ph pc ls stk n σ 0 0 := x_callV h hM hl hrc hk hc hst hd hA hcat hdd ⟨Nat.zero_le _, Nat.zero_le _⟩ kk
theorem x_cV0 (h : Ok C own cc nL d) {d' idx f k : Nat} {M : Mt} {As : List PV} {stk : List PV} {n' : Nat} {σ' : Mm} (hM : MkV M) (hl : Lk own idx M) (hrc : Rc f M) (hd : decode cc pc = .ok (.invokevirtual idx, 3)) (hc : Ct d' M ph (vR f k :: As) n σ none n' σ' 0 0) (hk : Lv n f k) (hst : stk = As.reverse ++ vR f k :: st) (hA : As.length = M.2.2.2.2) (hcat : (st.map pcat).sum ≤ 8) (hdd : d' + 1 ≤ d) (kk : X C ph (pc + 3) ls st n' σ' 0 0) : X C ph pc ls stk n σ 0 0 := x_callV h hM hl hrc hk hc hst hd hA hcat hdd ⟨Nat.zero_le _, Nat.zero_le _⟩ kk
theorem x_cS1 (h : Ok C own cc nL d) {d' idx : Nat} {M : Mt} {As : List PV} {stk : List PV} {v : PV} {n' : Nat} {σ' : Mm} (hM : MkS M) (hl : Lk own idx M) (hd : decode cc pc = .ok (.invokestatic idx, 3)) (hc : Ct d' M ph As n σ (some v) n' σ' 0 0) (hst : stk = As.reverse ++ st) (hA : As.length = M.2.2.2.2) (hcat : (st.map pcat).sum ≤ 8) (hdd : d' + 1 ≤ d) (kk : X C ph (pc + 3) ls (v :: st) n' σ' 0 0) : X C ph pc ls stk n σ 0 0 := x_callS h hM hl hc hst hd hA hcat hdd ⟨Nat.zero_le _, Nat.zero_le _⟩ kk
theorem x_cS0 (h : Ok C own cc nL d) {d' idx : Nat} {M : Mt} {As : List PV} {stk : List PV} {n' : Nat} {σ' : Mm} (hM : MkS M) (hl : Lk own idx M) (hd : decode cc pc = .ok (.invokestatic idx, 3)) (hc : Ct d' M ph As n σ none n' σ' 0 0) (hst : stk = As.reverse ++ st) (hA : As.length = M.2.2.2.2) (hcat : (st.map pcat).sum ≤ 8) (hdd : d' + 1 ≤ d) (kk : X C ph (pc + 3) ls st n' σ' 0 0) : X C ph pc ls stk n σ 0 0 := x_callS h hM hl hc hst hd hA hcat hdd ⟨Nat.zero_le _, Nat.zero_le _⟩ kk
theorem x_cN1 (h : Ok C own cc nL d) {d' idx : Nat} {host : String} {M : Mt} {As : List PV} {stk : List PV} {v : PV} {n' : Nat} {σ' : Mm} (hM : MkS M) (hl : LkN own idx M host) (hd : decode cc pc = .ok (.invokestatic idx, 3)) (hc : Ct d' M ph As n σ (some v) n' σ' 0 0) (hst : stk = As.reverse ++ st) (hA : As.length = M.2.2.2.2) (hcat : (st.map pcat).sum ≤ 8) (hdd : d' + 1 ≤ d) (kk : X C ph (pc + 3) ls (v :: st) n' σ' 0 0) : X C ph pc ls stk n σ 0 0 := x_callN h hM hl hc hst hd hA hcat hdd ⟨Nat.zero_le _, Nat.zero_le _⟩ kk
theorem x_cN0 (h : Ok C own cc nL d) {d' idx : Nat} {host : String} {M : Mt} {As : List PV} {stk : List PV} {n' : Nat} {σ' : Mm} (hM : MkS M) (hl : LkN own idx M host) (hd : decode cc pc = .ok (.invokestatic idx, 3)) (hc : Ct d' M ph As n σ none n' σ' 0 0) (hst : stk = As.reverse ++ st) (hA : As.length = M.2.2.2.2) (hcat : (st.map pcat).sum ≤ 8) (hdd : d' + 1 ≤ d) (kk : X C ph (pc + 3) ls st n' σ' 0 0) : X C ph pc ls stk n σ 0 0 := x_callN h hM hl hc hst hd hA hcat hdd ⟨Nat.zero_le _, Nat.zero_le _⟩ kk
theorem x_mathmin (h : Ok C own cc nL d) {idx : Nat} {a b : Int} (h1 : 1 ≤ d) (hl : Lk own idx mJ9_min_7cf53) (hr : (-2147483648 ≤ a ∧ a < 2147483648) ∧ (-2147483648 ≤ b ∧ b < 2147483648)) (hd : decode cc pc = .ok (.invokestatic idx, 3)) (hcat : (st.map pcat).sum ≤ 8) (hroom : nc ≤ C.2.2.2.1.cells ∧ ns ≤ C.2.2.2.1.slots) (kk : X C ph (pc + 3) ls (vI (min a b) :: st) n σ nc ns) : X C ph pc ls (vI b :: vI a :: st) n σ nc ns := by
  obtain ⟨p, l, e, R, s, m, args, below, meth, c, Q, D, ca, bs⟩ := C
  intro H locs lm hR hm
  have hfr := h.2.2.2.2.2.2.2.1
  have hlo := h.2.2.2.2.2.2.2.2
  refine va_mmin (R := R) h.1 h.2.1 hm.1.symm h.2.2.2.1 (h.2.2.2.2.1 _ hl) (h.2.2.2.2.1 _ kSJ9_min_7cf53.2) (h.2.2.2.2.1 _ kJ9_min_7cf53.2.1) (h.2.2.2.2.1 _ kJ9_min_7cf53.1) (by omega) (by rw [cat_sum]; omega) hroom.1 hroom.2 hd ?_
  have e : (if Int32.ofInt b < Int32.ofInt a then Int32.ofInt b else Int32.ofInt a) = Int32.ofInt (min a b) := by
    simp only [i32_lt hr.2 hr.1]
    split
    · rw [Int.min_eq_right (by omega)]
    · rw [Int.min_eq_left (by omega)]
  rw [e]
  exact kk H locs lm hR hm
theorem x_mathminL (h : Ok C own cc nL d) {idx : Nat} {a b : Int} (h1 : 1 ≤ d) (hl : Lk own idx mJ9_min_f86c9) (hr : (-9223372036854775808 ≤ a ∧ a < 9223372036854775808) ∧ (-9223372036854775808 ≤ b ∧ b < 9223372036854775808)) (hd : decode cc pc = .ok (.invokestatic idx, 3)) (hcat : (st.map pcat).sum ≤ 8) (hroom : nc ≤ C.2.2.2.1.cells ∧ ns ≤ C.2.2.2.1.slots) (kk : X C ph (pc + 3) ls (vL (min a b) :: st) n σ nc ns) : X C ph pc ls (vL b :: vL a :: st) n σ nc ns := by
  obtain ⟨p, l, e, R, s, m, args, below, meth, c, Q, D, ca, bs⟩ := C
  intro H locs lm hR hm
  have hfr := h.2.2.2.2.2.2.2.1
  have hlo := h.2.2.2.2.2.2.2.2
  refine va_mmin_long (R := R) h.1 h.2.1 hm.1.symm h.2.2.2.1 (h.2.2.2.2.1 _ hl) (h.2.2.2.2.1 _ kSJ9_min_f86c9.2) (h.2.2.2.2.1 _ kJ9_min_f86c9.2.1) (h.2.2.2.2.1 _ kJ9_min_f86c9.1) (by omega) (by rw [cat_sum]; omega) hroom.1 hroom.2 hd ?_
  have e : (if Int64.ofInt b < Int64.ofInt a then Int64.ofInt b else Int64.ofInt a) = Int64.ofInt (min a b) := by
    simp only [i64_lt hr.2 hr.1]
    split
    · rw [Int.min_eq_right (by omega)]
    · rw [Int.min_eq_left (by omega)]
  rw [e]
  exact kk H locs lm hR hm
theorem x_mathmaxL (h : Ok C own cc nL d) {idx : Nat} {a b : Int} (h1 : 1 ≤ d) (hl : Lk own idx mJ9_max_f86c9) (hr : (-9223372036854775808 ≤ a ∧ a < 9223372036854775808) ∧ (-9223372036854775808 ≤ b ∧ b < 9223372036854775808)) (hd : decode cc pc = .ok (.invokestatic idx, 3)) (hcat : (st.map pcat).sum ≤ 8) (hroom : nc ≤ C.2.2.2.1.cells ∧ ns ≤ C.2.2.2.1.slots) (kk : X C ph (pc + 3) ls (vL (max a b) :: st) n σ nc ns) : X C ph pc ls (vL b :: vL a :: st) n σ nc ns := by
  obtain ⟨p, l, e, R, s, m, args, below, meth, c, Q, D, ca, bs⟩ := C
  intro H locs lm hR hm
  have hfr := h.2.2.2.2.2.2.2.1
  have hlo := h.2.2.2.2.2.2.2.2
  refine va_mmax_long (R := R) h.1 h.2.1 hm.1.symm h.2.2.2.1 (h.2.2.2.2.1 _ hl) (h.2.2.2.2.1 _ kSJ9_max_f86c9.2) (h.2.2.2.2.1 _ kJ9_max_f86c9.2.1) (h.2.2.2.2.1 _ kJ9_max_f86c9.1) (by omega) (by rw [cat_sum]; omega) hroom.1 hroom.2 hd ?_
  have e : (if Int64.ofInt b < Int64.ofInt a then Int64.ofInt a else Int64.ofInt b) = Int64.ofInt (max a b) := by
    simp only [i64_lt hr.2 hr.1]
    split
    · rw [Int.max_eq_left (by omega)]
    · rw [Int.max_eq_right (by omega)]
  rw [e]
  exact kk H locs lm hR hm
end CALLS
section NULLS
variable {C : Cx} {own : String} {cc : ByteArray} {nL d ph pc n nc ns : Nat} {ls : List (Nat × PV)} {st : List PV} {σ : Mm}
theorem x_astoreN_n (h : Ok C own cc nL d) {i : Fin 4} (hd : decode cc pc = .ok (.astore_n i, 1)) (hi : i.val < nL) (k : X C ph (pc + 1) (lput1 i.val vN ls) st n σ nc ns) : X C ph pc ls (vN :: st) n σ nc ns := by
  obtain ⟨p, l, e, R, s, m, args, below, meth, c, Q, D, ca, bs⟩ := C
  intro H locs lm hR hm
  obtain ⟨ls', e', h'⟩ := lv_store1 (v := Value.null) hm (h.2.2.1 ▸ hi) rfl
  rw [show (Value.null) = vv bs vN from rfl, lvs_1] at h'
  intro T hT X
  obtain ⟨t, a, b⟩ := k H locs ls' hR h' T hT X
  refine ⟨t, ?_, b⟩
  have e2 : storeLocals lm i.val Value.null = some ls' := e'
  have hx := h.1
  have hb := h.2.1
  jvm_step X.here [X.here.top, ↓top_set X.here.top, hx, hb, hd, e2, vv, Value.isRef]
  exact a
theorem x_aloadN_n (h : Ok C own cc nL d) {i : Fin 4} (hd : decode cc pc = .ok (.aload_n i, 1)) (hl : lget ls i.val = some vN) (k : X C ph (pc + 1) ls (vN :: st) n σ nc ns) : X C ph pc ls st n σ nc ns := by
  obtain ⟨p, l, e, R, s, m, args, below, meth, c, Q, D, ca, bs⟩ := C
  intro H locs lm hR hm
  have hg := lv_get hm hl
  intro T hT X
  obtain ⟨t, a, b⟩ := k H locs lm hR hm T hT X
  refine ⟨t, ?_, b⟩
  have hx := h.1
  have hb := h.2.1
  have hg2 : lm[i.val]? = some (.val .null) := hg
  jvm_step X.here [X.here.top, hx, hb, hd, hg2, vv, Value.isRef]
  exact a
end NULLS
end
section
/-! cells that are there; the small methods of the class -/
theorem lv_all {f k : Nat} (h : k < cnt f) : Lv NALL f k := by
  refine ⟨h, ?_⟩
  have h1 := (List.getElem?_eq_some_iff.mp (all_num h)).1
  rw [all_len] at h1
  exact h1
theorem lvz_0 : Lv NALL 0 0 := lv_all (by decide)
theorem lvz_1 : Lv NALL 1 0 := lv_all (by decide)
theorem lvz_2 : Lv NALL 2 0 := lv_all (by decide)
theorem lvz_3 : Lv NALL 3 0 := lv_all (by decide)
theorem lvz_7 : Lv NALL 7 0 := lv_all (by decide)
theorem lvz_10 : Lv NALL 10 0 := lv_all (by decide)
theorem lvz_11 : Lv NALL 11 0 := lv_all (by decide)
theorem lvz_19 : Lv NALL 19 0 := lv_all (by decide)
theorem lvz_20 : Lv NALL 20 0 := lv_all (by decide)
theorem lvz_30 : Lv NALL 30 0 := lv_all (by decide)
theorem lvz_33 : Lv NALL 33 0 := lv_all (by decide)
theorem lvz_34 : Lv NALL 34 0 := lv_all (by decide)
theorem lvz_35 : Lv NALL 35 0 := lv_all (by decide)
theorem lvz_39 : Lv NALL 39 0 := lv_all (by decide)
theorem lvz_40 : Lv NALL 40 0 := lv_all (by decide)
theorem lvz_41 : Lv NALL 41 0 := lv_all (by decide)
theorem lvz_42 : Lv NALL 42 0 := lv_all (by decide)
theorem lvz_43 : Lv NALL 43 0 := lv_all (by decide)
theorem lvz_44 : Lv NALL 44 0 := lv_all (by decide)
theorem lvz_45 : Lv NALL 45 0 := lv_all (by decide)
theorem lvz_47 : Lv NALL 47 0 := lv_all (by decide)
theorem lvz_48 : Lv NALL 48 0 := lv_all (by decide)
theorem lvz_50 : Lv NALL 50 0 := lv_all (by decide)
theorem lvz_51 : Lv NALL 51 0 := lv_all (by decide)
theorem lvz_53 : Lv NALL 53 0 := lv_all (by decide)
theorem lvz_54 : Lv NALL 54 0 := lv_all (by decide)
theorem lvz_55 : Lv NALL 55 0 := lv_all (by decide)
theorem lvz_57 : Lv NALL 57 0 := lv_all (by decide)
theorem lvz_58 : Lv NALL 58 0 := lv_all (by decide)
theorem lvz_59 : Lv NALL 59 0 := lv_all (by decide)
theorem lvz_63 : Lv NALL 63 0 := lv_all (by decide)
theorem lvz_64 : Lv NALL 64 0 := lv_all (by decide)
theorem lvz_65 : Lv NALL 65 0 := lv_all (by decide)
theorem lvz_66 : Lv NALL 66 0 := lv_all (by decide)
theorem lvz_67 : Lv NALL 67 0 := lv_all (by decide)
theorem lvz_68 : Lv NALL 68 0 := lv_all (by decide)
theorem lvz_69 : Lv NALL 69 0 := lv_all (by decide)
theorem lvz_70 : Lv NALL 70 0 := lv_all (by decide)
theorem lvz_71 : Lv NALL 71 0 := lv_all (by decide)
theorem lvz_72 : Lv NALL 72 0 := lv_all (by decide)
theorem lvz_73 : Lv NALL 73 0 := lv_all (by decide)
theorem lvz_75 : Lv NALL 75 0 := lv_all (by decide)
theorem lvz_76 : Lv NALL 76 0 := lv_all (by decide)
theorem lvz_77 : Lv NALL 77 0 := lv_all (by decide)
theorem lvz_79 : Lv NALL 79 0 := lv_all (by decide)
theorem lvz_80 : Lv NALL 80 0 := lv_all (by decide)
theorem lvz_81 : Lv NALL 81 0 := lv_all (by decide)
theorem lvz_82 : Lv NALL 82 0 := lv_all (by decide)
theorem lvz_86 : Lv NALL 86 0 := lv_all (by decide)
theorem lvz_87 : Lv NALL 87 0 := lv_all (by decide)
theorem lvz_88 : Lv NALL 88 0 := lv_all (by decide)
theorem lvz_89 : Lv NALL 89 0 := lv_all (by decide)
theorem lvz_90 : Lv NALL 90 0 := lv_all (by decide)
theorem lvz_91 : Lv NALL 91 0 := lv_all (by decide)
theorem lvz_92 : Lv NALL 92 0 := lv_all (by decide)
theorem lvm_4 {k : Nat} (h : k < 2) : Lv NALL 4 k := lv_all h
theorem lvm_5 {k : Nat} (h : k < 24) : Lv NALL 5 k := lv_all h
theorem lvm_6 {k : Nat} (h : k < 24) : Lv NALL 6 k := lv_all h
theorem lvm_8 {k : Nat} (h : k < 2) : Lv NALL 8 k := lv_all h
theorem lvm_9 {k : Nat} (h : k < 2) : Lv NALL 9 k := lv_all h
theorem lvm_12 {k : Nat} (h : k < 2) : Lv NALL 12 k := lv_all h
theorem lvm_13 {k : Nat} (h : k < 24) : Lv NALL 13 k := lv_all h
theorem lvm_14 {k : Nat} (h : k < 24) : Lv NALL 14 k := lv_all h
theorem lvm_15 {k : Nat} (h : k < 24) : Lv NALL 15 k := lv_all h
theorem lvm_16 {k : Nat} (h : k < 24) : Lv NALL 16 k := lv_all h
theorem lvm_17 {k : Nat} (h : k < 24) : Lv NALL 17 k := lv_all h
theorem lvm_18 {k : Nat} (h : k < 2) : Lv NALL 18 k := lv_all h
theorem pvf_501 (k : Nat) (x : Int) : pv 1 501 k x = vR 1 0 := rfl
theorem pvf_502 (k : Nat) (x : Int) : pv 1 502 k x = vR 2 0 := rfl
theorem pvf_503 (k : Nat) (x : Int) : pv 1 503 k x = vR 3 0 := rfl
theorem pvf_507 (k : Nat) (x : Int) : pv 1 507 k x = vR 7 0 := rfl
theorem pvf_508 (k : Nat) (x : Int) : pv 1 508 k x = vR 8 0 := rfl
theorem pvf_509 (k : Nat) (x : Int) : pv 1 509 k x = vR 9 0 := rfl
theorem pvf_511 (k : Nat) (x : Int) : pv 1 511 k x = vR 11 0 := rfl
theorem pvf_519 (k : Nat) (x : Int) : pv 1 519 k x = vR 19 0 := rfl
theorem pvf_520 (k : Nat) (x : Int) : pv 1 520 k x = vR 20 0 := rfl
theorem pvf_530 (k : Nat) (x : Int) : pv 1 530 k x = vR 30 0 := rfl
theorem pvf_533 (k : Nat) (x : Int) : pv 1 533 k x = vR 33 0 := rfl
theorem pvf_534 (k : Nat) (x : Int) : pv 1 534 k x = vR 34 0 := rfl
theorem pvf_535 (k : Nat) (x : Int) : pv 1 535 k x = vR 35 0 := rfl
theorem pvf_539 (k : Nat) (x : Int) : pv 1 539 k x = vR 39 0 := rfl
theorem pvf_540 (k : Nat) (x : Int) : pv 1 540 k x = vR 40 0 := rfl
theorem pvf_541 (k : Nat) (x : Int) : pv 1 541 k x = vR 41 0 := rfl
theorem pvf_542 (k : Nat) (x : Int) : pv 1 542 k x = vR 42 0 := rfl
theorem pvf_543 (k : Nat) (x : Int) : pv 1 543 k x = vR 43 0 := rfl
theorem pvf_544 (k : Nat) (x : Int) : pv 1 544 k x = vR 44 0 := rfl
theorem pvf_545 (k : Nat) (x : Int) : pv 1 545 k x = vR 45 0 := rfl
theorem pvf_547 (k : Nat) (x : Int) : pv 1 547 k x = vR 47 0 := rfl
theorem pvf_548 (k : Nat) (x : Int) : pv 1 548 k x = vR 48 0 := rfl
theorem pvf_550 (k : Nat) (x : Int) : pv 1 550 k x = vR 50 0 := rfl
theorem pvf_551 (k : Nat) (x : Int) : pv 1 551 k x = vR 51 0 := rfl
theorem pvf_553 (k : Nat) (x : Int) : pv 1 553 k x = vR 53 0 := rfl
theorem pvf_554 (k : Nat) (x : Int) : pv 1 554 k x = vR 54 0 := rfl
theorem pvf_555 (k : Nat) (x : Int) : pv 1 555 k x = vR 55 0 := rfl
theorem pvf_557 (k : Nat) (x : Int) : pv 1 557 k x = vR 57 0 := rfl
theorem pvf_558 (k : Nat) (x : Int) : pv 1 558 k x = vR 58 0 := rfl
theorem pvf_559 (k : Nat) (x : Int) : pv 1 559 k x = vR 59 0 := rfl
theorem pvf_563 (k : Nat) (x : Int) : pv 1 563 k x = vR 63 0 := rfl
theorem pvf_564 (k : Nat) (x : Int) : pv 1 564 k x = vR 64 0 := rfl
theorem pvf_565 (k : Nat) (x : Int) : pv 1 565 k x = vR 65 0 := rfl
theorem pvf_566 (k : Nat) (x : Int) : pv 1 566 k x = vR 66 0 := rfl
theorem pvf_567 (k : Nat) (x : Int) : pv 1 567 k x = vR 67 0 := rfl
theorem pvf_568 (k : Nat) (x : Int) : pv 1 568 k x = vR 68 0 := rfl
theorem pvf_569 (k : Nat) (x : Int) : pv 1 569 k x = vR 69 0 := rfl
theorem pvf_570 (k : Nat) (x : Int) : pv 1 570 k x = vR 70 0 := rfl
theorem pvf_571 (k : Nat) (x : Int) : pv 1 571 k x = vR 71 0 := rfl
theorem pvf_572 (k : Nat) (x : Int) : pv 1 572 k x = vR 72 0 := rfl
theorem pvf_573 (k : Nat) (x : Int) : pv 1 573 k x = vR 73 0 := rfl
theorem pvf_575 (k : Nat) (x : Int) : pv 1 575 k x = vR 75 0 := rfl
theorem pvf_576 (k : Nat) (x : Int) : pv 1 576 k x = vR 76 0 := rfl
theorem pvf_577 (k : Nat) (x : Int) : pv 1 577 k x = vR 77 0 := rfl
theorem pvf_579 (k : Nat) (x : Int) : pv 1 579 k x = vR 79 0 := rfl
theorem pvf_580 (k : Nat) (x : Int) : pv 1 580 k x = vR 80 0 := rfl
theorem pvf_581 (k : Nat) (x : Int) : pv 1 581 k x = vR 81 0 := rfl
theorem pvf_582 (k : Nat) (x : Int) : pv 1 582 k x = vR 82 0 := rfl
theorem pvf_586 (k : Nat) (x : Int) : pv 1 586 k x = vR 86 0 := rfl
theorem pvf_587 (k : Nat) (x : Int) : pv 1 587 k x = vR 87 0 := rfl
theorem pvf_588 (k : Nat) (x : Int) : pv 1 588 k x = vR 88 0 := rfl
theorem pvf_589 (k : Nat) (x : Int) : pv 1 589 k x = vR 89 0 := rfl
theorem pvf_590 (k : Nat) (x : Int) : pv 1 590 k x = vR 90 0 := rfl
theorem pvf_591 (k : Nat) (x : Int) : pv 1 591 k x = vR 91 0 := rfl
theorem pvf_592 (k : Nat) (x : Int) : pv 1 592 k x = vR 92 0 := rfl
theorem pvf_608 (k : Nat) (x : Int) : pv 1 608 k x = vR 8 1 := rfl
theorem pvf_609 (k : Nat) (x : Int) : pv 1 609 k x = vR 9 1 := rfl
theorem pvf_706 (k : Nat) (x : Int) : pv 1 706 k x = vR 6 k := rfl
theorem pvf_712 (k : Nat) (x : Int) : pv 1 712 k x = vR 12 k := rfl
theorem pvf_713 (k : Nat) (x : Int) : pv 1 713 k x = vR 13 k := rfl
theorem pvf_714 (k : Nat) (x : Int) : pv 1 714 k x = vR 14 k := rfl
theorem pvf_715 (k : Nat) (x : Int) : pv 1 715 k x = vR 15 k := rfl
theorem pvf_716 (k : Nat) (x : Int) : pv 1 716 k x = vR 16 k := rfl
theorem pvf_717 (k : Nat) (x : Int) : pv 1 717 k x = vR 17 k := rfl
theorem pvf_718 (k : Nat) (x : Int) : pv 1 718 k x = vR 18 k := rfl
theorem kdf_11 : kd 11 = (2, 900) := rfl
theorem kdf_12 : kd 12 = (5, 12) := rfl
theorem kdf_13 : kd 13 = (1, 48) := rfl
theorem kdf_14 : kd 14 = (4, 48) := rfl
theorem kdf_15 : kd 15 = (1, 48) := rfl
theorem kdf_16 : kd 16 = (4, 200) := rfl
theorem kdf_17 : kd 17 = (1, 25) := rfl
theorem kdf_18 : kd 18 = (4, 400) := rfl
theorem kdf_19 : kd 19 = (4, 288) := rfl
theorem kdf_20 : kd 20 = (1, 12) := rfl
theorem kdf_30 : kd 30 = (2, 900) := rfl
theorem kdf_33 : kd 33 = (1, 901) := rfl
theorem kdf_34 : kd 34 = (1, 901) := rfl
theorem kdf_35 : kd 35 = (4, 901) := rfl
theorem kdf_39 : kd 39 = (4, 12) := rfl
theorem kdf_40 : kd 40 = (1, 12) := rfl
theorem kdf_41 : kd 41 = (3, 12) := rfl
theorem kdf_42 : kd 42 = (3, 12) := rfl
theorem kdf_43 : kd 43 = (4, 12) := rfl
theorem kdf_44 : kd 44 = (1, 13) := rfl
theorem kdf_45 : kd 45 = (1, 13) := rfl
theorem kdf_47 : kd 47 = (1, 900) := rfl
theorem kdf_48 : kd 48 = (4, 900) := rfl
theorem kdf_50 : kd 50 = (1, 120) := rfl
theorem kdf_51 : kd 51 = (4, 120) := rfl
theorem kdf_53 : kd 53 = (1, 901) := rfl
theorem kdf_54 : kd 54 = (1, 901) := rfl
theorem kdf_55 : kd 55 = (3, 901) := rfl
theorem kdf_57 : kd 57 = (1, 64) := rfl
theorem kdf_58 : kd 58 = (1, 64) := rfl
theorem kdf_59 : kd 59 = (1, 64) := rfl
theorem kdf_63 : kd 63 = (4, 12) := rfl
theorem kdf_64 : kd 64 = (3, 12) := rfl
theorem kdf_65 : kd 65 = (3, 12) := rfl
theorem kdf_66 : kd 66 = (4, 12) := rfl
theorem kdf_67 : kd 67 = (4, 12) := rfl
theorem kdf_68 : kd 68 = (1, 13) := rfl
theorem kdf_69 : kd 69 = (1, 900) := rfl
theorem kdf_70 : kd 70 = (4, 900) := rfl
theorem kdf_71 : kd 71 = (1, 12) := rfl
theorem kdf_72 : kd 72 = (1, 300) := rfl
theorem kdf_73 : kd 73 = (4, 2400) := rfl
theorem kdf_75 : kd 75 = (1, 100) := rfl
theorem kdf_76 : kd 76 = (1, 100) := rfl
theorem kdf_77 : kd 77 = (1, 100) := rfl
theorem kdf_79 : kd 79 = (1, 100) := rfl
theorem kdf_80 : kd 80 = (1, 100) := rfl
theorem kdf_81 : kd 81 = (1, 100) := rfl
theorem kdf_82 : kd 82 = (4, 100) := rfl
theorem kdf_86 : kd 86 = (1, 12) := rfl
theorem kdf_87 : kd 87 = (1, 12) := rfl
theorem kdf_88 : kd 88 = (1, 12) := rfl
theorem kdf_89 : kd 89 = (1, 12) := rfl
theorem kdf_90 : kd 90 = (1, 12) := rfl
theorem kdf_91 : kd 91 = (1, 12) := rfl
theorem kdf_92 : kd 92 = (4, 480) := rfl
theorem up3_s (σ : Mm) (f k j : Nat) (x : Int) : up3 σ f k j x f k j = x := by simp [up3]
theorem up3_f (σ : Mm) {f k j f' k' j' : Nat} (x : Int) (h : f' ≠ f) : up3 σ f k j x f' k' j' = σ f' k' j' := by simp [up3, h]
theorem up3_k (σ : Mm) {f k j f' k' j' : Nat} (x : Int) (h : k' ≠ k) : up3 σ f k j x f' k' j' = σ f' k' j' := by simp [up3, h]
theorem up3_j (σ : Mm) {f k j f' k' j' : Nat} (x : Int) (h : j' ≠ j) : up3 σ f k j x f' k' j' = σ f' k' j' := by simp [up3, h]
/-- at(int[], int) within the row -/
theorem c_at {d : Nat} {σ : Mm} {f m len k : Nat} (hf : kd f = (1, len)) (hm : Lv NALL f m) (hk : k < len) : Ct d mX9_at 1 [vR f m, vI k] NALL σ (some (vI (σ f m k))) NALL σ 0 0 := by
  have hlen : (kd f).2 < 2147483648 := kd_small
  rw [hf] at hlen
  have hlen : len < 2147483648 := hlen
  refine ct_of (by decide) (Nat.le_of_ble_eq_true rfl) (fun C h hr _ => ?_)
  have h : Ok C RX9 cX9_at 2 _ := h
  refine x_iload_n h dX9_at_0 rfl ?_
  refine x_if_lt_F (tgt := 16) h (by omega) dX9_at_1 (by decide) (by omega) ?_
  refine x_iload_n h dX9_at_4 rfl ?_
  refine x_aload_n h dX9_at_5 rfl ?_
  refine x_alen h hf (by decide) hm dX9_at_6 ?_
  refine x_ic_ge_F (tgt := 16) h (by omega) dX9_at_7 (by decide) (by omega) ?_
  refine x_aload_n h dX9_at_10 rfl ?_
  refine x_iload_n h dX9_at_11 rfl ?_
  refine x_iald h hf hm dX9_at_12 rfl (by omega) ?_
  refine x_goto (tgt := 17) h dX9_at_13 (by decide) ?_
  exact x_ireturn h hr dX9_at_17 (Or.inl rfl) ⟨Nat.le_refl _, Nat.le_refl _⟩
theorem c_atL {d : Nat} {σ : Mm} {f m len k : Nat} (hf : kd f = (4, len)) (hm : Lv NALL f m) (hk : k < len) : Ct d mX9_at_ 1 [vR f m, vI k] NALL σ (some (vL (σ f m k))) NALL σ 0 0 := by
  have hlen : (kd f).2 < 2147483648 := kd_small
  rw [hf] at hlen
  have hlen : len < 2147483648 := hlen
  refine ct_of (by decide) (Nat.le_of_ble_eq_true rfl) (fun C h hr _ => ?_)
  have h : Ok C RX9 cX9_at_ 2 _ := h
  refine x_iload_n h dX9_at__0 rfl ?_
  refine x_if_lt_F (tgt := 16) h (by omega) dX9_at__1 (by decide) (by omega) ?_
  refine x_iload_n h dX9_at__4 rfl ?_
  refine x_aload_n h dX9_at__5 rfl ?_
  refine x_alen h hf (by decide) hm dX9_at__6 ?_
  refine x_ic_ge_F (tgt := 16) h (by omega) dX9_at__7 (by decide) (by omega) ?_
  refine x_aload_n h dX9_at__10 rfl ?_
  refine x_iload_n h dX9_at__11 rfl ?_
  refine x_lald h hf hm dX9_at__12 rfl (by omega) ?_
  refine x_goto (tgt := 17) h dX9_at__13 (by decide) ?_
  exact x_lreturn h hr dX9_at__17 ⟨Nat.le_refl _, Nat.le_refl _⟩
theorem c_put {d : Nat} {σ : Mm} {f m len k : Nat} {x : Int} (hf : kd f = (1, len)) (hm : Lv NALL f m) (hk : k < len) : Ct d mX9_put 1 [vR f m, vI k, vI x] NALL σ none NALL (up3 σ f m k x) 0 0 := by
  have hlen : (kd f).2 < 2147483648 := kd_small
  rw [hf] at hlen
  have hlen : len < 2147483648 := hlen
  refine ct_of (by decide) (Nat.le_of_ble_eq_true rfl) (fun C h hr _ => ?_)
  have h : Ok C RX9 cX9_put 3 _ := h
  refine x_iload_n h dX9_put_0 rfl ?_
  refine x_if_lt_F (tgt := 14) h (by omega) dX9_put_1 (by decide) (by omega) ?_
  refine x_iload_n h dX9_put_4 rfl ?_
  refine x_aload_n h dX9_put_5 rfl ?_
  refine x_alen h hf (by decide) hm dX9_put_6 ?_
  refine x_ic_ge_F (tgt := 14) h (by omega) dX9_put_7 (by decide) (by omega) ?_
  refine x_aload_n h dX9_put_10 rfl ?_
  refine x_iload_n h dX9_put_11 rfl ?_
  refine x_iload_n h dX9_put_12 rfl ?_
  refine x_iast h hf hm dX9_put_13 rfl (by omega) ?_
  exact x_return h hr dX9_put_14 ⟨Nat.le_refl _, Nat.le_refl _⟩
theorem c_putL {d : Nat} {σ : Mm} {f m len k : Nat} {x : Int} (hf : kd f = (4, len)) (hm : Lv NALL f m) (hk : k < len) : Ct d mX9_put_ 1 [vR f m, vI k, vL x] NALL σ none NALL (up3 σ f m k x) 0 0 := by
  have hlen : (kd f).2 < 2147483648 := kd_small
  rw [hf] at hlen
  have hlen : len < 2147483648 := hlen
  refine ct_of (by decide) (Nat.le_of_ble_eq_true rfl) (fun C h hr _ => ?_)
  have h : Ok C RX9 cX9_put_ 4 _ := h
  refine x_iload_n h dX9_put__0 rfl ?_
  refine x_if_lt_F (tgt := 14) h (by omega) dX9_put__1 (by decide) (by omega) ?_
  refine x_iload_n h dX9_put__4 rfl ?_
  refine x_aload_n h dX9_put__5 rfl ?_
  refine x_alen h hf (by decide) hm dX9_put__6 ?_
  refine x_ic_ge_F (tgt := 14) h (by omega) dX9_put__7 (by decide) (by omega) ?_
  refine x_aload_n h dX9_put__10 rfl ?_
  refine x_iload_n h dX9_put__11 rfl ?_
  refine x_lload_n h dX9_put__12 rfl ?_
  refine x_last h hf hm dX9_put__13 rfl (by omega) ?_
  exact x_return h hr dX9_put__14 ⟨Nat.le_refl _, Nat.le_refl _⟩
theorem pvr {ph code k t : Nat} {x : Int} (h : x = (t : Int)) (h3 : 3 ≤ code ∧ code < 500) : pv ph code k x = vR (code - 10) t := by
  unfold pv
  rw [if_neg (by omega), if_neg (by omega), if_neg (by omega), if_pos h3.2, if_neg (by omega), h]
  rfl
theorem pvn {ph code k : Nat} {x : Int} (h : x < 0) (h3 : 3 ≤ code ∧ code < 500) : pv ph code k x = vN := by
  unfold pv
  rw [if_neg (by omega), if_neg (by omega), if_neg (by omega), if_pos h3.2, if_pos h]
theorem c_skipToHere {d : Nat} {σ : Mm} {m k n : Nat} (hm : m < 24) (hk : k < 48) (hn : σ 6 m 3 = n) (hn2 : n < 1000) : Ct (d + 1) mX0_skipToHere 1 [vR 6 m, vI k] NALL σ none NALL (up3 σ 14 m k ((n : Int) - k - 1)) 0 0 := by
  refine ct_of (by decide) (Nat.le_of_ble_eq_true rfl) (fun C h hr _ => ?_)
  have h : Ok C RX0 cX0_skipToHere 2 _ := h
  refine x_aload_n h dX0_skipToHere_0 rfl ?_
  refine x_get h fl_0_15 (lvm_6 (by omega)) dX0_skipToHere_1 (pvf_714 _ _) ?_
  refine x_iload_n h dX0_skipToHere_4 rfl ?_
  refine x_aload_n h dX0_skipToHere_5 rfl ?_
  refine x_get (q := vI (n)) h fl_0_22 (lvm_6 (by omega)) dX0_skipToHere_6 (congrArg vI (by first | exact hn | simp [up3, hn])) ?_
  refine x_iload_n h dX0_skipToHere_9 rfl ?_
  refine x_isub h dX0_skipToHere_10 ?_
  refine x_iconst h dX0_skipToHere_11 ?_
  refine x_isub h dX0_skipToHere_12 ?_
  refine x_i2l h (by omega) dX0_skipToHere_13 ?_
  refine x_cN0 h kSX9_put_ lkNX0_30 dX0_skipToHere_14 (c_putL (d := d) kdf_14 (lvm_14 hm) hk) rfl rfl (Nat.le_of_ble_eq_true rfl) (by omega) ?_
  exact x_return h hr dX0_skipToHere_17 ⟨Nat.le_refl _, Nat.le_refl _⟩
theorem c_fclear {d : Nat} {σ : Mm} {m : Nat} (hm : m < 24) : Ct d mX0_clear 1 [vR 6 m] NALL σ none NALL (up3 σ 6 m 3 0) 0 0 := by
  refine ct_of (by decide) (Nat.le_of_ble_eq_true rfl) (fun C h hr _ => ?_)
  have h : Ok C RX0 cX0_clear 1 _ := h
  refine x_aload_n h dX0_clear_0 rfl ?_
  refine x_iconst h dX0_clear_1 ?_
  refine x_put h fl_0_22 (lvm_6 (by omega)) dX0_clear_2 rfl (fun z => absurd z (by decide)) ?_
  exact x_return h hr dX0_clear_5 ⟨Nat.le_refl _, Nat.le_refl _⟩
/-- a step is added -/
def addS (σ : Mm) (m n : Nat) (a b c : Int) : Mm := up3 (up3 (up3 (up3 σ 13 m n a) 14 m n b) 15 m n c) 6 m 3 (n + 1)
theorem c_fadd {d : Nat} {σ : Mm} {m n : Nat} {a b c : Int} (hm : m < 24) (hn : σ 6 m 3 = n) (hk : n < 48) : Ct (d + 1) mX0_add 1 [vR 6 m, vI a, vL b, vI c] NALL σ none NALL (addS σ m n a b c) 0 0 := by
  refine ct_of (by decide) (Nat.le_of_ble_eq_true rfl) (fun C h hr _ => ?_)
  have h : Ok C RX0 cX0_add 5 _ := h
  refine x_aload_n h dX0_add_0 rfl ?_
  refine x_get (q := vI (n)) h fl_0_22 (lvm_6 (by omega)) dX0_add_1 (congrArg vI (by first | exact hn | simp [up3, hn])) ?_
  refine x_if_lt_F (tgt := 63) h (by omega) dX0_add_4 (by decide) (by omega) ?_
  refine x_aload_n h dX0_add_7 rfl ?_
  refine x_get (q := vI (n)) h fl_0_22 (lvm_6 (by omega)) dX0_add_8 (congrArg vI (by first | exact hn | simp [up3, hn])) ?_
  refine x_bipush h dX0_add_11 (by decide) ?_
  refine x_ic_ge_F (tgt := 63) h (by omega) dX0_add_13 (by decide) (by omega) ?_
  refine x_aload_n h dX0_add_16 rfl ?_
  refine x_get h fl_0_9 (lvm_6 (by omega)) dX0_add_17 (pvf_713 _ _) ?_
  refine x_aload_n h dX0_add_20 rfl ?_
  refine x_get (q := vI (n)) h fl_0_22 (lvm_6 (by omega)) dX0_add_21 (congrArg vI (by first | exact hn | simp [up3, hn])) ?_
  refine x_iload_n h dX0_add_24 rfl ?_
  refine x_cN0 h kSX9_put lkNX0_26 dX0_add_25 (c_put (d := d) kdf_13 (lvm_13 hm) hk) rfl rfl (Nat.le_of_ble_eq_true rfl) (by omega) ?_
  refine x_aload_n h dX0_add_28 rfl ?_
  refine x_get h fl_0_15 (lvm_6 (by omega)) dX0_add_29 (pvf_714 _ _) ?_
  refine x_aload_n h dX0_add_32 rfl ?_
  refine x_get (q := vI (n)) h fl_0_22 (lvm_6 (by omega)) dX0_add_33 (congrArg vI (by first | exact hn | simp [up3, hn])) ?_
  refine x_lload_n h dX0_add_36 rfl ?_
  refine x_cN0 h kSX9_put_ lkNX0_30 dX0_add_37 (c_putL (d := d) kdf_14 (lvm_14 hm) hk) rfl rfl (Nat.le_of_ble_eq_true rfl) (by omega) ?_
  refine x_aload_n h dX0_add_40 rfl ?_
  refine x_get h fl_0_19 (lvm_6 (by omega)) dX0_add_41 (pvf_715 _ _) ?_
  refine x_aload_n h dX0_add_44 rfl ?_
  refine x_get (q := vI (n)) h fl_0_22 (lvm_6 (by omega)) dX0_add_45 (congrArg vI (by first | exact hn | simp [up3, hn])) ?_
  refine x_iload h dX0_add_48 rfl ?_
  refine x_cN0 h kSX9_put lkNX0_26 dX0_add_50 (c_put (d := d) kdf_15 (lvm_15 hm) hk) rfl rfl (Nat.le_of_ble_eq_true rfl) (by omega) ?_
  refine x_aload_n h dX0_add_53 rfl ?_
  refine x_dup h dX0_add_54 rfl ?_
  refine x_get (q := vI (n)) h fl_0_22 (lvm_6 (by omega)) dX0_add_55 (congrArg vI (by first | exact hn | simp [up3, hn])) ?_
  refine x_iconst h dX0_add_58 ?_
  refine x_iadd h dX0_add_59 ?_
  refine x_put h fl_0_22 (lvm_6 (by omega)) dX0_add_60 rfl (fun z => absurd z (by decide)) ?_
  exact x_return h hr dX0_add_63 ⟨Nat.le_refl _, Nat.le_refl _⟩
theorem c_stepAt {d : Nat} {σ : Mm} {m k : Nat} (hm : m < 24) (hk : k < 48) : Ct (d + 1) mX0_stepAt 1 [vR 6 m, vI k] NALL σ (some (vI (σ 13 m k))) NALL σ 0 0 := by
  refine ct_of (by decide) (Nat.le_of_ble_eq_true rfl) (fun C h hr _ => ?_)
  have h : Ok C RX0 cX0_stepAt 2 _ := h
  refine x_aload_n h dX0_stepAt_0 rfl ?_
  refine x_get h fl_0_9 (lvm_6 (by omega)) dX0_stepAt_1 (pvf_713 _ _) ?_
  refine x_iload_n h dX0_stepAt_4 rfl ?_
  refine x_cN1 h kSX9_at lkNX0_33 dX0_stepAt_5 (c_at (d := d) kdf_13 (lvm_13 hm) hk) rfl rfl (Nat.le_of_ble_eq_true rfl) (by omega) ?_
  exact x_ireturn h hr dX0_stepAt_8 (Or.inl rfl) ⟨Nat.le_refl _, Nat.le_refl _⟩
theorem c_withAt {d : Nat} {σ : Mm} {m k : Nat} (hm : m < 24) (hk : k < 48) : Ct (d + 1) mX0_withAt 1 [vR 6 m, vI k] NALL σ (some (vL (σ 14 m k))) NALL σ 0 0 := by
  refine ct_of (by decide) (Nat.le_of_ble_eq_true rfl) (fun C h hr _ => ?_)
  have h : Ok C RX0 cX0_withAt 2 _ := h
  refine x_aload_n h dX0_withAt_0 rfl ?_
  refine x_get h fl_0_15 (lvm_6 (by omega)) dX0_withAt_1 (pvf_714 _ _) ?_
  refine x_iload_n h dX0_withAt_4 rfl ?_
  refine x_cN1 h kSX9_at_ lkNX0_37 dX0_withAt_5 (c_atL (d := d) kdf_14 (lvm_14 hm) hk) rfl rfl (Nat.le_of_ble_eq_true rfl) (by omega) ?_
  exact x_lreturn h hr dX0_withAt_8 ⟨Nat.le_refl _, Nat.le_refl _⟩
theorem c_placeAt {d : Nat} {σ : Mm} {m k : Nat} (hm : m < 24) (hk : k < 48) : Ct (d + 1) mX0_placeAt 1 [vR 6 m, vI k] NALL σ (some (vI (σ 15 m k))) NALL σ 0 0 := by
  refine ct_of (by decide) (Nat.le_of_ble_eq_true rfl) (fun C h hr _ => ?_)
  have h : Ok C RX0 cX0_placeAt 2 _ := h
  refine x_aload_n h dX0_placeAt_0 rfl ?_
  refine x_get h fl_0_19 (lvm_6 (by omega)) dX0_placeAt_1 (pvf_715 _ _) ?_
  refine x_iload_n h dX0_placeAt_4 rfl ?_
  refine x_cN1 h kSX9_at lkNX0_33 dX0_placeAt_5 (c_at (d := d) kdf_15 (lvm_15 hm) hk) rfl rfl (Nat.le_of_ble_eq_true rfl) (by omega) ?_
  exact x_ireturn h hr dX0_placeAt_8 (Or.inl rfl) ⟨Nat.le_refl _, Nat.le_refl _⟩
theorem c_resolve {d : Nat} {σ : Mm} {m k : Nat} {x : Int} (hm : m < 24) (hk : k < 48) (hx : -2147483648 ≤ x ∧ x < 2147483648) : Ct (d + 1) mX0_resolve 1 [vR 6 m, vI k, vI x] NALL σ none NALL (up3 σ 14 m k x) 0 0 := by
  refine ct_of (by decide) (Nat.le_of_ble_eq_true rfl) (fun C h hr _ => ?_)
  have h : Ok C RX0 cX0_resolve 3 _ := h
  refine x_aload_n h dX0_resolve_0 rfl ?_
  refine x_get h fl_0_15 (lvm_6 (by omega)) dX0_resolve_1 (pvf_714 _ _) ?_
  refine x_iload_n h dX0_resolve_4 rfl ?_
  refine x_iload_n h dX0_resolve_5 rfl ?_
  refine x_i2l h (by omega) dX0_resolve_6 ?_
  refine x_cN0 h kSX9_put_ lkNX0_30 dX0_resolve_7 (c_putL (d := d) kdf_14 (lvm_14 hm) hk) rfl rfl (Nat.le_of_ble_eq_true rfl) (by omega) ?_
  exact x_return h hr dX0_resolve_10 ⟨Nat.le_refl _, Nat.le_refl _⟩
theorem c_skipAt {d : Nat} {σ : Mm} {m k : Nat} (hm : m < 24) (hk : k < 48) (hv : 0 ≤ σ 14 m k ∧ σ 14 m k ≤ 48) : Ct (d + 1) mX0_skipAt 1 [vR 6 m, vI k] NALL σ (some (vI (σ 14 m k))) NALL σ 0 0 := by
  refine ct_of (by decide) (Nat.le_of_ble_eq_true rfl) (fun C h hr _ => ?_)
  have h : Ok C RX0 cX0_skipAt 2 _ := h
  have e : max 0 (min 48 (σ 14 m k)) = σ 14 m k := by omega
  refine x_lconst h dX0_skipAt_0 ?_
  refine x_ldc2 (x := 48) h dX0_skipAt_1 klX0_40 (by decide) ?_
  refine x_aload_n h dX0_skipAt_4 rfl ?_
  refine x_get h fl_0_15 (lvm_6 (by omega)) dX0_skipAt_5 (pvf_714 _ _) ?_
  refine x_iload_n h dX0_skipAt_8 rfl ?_
  refine x_cN1 h kSX9_at_ lkNX0_37 dX0_skipAt_9 (c_atL (d := d) kdf_14 (lvm_14 hm) hk) rfl rfl (Nat.le_of_ble_eq_true rfl) (by omega) ?_
  refine x_mathminL h (by omega) lkX0_42 (by omega) dX0_skipAt_12 (Nat.le_of_ble_eq_true rfl) ⟨Nat.zero_le _, Nat.zero_le _⟩ ?_
  refine x_mathmaxL h (by omega) lkX0_48 (by omega) dX0_skipAt_15 (Nat.le_of_ble_eq_true rfl) ⟨Nat.zero_le _, Nat.zero_le _⟩ ?_
  refine x_l2i h dX0_skipAt_18 ?_
  rw [show max ((0 : Fin 2).val : Int) (min 48 (σ 14 m k)) = σ 14 m k from e]
  exact x_ireturn h hr dX0_skipAt_19 (Or.inl rfl) ⟨Nat.le_refl _, Nat.le_refl _⟩
theorem c_isNameAt {d : Nat} {σ : Mm} {m k : Nat} (hm : m < 24) (hk : k < 48) (hv : 0 ≤ σ 13 m k ∧ σ 13 m k ≤ 1000) : Ct (d + 1) mX0_isNameAt 1 [vR 6 m, vI k] NALL σ (some (vI (if σ 13 m k = 3 ∨ σ 13 m k = 2 then 1 else 0))) NALL σ 0 0 := by
  refine ct_of (by decide) (Nat.le_of_ble_eq_true rfl) (fun C h hr _ => ?_)
  have h : Ok C RX0 cX0_isNameAt 3 _ := h
  refine x_aload_n h dX0_isNameAt_0 rfl ?_
  refine x_get h fl_0_9 (lvm_6 (by omega)) dX0_isNameAt_1 (pvf_713 _ _) ?_
  refine x_iload_n h dX0_isNameAt_4 rfl ?_
  refine x_cN1 h kSX9_at lkNX0_33 dX0_isNameAt_5 (c_at (d := d) kdf_13 (lvm_13 hm) hk) rfl rfl (Nat.le_of_ble_eq_true rfl) (by omega) ?_
  refine x_istore_n h dX0_isNameAt_8 (by decide) ?_
  refine x_iload_n h dX0_isNameAt_9 rfl ?_
  refine x_iconst h dX0_isNameAt_10 ?_
  refine x_ic_eq (tgt := 19) h (by omega) dX0_isNameAt_11 (by decide) (fun hc => ?_) (fun hc => ?_)
  · rw [if_pos (Or.inl hc)] at hr
    refine x_iconst h dX0_isNameAt_19 ?_
    refine x_goto (tgt := 24) h dX0_isNameAt_20 (by decide) ?_
    exact x_ireturn h hr dX0_isNameAt_24 (Or.inr ⟨rfl, by omega⟩) ⟨Nat.le_refl _, Nat.le_refl _⟩
  · refine x_iload_n h dX0_isNameAt_14 rfl ?_
    refine x_iconst h dX0_isNameAt_15 ?_
    refine x_ic_ne (tgt := 23) h (by omega) dX0_isNameAt_16 (by decide) (fun hc => ?_) (fun hc => ?_)
    · rw [if_neg (by omega)] at hr
      refine x_iconst h dX0_isNameAt_23 ?_
      exact x_ireturn h hr dX0_isNameAt_24 (Or.inr ⟨rfl, by omega⟩) ⟨Nat.le_refl _, Nat.le_refl _⟩
    · rw [if_pos (by omega)] at hr
      refine x_iconst h dX0_isNameAt_19 ?_
      refine x_goto (tgt := 24) h dX0_isNameAt_20 (by decide) ?_
      exact x_ireturn h hr dX0_isNameAt_24 (Or.inr ⟨rfl, by omega⟩) ⟨Nat.le_refl _, Nat.le_refl _⟩
/-- a SUM names a TABLE -/
def namesF (σ : Mm) (m n : Nat) (x : Int) : Prop := ∃ k, k < n ∧ σ 13 m k = 3 ∧ σ 14 m k = x
theorem c_names {d : Nat} {σ : Mm} {m n : Nat} {x r : Int} (hm : m < 24) (hn : σ 6 m 3 = n) (hn2 : n ≤ 48) (hx : -2147483648 ≤ x ∧ x < 2147483648) (hv : ∀ k, k < n → (0 ≤ σ 13 m k ∧ σ 13 m k ≤ 1000) ∧ (-9223372036854775808 ≤ σ 14 m k ∧ σ 14 m k < 9223372036854775808)) (hr1 : namesF σ m n x → r = 1) (hr0 : ¬ namesF σ m n x → r = 0) : Ct (d + 1) mX0_names 1 [vR 6 m, vI x] NALL σ (some (vI r)) NALL σ 0 0 := by
  refine ct_of (by decide) (Nat.le_of_ble_eq_true rfl) (fun C h hr _ => ?_)
  have h : Ok C RX0 cX0_names 3 _ := h
  have loop : ∀ (c k : Nat) (ls : List (Nat × PV)), k + c = n → (∀ j, j < k → ¬ (σ 13 m j = 3 ∧ σ 14 m j = x)) → lsub [(0, vR 6 m), (1, vI x), (2, vI k)] ls → X C 1 2 ls [] NALL σ 0 0 := by
    intro c
    induction c with
    | zero =>
      intro k ls hk hno hls
      refine x_loc hls ?_
      rw [hr0 (fun ⟨j, h1, h2, h3⟩ => hno j (by omega) ⟨h2, h3⟩)] at hr
      refine x_iload_n h dX0_names_2 rfl ?_
      refine x_aload_n h dX0_names_3 rfl ?_
      refine x_get (q := vI (n)) h fl_0_22 (lvm_6 (by omega)) dX0_names_4 (congrArg vI (by first | exact hn | simp [up3, hn])) ?_
      refine x_ic_ge_T (tgt := 44) h (by omega) dX0_names_7 (by decide) (by omega) ?_
      refine x_iconst h dX0_names_44 ?_
      exact x_ireturn h hr dX0_names_45 (Or.inr ⟨rfl, by omega⟩) ⟨Nat.le_refl _, Nat.le_refl _⟩
    | succ c ih =>
      intro k ls hk hno hls
      refine x_loc hls ?_
      have hvk := hv k (by omega)
      refine x_iload_n h dX0_names_2 rfl ?_
      refine x_aload_n h dX0_names_3 rfl ?_
      refine x_get (q := vI (n)) h fl_0_22 (lvm_6 (by omega)) dX0_names_4 (congrArg vI (by first | exact hn | simp [up3, hn])) ?_
      refine x_ic_ge_F (tgt := 44) h (by omega) dX0_names_7 (by decide) (by omega) ?_
      refine x_aload_n h dX0_names_10 rfl ?_
      refine x_get h fl_0_9 (lvm_6 (by omega)) dX0_names_11 (pvf_713 _ _) ?_
      refine x_iload_n h dX0_names_14 rfl ?_
      refine x_cN1 h kSX9_at lkNX0_33 dX0_names_15 (c_at (d := d) (k := k) kdf_13 (lvm_13 hm) (by omega)) rfl rfl (Nat.le_of_ble_eq_true rfl) (by omega) ?_
      refine x_iconst h dX0_names_18 ?_
      refine x_ic_ne (tgt := 38) h (by omega) dX0_names_19 (by decide) (fun hc => ?_) (fun hc => ?_)
      · refine x_iinc h dX0_names_38 rfl (by decide) ?_
        refine x_goto (tgt := 2) h dX0_names_41 (by decide) ?_
        exact ih (k + 1) _ (by omega) (fun j hj => by rcases Nat.lt_succ_iff_lt_or_eq.mp hj with q | q; exact hno j q; subst q; exact fun z => hc z.1) ⟨rfl, rfl, rfl, trivial⟩
      · refine x_aload_n h dX0_names_22 rfl ?_
        refine x_get h fl_0_15 (lvm_6 (by omega)) dX0_names_23 (pvf_714 _ _) ?_
        refine x_iload_n h dX0_names_26 rfl ?_
        refine x_cN1 h kSX9_at_ lkNX0_37 dX0_names_27 (c_atL (d := d) (k := k) kdf_14 (lvm_14 hm) (by omega)) rfl rfl (Nat.le_of_ble_eq_true rfl) (by omega) ?_
        refine x_iload_n h dX0_names_30 rfl ?_
        refine x_i2l h (by omega) dX0_names_31 ?_
        refine x_lc_ne (tgt := 38) h (by omega) dX0_names_32 dX0_names_33 (by decide) (fun hc => ?_) (fun hc => ?_)
        · refine x_iinc h dX0_names_38 rfl (by decide) ?_
          refine x_goto (tgt := 2) h dX0_names_41 (by decide) ?_
          exact ih (k + 1) _ (by omega) (fun j hj => by rcases Nat.lt_succ_iff_lt_or_eq.mp hj with q | q; exact hno j q; subst q; exact fun z => hc z.2) ⟨rfl, rfl, rfl, trivial⟩
        · rw [hr1 ⟨k, by omega, by omega, by omega⟩] at hr
          refine x_iconst h dX0_names_36 ?_
          exact x_ireturn h hr dX0_names_37 (Or.inr ⟨rfl, by omega⟩) ⟨Nat.le_refl _, Nat.le_refl _⟩
  refine x_iconst h dX0_names_0 ?_
  refine x_istore_n h dX0_names_1 (by decide) ?_
  exact loop n 0 _ (by omega) (fun j hj => absurd hj (Nat.not_lt_zero _)) ⟨rfl, rfl, rfl, trivial⟩
end
section
/-! Log, Table, Text -/
theorem c_lclear {d : Nat} {σ : Mm} {m : Nat} (hm : m < 2) : Ct d mX1_clear 1 [vR 8 m] NALL σ none NALL (up3 σ 8 m 1 0) 0 0 := by
  refine ct_of (by decide) (Nat.le_of_ble_eq_true rfl) (fun C h hr _ => ?_)
  have h : Ok C RX1 cX1_clear 1 _ := h
  refine x_aload_n h dX1_clear_0 rfl ?_
  refine x_iconst h dX1_clear_1 ?_
  refine x_put h fl_1_15 (lvm_8 (by omega)) dX1_clear_2 rfl (fun z => absurd z (by decide)) ?_
  exact x_return h hr dX1_clear_5 ⟨Nat.le_refl _, Nat.le_refl _⟩
/-- something is noted behind b others -/
def noteS (σ : Mm) (m b : Nat) (x0 x1 x2 x3 : Int) : Mm := if b < 100 then up3 (up3 (up3 (up3 (up3 σ 18 m (4 * b) x0) 18 m (4 * b + 1) x1) 18 m (4 * b + 2) x2) 18 m (4 * b + 3) x3) 8 m 1 (b + 1) else up3 σ 8 m 1 (b + 1)
theorem c_note {d : Nat} {σ : Mm} {m b : Nat} {x0 x1 x2 x3 : Int} (hm : m < 2) (hb : σ 8 m 1 = b) (hb2 : b < 2147483648) : Ct (d + 1) mX1_note 1 [vR 8 m, vL x0, vL x1, vL x2, vL x3] NALL σ none NALL (noteS σ m b x0 x1 x2 x3) 0 0 := by
  refine ct_of (by decide) (Nat.le_of_ble_eq_true rfl) (fun C h hr _ => ?_)
  have h : Ok C RX1 cX1_note 9 _ := h
  rcases Nat.lt_or_ge b 100 with hlt | hge
  · unfold noteS at hr
    rw [if_pos hlt] at hr
    refine x_aload_n h dX1_note_0 rfl ?_
    refine x_get (q := vI (b)) h fl_1_15 (lvm_8 (by omega)) dX1_note_1 (congrArg vI (by first | exact hb | simp [up3, hb])) ?_
    refine x_if_lt_F (tgt := 80) h (by omega) dX1_note_4 (by decide) (by omega) ?_
    refine x_aload_n h dX1_note_7 rfl ?_
    refine x_get (q := vI (b)) h fl_1_15 (lvm_8 (by omega)) dX1_note_8 (congrArg vI (by first | exact hb | simp [up3, hb])) ?_
    refine x_bipush h dX1_note_11 (by decide) ?_
    refine x_ic_ge_F (tgt := 80) h (by omega) dX1_note_13 (by decide) (by omega) ?_
    refine x_aload_n h dX1_note_16 rfl ?_
    refine x_get h fl_1_11 (lvm_8 (by omega)) dX1_note_17 (pvf_718 _ _) ?_
    refine x_iconst h dX1_note_20 ?_
    refine x_aload_n h dX1_note_21 rfl ?_
    refine x_get (q := vI (b)) h fl_1_15 (lvm_8 (by omega)) dX1_note_22 (congrArg vI (by first | exact hb | simp [up3, hb])) ?_
    refine x_imul h dX1_note_25 ?_
    refine x_lload_n h dX1_note_26 rfl ?_
    refine x_cN0 h kSX9_put_ lkNX1_19 dX1_note_27 (c_putL (d := d) kdf_18 (lvm_18 hm) (k := 4 * b) (by omega)) rfl rfl (Nat.le_of_ble_eq_true rfl) (by omega) ?_
    refine x_aload_n h dX1_note_30 rfl ?_
    refine x_get h fl_1_11 (lvm_8 (by omega)) dX1_note_31 (pvf_718 _ _) ?_
    refine x_iconst h dX1_note_34 ?_
    refine x_aload_n h dX1_note_35 rfl ?_
    refine x_get (q := vI (b)) h fl_1_15 (lvm_8 (by omega)) dX1_note_36 (congrArg vI (by first | exact hb | simp [up3, hb])) ?_
    refine x_imul h dX1_note_39 ?_
    refine x_iconst h dX1_note_40 ?_
    refine x_iadd h dX1_note_41 ?_
    refine x_lload_n h dX1_note_42 rfl ?_
    refine x_cN0 h kSX9_put_ lkNX1_19 dX1_note_43 (c_putL (d := d) kdf_18 (lvm_18 hm) (k := 4 * b + 1) (by omega)) rfl rfl (Nat.le_of_ble_eq_true rfl) (by omega) ?_
    refine x_aload_n h dX1_note_46 rfl ?_
    refine x_get h fl_1_11 (lvm_8 (by omega)) dX1_note_47 (pvf_718 _ _) ?_
    refine x_iconst h dX1_note_50 ?_
    refine x_aload_n h dX1_note_51 rfl ?_
    refine x_get (q := vI (b)) h fl_1_15 (lvm_8 (by omega)) dX1_note_52 (congrArg vI (by first | exact hb | simp [up3, hb])) ?_
    refine x_imul h dX1_note_55 ?_
    refine x_iconst h dX1_note_56 ?_
    refine x_iadd h dX1_note_57 ?_
    refine x_lload h dX1_note_58 rfl ?_
    refine x_cN0 h kSX9_put_ lkNX1_19 dX1_note_60 (c_putL (d := d) kdf_18 (lvm_18 hm) (k := 4 * b + 2) (by omega)) rfl rfl (Nat.le_of_ble_eq_true rfl) (by omega) ?_
    refine x_aload_n h dX1_note_63 rfl ?_
    refine x_get h fl_1_11 (lvm_8 (by omega)) dX1_note_64 (pvf_718 _ _) ?_
    refine x_iconst h dX1_note_67 ?_
    refine x_aload_n h dX1_note_68 rfl ?_
    refine x_get (q := vI (b)) h fl_1_15 (lvm_8 (by omega)) dX1_note_69 (congrArg vI (by first | exact hb | simp [up3, hb])) ?_
    refine x_imul h dX1_note_72 ?_
    refine x_iconst h dX1_note_73 ?_
    refine x_iadd h dX1_note_74 ?_
    refine x_lload h dX1_note_75 rfl ?_
    refine x_cN0 h kSX9_put_ lkNX1_19 dX1_note_77 (c_putL (d := d) kdf_18 (lvm_18 hm) (k := 4 * b + 3) (by omega)) rfl rfl (Nat.le_of_ble_eq_true rfl) (by omega) ?_
    refine x_aload_n h dX1_note_80 rfl ?_
    refine x_dup h dX1_note_81 rfl ?_
    refine x_get (q := vI (b)) h fl_1_15 (lvm_8 (by omega)) dX1_note_82 (congrArg vI (by first | exact hb | simp [up3, hb])) ?_
    refine x_iconst h dX1_note_85 ?_
    refine x_iadd h dX1_note_86 ?_
    refine x_put h fl_1_15 (lvm_8 (by omega)) dX1_note_87 rfl (fun z => absurd z (by decide)) ?_
    exact x_return h hr dX1_note_90 ⟨Nat.le_refl _, Nat.le_refl _⟩
  · unfold noteS at hr
    rw [if_neg (by omega)] at hr
    refine x_aload_n h dX1_note_0 rfl ?_
    refine x_get (q := vI (b)) h fl_1_15 (lvm_8 (by omega)) dX1_note_1 (congrArg vI (by first | exact hb | simp [up3, hb])) ?_
    refine x_if_lt_F (tgt := 80) h (by omega) dX1_note_4 (by decide) (by omega) ?_
    refine x_aload_n h dX1_note_7 rfl ?_
    refine x_get (q := vI (b)) h fl_1_15 (lvm_8 (by omega)) dX1_note_8 (congrArg vI (by first | exact hb | simp [up3, hb])) ?_
    refine x_bipush h dX1_note_11 (by decide) ?_
    refine x_ic_ge_T (tgt := 80) h (by omega) dX1_note_13 (by decide) (by omega) ?_
    refine x_aload_n h dX1_note_80 rfl ?_
    refine x_dup h dX1_note_81 rfl ?_
    refine x_get (q := vI (b)) h fl_1_15 (lvm_8 (by omega)) dX1_note_82 (congrArg vI (by first | exact hb | simp [up3, hb])) ?_
    refine x_iconst h dX1_note_85 ?_
    refine x_iadd h dX1_note_86 ?_
    refine x_put h fl_1_15 (lvm_8 (by omega)) dX1_note_87 rfl (fun z => absurd z (by decide)) ?_
    exact x_return h hr dX1_note_90 ⟨Nat.le_refl _, Nat.le_refl _⟩
theorem c_keepsT {d : Nat} {σ : Mm} {m b i : Nat} (hm : m < 2) (hb : σ 8 m 1 = b) (hb2 : b < 2147483648) (h1 : i < b) (h2 : i < 100) : Ct d mX1_keeps 1 [vR 8 m, vI i] NALL σ (some (vI 1)) NALL σ 0 0 := by
  refine ct_of (by decide) (Nat.le_of_ble_eq_true rfl) (fun C h hr _ => ?_)
  have h : Ok C RX1 cX1_keeps 2 _ := h
  refine x_iload_n h dX1_keeps_0 rfl ?_
  refine x_if_lt_F (tgt := 22) h (by omega) dX1_keeps_1 (by decide) (by omega) ?_
  refine x_iload_n h dX1_keeps_4 rfl ?_
  refine x_aload_n h dX1_keeps_5 rfl ?_
  refine x_get (q := vI (b)) h fl_1_15 (lvm_8 (by omega)) dX1_keeps_6 (congrArg vI (by first | exact hb | simp [up3, hb])) ?_
  refine x_ic_ge_F (tgt := 22) h (by omega) dX1_keeps_9 (by decide) (by omega) ?_
  refine x_iload_n h dX1_keeps_12 rfl ?_
  refine x_bipush h dX1_keeps_13 (by decide) ?_
  refine x_ic_ge_F (tgt := 22) h (by omega) dX1_keeps_15 (by decide) (by omega) ?_
  refine x_iconst h dX1_keeps_18 ?_
  refine x_goto (tgt := 23) h dX1_keeps_19 (by decide) ?_
  exact x_ireturn h hr dX1_keeps_23 (Or.inr ⟨rfl, by omega⟩) ⟨Nat.le_refl _, Nat.le_refl _⟩
theorem c_keepsF {d : Nat} {σ : Mm} {m b : Nat} {i : Int} (hm : m < 2) (hb : σ 8 m 1 = b) (hb2 : b < 2147483648) (hi : -2147483648 ≤ i ∧ i < 2147483648) (h1 : i < 0 ∨ b ≤ i ∨ 100 ≤ i) : Ct d mX1_keeps 1 [vR 8 m, vI i] NALL σ (some (vI 0)) NALL σ 0 0 := by
  refine ct_of (by decide) (Nat.le_of_ble_eq_true rfl) (fun C h hr _ => ?_)
  have h : Ok C RX1 cX1_keeps 2 _ := h
  refine x_iload_n h dX1_keeps_0 rfl ?_
  refine x_if_lt (tgt := 22) h (by omega) dX1_keeps_1 (by decide) (fun hc => ?_) (fun hc => ?_)
  · refine x_iconst h dX1_keeps_22 ?_
    exact x_ireturn h hr dX1_keeps_23 (Or.inr ⟨rfl, by omega⟩) ⟨Nat.le_refl _, Nat.le_refl _⟩
  · refine x_iload_n h dX1_keeps_4 rfl ?_
    refine x_aload_n h dX1_keeps_5 rfl ?_
    refine x_get (q := vI (b)) h fl_1_15 (lvm_8 (by omega)) dX1_keeps_6 (congrArg vI (by first | exact hb | simp [up3, hb])) ?_
    refine x_ic_ge (tgt := 22) h (by omega) dX1_keeps_9 (by decide) (fun hc => ?_) (fun hc => ?_)
    · refine x_iconst h dX1_keeps_22 ?_
      exact x_ireturn h hr dX1_keeps_23 (Or.inr ⟨rfl, by omega⟩) ⟨Nat.le_refl _, Nat.le_refl _⟩
    · refine x_iload_n h dX1_keeps_12 rfl ?_
      refine x_bipush h dX1_keeps_13 (by decide) ?_
      refine x_ic_ge_T (tgt := 22) h (by omega) dX1_keeps_15 (by decide) (by omega) ?_
      refine x_iconst h dX1_keeps_22 ?_
      exact x_ireturn h hr dX1_keeps_23 (Or.inr ⟨rfl, by omega⟩) ⟨Nat.le_refl _, Nat.le_refl _⟩
theorem c_told {d : Nat} {σ : Mm} {m i c : Nat} (hm : m < 2) (hi : i < 100) (hc : c < 4) : Ct (d + 1) mX1_told 1 [vR 8 m, vI i, vI c] NALL σ (some (vL (σ 18 m (4 * i + c)))) NALL σ 0 0 := by
  refine ct_of (by decide) (Nat.le_of_ble_eq_true rfl) (fun C h hr _ => ?_)
  have h : Ok C RX1 cX1_told 3 _ := h
  refine x_aload_n h dX1_told_0 rfl ?_
  refine x_get h fl_1_11 (lvm_8 (by omega)) dX1_told_1 (pvf_718 _ _) ?_
  refine x_iconst h dX1_told_4 ?_
  refine x_iload_n h dX1_told_5 rfl ?_
  refine x_imul h dX1_told_6 ?_
  refine x_iload_n h dX1_told_7 rfl ?_
  refine x_iadd h dX1_told_8 ?_
  refine x_cN1 h kSX9_at_ lkNX1_23 dX1_told_9 (c_atL (d := d) kdf_18 (lvm_18 hm) (k := 4 * i + c) (by omega)) rfl rfl (Nat.le_of_ble_eq_true rfl) (by omega) ?_
  exact x_lreturn h hr dX1_told_12 ⟨Nat.le_refl _, Nat.le_refl _⟩
/-- TABLES' own numbers -/
def entsZ (s : Int) : Int := max 0 (min 200 s)
theorem c_entriesInAll {d : Nat} {σ : Mm} {m : Nat} (hm : m < 24) (hs : -9223372036854775808 ≤ σ 5 m 4 ∧ σ 5 m 4 < 9223372036854775808) : Ct (d + 1) mX2_entriesInAll 1 [vR 5 m] NALL σ (some (vI (entsZ (σ 5 m 4)))) NALL σ 0 0 := by
  refine ct_of (by decide) (Nat.le_of_ble_eq_true rfl) (fun C h hr _ => ?_)
  have h : Ok C RX2 cX2_entriesInAll 1 _ := h
  refine x_lconst h dX2_entriesInAll_0 ?_
  refine x_ldc2 (x := 200) h dX2_entriesInAll_1 klX2_47 (by decide) ?_
  refine x_aload_n h dX2_entriesInAll_4 rfl ?_
  refine x_get h fl_2_30 (lvm_5 (by omega)) dX2_entriesInAll_5 rfl ?_
  refine x_mathminL h (by omega) lkX2_49 (by omega) dX2_entriesInAll_8 (Nat.le_of_ble_eq_true rfl) ⟨Nat.zero_le _, Nat.zero_le _⟩ ?_
  refine x_mathmaxL h (by omega) lkX2_55 (by omega) dX2_entriesInAll_11 (Nat.le_of_ble_eq_true rfl) ⟨Nat.zero_le _, Nat.zero_le _⟩ ?_
  refine x_l2i h dX2_entriesInAll_14 ?_
  exact x_ireturn h hr dX2_entriesInAll_15 (Or.inl rfl) ⟨Nat.le_refl _, Nat.le_refl _⟩
theorem entsZ_r (s : Int) : 0 ≤ entsZ s ∧ entsZ s ≤ 200 := by unfold entsZ; omega
theorem c_rowsInAll {d : Nat} {σ : Mm} {m : Nat} (hm : m < 24) (hs : -9223372036854775808 ≤ σ 5 m 4 ∧ σ 5 m 4 < 9223372036854775808) : Ct (d + 2) mX2_rowsInAll 1 [vR 5 m] NALL σ (some (vI ((entsZ (σ 5 m 4) + 7) / 8))) NALL σ 0 0 := by
  refine ct_of (by decide) (Nat.le_of_ble_eq_true rfl) (fun C h hr _ => ?_)
  have h : Ok C RX2 cX2_rowsInAll 1 _ := h
  have e := entsZ_r (σ 5 m 4)
  refine x_aload_n h dX2_rowsInAll_0 rfl ?_
  refine x_cV1 h kVX2_entriesInAll lkX2_58 ⟨_, _, _, rfl, rfl⟩ dX2_rowsInAll_1 (c_entriesInAll (d := d) hm hs) (lvm_5 (by omega)) rfl rfl (Nat.le_of_ble_eq_true rfl) (by omega) ?_
  refine x_bipush h dX2_rowsInAll_4 (by decide) ?_
  refine x_iadd h dX2_rowsInAll_6 ?_
  refine x_iconst h dX2_rowsInAll_7 ?_
  refine x_isub h dX2_rowsInAll_8 ?_
  refine x_bipush h dX2_rowsInAll_9 (by decide) ?_
  refine x_idivP h (by omega) dX2_rowsInAll_11 ?_
  rw [show entsZ (σ 5 m 4) + 8 - 1 = entsZ (σ 5 m 4) + 7 by omega]
  exact x_ireturn h hr dX2_rowsInAll_12 (Or.inl rfl) ⟨Nat.le_refl _, Nat.le_refl _⟩
theorem c_endOfRow {d : Nat} {σ : Mm} {m : Nat} {r : Nat} (hm : m < 24) (hs : -9223372036854775808 ≤ σ 5 m 4 ∧ σ 5 m 4 < 9223372036854775808) (hr2 : r < 1000) : Ct (d + 2) mX2_endOfRow 1 [vR 5 m, vI r] NALL σ (some (vI (min (entsZ (σ 5 m 4)) (8 * r + 8)))) NALL σ 0 0 := by
  refine ct_of (by decide) (Nat.le_of_ble_eq_true rfl) (fun C h hr _ => ?_)
  have h : Ok C RX2 cX2_endOfRow 2 _ := h
  have e := entsZ_r (σ 5 m 4)
  refine x_aload_n h dX2_endOfRow_0 rfl ?_
  refine x_cV1 h kVX2_entriesInAll lkX2_58 ⟨_, _, _, rfl, rfl⟩ dX2_endOfRow_1 (c_entriesInAll (d := d) hm hs) (lvm_5 (by omega)) rfl rfl (Nat.le_of_ble_eq_true rfl) (by omega) ?_
  refine x_bipush h dX2_endOfRow_4 (by decide) ?_
  refine x_iload_n h dX2_endOfRow_6 rfl ?_
  refine x_imul h dX2_endOfRow_7 ?_
  refine x_bipush h dX2_endOfRow_8 (by decide) ?_
  refine x_iadd h dX2_endOfRow_10 ?_
  refine x_mathmin h (by omega) lkX2_62 (by omega) dX2_endOfRow_11 (Nat.le_of_ble_eq_true rfl) ⟨Nat.zero_le _, Nat.zero_le _⟩ ?_
  exact x_ireturn h hr dX2_endOfRow_14 (Or.inl rfl) ⟨Nat.le_refl _, Nat.le_refl _⟩
def zeroA (σ : Mm) (f m len : Nat) : Mm := fun f' k' j' => if f' = f ∧ k' = m ∧ j' < len then 0 else σ f' k' j'
theorem zeroA_0 (σ : Mm) (f m : Nat) : zeroA σ f m 0 = σ := by
  funext f' k' j'
  unfold zeroA
  rw [if_neg (by omega)]
theorem zeroA_s (σ : Mm) (f m len : Nat) : up3 (zeroA σ f m len) f m len 0 = zeroA σ f m (len + 1) := by
  funext f' k' j'
  show (if f' = f ∧ k' = m ∧ j' = len then (0 : Int) else (if f' = f ∧ k' = m ∧ j' < len then 0 else σ f' k' j')) = (if f' = f ∧ k' = m ∧ j' < len + 1 then 0 else σ f' k' j')
  by_cases h : f' = f ∧ k' = m ∧ j' = len
  · rw [if_pos h, if_pos ⟨h.1, h.2.1, by omega⟩]
  · rw [if_neg h]
    by_cases h2 : f' = f ∧ k' = m ∧ j' < len
    · rw [if_pos h2, if_pos ⟨h2.1, h2.2.1, by omega⟩]
    · rw [if_neg h2, if_neg (by omega)]
def sleepT (σ : Mm) (m : Nat) : Mm := zeroA (up3 σ 5 m 8 0) 17 m 25
theorem c_tsleep {d : Nat} {σ : Mm} {m : Nat} (hm : m < 24) : Ct d mX2_putToSleep 1 [vR 5 m] NALL σ none NALL (sleepT σ m) 0 0 := by
  refine ct_of (by decide) (Nat.le_of_ble_eq_true rfl) (fun C h hr _ => ?_)
  have h : Ok C RX2 cX2_putToSleep 2 _ := h
  have loop : ∀ (c k : Nat) (ls : List (Nat × PV)), k + c = 25 → lsub [(0, vR 5 m), (1, vI k)] ls → X C 1 7 ls [] NALL (zeroA (up3 σ 5 m 8 0) 17 m k) 0 0 := by
    intro c
    induction c with
    | zero =>
      intro k ls hk hls
      refine x_loc hls ?_
      obtain rfl : k = 25 := by omega
      refine x_iload_n h dX2_putToSleep_7 rfl ?_
      refine x_aload_n h dX2_putToSleep_8 rfl ?_
      refine x_get h fl_2_22 (lvm_5 (by omega)) dX2_putToSleep_9 (pvf_717 _ _) ?_
      refine x_alen h kdf_17 (by decide) (lvm_17 (by omega)) dX2_putToSleep_12 ?_
      refine x_ic_ge_T (tgt := 29) h (by omega) dX2_putToSleep_13 (by decide) (by omega) ?_
      exact x_return h hr dX2_putToSleep_29 ⟨Nat.le_refl _, Nat.le_refl _⟩
    | succ c ih =>
      intro k ls hk hls
      refine x_loc hls ?_
      refine x_iload_n h dX2_putToSleep_7 rfl ?_
      refine x_aload_n h dX2_putToSleep_8 rfl ?_
      refine x_get h fl_2_22 (lvm_5 (by omega)) dX2_putToSleep_9 (pvf_717 _ _) ?_
      refine x_alen h kdf_17 (by decide) (lvm_17 (by omega)) dX2_putToSleep_12 ?_
      refine x_ic_ge_F (tgt := 29) h (by omega) dX2_putToSleep_13 (by decide) (by omega) ?_
      refine x_aload_n h dX2_putToSleep_16 rfl ?_
      refine x_get h fl_2_22 (lvm_5 (by omega)) dX2_putToSleep_17 (pvf_717 _ _) ?_
      refine x_iload_n h dX2_putToSleep_20 rfl ?_
      refine x_iconst h dX2_putToSleep_21 ?_
      refine x_iast h kdf_17 (lvm_17 (by omega)) dX2_putToSleep_22 rfl (by omega) ?_
      rw [zeroA_s]
      refine x_iinc h dX2_putToSleep_23 rfl (by decide) ?_
      refine x_goto (tgt := 7) h dX2_putToSleep_26 (by decide) ?_
      exact ih (k + 1) _ (by omega) ⟨rfl, rfl, trivial⟩
  refine x_aload_n h dX2_putToSleep_0 rfl ?_
  refine x_iconst h dX2_putToSleep_1 ?_
  refine x_put h fl_2_43 (lvm_5 (by omega)) dX2_putToSleep_2 rfl (fun z => absurd z (by decide)) ?_
  refine x_iconst h dX2_putToSleep_5 ?_
  refine x_istore_n h dX2_putToSleep_6 (by decide) ?_
  refine x_mem (zeroA_0 _ 17 m).symm ?_
  exact loop 25 0 _ rfl ⟨rfl, rfl, trivial⟩
theorem c_tclear {d : Nat} {σ : Mm} {m : Nat} (hm : m < 24) : Ct d mX2_clearEntries 1 [vR 5 m] NALL σ none NALL (zeroA σ 16 m 200) 0 0 := by
  refine ct_of (by decide) (Nat.le_of_ble_eq_true rfl) (fun C h hr _ => ?_)
  have h : Ok C RX2 cX2_clearEntries 2 _ := h
  have loop : ∀ (c k : Nat) (ls : List (Nat × PV)), k + c = 200 → lsub [(0, vR 5 m), (1, vI k)] ls → X C 1 2 ls [] NALL (zeroA σ 16 m k) 0 0 := by
    intro c
    induction c with
    | zero =>
      intro k ls hk hls
      refine x_loc hls ?_
      obtain rfl : k = 200 := by omega
      refine x_iload_n h dX2_clearEntries_2 rfl ?_
      refine x_aload_n h dX2_clearEntries_3 rfl ?_
      refine x_get h fl_2_18 (lvm_5 (by omega)) dX2_clearEntries_4 (pvf_716 _ _) ?_
      refine x_alen h kdf_16 (by decide) (lvm_16 (by omega)) dX2_clearEntries_7 ?_
      refine x_ic_ge_T (tgt := 24) h (by omega) dX2_clearEntries_8 (by decide) (by omega) ?_
      exact x_return h hr dX2_clearEntries_24 ⟨Nat.le_refl _, Nat.le_refl _⟩
    | succ c ih =>
      intro k ls hk hls
      refine x_loc hls ?_
      refine x_iload_n h dX2_clearEntries_2 rfl ?_
      refine x_aload_n h dX2_clearEntries_3 rfl ?_
      refine x_get h fl_2_18 (lvm_5 (by omega)) dX2_clearEntries_4 (pvf_716 _ _) ?_
      refine x_alen h kdf_16 (by decide) (lvm_16 (by omega)) dX2_clearEntries_7 ?_
      refine x_ic_ge_F (tgt := 24) h (by omega) dX2_clearEntries_8 (by decide) (by omega) ?_
      refine x_aload_n h dX2_clearEntries_11 rfl ?_
      refine x_get h fl_2_18 (lvm_5 (by omega)) dX2_clearEntries_12 (pvf_716 _ _) ?_
      refine x_iload_n h dX2_clearEntries_15 rfl ?_
      refine x_lconst h dX2_clearEntries_16 ?_
      refine x_last h kdf_16 (lvm_16 (by omega)) dX2_clearEntries_17 rfl (by omega) ?_
      rw [show (((0 : Fin 2).val : Nat) : Int) = 0 from rfl, zeroA_s]
      refine x_iinc h dX2_clearEntries_18 rfl (by decide) ?_
      refine x_goto (tgt := 2) h dX2_clearEntries_21 (by decide) ?_
      exact ih (k + 1) _ (by omega) ⟨rfl, rfl, trivial⟩
  refine x_iconst h dX2_clearEntries_0 ?_
  refine x_istore_n h dX2_clearEntries_1 (by decide) ?_
  refine x_mem (zeroA_0 σ 16 m).symm ?_
  exact loop 200 0 _ rfl ⟨rfl, rfl, trivial⟩
/-- how many entries of READY ROWS, of the first n -/
def rdySum (e : Int) (rc : Nat → Int) : Nat → Int
  | 0 => 0
  | r + 1 => rdySum e rc r + (if rc r = 2 then min e (8 * r + 8) - 8 * r else 0)
def rdyT (cond by_ size : Int) (rc : Nat → Int) : Int := if cond = 2 then (if by_ = 0 then entsZ size else rdySum (entsZ size) rc ((entsZ size + 7) / 8).toNat) else 0
theorem rdySum_r {e : Int} {rc : Nat → Int} (he : 0 ≤ e ∧ e ≤ 200) : ∀ n : Nat, (n : Int) ≤ (e + 7) / 8 → 0 ≤ rdySum e rc n ∧ rdySum e rc n ≤ 8 * n := by
  intro n
  induction n with
  | zero => intro _; exact ⟨Int.le_refl _, by show (0 : Int) ≤ _; omega⟩
  | succ n ih =>
    intro h
    have h1 := ih (by omega)
    unfold rdySum
    split <;> omega
theorem c_readyEntries {d : Nat} {σ : Mm} {m : Nat} (hm : m < 24) (hs : -9223372036854775808 ≤ σ 5 m 4 ∧ σ 5 m 4 < 9223372036854775808) (hc : 0 ≤ σ 5 m 8 ∧ σ 5 m 8 ≤ 3) (hb : 0 ≤ σ 5 m 5 ∧ σ 5 m 5 ≤ 1) (hrc : ∀ r, r < 25 → 0 ≤ σ 17 m r ∧ σ 17 m r ≤ 3) : Ct (d + 3) mX2_readyEntries 1 [vR 5 m] NALL σ (some (vI (rdyT (σ 5 m 8) (σ 5 m 5) (σ 5 m 4) (σ 17 m)))) NALL σ 0 0 := by
  refine ct_of (by decide) (Nat.le_of_ble_eq_true rfl) (fun C h hr _ => ?_)
  have h : Ok C RX2 cX2_readyEntries 3 _ := h
  have e := entsZ_r (σ 5 m 4)
  refine x_aload_n h dX2_readyEntries_0 rfl ?_
  refine x_get h fl_2_43 (lvm_5 (by omega)) dX2_readyEntries_1 rfl ?_
  refine x_iconst h dX2_readyEntries_4 ?_
  refine x_ic_eq (tgt := 10) h (by omega) dX2_readyEntries_5 (by decide) (fun hc2 => ?_) (fun hc2 => ?_)
  · refine x_aload_n h dX2_readyEntries_10 rfl ?_
    refine x_get h fl_2_33 (lvm_5 (by omega)) dX2_readyEntries_11 rfl ?_
    refine x_if_ne (tgt := 22) h (by omega) dX2_readyEntries_14 (by decide) (fun hb2 => ?_) (fun hb2 => ?_)
    · have loop : ∀ (c k : Nat) (ls : List (Nat × PV)), (k : Int) + c = (entsZ (σ 5 m 4) + 7) / 8 → lsub [(0, vR 5 m), (1, vI (rdySum (entsZ (σ 5 m 4)) (σ 17 m) k)), (2, vI k)] ls → X C 1 26 ls [] NALL σ 0 0 := by
        intro c
        induction c with
        | zero =>
          intro k ls hk hls
          refine x_loc hls ?_
          have hval : rdyT (σ 5 m 8) (σ 5 m 5) (σ 5 m 4) (σ 17 m) = rdySum (entsZ (σ 5 m 4)) (σ 17 m) k := by
            unfold rdyT
            rw [if_pos (by omega), if_neg (by omega), show ((entsZ (σ 5 m 4) + 7) / 8).toNat = k by omega]
          rw [hval] at hr
          refine x_iload_n h dX2_readyEntries_26 rfl ?_
          refine x_aload_n h dX2_readyEntries_27 rfl ?_
          refine x_cV1 h kVX2_rowsInAll lkX2_65 ⟨_, _, _, rfl, rfl⟩ dX2_readyEntries_28 (c_rowsInAll (d := d) hm hs) (lvm_5 (by omega)) rfl rfl (Nat.le_of_ble_eq_true rfl) (by omega) ?_
          refine x_ic_ge_T (tgt := 65) h (by omega) dX2_readyEntries_31 (by decide) (by omega) ?_
          refine x_iload_n h dX2_readyEntries_65 rfl ?_
          exact x_ireturn h hr dX2_readyEntries_66 (Or.inl rfl) ⟨Nat.le_refl _, Nat.le_refl _⟩
        | succ c ih =>
          intro k ls hk hls
          refine x_loc hls ?_
          have hrk := hrc k (by omega)
          have hs2 := rdySum_r (rc := σ 17 m) e k (by omega)
          refine x_iload_n h dX2_readyEntries_26 rfl ?_
          refine x_aload_n h dX2_readyEntries_27 rfl ?_
          refine x_cV1 h kVX2_rowsInAll lkX2_65 ⟨_, _, _, rfl, rfl⟩ dX2_readyEntries_28 (c_rowsInAll (d := d) hm hs) (lvm_5 (by omega)) rfl rfl (Nat.le_of_ble_eq_true rfl) (by omega) ?_
          refine x_ic_ge_F (tgt := 65) h (by omega) dX2_readyEntries_31 (by decide) (by omega) ?_
          refine x_aload_n h dX2_readyEntries_34 rfl ?_
          refine x_get h fl_2_22 (lvm_5 (by omega)) dX2_readyEntries_35 (pvf_717 _ _) ?_
          refine x_iload_n h dX2_readyEntries_38 rfl ?_
          refine x_cN1 h kSX9_at lkNX2_68 dX2_readyEntries_39 (c_at (d := d) (k := k) kdf_17 (lvm_17 hm) (by omega)) rfl rfl (Nat.le_of_ble_eq_true rfl) (by omega) ?_
          refine x_iconst h dX2_readyEntries_42 ?_
          refine x_ic_ne (tgt := 59) h (by omega) dX2_readyEntries_43 (by decide) (fun hq => ?_) (fun hq => ?_)
          · refine x_iinc h dX2_readyEntries_59 rfl (by decide) ?_
            refine x_goto (tgt := 26) h dX2_readyEntries_62 (by decide) ?_
            refine ih (k + 1) _ (by omega) ⟨rfl, ?_, rfl, trivial⟩
            show some (vI (rdySum (entsZ (σ 5 m 4)) (σ 17 m) k)) = some (vI (rdySum (entsZ (σ 5 m 4)) (σ 17 m) (k + 1)))
            rw [show rdySum (entsZ (σ 5 m 4)) (σ 17 m) (k + 1) = rdySum (entsZ (σ 5 m 4)) (σ 17 m) k by rw [rdySum, if_neg hq, Int.add_zero]]
          · refine x_iload_n h dX2_readyEntries_46 rfl ?_
            refine x_aload_n h dX2_readyEntries_47 rfl ?_
            refine x_iload_n h dX2_readyEntries_48 rfl ?_
            refine x_cV1 h kVX2_endOfRow lkX2_72 ⟨_, _, _, rfl, rfl⟩ dX2_readyEntries_49 (c_endOfRow (d := d) (r := k) hm hs (by omega)) (lvm_5 (by omega)) rfl rfl (Nat.le_of_ble_eq_true rfl) (by omega) ?_
            refine x_bipush h dX2_readyEntries_52 (by decide) ?_
            refine x_iload_n h dX2_readyEntries_54 rfl ?_
            refine x_imul h dX2_readyEntries_55 ?_
            refine x_isub h dX2_readyEntries_56 ?_
            refine x_iadd h dX2_readyEntries_57 ?_
            refine x_istore_n h dX2_readyEntries_58 (by decide) ?_
            refine x_iinc h dX2_readyEntries_59 rfl (by decide) ?_
            refine x_goto (tgt := 26) h dX2_readyEntries_62 (by decide) ?_
            refine ih (k + 1) _ (by omega) ⟨rfl, ?_, rfl, trivial⟩
            show some (vI (rdySum (entsZ (σ 5 m 4)) (σ 17 m) k + (min (entsZ (σ 5 m 4)) (8 * k + 8) - 8 * k))) = some (vI (rdySum (entsZ (σ 5 m 4)) (σ 17 m) (k + 1)))
            rw [show rdySum (entsZ (σ 5 m 4)) (σ 17 m) (k + 1) = rdySum (entsZ (σ 5 m 4)) (σ 17 m) k + (min (entsZ (σ 5 m 4)) (8 * k + 8) - 8 * k) by rw [rdySum, if_pos (by omega)]]
      refine x_iconst h dX2_readyEntries_22 ?_
      refine x_istore_n h dX2_readyEntries_23 (by decide) ?_
      refine x_iconst h dX2_readyEntries_24 ?_
      refine x_istore_n h dX2_readyEntries_25 (by decide) ?_
      exact loop ((entsZ (σ 5 m 4) + 7) / 8).toNat 0 _ (by omega) ⟨rfl, rfl, rfl, trivial⟩
    · have hval : rdyT (σ 5 m 8) (σ 5 m 5) (σ 5 m 4) (σ 17 m) = entsZ (σ 5 m 4) := by
        unfold rdyT
        rw [if_pos (by omega), if_pos (by omega)]
      rw [hval] at hr
      refine x_aload_n h dX2_readyEntries_17 rfl ?_
      refine x_cV1 h kVX2_entriesInAll lkX2_58 ⟨_, _, _, rfl, rfl⟩ dX2_readyEntries_18 (c_entriesInAll (d := d) hm hs) (lvm_5 (by omega)) rfl rfl (Nat.le_of_ble_eq_true rfl) (by omega) ?_
      exact x_ireturn h hr dX2_readyEntries_21 (Or.inl rfl) ⟨Nat.le_refl _, Nat.le_refl _⟩
  · have hval : rdyT (σ 5 m 8) (σ 5 m 5) (σ 5 m 4) (σ 17 m) = 0 := by
      unfold rdyT
      rw [if_neg hc2]
    rw [hval] at hr
    refine x_iconst h dX2_readyEntries_8 ?_
    exact x_ireturn h hr dX2_readyEntries_9 (Or.inl rfl) ⟨Nat.le_refl _, Nat.le_refl _⟩
end
section
/-! Text: t is which of the two, told its number of TABLES; a TABLE's member is 12 t + k -/
theorem c_slotAt {d : Nat} {σ : Mm} {t k : Nat} (ht : t < 2) (hk : k < 12) : Ct d mX4_slotAt 1 [vR 4 t, vI k] NALL σ (some (vR 5 (12 * t + k))) NALL σ 0 0 := by
  refine ct_of (by decide) (Nat.le_of_ble_eq_true rfl) (fun C h hr _ => ?_)
  have h : Ok C RX4 cX4_slotAt 2 _ := h
  refine x_iload_n h dX4_slotAt_0 rfl ?_
  refine x_if_lt_F (tgt := 22) h (by omega) dX4_slotAt_1 (by decide) (by omega) ?_
  refine x_iload_n h dX4_slotAt_4 rfl ?_
  refine x_aload_n h dX4_slotAt_5 rfl ?_
  refine x_get h fl_4_11 (lvm_4 (by omega)) dX4_slotAt_6 (pvf_712 _ _) ?_
  refine x_alen h kdf_12 (by decide) (lvm_12 (by omega)) dX4_slotAt_9 ?_
  refine x_ic_ge_F (tgt := 22) h (by omega) dX4_slotAt_10 (by decide) (by omega) ?_
  refine x_aload_n h dX4_slotAt_13 rfl ?_
  refine x_get h fl_4_11 (lvm_4 (by omega)) dX4_slotAt_14 (pvf_712 _ _) ?_
  refine x_iload_n h dX4_slotAt_17 rfl ?_
  refine x_aald h kdf_12 (lvm_12 (by omega)) dX4_slotAt_18 rfl (by omega) ?_
  refine x_goto (tgt := 23) h dX4_slotAt_19 (by decide) ?_
  exact x_areturn h hr dX4_slotAt_23 (by first | exact Or.inl rfl | exact Or.inr ⟨_, _, rfl⟩) ⟨Nat.le_refl _, Nat.le_refl _⟩
theorem c_slotAtN {d : Nat} {σ : Mm} {t : Nat} {x : Int} (ht : t < 2) (hx : -2147483648 ≤ x ∧ x < 2147483648) (hk : x < 0 ∨ 12 ≤ x) : Ct d mX4_slotAt 1 [vR 4 t, vI x] NALL σ (some vN) NALL σ 0 0 := by
  refine ct_of (by decide) (Nat.le_of_ble_eq_true rfl) (fun C h hr _ => ?_)
  have h : Ok C RX4 cX4_slotAt 2 _ := h
  refine x_iload_n h dX4_slotAt_0 rfl ?_
  refine x_if_lt (tgt := 22) h (by omega) dX4_slotAt_1 (by decide) (fun hc => ?_) (fun hc => ?_)
  · refine x_null h dX4_slotAt_22 ?_
    exact x_areturn h hr dX4_slotAt_23 (by first | exact Or.inl rfl | exact Or.inr ⟨_, _, rfl⟩) ⟨Nat.le_refl _, Nat.le_refl _⟩
  · refine x_iload_n h dX4_slotAt_4 rfl ?_
    refine x_aload_n h dX4_slotAt_5 rfl ?_
    refine x_get h fl_4_11 (lvm_4 (by omega)) dX4_slotAt_6 (pvf_712 _ _) ?_
    refine x_alen h kdf_12 (by decide) (lvm_12 (by omega)) dX4_slotAt_9 ?_
    refine x_ic_ge_T (tgt := 22) h (by omega) dX4_slotAt_10 (by decide) (by omega) ?_
    refine x_null h dX4_slotAt_22 ?_
    exact x_areturn h hr dX4_slotAt_23 (by first | exact Or.inl rfl | exact Or.inr ⟨_, _, rfl⟩) ⟨Nat.le_refl _, Nat.le_refl _⟩
theorem c_tableAt {d : Nat} {σ : Mm} {t k n : Nat} (ht : t < 2) (hn : σ 4 t 1 = n) (hn2 : n ≤ 12) (hk : k < n) : Ct (d + 1) mX4_tableAt 1 [vR 4 t, vI k] NALL σ (some (vR 5 (12 * t + k))) NALL σ 0 0 := by
  refine ct_of (by decide) (Nat.le_of_ble_eq_true rfl) (fun C h hr _ => ?_)
  have h : Ok C RX4 cX4_tableAt 2 _ := h
  refine x_iload_n h dX4_tableAt_0 rfl ?_
  refine x_aload_n h dX4_tableAt_1 rfl ?_
  refine x_get (q := vI (n)) h fl_4_18 (lvm_4 (by omega)) dX4_tableAt_2 (congrArg vI (by first | exact hn | simp [up3, hn])) ?_
  refine x_ic_ge_F (tgt := 16) h (by omega) dX4_tableAt_5 (by decide) (by omega) ?_
  refine x_aload_n h dX4_tableAt_8 rfl ?_
  refine x_iload_n h dX4_tableAt_9 rfl ?_
  refine x_cV1 h kVX4_slotAt lkX4_22 ⟨_, _, _, rfl, rfl⟩ dX4_tableAt_10 (c_slotAt (d := d) (t := t) (k := k) ht (by omega)) (lvm_4 (by omega)) rfl rfl (Nat.le_of_ble_eq_true rfl) (by omega) ?_
  refine x_goto (tgt := 17) h dX4_tableAt_13 (by decide) ?_
  exact x_areturn h hr dX4_tableAt_17 (by first | exact Or.inl rfl | exact Or.inr ⟨_, _, rfl⟩) ⟨Nat.le_refl _, Nat.le_refl _⟩
theorem c_tableAtN {d : Nat} {σ : Mm} {t n : Nat} {x : Int} (ht : t < 2) (hn : σ 4 t 1 = n) (hn2 : n ≤ 12) (hx : -2147483648 ≤ x ∧ x < 2147483648) (hk : x < 0 ∨ n ≤ x) : Ct (d + 1) mX4_tableAt 1 [vR 4 t, vI x] NALL σ (some vN) NALL σ 0 0 := by
  refine ct_of (by decide) (Nat.le_of_ble_eq_true rfl) (fun C h hr _ => ?_)
  have h : Ok C RX4 cX4_tableAt 2 _ := h
  refine x_iload_n h dX4_tableAt_0 rfl ?_
  refine x_aload_n h dX4_tableAt_1 rfl ?_
  refine x_get (q := vI (n)) h fl_4_18 (lvm_4 (by omega)) dX4_tableAt_2 (congrArg vI (by first | exact hn | simp [up3, hn])) ?_
  refine x_ic_ge (tgt := 16) h (by omega) dX4_tableAt_5 (by decide) (fun hc => ?_) (fun hc => ?_)
  · refine x_null h dX4_tableAt_16 ?_
    exact x_areturn h hr dX4_tableAt_17 (by first | exact Or.inl rfl | exact Or.inr ⟨_, _, rfl⟩) ⟨Nat.le_refl _, Nat.le_refl _⟩
  · refine x_aload_n h dX4_tableAt_8 rfl ?_
    refine x_iload_n h dX4_tableAt_9 rfl ?_
    refine x_cV1 h kVX4_slotAt lkX4_22 ⟨_, _, _, rfl, rfl⟩ dX4_tableAt_10 (c_slotAtN (d := d) (t := t) (x := x) ht hx (by omega)) (lvm_4 (by omega)) rfl rfl (Nat.le_of_ble_eq_true rfl) (by omega) ?_
    refine x_goto (tgt := 17) h dX4_tableAt_13 (by decide) ?_
    exact x_areturn h hr dX4_tableAt_17 (by first | exact Or.inl rfl | exact Or.inr ⟨_, _, rfl⟩) ⟨Nat.le_refl _, Nat.le_refl _⟩
/-- the first place from k on of c that holds x -/
def nofR (g : Nat → Int) (x : Int) : Nat → Nat → Int
  | 0, _ => -9
  | c + 1, k => if g k = x then k else nofR g x c (k + 1)
def nof (g : Nat → Int) (x : Int) (n : Nat) : Int := nofR g x n 0
def nameG (σ : Mm) (t : Nat) : Nat → Int := fun k => σ 5 (12 * t + k) 3
theorem c_numberOf {d : Nat} {σ : Mm} {t n : Nat} {x : Int} (ht : t < 2) (hn : σ 4 t 1 = n) (hn2 : n ≤ 12) (hx : -9223372036854775808 ≤ x ∧ x < 9223372036854775808) (hg : ∀ k, k < n → -9223372036854775808 ≤ nameG σ t k ∧ nameG σ t k < 9223372036854775808) : Ct (d + 1) mX4_numberOf 1 [vR 4 t, vL x] NALL σ (some (vI (nof (nameG σ t) x n))) NALL σ 0 0 := by
  refine ct_of (by decide) (Nat.le_of_ble_eq_true rfl) (fun C h hr _ => ?_)
  have h : Ok C RX4 cX4_numberOf 5 _ := h
  have loop : ∀ (c k : Nat) (ls : List (Nat × PV)), k + c = n → nof (nameG σ t) x n = nofR (nameG σ t) x c k → lsub [(0, vR 4 t), (1, vL x), (3, vI k)] ls → X C 1 2 ls [] NALL σ 0 0 := by
    intro c
    induction c with
    | zero =>
      intro k ls hk hv hls
      refine x_loc hls ?_
      rw [hv, nofR] at hr
      refine x_iload_n h dX4_numberOf_2 rfl ?_
      refine x_aload_n h dX4_numberOf_3 rfl ?_
      refine x_get (q := vI (n)) h fl_4_18 (lvm_4 (by omega)) dX4_numberOf_4 (congrArg vI (by first | exact hn | simp [up3, hn])) ?_
      refine x_ic_ge_T (tgt := 40) h (by omega) dX4_numberOf_7 (by decide) (by omega) ?_
      refine x_bipush h dX4_numberOf_40 (by decide) ?_
      exact x_ireturn h hr dX4_numberOf_42 (Or.inl rfl) ⟨Nat.le_refl _, Nat.le_refl _⟩
    | succ c ih =>
      intro k ls hk hv hls
      refine x_loc hls ?_
      have hgk := hg k (by omega)
      have hgk2 : nameG σ t k = σ 5 (12 * t + k) 3 := rfl
      refine x_iload_n h dX4_numberOf_2 rfl ?_
      refine x_aload_n h dX4_numberOf_3 rfl ?_
      refine x_get (q := vI (n)) h fl_4_18 (lvm_4 (by omega)) dX4_numberOf_4 (congrArg vI (by first | exact hn | simp [up3, hn])) ?_
      refine x_ic_ge_F (tgt := 40) h (by omega) dX4_numberOf_7 (by decide) (by omega) ?_
      refine x_aload_n h dX4_numberOf_10 rfl ?_
      refine x_iload_n h dX4_numberOf_11 rfl ?_
      refine x_cV1 h kVX4_slotAt lkX4_22 ⟨_, _, _, rfl, rfl⟩ dX4_numberOf_12 (c_slotAt (d := d) (t := t) (k := k) ht (by omega)) (lvm_4 (by omega)) rfl rfl (Nat.le_of_ble_eq_true rfl) (by omega) ?_
      refine x_astore h dX4_numberOf_15 (by decide) ?_
      refine x_aload h dX4_numberOf_17 rfl ?_
      refine x_ifnull h dX4_numberOf_19 ?_
      refine x_aload h dX4_numberOf_22 rfl ?_
      refine x_get h fl_4_26 (lvm_5 (by omega)) dX4_numberOf_24 rfl ?_
      refine x_lload_n h dX4_numberOf_27 rfl ?_
      refine x_lc_ne (tgt := 34) h (by omega) dX4_numberOf_28 dX4_numberOf_29 (by decide) (fun hc => ?_) (fun hc => ?_)
      · refine x_iinc h dX4_numberOf_34 rfl (by decide) ?_
        refine x_goto (tgt := 2) h dX4_numberOf_37 (by decide) ?_
        exact ih (k + 1) _ (by omega) (by rw [hv, nofR, if_neg (by omega)]) ⟨rfl, rfl, rfl, trivial⟩
      · rw [hv, nofR, if_pos (by omega)] at hr
        refine x_iload_n h dX4_numberOf_32 rfl ?_
        exact x_ireturn h hr dX4_numberOf_33 (Or.inl rfl) ⟨Nat.le_refl _, Nat.le_refl _⟩
  refine x_iconst h dX4_numberOf_0 ?_
  refine x_istore_n h dX4_numberOf_1 (by decide) ?_
  exact loop n 0 _ (by omega) rfl ⟨rfl, rfl, rfl, trivial⟩
theorem c_sizeOf {d : Nat} {σ : Mm} {t n k : Nat} (ht : t < 2) (hn : σ 4 t 1 = n) (hn2 : n ≤ 12) (hk : k < n) : Ct (d + 2) mX4_sizeOf 1 [vR 4 t, vI k] NALL σ (some (vL (σ 5 (12 * t + k) 4))) NALL σ 0 0 := by
  refine ct_of (by decide) (Nat.le_of_ble_eq_true rfl) (fun C h hr _ => ?_)
  have h : Ok C RX4 cX4_sizeOf 3 _ := h
  refine x_aload_n h dX4_sizeOf_0 rfl ?_
  refine x_iload_n h dX4_sizeOf_1 rfl ?_
  refine x_cV1 h kVX4_tableAt lkX4_30 ⟨_, _, _, rfl, rfl⟩ dX4_sizeOf_2 (c_tableAt (d := d) (k := k) ht hn hn2 hk) (lvm_4 (by omega)) rfl rfl (Nat.le_of_ble_eq_true rfl) (by omega) ?_
  refine x_astore_n h dX4_sizeOf_5 (by decide) ?_
  refine x_aload_n h dX4_sizeOf_6 rfl ?_
  refine x_ifnonnull (tgt := 14) h dX4_sizeOf_7 (by decide) ?_
  refine x_aload_n h dX4_sizeOf_14 rfl ?_
  refine x_get h fl_4_33 (lvm_5 (by omega)) dX4_sizeOf_15 rfl ?_
  exact x_lreturn h hr dX4_sizeOf_18 ⟨Nat.le_refl _, Nat.le_refl _⟩
theorem c_sizeOfN {d : Nat} {σ : Mm} {t n : Nat} {x : Int} (ht : t < 2) (hn : σ 4 t 1 = n) (hn2 : n ≤ 12) (hx : -2147483648 ≤ x ∧ x < 2147483648) (hk : x < 0 ∨ n ≤ x) : Ct (d + 2) mX4_sizeOf 1 [vR 4 t, vI x] NALL σ (some (vL 0)) NALL σ 0 0 := by
  refine ct_of (by decide) (Nat.le_of_ble_eq_true rfl) (fun C h hr _ => ?_)
  have h : Ok C RX4 cX4_sizeOf 3 _ := h
  refine x_aload_n h dX4_sizeOf_0 rfl ?_
  refine x_iload_n h dX4_sizeOf_1 rfl ?_
  refine x_cV1 h kVX4_tableAt lkX4_30 ⟨_, _, _, rfl, rfl⟩ dX4_sizeOf_2 (c_tableAtN (d := d) ht hn hn2 hx hk) (lvm_4 (by omega)) rfl rfl (Nat.le_of_ble_eq_true rfl) (by omega) ?_
  refine x_astoreN_n h dX4_sizeOf_5 (by decide) ?_
  refine x_aloadN_n h dX4_sizeOf_6 rfl ?_
  refine x_ifnonnullN h dX4_sizeOf_7 ?_
  refine x_lconst h dX4_sizeOf_10 ?_
  refine x_goto (tgt := 18) h dX4_sizeOf_11 (by decide) ?_
  exact x_lreturn h hr dX4_sizeOf_18 ⟨Nat.le_refl _, Nat.le_refl _⟩
/-- the first n TABLES of a TEXT put to sleep -/
def sleepX (σ : Mm) (t : Nat) : Nat → Mm
  | 0 => σ
  | k + 1 => sleepT (sleepX σ t k) (12 * t + k)
theorem sleepX_f (σ : Mm) (t : Nat) {f : Nat} (h : f ≠ 5 ∧ f ≠ 17) : ∀ n k j, sleepX σ t n f k j = σ f k j := by
  intro n
  induction n with
  | zero => intro k j; rfl
  | succ n ih =>
    intro k j
    show sleepT (sleepX σ t n) (12 * t + n) f k j = _
    unfold sleepT zeroA
    rw [if_neg (by omega), up3_f _ _ h.1, ih]
theorem c_xsleep {d : Nat} {σ : Mm} {t n : Nat} (ht : t < 2) (hn : σ 4 t 1 = n) (hn2 : n ≤ 12) : Ct (d + 1) mX4_putToSleep 1 [vR 4 t] NALL σ none NALL (sleepX σ t n) 0 0 := by
  refine ct_of (by decide) (Nat.le_of_ble_eq_true rfl) (fun C h hr _ => ?_)
  have h : Ok C RX4 cX4_putToSleep 3 _ := h
  have loop : ∀ (c k : Nat) (ls : List (Nat × PV)), k + c = n → lsub [(0, vR 4 t), (1, vI k)] ls → X C 1 2 ls [] NALL (sleepX σ t k) 0 0 := by
    intro c
    induction c with
    | zero =>
      intro k ls hk hls
      refine x_loc hls ?_
      have hn' : sleepX σ t k 4 t 1 = n := by rw [sleepX_f _ _ (by decide)]; exact hn
      obtain rfl : k = n := by omega
      refine x_iload_n h dX4_putToSleep_2 rfl ?_
      refine x_aload_n h dX4_putToSleep_3 rfl ?_
      refine x_get (q := vI (k)) h fl_4_18 (lvm_4 (by omega)) dX4_putToSleep_4 (congrArg vI (by first | exact hn' | simp [up3, hn'])) ?_
      refine x_ic_ge_T (tgt := 30) h (by omega) dX4_putToSleep_7 (by decide) (by omega) ?_
      exact x_return h hr dX4_putToSleep_30 ⟨Nat.le_refl _, Nat.le_refl _⟩
    | succ c ih =>
      intro k ls hk hls
      refine x_loc hls ?_
      have hn' : sleepX σ t k 4 t 1 = n := by rw [sleepX_f _ _ (by decide)]; exact hn
      refine x_iload_n h dX4_putToSleep_2 rfl ?_
      refine x_aload_n h dX4_putToSleep_3 rfl ?_
      refine x_get (q := vI (n)) h fl_4_18 (lvm_4 (by omega)) dX4_putToSleep_4 (congrArg vI (by first | exact hn' | simp [up3, hn'])) ?_
      refine x_ic_ge_F (tgt := 30) h (by omega) dX4_putToSleep_7 (by decide) (by omega) ?_
      refine x_aload_n h dX4_putToSleep_10 rfl ?_
      refine x_iload_n h dX4_putToSleep_11 rfl ?_
      refine x_cV1 h kVX4_slotAt lkX4_22 ⟨_, _, _, rfl, rfl⟩ dX4_putToSleep_12 (c_slotAt (d := d) (t := t) (k := k) ht (by omega)) (lvm_4 (by omega)) rfl rfl (Nat.le_of_ble_eq_true rfl) (by omega) ?_
      refine x_astore_n h dX4_putToSleep_15 (by decide) ?_
      refine x_aload_n h dX4_putToSleep_16 rfl ?_
      refine x_ifnull h dX4_putToSleep_17 ?_
      refine x_aload_n h dX4_putToSleep_20 rfl ?_
      refine x_cV0 h kVX2_putToSleep lkX4_36 ⟨_, _, _, rfl, rfl⟩ dX4_putToSleep_21 (c_tsleep (d := d) (m := 12 * t + k) (by omega)) (lvm_5 (by omega)) rfl rfl (Nat.le_of_ble_eq_true rfl) (by omega) ?_
      refine x_iinc h dX4_putToSleep_24 rfl (by decide) ?_
      refine x_goto (tgt := 2) h dX4_putToSleep_27 (by decide) ?_
      exact ih (k + 1) _ (by omega) ⟨rfl, rfl, trivial⟩
  refine x_iconst h dX4_putToSleep_0 ?_
  refine x_istore_n h dX4_putToSleep_1 (by decide) ?_
  exact loop n 0 _ (by omega) ⟨rfl, rfl, trivial⟩
/-- how many of the first n are x -/
def cntC (g : Nat → Int) (x : Int) : Nat → Int
  | 0 => 0
  | k + 1 => cntC g x k + (if g k = x then 1 else 0)
theorem cntC_r (g : Nat → Int) (x : Int) : ∀ n : Nat, 0 ≤ cntC g x n ∧ cntC g x n ≤ n := by
  intro n
  induction n with
  | zero => exact ⟨Int.le_refl _, Int.le_refl _⟩
  | succ n ih => unfold cntC; split <;> omega
def condG (σ : Mm) (t : Nat) : Nat → Int := fun k => σ 5 (12 * t + k) 8
theorem c_howManyAre {d : Nat} {σ : Mm} {t n : Nat} {x : Int} (ht : t < 2) (hn : σ 4 t 1 = n) (hn2 : n ≤ 12) (hx : 0 ≤ x ∧ x ≤ 3) (hg : ∀ k, k < n → 0 ≤ condG σ t k ∧ condG σ t k ≤ 3) : Ct (d + 1) mX4_howManyAre 1 [vR 4 t, vI x] NALL σ (some (vI (cntC (condG σ t) x n))) NALL σ 0 0 := by
  refine ct_of (by decide) (Nat.le_of_ble_eq_true rfl) (fun C h hr _ => ?_)
  have h : Ok C RX4 cX4_howManyAre 5 _ := h
  have loop : ∀ (c k : Nat) (ls : List (Nat × PV)), k + c = n → lsub [(0, vR 4 t), (1, vI x), (2, vI (cntC (condG σ t) x k)), (3, vI k)] ls → X C 1 4 ls [] NALL σ 0 0 := by
    intro c
    induction c with
    | zero =>
      intro k ls hk hls
      refine x_loc hls ?_
      obtain rfl : k = n := by omega
      refine x_iload_n h dX4_howManyAre_4 rfl ?_
      refine x_aload_n h dX4_howManyAre_5 rfl ?_
      refine x_get (q := vI (k)) h fl_4_18 (lvm_4 (by omega)) dX4_howManyAre_6 (congrArg vI (by first | exact hn | simp [up3, hn])) ?_
      refine x_ic_ge_T (tgt := 42) h (by omega) dX4_howManyAre_9 (by decide) (by omega) ?_
      refine x_iload_n h dX4_howManyAre_42 rfl ?_
      exact x_ireturn h hr dX4_howManyAre_43 (Or.inl rfl) ⟨Nat.le_refl _, Nat.le_refl _⟩
    | succ c ih =>
      intro k ls hk hls
      refine x_loc hls ?_
      have hgk := hg k (by omega)
      have hgk2 : condG σ t k = σ 5 (12 * t + k) 8 := rfl
      refine x_iload_n h dX4_howManyAre_4 rfl ?_
      refine x_aload_n h dX4_howManyAre_5 rfl ?_
      refine x_get (q := vI (n)) h fl_4_18 (lvm_4 (by omega)) dX4_howManyAre_6 (congrArg vI (by first | exact hn | simp [up3, hn])) ?_
      refine x_ic_ge_F (tgt := 42) h (by omega) dX4_howManyAre_9 (by decide) (by omega) ?_
      refine x_aload_n h dX4_howManyAre_12 rfl ?_
      refine x_iload_n h dX4_howManyAre_13 rfl ?_
      refine x_cV1 h kVX4_slotAt lkX4_22 ⟨_, _, _, rfl, rfl⟩ dX4_howManyAre_14 (c_slotAt (d := d) (t := t) (k := k) ht (by omega)) (lvm_4 (by omega)) rfl rfl (Nat.le_of_ble_eq_true rfl) (by omega) ?_
      refine x_astore h dX4_howManyAre_17 (by decide) ?_
      refine x_aload h dX4_howManyAre_19 rfl ?_
      refine x_ifnull h dX4_howManyAre_21 ?_
      refine x_aload h dX4_howManyAre_24 rfl ?_
      refine x_get h fl_4_39 (lvm_5 (by omega)) dX4_howManyAre_26 rfl ?_
      refine x_iload_n h dX4_howManyAre_29 rfl ?_
      refine x_ic_ne (tgt := 36) h (by omega) dX4_howManyAre_30 (by decide) (fun hc => ?_) (fun hc => ?_)
      · refine x_iinc h dX4_howManyAre_36 rfl (by decide) ?_
        refine x_goto (tgt := 4) h dX4_howManyAre_39 (by decide) ?_
        refine ih (k + 1) _ (by omega) ⟨rfl, rfl, ?_, rfl, trivial⟩
        rw [show cntC (condG σ t) x (k + 1) = cntC (condG σ t) x k by rw [cntC, if_neg (by omega), Int.add_zero]]
        rfl
      · refine x_iinc h dX4_howManyAre_33 rfl (by decide) ?_
        refine x_iinc h dX4_howManyAre_36 rfl (by decide) ?_
        refine x_goto (tgt := 4) h dX4_howManyAre_39 (by decide) ?_
        refine ih (k + 1) _ (by omega) ⟨rfl, rfl, ?_, rfl, trivial⟩
        rw [show cntC (condG σ t) x (k + 1) = cntC (condG σ t) x k + 1 by rw [cntC, if_pos (by omega)]]
        rfl
  refine x_iconst h dX4_howManyAre_0 ?_
  refine x_istore_n h dX4_howManyAre_1 (by decide) ?_
  refine x_iconst h dX4_howManyAre_2 ?_
  refine x_istore_n h dX4_howManyAre_3 (by decide) ?_
  exact loop n 0 _ (by omega) ⟨rfl, rfl, rfl, rfl, trivial⟩
def rdyA (g : Nat → Int) : Nat → Int
  | 0 => 0
  | k + 1 => rdyA g k + g k
def rdyG (σ : Mm) (t : Nat) : Nat → Int := fun k => rdyT (σ 5 (12 * t + k) 8) (σ 5 (12 * t + k) 5) (σ 5 (12 * t + k) 4) (σ 17 (12 * t + k))
theorem c_xready {d : Nat} {σ : Mm} {t n : Nat} (ht : t < 2) (hn : σ 4 t 1 = n) (hn2 : n ≤ 12) (hs : ∀ k, k < n → -9223372036854775808 ≤ σ 5 (12 * t + k) 4 ∧ σ 5 (12 * t + k) 4 < 9223372036854775808) (hc : ∀ k, k < n → 0 ≤ σ 5 (12 * t + k) 8 ∧ σ 5 (12 * t + k) 8 ≤ 3) (hb : ∀ k, k < n → 0 ≤ σ 5 (12 * t + k) 5 ∧ σ 5 (12 * t + k) 5 ≤ 1) (hrc : ∀ k, k < n → ∀ r, r < 25 → 0 ≤ σ 17 (12 * t + k) r ∧ σ 17 (12 * t + k) r ≤ 3) : Ct (d + 4) mX4_readyEntries 1 [vR 4 t] NALL σ (some (vI (rdyA (rdyG σ t) n))) NALL σ 0 0 := by
  refine ct_of (by decide) (Nat.le_of_ble_eq_true rfl) (fun C h hr _ => ?_)
  have h : Ok C RX4 cX4_readyEntries 4 _ := h
  have loop : ∀ (c k : Nat) (ls : List (Nat × PV)), k + c = n → lsub [(0, vR 4 t), (1, vI (rdyA (rdyG σ t) k)), (2, vI k)] ls → X C 1 4 ls [] NALL σ 0 0 := by
    intro c
    induction c with
    | zero =>
      intro k ls hk hls
      refine x_loc hls ?_
      obtain rfl : k = n := by omega
      refine x_iload_n h dX4_readyEntries_4 rfl ?_
      refine x_aload_n h dX4_readyEntries_5 rfl ?_
      refine x_get (q := vI (k)) h fl_4_18 (lvm_4 (by omega)) dX4_readyEntries_6 (congrArg vI (by first | exact hn | simp [up3, hn])) ?_
      refine x_ic_ge_T (tgt := 35) h (by omega) dX4_readyEntries_9 (by decide) (by omega) ?_
      refine x_iload_n h dX4_readyEntries_35 rfl ?_
      exact x_ireturn h hr dX4_readyEntries_36 (Or.inl rfl) ⟨Nat.le_refl _, Nat.le_refl _⟩
    | succ c ih =>
      intro k ls hk hls
      refine x_loc hls ?_
      refine x_iload_n h dX4_readyEntries_4 rfl ?_
      refine x_aload_n h dX4_readyEntries_5 rfl ?_
      refine x_get (q := vI (n)) h fl_4_18 (lvm_4 (by omega)) dX4_readyEntries_6 (congrArg vI (by first | exact hn | simp [up3, hn])) ?_
      refine x_ic_ge_F (tgt := 35) h (by omega) dX4_readyEntries_9 (by decide) (by omega) ?_
      refine x_aload_n h dX4_readyEntries_12 rfl ?_
      refine x_iload_n h dX4_readyEntries_13 rfl ?_
      refine x_cV1 h kVX4_slotAt lkX4_22 ⟨_, _, _, rfl, rfl⟩ dX4_readyEntries_14 (c_slotAt (d := d) (t := t) (k := k) ht (by omega)) (lvm_4 (by omega)) rfl rfl (Nat.le_of_ble_eq_true rfl) (by omega) ?_
      refine x_astore_n h dX4_readyEntries_17 (by decide) ?_
      refine x_aload_n h dX4_readyEntries_18 rfl ?_
      refine x_ifnull h dX4_readyEntries_19 ?_
      refine x_iload_n h dX4_readyEntries_22 rfl ?_
      refine x_aload_n h dX4_readyEntries_23 rfl ?_
      refine x_cV1 h kVX2_readyEntries lkX4_42 ⟨_, _, _, rfl, rfl⟩ dX4_readyEntries_24 (c_readyEntries (d := d) (m := 12 * t + k) (by omega) (hs k (by omega)) (hc k (by omega)) (hb k (by omega)) (hrc k (by omega))) (lvm_5 (by omega)) rfl rfl (Nat.le_of_ble_eq_true rfl) (by omega) ?_
      refine x_iadd h dX4_readyEntries_27 ?_
      refine x_istore_n h dX4_readyEntries_28 (by decide) ?_
      refine x_iinc h dX4_readyEntries_29 rfl (by decide) ?_
      refine x_goto (tgt := 4) h dX4_readyEntries_32 (by decide) ?_
      exact ih (k + 1) _ (by omega) ⟨rfl, rfl, rfl, trivial⟩
  refine x_iconst h dX4_readyEntries_0 ?_
  refine x_istore_n h dX4_readyEntries_1 (by decide) ?_
  refine x_iconst h dX4_readyEntries_2 ?_
  refine x_istore_n h dX4_readyEntries_3 (by decide) ?_
  exact loop n 0 _ (by omega) ⟨rfl, rfl, rfl, trivial⟩
end
